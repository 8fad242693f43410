/-! THE REGISTRY: register, lookup, search, remove; printed by wip/whole/p63.py -/
theorem c_61_0 : jx_cd 61 0 = some (o_ald 0 1) := rfl
theorem c_61_1 : jx_cd 61 1 = some (o_push (.int 0) 1) := rfl
theorem c_61_2 : jx_cd 61 2 = some (o_callv 5 62 1) := rfl
theorem c_61_5 : jx_cd 61 5 = some (o_ald 0 1) := rfl
theorem c_61_6 : jx_cd 61 6 = some (o_callv 5 64 0) := rfl
theorem c_61_9 : jx_cd 61 9 = some (o_ist 1 1) := rfl
theorem c_61_10 : jx_cd 61 10 = some (o_ild 1 1) := rfl
theorem c_61_11 : jx_cd 61 11 = some (o_ifne 62) := rfl
theorem c_61_14 : jx_cd 61 14 = some (o_ald 0 1) := rfl
theorem c_61_15 : jx_cd 61 15 = some (o_getf 5 5) := rfl
theorem c_61_18 : jx_cd 61 18 = some (o_getf 4 2) := rfl
theorem c_61_21 : jx_cd 61 21 = some (o_push (.int 12) 2) := rfl
theorem c_61_23 : jx_cd 61 23 = some (o_ilt 36) := rfl
theorem c_61_26 : jx_cd 61 26 = some (o_thr 11) := rfl
theorem c_61_36 : jx_cd 61 36 = some (o_ald 0 1) := rfl
theorem c_61_37 : jx_cd 61 37 = some (o_getf 5 5) := rfl
theorem c_61_40 : jx_cd 61 40 = some (o_getf 4 3) := rfl
theorem c_61_43 : jx_cd 61 43 = some (o_push (.int 1) 1) := rfl
theorem c_61_44 : jx_cd 61 44 = some (o_bin fun x y => x + y) := rfl
theorem c_61_45 : jx_cd 61 45 = some (o_ist 2 1) := rfl
theorem c_61_46 : jx_cd 61 46 = some (o_ald 0 1) := rfl
theorem c_61_47 : jx_cd 61 47 = some (o_push (.int 0) 1) := rfl
theorem c_61_48 : jx_cd 61 48 = some (o_ild 2 1) := rfl
theorem c_61_49 : jx_cd 61 49 = some (o_callv 5 65 2) := rfl
theorem c_61_52 : jx_cd 61 52 = some (o_ifeq 59) := rfl
theorem c_61_55 : jx_cd 61 55 = some (o_ild 2 1) := rfl
theorem c_61_56 : jx_cd 61 56 = some (o_goto 61) := rfl
theorem c_61_59 : jx_cd 61 59 = some (o_push (.int (-2)) 2) := rfl
theorem c_61_61 : jx_cd 61 61 = some (o_ist 1 1) := rfl
theorem c_61_62 : jx_cd 61 62 = some (o_ald 0 1) := rfl
theorem c_61_63 : jx_cd 61 63 = some (o_push (.int 0) 1) := rfl
theorem c_61_64 : jx_cd 61 64 = some (o_putf 5 1 jx_okI) := rfl
theorem c_61_67 : jx_cd 61 67 = some (o_ild 1 1) := rfl
theorem c_61_68 : jx_cd 61 68 = some (o_iret) := rfl
theorem c_64_0 : jx_cd 64 0 = some (o_push (.int 0) 1) := rfl
theorem c_64_1 : jx_cd 64 1 = some (o_ist 1 1) := rfl
theorem c_64_2 : jx_cd 64 2 = some (o_ild 1 1) := rfl
theorem c_64_3 : jx_cd 64 3 = some (o_ald 0 1) := rfl
theorem c_64_4 : jx_cd 64 4 = some (o_getf 5 5) := rfl
theorem c_64_7 : jx_cd 64 7 = some (o_getf 4 2) := rfl
theorem c_64_10 : jx_cd 64 10 = some (o_ige 52) := rfl
theorem c_64_13 : jx_cd 64 13 = some (o_ald 0 1) := rfl
theorem c_64_14 : jx_cd 64 14 = some (o_getf 5 4) := rfl
theorem c_64_17 : jx_cd 64 17 = some (o_ald 0 1) := rfl
theorem c_64_18 : jx_cd 64 18 = some (o_getf 5 3) := rfl
theorem c_64_21 : jx_cd 64 21 = some (o_ald 0 1) := rfl
theorem c_64_22 : jx_cd 64 22 = some (o_getf 5 5) := rfl
theorem c_64_25 : jx_cd 64 25 = some (o_getf 4 0) := rfl
theorem c_64_28 : jx_cd 64 28 = some (o_ild 1 1) := rfl
theorem c_64_29 : jx_cd 64 29 = some (o_aald) := rfl
theorem c_64_30 : jx_cd 64 30 = some (o_callv 2 15 2) := rfl
theorem c_64_33 : jx_cd 64 33 = some (o_ifeq 46) := rfl
theorem c_64_36 : jx_cd 64 36 = some (o_ald 0 1) := rfl
theorem c_64_37 : jx_cd 64 37 = some (o_getf 5 5) := rfl
theorem c_64_40 : jx_cd 64 40 = some (o_getf 4 1) := rfl
theorem c_64_43 : jx_cd 64 43 = some (o_ild 1 1) := rfl
theorem c_64_44 : jx_cd 64 44 = some (o_iald) := rfl
theorem c_64_45 : jx_cd 64 45 = some (o_iret) := rfl
theorem c_64_46 : jx_cd 64 46 = some (o_iinc 1 1) := rfl
theorem c_64_49 : jx_cd 64 49 = some (o_goto 2) := rfl
theorem c_64_52 : jx_cd 64 52 = some (o_push (.int 0) 1) := rfl
theorem c_64_53 : jx_cd 64 53 = some (o_iret) := rfl
theorem c_66_0 : jx_cd 66 0 = some (o_ald 0 1) := rfl
theorem c_66_1 : jx_cd 66 1 = some (o_push (.int 0) 1) := rfl
theorem c_66_2 : jx_cd 66 2 = some (o_callv 5 62 1) := rfl
theorem c_66_5 : jx_cd 66 5 = some (o_ald 0 1) := rfl
theorem c_66_6 : jx_cd 66 6 = some (o_push (.int 0) 1) := rfl
theorem c_66_7 : jx_cd 66 7 = some (o_putf 5 1 jx_okI) := rfl
theorem c_66_10 : jx_cd 66 10 = some (o_ald 0 1) := rfl
theorem c_66_11 : jx_cd 66 11 = some (o_callv 5 64 0) := rfl
theorem c_66_14 : jx_cd 66 14 = some (o_iret) := rfl
theorem c_67_0 : jx_cd 67 0 = some (o_ald 0 1) := rfl
theorem c_67_1 : jx_cd 67 1 = some (o_push (.int 1) 1) := rfl
theorem c_67_2 : jx_cd 67 2 = some (o_callv 5 62 1) := rfl
theorem c_67_5 : jx_cd 67 5 = some (o_ald 0 1) := rfl
theorem c_67_6 : jx_cd 67 6 = some (o_push (.int 0) 1) := rfl
theorem c_67_7 : jx_cd 67 7 = some (o_putf 5 1 jx_okI) := rfl
theorem c_67_10 : jx_cd 67 10 = some (o_ald 0 1) := rfl
theorem c_67_11 : jx_cd 67 11 = some (o_push (.int 0) 1) := rfl
theorem c_67_12 : jx_cd 67 12 = some (o_putf 5 8 jx_okI) := rfl
theorem c_67_15 : jx_cd 67 15 = some (o_push (.int 0) 1) := rfl
theorem c_67_16 : jx_cd 67 16 = some (o_ist 1 1) := rfl
theorem c_67_17 : jx_cd 67 17 = some (o_ild 1 1) := rfl
theorem c_67_18 : jx_cd 67 18 = some (o_ald 0 1) := rfl
theorem c_67_19 : jx_cd 67 19 = some (o_getf 5 5) := rfl
theorem c_67_22 : jx_cd 67 22 = some (o_getf 4 2) := rfl
theorem c_67_25 : jx_cd 67 25 = some (o_ige 85) := rfl
theorem c_67_28 : jx_cd 67 28 = some (o_ald 0 1) := rfl
theorem c_67_29 : jx_cd 67 29 = some (o_getf 5 4) := rfl
theorem c_67_32 : jx_cd 67 32 = some (o_ald 0 1) := rfl
theorem c_67_33 : jx_cd 67 33 = some (o_getf 5 3) := rfl
theorem c_67_36 : jx_cd 67 36 = some (o_ald 0 1) := rfl
theorem c_67_37 : jx_cd 67 37 = some (o_getf 5 5) := rfl
theorem c_67_40 : jx_cd 67 40 = some (o_getf 4 0) := rfl
theorem c_67_43 : jx_cd 67 43 = some (o_ild 1 1) := rfl
theorem c_67_44 : jx_cd 67 44 = some (o_aald) := rfl
theorem c_67_45 : jx_cd 67 45 = some (o_callv 2 21 2) := rfl
theorem c_67_48 : jx_cd 67 48 = some (o_ifeq 79) := rfl
theorem c_67_51 : jx_cd 67 51 = some (o_ald 0 1) := rfl
theorem c_67_52 : jx_cd 67 52 = some (o_getf 5 7) := rfl
theorem c_67_55 : jx_cd 67 55 = some (o_ald 0 1) := rfl
theorem c_67_56 : jx_cd 67 56 = some (o_getf 5 8) := rfl
theorem c_67_59 : jx_cd 67 59 = some (o_ald 0 1) := rfl
theorem c_67_60 : jx_cd 67 60 = some (o_getf 5 5) := rfl
theorem c_67_63 : jx_cd 67 63 = some (o_getf 4 1) := rfl
theorem c_67_66 : jx_cd 67 66 = some (o_ild 1 1) := rfl
theorem c_67_67 : jx_cd 67 67 = some (o_iald) := rfl
theorem c_67_68 : jx_cd 67 68 = some (o_iast) := rfl
theorem c_67_69 : jx_cd 67 69 = some (o_ald 0 1) := rfl
theorem c_67_70 : jx_cd 67 70 = some (o_dup) := rfl
theorem c_67_71 : jx_cd 67 71 = some (o_getf 5 8) := rfl
theorem c_67_74 : jx_cd 67 74 = some (o_push (.int 1) 1) := rfl
theorem c_67_75 : jx_cd 67 75 = some (o_bin fun x y => x + y) := rfl
theorem c_67_76 : jx_cd 67 76 = some (o_putf 5 8 jx_okI) := rfl
theorem c_67_79 : jx_cd 67 79 = some (o_iinc 1 1) := rfl
theorem c_67_82 : jx_cd 67 82 = some (o_goto 17) := rfl
theorem c_67_85 : jx_cd 67 85 = some (o_ald 0 1) := rfl
theorem c_67_86 : jx_cd 67 86 = some (o_getf 5 8) := rfl
theorem c_67_89 : jx_cd 67 89 = some (o_iret) := rfl
theorem c_68_0 : jx_cd 68 0 = some (o_ald 0 1) := rfl
theorem c_68_1 : jx_cd 68 1 = some (o_callv 5 63 0) := rfl
theorem c_68_4 : jx_cd 68 4 = some (o_ald 0 1) := rfl
theorem c_68_5 : jx_cd 68 5 = some (o_getf 5 5) := rfl
theorem c_68_8 : jx_cd 68 8 = some (o_ild 1 1) := rfl
theorem c_68_9 : jx_cd 68 9 = some (o_callv 4 44 1) := rfl
theorem c_68_12 : jx_cd 68 12 = some (o_push (.int (-1)) 1) := rfl
theorem c_68_13 : jx_cd 68 13 = some (o_ine 18) := rfl
theorem c_68_16 : jx_cd 68 16 = some (o_push (.int 0) 1) := rfl
theorem c_68_17 : jx_cd 68 17 = some (o_iret) := rfl
theorem c_68_18 : jx_cd 68 18 = some (o_ald 0 1) := rfl
theorem c_68_19 : jx_cd 68 19 = some (o_push (.int 1) 1) := rfl
theorem c_68_20 : jx_cd 68 20 = some (o_ild 1 1) := rfl
theorem c_68_21 : jx_cd 68 21 = some (o_callv 5 65 2) := rfl
theorem c_68_24 : jx_cd 68 24 = some (o_ifeq 31) := rfl
theorem c_68_27 : jx_cd 68 27 = some (o_push (.int 1) 1) := rfl
theorem c_68_28 : jx_cd 68 28 = some (o_goto 33) := rfl
theorem c_68_31 : jx_cd 68 31 = some (o_push (.int (-2)) 2) := rfl
theorem c_68_33 : jx_cd 68 33 = some (o_iret) := rfl
/-- the matcher's cells -/
def mt (M : jx_M) : Prop := M.1 32 = tO ∧ (∃ ch, M.1 33 = .inl (0, 10, .inl (ja ch))) ∧ ∃ pl, M.1 34 = .inl (0, 10, .inl (ja pl)) ∧ ∀ j, pl j < 10
theorem mt_fr {M M1 : jx_M} (h : mt M) (hs : ∀ k, 32 ≤ k → k ≤ 34 → M1.1 k = M.1 k) : mt M1 := by
  obtain ⟨h1, ⟨ch, h2⟩, pl, h3, h4⟩ := h
  exact ⟨(hs _ (by decide) (by decide)).trans h1, ⟨ch, (hs _ (by decide) (by decide)).trans h2⟩, pl, (hs _ (by decide) (by decide)).trans h3, h4⟩
theorem jMt_sm {M M1 : jx_M} (h : jMt M M1) (hm : mt M) : sm 33 34 M M1 ∧ mt M1 := by
  obtain ⟨ch, pl, rfl, hpl⟩ := h
  exact ⟨sm_jm rfl, hm.1, ⟨ch, rfl⟩, pl, rfl, hpl⟩
/-- what a graph must be to be compared -/
def xOk (X : GR) : Prop := X.1 ≤ 10 ∧ (∀ j, X.2.2.2.1 j < 6) ∧ (∀ j, X.2.2.2.2 j < 1024) ∧ (∀ j, X.2.2.1 j < 32768) ∧ (∀ j, okW (X.2.2.1 j)) ∧ X.2.1 < 1000
def yOk (Y : GR) : Prop := Y.1 ≤ 10 ∧ (∀ j, Y.2.2.1 j < 16384) ∧ (∀ j, Y.2.2.2.2 j < 1024) ∧ Y.2.1 < 1000
def sSame (X Y : GR) : Bool := decide (X.1 = Y.1 ∧ X.2.1 = Y.2.1) && sp_sub X.1 X.2.2.1 X.2.2.2.1 X.2.2.2.2 Y.1 Y.2.2.1 Y.2.2.2.2 0
def sIn (X Y : GR) : Bool := decide (X.1 ≤ Y.1) && sp_sub X.1 X.2.2.1 X.2.2.2.1 X.2.2.2.2 Y.1 Y.2.2.1 Y.2.2.2.2 1792
theorem t_sameX {d h : Nat} {X Y : GR} {M : jx_M} (hX : jgr M 28 X) (hY : jgr M h Y) (hx : xOk X) (hy : yOk Y) (hh : 34 < h) (hm : mt M) (hj : jc M) : jZ (d + 12) 15 0 [some (.ref 32), some (.ref 28), some (.ref h)] [] M (jV (some (.int (jb (sSame X Y)))) fun M' => sm 33 34 M M' ∧ mt M') := by
  have hm0 := hm
  obtain ⟨h32, ⟨ch, h33⟩, pl, h34, hpl⟩ := hm
  exact (t_same hx.1 hy.1 hx.2.1 hx.2.2.1 hy.2.2.1 hx.2.2.2.1 hx.2.2.2.2.1 hy.2.1 hh ⟨hX.1, hY.1, h32, h33⟩ h34 hpl hj hx.2.2.2.2.2 hy.2.2.2).mono fun r M' q => ⟨q.1, jMt_sm q.2 hm0⟩
theorem t_inX {d h : Nat} {X Y : GR} {M : jx_M} (hX : jgr M 28 X) (hY : jgr M h Y) (hx : xOk X) (hy : yOk Y) (hh : 34 < h) (hm : mt M) (hj : jc M) : jZ (d + 12) 21 0 [some (.ref 32), some (.ref 28), some (.ref h)] [] M (jV (some (.int (jb (sIn X Y)))) fun M' => sm 33 34 M M' ∧ mt M') := by
  have hm0 := hm
  obtain ⟨h32, ⟨ch, h33⟩, pl, h34, hpl⟩ := hm
  exact (t_isin hx.1 hy.1 hx.2.1 hx.2.2.1 hy.2.2.1 hx.2.2.2.1 hx.2.2.2.2.1 hy.2.1 hh ⟨hX.1, hY.1, h32, h33⟩ h34 hpl hj).mono fun r M' q => ⟨q.1, jMt_sm q.2 hm0⟩
/-- the first that has it -/
def sp_first (p : Nat → Bool) : Nat → Nat → Option Nat
  | 0, _ => none
  | k + 1, i => if p i = true then some i else sp_first p k (i + 1)
theorem jc_fr {M M1 : jx_M} (h : jc M) (hs : ∀ k, k < 16 → M1.1 k = M.1 k) : jc M1 := ⟨⟨(hs 2 (by decide)).trans h.1.1, (hs 4 (by decide)).trans h.1.2⟩, (hs 3 (by decide)).trans h.2.1, (hs 5 (by decide)).trans h.2.2⟩
theorem t_ids_l {d ty hc tf : Nat} {dn : Bool} {p : Nat → Nat} {sz li : Nat} {ids : Nat → Nat} {G : Nat → GR} {X : GR} (hsz : sz ≤ 12) (hx : xOk X) (hy : ∀ s, s < sz → yOk (G s)) : ∀ {k i : Nat} {M : jx_M}, i + k = sz → M.1 16 = xO ty hc tf dn → jsh M p sz li ids G → jgr M 28 X → mt M → jc M → jZ (d + 13) 64 2 [some (.ref 16), some (.int (jn i))] [] M (jV (some (.int (jn (match sp_first (fun s => sSame X (G s)) k i with | none => 0 | some s => ids s)))) fun M' => sm 33 34 M M' ∧ mt M') := by
  intro k
  induction k with
  | zero =>
    intro i M hk h16 hS hX hm hj
    refine z_go 3 _ [.int (jn i)] _ c_64_2 rfl ?_
    refine z_go 4 _ [.ref 16, .int (jn i)] _ c_64_3 rfl ?_
    refine z_getf (v := .ref 35) 7 c_64_4 rfl h16 rfl ?_
    refine z_getf (v := .int (jn sz)) 10 c_64_7 rfl hS.1 rfl ?_
    refine z_ige 52 13 c_64_10 rfl (by omega) (by omega) (fun hi => ?_) (fun hi => ?_)
    · omega
    · refine z_go 53 _ [.int (jn 0)] _ c_64_52 rfl ?_
      refine z_iret c_64_53 ?_
      exact ⟨rfl, sm_r _ _ M, hm⟩
  | succ k ih =>
    intro i M hk h16 hS hX hm hj
    refine z_go 3 _ [.int (jn i)] _ c_64_2 rfl ?_
    refine z_go 4 _ [.ref 16, .int (jn i)] _ c_64_3 rfl ?_
    refine z_getf (v := .ref 35) 7 c_64_4 rfl h16 rfl ?_
    refine z_getf (v := .int (jn sz)) 10 c_64_7 rfl hS.1 rfl ?_
    refine z_ige 52 13 c_64_10 rfl (by omega) (by omega) (fun hi => ?_) (fun hi => ?_)
    · have hpi := hS.2.2.2.1 i (by omega)
      refine z_go 14 _ [.ref 16] _ c_64_13 rfl ?_
      refine z_getf (v := .ref 32) 17 c_64_14 rfl h16 rfl ?_
      refine z_go 18 _ [.ref 16, .ref 32] _ c_64_17 rfl ?_
      refine z_getf (v := .ref 28) 21 c_64_18 rfl h16 rfl ?_
      refine z_go 22 _ [.ref 16, .ref 28, .ref 32] _ c_64_21 rfl ?_
      refine z_getf (v := .ref 35) 25 c_64_22 rfl h16 rfl ?_
      refine z_getf (v := .ref 36) 28 c_64_25 rfl hS.1 rfl ?_
      refine z_go 29 _ [.int (jn i), .ref 36, .ref 28, .ref 32] _ c_64_28 rfl ?_
      refine z_aaldq 30 c_64_29 rfl hS.2.1 (by omega) ?_
      refine z_callvV 33 2 15 2 32 c_64_30 rfl ⟨Nat.le_of_ble_eq_true rfl, Nat.le_of_ble_eq_true rfl⟩ rfl hm.1 [.ref 32, .ref 28, .ref (p i)] rfl rfl [some (.ref 32), some (.ref 28), some (.ref (p i))] rfl rfl (t_sameX (d := d) hX (hS.2.2.2.2.2 i (by omega)) hx (hy i hi) (by omega) hm hj) ?_
      intro M1 ⟨hs1, hm1⟩
      have h161 := (hs1.1 16 (by decide)).trans h16
      have hS1 : jsh M1 p sz li ids G := jsh_fr hS fun k a b => hs1.1 k (by omega)
      have hX1 : jgr M1 28 X := jgr_fr hX fun k a b => hs1.1 k (by omega)
      have hj1 : jc M1 := jc_fr hj fun k hk => hs1.1 k (by omega)
      show jZ _ _ _ _ [.int (jb (sSame X (G i)))] _ _
      refine z_ifeq 46 36 c_64_33 rfl jb_t (fun h1 => ?_) (fun h1 => ?_)
      · refine z_iinc 49 [some (.ref 16), some (.int (jn (i + 1)))] c_64_46 rfl rfl (jn_add _ _) rfl ?_
        refine z_go 2 _ [] _ c_64_49 rfl ?_
        refine (ih (i := i + 1) (by omega) h161 hS1 hX1 hm1 hj1).mono fun r M2 q => ⟨q.1.trans ?_, hs1.tr q.2.1, q.2.2⟩
        rw [sp_first, if_neg (by rw [h1]; decide)]
      · refine z_go 37 _ [.ref 16] _ c_64_36 rfl ?_
        refine z_getf (v := .ref 35) 40 c_64_37 rfl h161 rfl ?_
        refine z_getf (v := .ref 37) 43 c_64_40 rfl hS1.1 rfl ?_
        refine z_go 44 _ [.int (jn i), .ref 37] _ c_64_43 rfl ?_
        refine z_iald 45 c_64_44 rfl hS1.2.2.1 (Or.inl rfl) (by omega) (by omega) ?_
        show jZ _ _ _ _ ([.int (jn (ids i))]) _ _
        refine z_iret c_64_45 ?_
        exact ⟨by rw [sp_first, if_pos (by cases hh : sSame X (G i) <;> simp_all)], hs1, hm1⟩
    · omega
theorem t_ids {d ty hc tf : Nat} {dn : Bool} {p : Nat → Nat} {sz li : Nat} {ids : Nat → Nat} {G : Nat → GR} {X : GR} {M : jx_M} (hsz : sz ≤ 12) (hx : xOk X) (hy : ∀ s, s < sz → yOk (G s)) (h16 : M.1 16 = xO ty hc tf dn) (hS : jsh M p sz li ids G) (hX : jgr M 28 X) (hm : mt M) (hj : jc M) : jZ (d + 13) 64 0 [some (.ref 16), none] [] M (jV (some (.int (jn (match sp_first (fun s => sSame X (G s)) sz 0 with | none => 0 | some s => ids s)))) fun M' => sm 33 34 M M' ∧ mt M') := by
  refine z_go 1 _ [.int (jn 0)] _ c_64_0 rfl ?_
  refine z_go 2 [some (.ref 16), some (.int (jn 0))] [] _ c_64_1 rfl ?_
  exact t_ids_l hsz hx hy (by omega) h16 hS hX hm hj
/-- all of the class's cells -/
def cI (M : jx_M) (ty : Nat) (tx : Nat → Nat) (hc : Nat) (hit : Nat → Nat) (tf : Nat) (dn : Bool) (p : Nat → Nat) (sz li : Nat) (ids : Nat → Nat) (G : Nat → GR) (mk rm : Bool) (id : Nat) (Z : GR) : Prop := cS M ty hc tf dn p sz li ids G mk rm id Z ∧ M.1 17 = .inl (1, 40, .inl (ja tx)) ∧ rSh M ∧ (∃ Y, jgr M 28 Y) ∧ mt M ∧ M.1 91 = .inl (0, 12, .inl (ja hit)) ∧ jc M ∧ M.1 1 = .inl (9, 5, .inl (ja fV))
/-- nothing has changed but the class's cells -/
def fX (M M' : jx_M) : Prop := (∀ k, k < 16 ∨ 91 < k → M'.1 k = M.1 k) ∧ M'.2 = M.2
theorem fX_r (M : jx_M) : fX M M := ⟨fun _ _ => rfl, rfl⟩
theorem fX.tr {M M1 M2 : jx_M} (h : fX M M1) (k : fX M1 M2) : fX M M2 := ⟨fun q hq => (k.1 q hq).trans (h.1 q hq), k.2.trans h.2⟩
theorem fX_R {M M1 : jx_M} (h : fR M M1) : fX M M1 := ⟨fun q hq => h.1 q (by omega), h.2⟩
theorem fX_C {M M1 : jx_M} (h : fC M M1) : fX M M1 := ⟨fun q hq => h.1 q (by omega) (by omega), h.2⟩
theorem fX_m {M M1 : jx_M} {a b : Nat} (h : sm a b M M1) (ha : 16 ≤ a) (hb : b ≤ 91) : fX M M1 := ⟨fun q hq => h.1 q (by omega), h.2⟩
section CI
variable {M M1 : jx_M} {ty : Nat} {tx : Nat → Nat} {hc : Nat} {hit : Nat → Nat} {tf : Nat} {dn : Bool} {p : Nat → Nat} {sz li : Nat} {ids : Nat → Nat} {G : Nat → GR} {mk rm : Bool} {id : Nat} {Z : GR}
theorem cI_R (h : cI M ty tx hc hit tf dn p sz li ids G mk rm id Z) (hf : fR M M1) (hr : rSh M1) (hY : ∃ Y, jgr M1 28 Y) : cI M1 ty tx hc hit tf dn p sz li ids G mk rm id Z := by
  obtain ⟨⟨h1, h2, h3, h4⟩, h5, h6, h7, h8, h9, h10, h11⟩ := h
  exact ⟨⟨(hf.1 16 (by decide)).trans h1, jsh_fr h2 fun k a b => hf.1 k (by omega), (hf.1 86 (by decide)).trans h3, jgr_fr h4 fun k a b => hf.1 k (by omega)⟩, (hf.1 17 (by decide)).trans h5, hr, hY, mt_fr h8 fun k a b => hf.1 k (by omega), (hf.1 91 (by decide)).trans h9, jc_fr h10 fun k a => hf.1 k (by omega), (hf.1 1 (by decide)).trans h11⟩
theorem cI_m (h : cI M ty tx hc hit tf dn p sz li ids G mk rm id Z) (hf : sm 33 34 M M1) (hm : mt M1) : cI M1 ty tx hc hit tf dn p sz li ids G mk rm id Z := by
  obtain ⟨⟨h1, h2, h3, h4⟩, h5, h6, ⟨Y, h7⟩, h8, h9, h10, h11⟩ := h
  exact ⟨⟨(hf.1 16 (by decide)).trans h1, jsh_fr h2 fun k a b => hf.1 k (by omega), (hf.1 86 (by decide)).trans h3, jgr_fr h4 fun k a b => hf.1 k (by omega)⟩, (hf.1 17 (by decide)).trans h5, rSh_fr h6 fun k a b => hf.1 k (by omega), ⟨Y, jgr_fr h7 fun k a b => hf.1 k (by omega)⟩, hm, (hf.1 91 (by decide)).trans h9, jc_fr h10 fun k a => hf.1 k (by omega), (hf.1 1 (by decide)).trans h11⟩
theorem cI_C {ty' hc' tf' : Nat} {dn' : Bool} {p' : Nat → Nat} {sz' li' : Nat} {ids' : Nat → Nat} {G' : Nat → GR} {mk' rm' : Bool} {id' : Nat} {Z' : GR} (h : cI M ty tx hc hit tf dn p sz li ids G mk rm id Z) (hf : fC M M1) (hc1 : cS M1 ty' hc' tf' dn' p' sz' li' ids' G' mk' rm' id' Z') : cI M1 ty' tx hc' hit tf' dn' p' sz' li' ids' G' mk' rm' id' Z' := by
  obtain ⟨-, h5, h6, ⟨Y, h7⟩, h8, h9, h10, h11⟩ := h
  exact ⟨hc1, (hf.1 17 (by decide) (by decide)).trans h5, rSh_fr h6 fun k a b => hf.1 k (by omega) (by omega), ⟨Y, jgr_fr h7 fun k a b => hf.1 k (by omega) (by omega)⟩, mt_fr h8 fun k a b => hf.1 k (by omega) (by omega), (hf.1 91 (by decide) (by decide)).trans h9, jc_fr h10 fun k a => hf.1 k (by omega) (by omega), (hf.1 1 (by decide) (by decide)).trans h11⟩
theorem cI_16 {ty' hc' tf' : Nat} {dn' : Bool} (h : cI M ty tx hc hit tf dn p sz li ids G mk rm id Z) (hf : sm 16 16 M M1) (h16 : M1.1 16 = xO ty' hc' tf' dn') : cI M1 ty' tx hc' hit tf' dn' p sz li ids G mk rm id Z := cI_C h (fC_16 hf) (cS_16 h.1 hf h16)
end CI
theorem t_reg7 {d : Nat} {ty : Nat} {tx : Nat → Nat} {hc : Nat} {hit : Nat → Nat} {tf : Nat} {p : Nat → Nat} {sz li : Nat} {ids : Nat → Nat} {G : Nat → GR} {mk rm : Bool} {id : Nat} {Z : GR} {M : jx_M} (hI : cI M ty tx hc hit tf true p sz li ids G mk rm id Z) (hB : jB1 M) : jZ (d + 2) 61 0 [some (.ref 16), none, none] [] M (jT 7 fun M1 => cI M1 ty tx hc hit tf true p sz li ids G mk rm id Z ∧ fX M M1) := by
  refine z_go 1 _ [.ref 16] _ c_61_0 rfl ?_
  refine z_go 2 _ [.int (jn 0), .ref 16] _ c_61_1 rfl ?_
  refine z_callvT 5 62 1 16 c_61_2 ⟨Nat.le_of_ble_eq_true rfl, Nat.le_of_ble_eq_true rfl⟩ rfl hI.1.1 [.ref 16, .int (jb false)] rfl [some (.ref 16), some (.int (jb false))] rfl rfl (by decide) (t_rbD (d := d) (pt := false) hI.1.1 hB) ?_
  exact fun M1 h => ⟨M1, rfl, rfl, by rw [h]; exact ⟨hI, fX_r M⟩⟩
theorem t_reg8 {d : Nat} {ty : Nat} {tx : Nat → Nat} {hc : Nat} {hit : Nat → Nat} {tf : Nat} {p : Nat → Nat} {sz li : Nat} {ids : Nat → Nat} {G : Nat → GR} {mk rm : Bool} {id : Nat} {Z : GR} {M : jx_M} (hI : cI M ty tx hc hit tf false p sz li ids G mk rm id Z) (hty : ty ≤ 40) (htx : ∀ j, tx j < 127) (hB : jB1 M) (A : Nat → MA) (bm : Nat → Nat) (oa' : Nat → Option Nat) (ol' bk' : Nat → Nat) (hm : sm_rd tx ty false 40 none 0 0 A bm (sp_none oa' 10) ol' bk' 0 = none) : jZ (d + 13) 61 0 [some (.ref 16), none, none] [] M (jT 8 fun M1 => cI M1 ty tx hc hit tf false p sz li ids G mk rm id Z ∧ fX M M1) := by
  obtain ⟨Y, hY⟩ := hI.2.2.2.1
  refine z_go 1 _ [.ref 16] _ c_61_0 rfl ?_
  refine z_go 2 _ [.int (jn 0), .ref 16] _ c_61_1 rfl ?_
  refine z_callvT 5 62 1 16 c_61_2 ⟨Nat.le_of_ble_eq_true rfl, Nat.le_of_ble_eq_true rfl⟩ rfl hI.1.1 [.ref 16, .int (jb false)] rfl [some (.ref 16), some (.int (jb false))] rfl rfl (by decide) (t_rb8f (d := d) hI.1.1 hI.2.1 hty htx hI.2.2.1 hY hI.2.2.2.2.2.2.1 hI.2.2.2.2.2.2.2 hB A bm oa' ol' bk' hm) ?_
  exact fun M1 h => ⟨M1, rfl, rfl, cI_R hI h.2.2 h.1 h.2.1, fX_R h.2.2⟩
theorem t_reg9 {d : Nat} {ty : Nat} {tx : Nat → Nat} {hc : Nat} {hit : Nat → Nat} {tf : Nat} {p : Nat → Nat} {sz li : Nat} {ids : Nat → Nat} {G : Nat → GR} {mk rm : Bool} {id : Nat} {Z : GR} {M : jx_M} (hI : cI M ty tx hc hit tf false p sz li ids G mk rm id Z) (hty : ty ≤ 40) (htx : ∀ j, tx j < 127) (hB : jB1 M) (A : Nat → MA) (bm : Nat → Nat) (oa' : Nat → Option Nat) (ol' bk' : Nat → Nat) {n : Nat} {A2 : Nat → MA} {bm2 : Nat → Nat} (hm : sm_rd tx ty false 40 none 0 0 A bm (sp_none oa' 10) ol' bk' 0 = some (n, A2, bm2)) (hn : 10 < n) : jZ (d + 13) 61 0 [some (.ref 16), none, none] [] M (jT 9 fun M1 => cI M1 ty tx hc hit tf false p sz li ids G mk rm id Z ∧ fX M M1) := by
  obtain ⟨Y, hY⟩ := hI.2.2.2.1
  refine z_go 1 _ [.ref 16] _ c_61_0 rfl ?_
  refine z_go 2 _ [.int (jn 0), .ref 16] _ c_61_1 rfl ?_
  refine z_callvT 5 62 1 16 c_61_2 ⟨Nat.le_of_ble_eq_true rfl, Nat.le_of_ble_eq_true rfl⟩ rfl hI.1.1 [.ref 16, .int (jb false)] rfl [some (.ref 16), some (.int (jb false))] rfl rfl (by decide) (t_rb9f (d := d) hI.1.1 hI.2.1 hty htx hI.2.2.1 hY hI.2.2.2.2.2.2.1 hI.2.2.2.2.2.2.2 hB A bm oa' ol' bk' hm hn) ?_
  exact fun M1 h => ⟨M1, rfl, rfl, cI_R hI h.2.2 h.1 h.2.1, fX_R h.2.2⟩
theorem t_reg10 {d : Nat} {ty : Nat} {tx : Nat → Nat} {hc : Nat} {hit : Nat → Nat} {tf : Nat} {p : Nat → Nat} {sz li : Nat} {ids : Nat → Nat} {G : Nat → GR} {mk rm : Bool} {id : Nat} {Z : GR} {M : jx_M} (hI : cI M ty tx hc hit tf false p sz li ids G mk rm id Z) (hty : ty ≤ 40) (htx : ∀ j, tx j < 127) (hB : jB1 M) (A : Nat → MA) (bm : Nat → Nat) (oa' : Nat → Option Nat) (ol' bk' : Nat → Nat) {n : Nat} {A2 : Nat → MA} {bm2 : Nat → Nat} (hm : sm_rd tx ty false 40 none 0 0 A bm (sp_none oa' 10) ol' bk' 0 = some (n, A2, bm2)) (hn : n ≤ 10) (hgd : sm_good n A2 bm2 = false) : jZ (d + 13) 61 0 [some (.ref 16), none, none] [] M (jT 10 fun M1 => cI M1 ty tx hc hit tf false p sz li ids G mk rm id Z ∧ fX M M1) := by
  obtain ⟨Y, hY⟩ := hI.2.2.2.1
  refine z_go 1 _ [.ref 16] _ c_61_0 rfl ?_
  refine z_go 2 _ [.int (jn 0), .ref 16] _ c_61_1 rfl ?_
  refine z_callvT 5 62 1 16 c_61_2 ⟨Nat.le_of_ble_eq_true rfl, Nat.le_of_ble_eq_true rfl⟩ rfl hI.1.1 [.ref 16, .int (jb false)] rfl [some (.ref 16), some (.int (jb false))] rfl rfl (by decide) (t_rb10 (d := d) hI.1.1 hI.2.1 hty htx hI.2.2.1 hY hI.2.2.2.2.2.2.1 hI.2.2.2.2.2.2.2 hB A bm oa' ol' bk' hm hn hgd) ?_
  exact fun M1 h => ⟨M1, rfl, rfl, cI_R hI h.2.2 h.1 h.2.1, fX_R h.2.2⟩
theorem t_loo7 {d : Nat} {ty : Nat} {tx : Nat → Nat} {hc : Nat} {hit : Nat → Nat} {tf : Nat} {p : Nat → Nat} {sz li : Nat} {ids : Nat → Nat} {G : Nat → GR} {mk rm : Bool} {id : Nat} {Z : GR} {M : jx_M} (hI : cI M ty tx hc hit tf true p sz li ids G mk rm id Z) (hB : jB1 M) : jZ (d + 2) 66 0 [some (.ref 16)] [] M (jT 7 fun M1 => cI M1 ty tx hc hit tf true p sz li ids G mk rm id Z ∧ fX M M1) := by
  refine z_go 1 _ [.ref 16] _ c_66_0 rfl ?_
  refine z_go 2 _ [.int (jn 0), .ref 16] _ c_66_1 rfl ?_
  refine z_callvT 5 62 1 16 c_66_2 ⟨Nat.le_of_ble_eq_true rfl, Nat.le_of_ble_eq_true rfl⟩ rfl hI.1.1 [.ref 16, .int (jb false)] rfl [some (.ref 16), some (.int (jb false))] rfl rfl (by decide) (t_rbD (d := d) (pt := false) hI.1.1 hB) ?_
  exact fun M1 h => ⟨M1, rfl, rfl, by rw [h]; exact ⟨hI, fX_r M⟩⟩
theorem t_loo8 {d : Nat} {ty : Nat} {tx : Nat → Nat} {hc : Nat} {hit : Nat → Nat} {tf : Nat} {p : Nat → Nat} {sz li : Nat} {ids : Nat → Nat} {G : Nat → GR} {mk rm : Bool} {id : Nat} {Z : GR} {M : jx_M} (hI : cI M ty tx hc hit tf false p sz li ids G mk rm id Z) (hty : ty ≤ 40) (htx : ∀ j, tx j < 127) (hB : jB1 M) (A : Nat → MA) (bm : Nat → Nat) (oa' : Nat → Option Nat) (ol' bk' : Nat → Nat) (hm : sm_rd tx ty false 40 none 0 0 A bm (sp_none oa' 10) ol' bk' 0 = none) : jZ (d + 13) 66 0 [some (.ref 16)] [] M (jT 8 fun M1 => cI M1 ty tx hc hit tf false p sz li ids G mk rm id Z ∧ fX M M1) := by
  obtain ⟨Y, hY⟩ := hI.2.2.2.1
  refine z_go 1 _ [.ref 16] _ c_66_0 rfl ?_
  refine z_go 2 _ [.int (jn 0), .ref 16] _ c_66_1 rfl ?_
  refine z_callvT 5 62 1 16 c_66_2 ⟨Nat.le_of_ble_eq_true rfl, Nat.le_of_ble_eq_true rfl⟩ rfl hI.1.1 [.ref 16, .int (jb false)] rfl [some (.ref 16), some (.int (jb false))] rfl rfl (by decide) (t_rb8f (d := d) hI.1.1 hI.2.1 hty htx hI.2.2.1 hY hI.2.2.2.2.2.2.1 hI.2.2.2.2.2.2.2 hB A bm oa' ol' bk' hm) ?_
  exact fun M1 h => ⟨M1, rfl, rfl, cI_R hI h.2.2 h.1 h.2.1, fX_R h.2.2⟩
theorem t_loo9 {d : Nat} {ty : Nat} {tx : Nat → Nat} {hc : Nat} {hit : Nat → Nat} {tf : Nat} {p : Nat → Nat} {sz li : Nat} {ids : Nat → Nat} {G : Nat → GR} {mk rm : Bool} {id : Nat} {Z : GR} {M : jx_M} (hI : cI M ty tx hc hit tf false p sz li ids G mk rm id Z) (hty : ty ≤ 40) (htx : ∀ j, tx j < 127) (hB : jB1 M) (A : Nat → MA) (bm : Nat → Nat) (oa' : Nat → Option Nat) (ol' bk' : Nat → Nat) {n : Nat} {A2 : Nat → MA} {bm2 : Nat → Nat} (hm : sm_rd tx ty false 40 none 0 0 A bm (sp_none oa' 10) ol' bk' 0 = some (n, A2, bm2)) (hn : 10 < n) : jZ (d + 13) 66 0 [some (.ref 16)] [] M (jT 9 fun M1 => cI M1 ty tx hc hit tf false p sz li ids G mk rm id Z ∧ fX M M1) := by
  obtain ⟨Y, hY⟩ := hI.2.2.2.1
  refine z_go 1 _ [.ref 16] _ c_66_0 rfl ?_
  refine z_go 2 _ [.int (jn 0), .ref 16] _ c_66_1 rfl ?_
  refine z_callvT 5 62 1 16 c_66_2 ⟨Nat.le_of_ble_eq_true rfl, Nat.le_of_ble_eq_true rfl⟩ rfl hI.1.1 [.ref 16, .int (jb false)] rfl [some (.ref 16), some (.int (jb false))] rfl rfl (by decide) (t_rb9f (d := d) hI.1.1 hI.2.1 hty htx hI.2.2.1 hY hI.2.2.2.2.2.2.1 hI.2.2.2.2.2.2.2 hB A bm oa' ol' bk' hm hn) ?_
  exact fun M1 h => ⟨M1, rfl, rfl, cI_R hI h.2.2 h.1 h.2.1, fX_R h.2.2⟩
theorem t_loo10 {d : Nat} {ty : Nat} {tx : Nat → Nat} {hc : Nat} {hit : Nat → Nat} {tf : Nat} {p : Nat → Nat} {sz li : Nat} {ids : Nat → Nat} {G : Nat → GR} {mk rm : Bool} {id : Nat} {Z : GR} {M : jx_M} (hI : cI M ty tx hc hit tf false p sz li ids G mk rm id Z) (hty : ty ≤ 40) (htx : ∀ j, tx j < 127) (hB : jB1 M) (A : Nat → MA) (bm : Nat → Nat) (oa' : Nat → Option Nat) (ol' bk' : Nat → Nat) {n : Nat} {A2 : Nat → MA} {bm2 : Nat → Nat} (hm : sm_rd tx ty false 40 none 0 0 A bm (sp_none oa' 10) ol' bk' 0 = some (n, A2, bm2)) (hn : n ≤ 10) (hgd : sm_good n A2 bm2 = false) : jZ (d + 13) 66 0 [some (.ref 16)] [] M (jT 10 fun M1 => cI M1 ty tx hc hit tf false p sz li ids G mk rm id Z ∧ fX M M1) := by
  obtain ⟨Y, hY⟩ := hI.2.2.2.1
  refine z_go 1 _ [.ref 16] _ c_66_0 rfl ?_
  refine z_go 2 _ [.int (jn 0), .ref 16] _ c_66_1 rfl ?_
  refine z_callvT 5 62 1 16 c_66_2 ⟨Nat.le_of_ble_eq_true rfl, Nat.le_of_ble_eq_true rfl⟩ rfl hI.1.1 [.ref 16, .int (jb false)] rfl [some (.ref 16), some (.int (jb false))] rfl rfl (by decide) (t_rb10 (d := d) hI.1.1 hI.2.1 hty htx hI.2.2.1 hY hI.2.2.2.2.2.2.1 hI.2.2.2.2.2.2.2 hB A bm oa' ol' bk' hm hn hgd) ?_
  exact fun M1 h => ⟨M1, rfl, rfl, cI_R hI h.2.2 h.1 h.2.1, fX_R h.2.2⟩
theorem t_sea7 {d : Nat} {ty : Nat} {tx : Nat → Nat} {hc : Nat} {hit : Nat → Nat} {tf : Nat} {p : Nat → Nat} {sz li : Nat} {ids : Nat → Nat} {G : Nat → GR} {mk rm : Bool} {id : Nat} {Z : GR} {M : jx_M} (hI : cI M ty tx hc hit tf true p sz li ids G mk rm id Z) (hB : jB1 M) : jZ (d + 2) 67 0 [some (.ref 16), none] [] M (jT 7 fun M1 => cI M1 ty tx hc hit tf true p sz li ids G mk rm id Z ∧ fX M M1) := by
  refine z_go 1 _ [.ref 16] _ c_67_0 rfl ?_
  refine z_go 2 _ [.int (jn 1), .ref 16] _ c_67_1 rfl ?_
  refine z_callvT 5 62 1 16 c_67_2 ⟨Nat.le_of_ble_eq_true rfl, Nat.le_of_ble_eq_true rfl⟩ rfl hI.1.1 [.ref 16, .int (jb true)] rfl [some (.ref 16), some (.int (jb true))] rfl rfl (by decide) (t_rbD (d := d) (pt := true) hI.1.1 hB) ?_
  exact fun M1 h => ⟨M1, rfl, rfl, by rw [h]; exact ⟨hI, fX_r M⟩⟩
theorem t_sea8 {d : Nat} {ty : Nat} {tx : Nat → Nat} {hc : Nat} {hit : Nat → Nat} {tf : Nat} {p : Nat → Nat} {sz li : Nat} {ids : Nat → Nat} {G : Nat → GR} {mk rm : Bool} {id : Nat} {Z : GR} {M : jx_M} (hI : cI M ty tx hc hit tf false p sz li ids G mk rm id Z) (hty : ty ≤ 40) (htx : ∀ j, tx j < 127) (hB : jB1 M) (A : Nat → MA) (bm : Nat → Nat) (oa' : Nat → Option Nat) (ol' bk' : Nat → Nat) (hm : sm_rd tx ty true 40 none 0 0 A bm (sp_none oa' 10) ol' bk' 0 = none) : jZ (d + 13) 67 0 [some (.ref 16), none] [] M (jT 8 fun M1 => cI M1 ty tx hc hit tf false p sz li ids G mk rm id Z ∧ fX M M1) := by
  obtain ⟨Y, hY⟩ := hI.2.2.2.1
  refine z_go 1 _ [.ref 16] _ c_67_0 rfl ?_
  refine z_go 2 _ [.int (jn 1), .ref 16] _ c_67_1 rfl ?_
  refine z_callvT 5 62 1 16 c_67_2 ⟨Nat.le_of_ble_eq_true rfl, Nat.le_of_ble_eq_true rfl⟩ rfl hI.1.1 [.ref 16, .int (jb true)] rfl [some (.ref 16), some (.int (jb true))] rfl rfl (by decide) (t_rb8t (d := d) hI.1.1 hI.2.1 hty htx hI.2.2.1 hY hI.2.2.2.2.2.2.1 hI.2.2.2.2.2.2.2 hB A bm oa' ol' bk' hm) ?_
  exact fun M1 h => ⟨M1, rfl, rfl, cI_R hI h.2.2 h.1 h.2.1, fX_R h.2.2⟩
theorem t_sea9 {d : Nat} {ty : Nat} {tx : Nat → Nat} {hc : Nat} {hit : Nat → Nat} {tf : Nat} {p : Nat → Nat} {sz li : Nat} {ids : Nat → Nat} {G : Nat → GR} {mk rm : Bool} {id : Nat} {Z : GR} {M : jx_M} (hI : cI M ty tx hc hit tf false p sz li ids G mk rm id Z) (hty : ty ≤ 40) (htx : ∀ j, tx j < 127) (hB : jB1 M) (A : Nat → MA) (bm : Nat → Nat) (oa' : Nat → Option Nat) (ol' bk' : Nat → Nat) {n : Nat} {A2 : Nat → MA} {bm2 : Nat → Nat} (hm : sm_rd tx ty true 40 none 0 0 A bm (sp_none oa' 10) ol' bk' 0 = some (n, A2, bm2)) (hn : 10 < n) : jZ (d + 13) 67 0 [some (.ref 16), none] [] M (jT 9 fun M1 => cI M1 ty tx hc hit tf false p sz li ids G mk rm id Z ∧ fX M M1) := by
  obtain ⟨Y, hY⟩ := hI.2.2.2.1
  refine z_go 1 _ [.ref 16] _ c_67_0 rfl ?_
  refine z_go 2 _ [.int (jn 1), .ref 16] _ c_67_1 rfl ?_
  refine z_callvT 5 62 1 16 c_67_2 ⟨Nat.le_of_ble_eq_true rfl, Nat.le_of_ble_eq_true rfl⟩ rfl hI.1.1 [.ref 16, .int (jb true)] rfl [some (.ref 16), some (.int (jb true))] rfl rfl (by decide) (t_rb9t (d := d) hI.1.1 hI.2.1 hty htx hI.2.2.1 hY hI.2.2.2.2.2.2.1 hI.2.2.2.2.2.2.2 hB A bm oa' ol' bk' hm hn) ?_
  exact fun M1 h => ⟨M1, rfl, rfl, cI_R hI h.2.2 h.1 h.2.1, fX_R h.2.2⟩
theorem gEs_le {n : Nat} {ks : Nat → Nat} : (gEs n ks).length ≤ 100 := by
  have := List.length_filter_le (fun x => decide (x / 10 < n ∧ x % 10 < n ∧ ks x ≠ 0)) (List.range 100)
  rw [List.length_range] at this
  exact this
theorem encC_okW {pt : Bool} {m : MA} (h : okA pt m) : encC m < 32768 ∧ okW (encC m) := by
  by_cases hls : m.2.2.2.2.2 = 0
  · have hM : okM m := ⟨h.1, h.2.2.1, hls, by rcases h.2.2.2 with q | q; exact q.2.1; omega⟩
    have := (encH_bits hM).2.2.1
    unfold encH at this
    exact ⟨by omega, Or.inl (by omega)⟩
  · have e : encC m = 16384 + m.2.2.2.2.2 % 32 := by unfold encC; rw [if_neg hls]
    rw [e]
    exact ⟨by omega, Or.inr ⟨m.2.2.2.2.2 % 32, by omega, rfl⟩⟩
theorem gA_xM {X : GR} {n : Nat} {A : Nat → MA} {bm : Nat → Nat} (h : gA encH X n A bm) (hA : ∀ j, j < n → okM (A j)) : xOk X ∧ yOk X := by
  obtain ⟨g1, g2, g3, g4, g5, g6, g7, g8, g9⟩ := h
  have hb := gEs_le (n := n) (ks := X.2.2.2.1)
  have hc : ∀ j, X.2.2.1 j < 16384 := fun j => by
    by_cases hj : j < n
    · rw [g3 j hj]; exact (encH_bits (hA j hj)).2.2.1
    · rw [g9 j (by omega)]; decide
  exact ⟨⟨by omega, g8, g7, fun j => Nat.lt_trans (hc j) (by decide), fun j => Or.inl (hc j), by omega⟩, by omega, hc, g7, by omega⟩
theorem gA_xP {X : GR} {n : Nat} {A : Nat → MA} {bm : Nat → Nat} (h : gA encC X n A bm) (hA : ∀ j, j < n → okA true (A j)) : xOk X := by
  obtain ⟨g1, g2, g3, g4, g5, g6, g7, g8, g9⟩ := h
  have hb := gEs_le (n := n) (ks := X.2.2.2.1)
  have hc : ∀ j, X.2.2.1 j < 32768 ∧ okW (X.2.2.1 j) := fun j => by
    by_cases hj : j < n
    · rw [g3 j hj]; exact encC_okW (hA j hj)
    · rw [g9 j (by omega)]; exact ⟨by decide, Or.inl (by decide)⟩
  exact ⟨by omega, g8, g7, fun j => (hc j).1, fun j => (hc j).2, by omega⟩
theorem t_lookup {d : Nat} {ty : Nat} {tx : Nat → Nat} {hc : Nat} {hit : Nat → Nat} {tf : Nat} {p : Nat → Nat} {sz li : Nat} {ids : Nat → Nat} {G : Nat → GR} {mk rm : Bool} {id : Nat} {Z : GR} {M : jx_M} (hI : cI M ty tx hc hit tf false p sz li ids G mk rm id Z) (hty : ty ≤ 40) (htx : ∀ j, tx j < 127) (hB : jB1 M) (A : Nat → MA) (bm : Nat → Nat) (oa' : Nat → Option Nat) (ol' bk' : Nat → Nat) {n : Nat} {A2 : Nat → MA} {bm2 : Nat → Nat} (hm : sm_rd tx ty false 40 none 0 0 A bm (sp_none oa' 10) ol' bk' 0 = some (n, A2, bm2)) (hn : n ≤ 10) (hgd : sm_good n A2 bm2 = true) (hsz : sz ≤ 12) (hy : ∀ s, s < sz → yOk (G s)) : jZ (d + 14) 66 0 [some (.ref 16)] [] M (fun r M' => ∃ X, (gA encH X n (sm_vl bm2 n n 0 true A2).2 bm2 ∧ (∀ j, j < n → okM ((sm_vl bm2 n n 0 true A2).2 j)) ∧ ∀ i j, i < n → j < n → bm2 (40 * i + j) ≤ 4) ∧ r = .inl (some (.int (jn (match sp_first (fun s => sSame X (G s)) sz 0 with | none => 0 | some s => ids s)))) ∧ cI M' 0 tx hc hit tf false p sz li ids G mk rm id Z ∧ fX M M') := by
  obtain ⟨Y, hY⟩ := hI.2.2.2.1
  refine z_go 1 _ [.ref 16] _ c_66_0 rfl ?_
  refine z_go 2 _ [.int (jn 0), .ref 16] _ c_66_1 rfl ?_
  refine z_callvV 5 5 62 1 16 c_66_2 rfl ⟨Nat.le_of_ble_eq_true rfl, Nat.le_of_ble_eq_true rfl⟩ rfl hI.1.1 [.ref 16, .int (jb false)] rfl rfl [some (.ref 16), some (.int (jb false))] rfl rfl (t_rbM (d := d + 1) hI.1.1 hI.2.1 hty htx hI.2.2.1 hY hI.2.2.2.2.2.2.1 hI.2.2.2.2.2.2.2 hB A bm oa' ol' bk' hm hn hgd) ?_
  intro M1 ⟨⟨X, hX, hgx, hox, h4⟩, hr1, hf1⟩
  have hI1 := cI_R hI hf1 hr1 ⟨X, hX⟩
  have hx := (gA_xM hgx hox).1
  show jZ _ _ _ _ [] _ _
  refine z_go 6 _ [.ref 16] _ c_66_5 rfl ?_
  refine z_go 7 _ [.int (jn 0), .ref 16] _ c_66_6 rfl ?_
  refine z_putf (M' := jm [(16, xO 0 hc tf false)] M1) 10 c_66_7 rfl hI1.1.1 (rfl) (Nat.le_of_ble_eq_true rfl) rfl ?_
  have hs2 : sm 16 16 M1 (jm [(16, xO 0 hc tf false)] M1) := sm_jm rfl
  have hI2 := cI_16 hI1 hs2 rfl
  have hX2 : jgr (jm [(16, xO 0 hc tf false)] M1) 28 X := jgr_fr hX fun k a b => hs2.1 k (by omega)
  generalize hM2 : jm [(16, xO 0 hc tf false)] M1 = M2 at hs2 hI2 hX2 ⊢
  refine z_go 11 _ [.ref 16] _ c_66_10 rfl ?_
  refine z_callvV 14 5 64 0 16 c_66_11 rfl ⟨Nat.le_of_ble_eq_true rfl, Nat.le_of_ble_eq_true rfl⟩ rfl hI2.1.1 [.ref 16] rfl rfl [some (.ref 16), none] rfl rfl (t_ids (d := d) hsz hx hy hI2.1.1 hI2.1.2.1 hX2 hI2.2.2.2.2.1 hI2.2.2.2.2.2.2.1) ?_
  intro M3 ⟨hs3, hm3⟩
  have hI3 := cI_m hI2 hs3 hm3
  show jZ _ _ _ _ [.int (jn ((match sp_first (fun s => sSame X (G s)) sz 0 with | none => 0 | some s => ids s)))] _ _
  refine z_iret c_66_14 ?_
  exact ⟨X, ⟨hgx, hox, h4⟩, rfl, hI3, ((fX_R hf1).tr (fX_m hs2 (by decide) (by decide))).tr (fX_m hs3 (by decide) (by decide))⟩
theorem t_reg_pre {d : Nat} {ty : Nat} {tx : Nat → Nat} {hc : Nat} {hit : Nat → Nat} {tf : Nat} {p : Nat → Nat} {sz li : Nat} {ids : Nat → Nat} {G : Nat → GR} {mk rm : Bool} {id : Nat} {Z : GR} {M : jx_M} (hI : cI M ty tx hc hit tf false p sz li ids G mk rm id Z) (hty : ty ≤ 40) (htx : ∀ j, tx j < 127) (hB : jB1 M) (A : Nat → MA) (bm : Nat → Nat) (oa' : Nat → Option Nat) (ol' bk' : Nat → Nat) {n : Nat} {A2 : Nat → MA} {bm2 : Nat → Nat} (hm : sm_rd tx ty false 40 none 0 0 A bm (sp_none oa' 10) ol' bk' 0 = some (n, A2, bm2)) (hn : n ≤ 10) (hgd : sm_good n A2 bm2 = true) (hsz : sz ≤ 12) (hy : ∀ s, s < sz → yOk (G s)) {post : jx_R → jx_M → Prop} (hk : ∀ X M2, (gA encH X n (sm_vl bm2 n n 0 true A2).2 bm2 ∧ (∀ j, j < n → okM ((sm_vl bm2 n n 0 true A2).2 j)) ∧ ∀ i j, i < n → j < n → bm2 (40 * i + j) ≤ 4) → jgr M2 28 X → cI M2 ty tx hc hit tf false p sz li ids G mk rm id Z → fX M M2 → jZ (d + 14) 61 9 [some (.ref 16), none, none] [.int (jn (match sp_first (fun s => sSame X (G s)) sz 0 with | none => 0 | some s => ids s))] M2 post) : jZ (d + 14) 61 0 [some (.ref 16), none, none] [] M post := by
  obtain ⟨Y, hY⟩ := hI.2.2.2.1
  refine z_go 1 _ [.ref 16] _ c_61_0 rfl ?_
  refine z_go 2 _ [.int (jn 0), .ref 16] _ c_61_1 rfl ?_
  refine z_callvV 5 5 62 1 16 c_61_2 rfl ⟨Nat.le_of_ble_eq_true rfl, Nat.le_of_ble_eq_true rfl⟩ rfl hI.1.1 [.ref 16, .int (jb false)] rfl rfl [some (.ref 16), some (.int (jb false))] rfl rfl (t_rbM (d := d + 1) hI.1.1 hI.2.1 hty htx hI.2.2.1 hY hI.2.2.2.2.2.2.1 hI.2.2.2.2.2.2.2 hB A bm oa' ol' bk' hm hn hgd) ?_
  intro M1 ⟨⟨X, hX, hgx, hox, h4⟩, hr1, hf1⟩
  have hI1 := cI_R hI hf1 hr1 ⟨X, hX⟩
  have hx := (gA_xM hgx hox).1
  show jZ _ _ _ _ [] _ _
  refine z_go 6 _ [.ref 16] _ c_61_5 rfl ?_
  refine z_callvV 9 5 64 0 16 c_61_6 rfl ⟨Nat.le_of_ble_eq_true rfl, Nat.le_of_ble_eq_true rfl⟩ rfl hI1.1.1 [.ref 16] rfl rfl [some (.ref 16), none] rfl rfl (t_ids (d := d) hsz hx hy hI1.1.1 hI1.1.2.1 hX hI1.2.2.2.2.1 hI1.2.2.2.2.2.2.1) ?_
  intro M2 ⟨hs2, hm2⟩
  have hI2 := cI_m hI1 hs2 hm2
  have hX2 : jgr M2 28 X := jgr_fr hX fun k a b => hs2.1 k (by omega)
  have hf2 : fX M M2 := (fX_R hf1).tr (fX_m hs2 (by decide) (by decide))
  show jZ _ _ _ _ [.int (jn ((match sp_first (fun s => sSame X (G s)) sz 0 with | none => 0 | some s => ids s)))] _ _
  exact hk X M2 ⟨hgx, hox, h4⟩ hX2 hI2 hf2
theorem t_regF {d : Nat} {ty : Nat} {tx : Nat → Nat} {hc : Nat} {hit : Nat → Nat} {tf : Nat} {p : Nat → Nat} {sz li : Nat} {ids : Nat → Nat} {G : Nat → GR} {mk rm : Bool} {id : Nat} {Z : GR} {M : jx_M} (hI : cI M ty tx hc hit tf false p sz li ids G mk rm id Z) {a : Nat} (ha : a ≠ 0) (ha31 : a < 2 ^ 31) : jZ d 61 9 [some (.ref 16), none, none] [.int (jn a)] M (jV (some (.int (jn a))) fun M' => cI M' 0 tx hc hit tf false p sz li ids G mk rm id Z ∧ fX M M') := by
  refine z_go 10 [some (.ref 16), some (.int (jn a)), none] [] _ c_61_9 rfl ?_
  refine z_go 11 _ [.int (jn a)] _ c_61_10 rfl ?_
  refine z_ifne 62 14 c_61_11 rfl (jn_z (by omega)) (fun h0 => ?_) (fun h0 => ?_)
  · omega
  · refine z_go 63 _ [.ref 16] _ c_61_62 rfl ?_
    refine z_go 64 _ [.int (jn 0), .ref 16] _ c_61_63 rfl ?_
    refine z_putf (M' := jm [(16, xO 0 hc tf false)] M) 67 c_61_64 rfl hI.1.1 (rfl) (Nat.le_of_ble_eq_true rfl) rfl ?_
    have hs2 : sm 16 16 M (jm [(16, xO 0 hc tf false)] M) := sm_jm rfl
    have hI2 := cI_16 hI hs2 rfl
    refine z_go 68 _ [.int (jn a)] _ c_61_67 rfl ?_
    refine z_iret c_61_68 ?_
    exact ⟨rfl, hI2, fX_m hs2 (by decide) (by decide)⟩
theorem t_regU {d : Nat} {ty : Nat} {tx : Nat → Nat} {hc : Nat} {hit : Nat → Nat} {tf : Nat} {p : Nat → Nat} {sz li : Nat} {ids : Nat → Nat} {G : Nat → GR} {mk rm : Bool} {id : Nat} {Z : GR} {M : jx_M} (hI : cI M ty tx hc hit tf false p sz li ids G mk rm id Z) (hB : jB1 M) (hsz : sz ≤ 12) (hu : 12 ≤ sz) : jZ d 61 9 [some (.ref 16), none, none] [.int (jn 0)] M (jT 11 fun M1 => cI M1 ty tx hc hit tf false p sz li ids G mk rm id Z ∧ fX M M1) := by
  refine z_go 10 [some (.ref 16), some (.int (jn 0)), none] [] _ c_61_9 rfl ?_
  refine z_go 11 _ [.int (jn 0)] _ c_61_10 rfl ?_
  refine z_ifne 62 14 c_61_11 rfl (jn_z (by decide)) (fun _ => ?_) (fun h => absurd rfl h)
  refine z_go 15 _ [.ref 16] _ c_61_14 rfl ?_
  refine z_getf (v := .ref 35) 18 c_61_15 rfl hI.1.1 rfl ?_
  refine z_getf (v := .int (jn sz)) 21 c_61_18 rfl hI.1.2.1.1 rfl ?_
  refine z_go 23 _ [.int (jn 12), .int (jn sz)] _ c_61_21 rfl ?_
  refine z_ilt 36 26 c_61_23 rfl (by omega) (by omega) (fun h12 => ?_) (fun h12 => ?_)
  · omega
  · refine z_thr c_61_26 hB.1 hB.2 (by decide) ?_
    exact ⟨M, rfl, rfl, hI, fX_r M⟩
theorem t_regN0 {d : Nat} {ty : Nat} {tx : Nat → Nat} {hc : Nat} {hit : Nat → Nat} {p : Nat → Nat} {sz li : Nat} {ids : Nat → Nat} {G : Nat → GR} {rm : Bool} {id : Nat} {Z : GR} {M : jx_M} (hI : cI M ty tx hc hit 0 false p sz li ids G false rm id Z) (hu : sz < 12) (hli : li + 1 < 2 ^ 31) {X : GR} (hX : jgr M 28 X) (hs : sp_sl ids (jn (li + 1)) sz 0 = none) : jZ (d + 4) 61 9 [some (.ref 16), none, none] [.int (jn 0)] M (jV (some (.int (jn (li + 1)))) fun M' => cI M' 0 tx 0 hit 0 false p (sz + 1) (li + 1) (nu ids sz (li + 1)) (nu G sz X) false false 0 X ∧ fX M M') := by
  refine z_go 10 [some (.ref 16), some (.int (jn 0)), none] [] _ c_61_9 rfl ?_
  refine z_go 11 _ [.int (jn 0)] _ c_61_10 rfl ?_
  refine z_ifne 62 14 c_61_11 rfl (jn_z (by decide)) (fun _ => ?_) (fun h => absurd rfl h)
  refine z_go 15 _ [.ref 16] _ c_61_14 rfl ?_
  refine z_getf (v := .ref 35) 18 c_61_15 rfl hI.1.1 rfl ?_
  refine z_getf (v := .int (jn sz)) 21 c_61_18 rfl hI.1.2.1.1 rfl ?_
  refine z_go 23 _ [.int (jn 12), .int (jn sz)] _ c_61_21 rfl ?_
  refine z_ilt 36 26 c_61_23 rfl (by omega) (by omega) (fun h12 => ?_) (fun h12 => ?_)
  · refine z_go 37 _ [.ref 16] _ c_61_36 rfl ?_
    refine z_getf (v := .ref 35) 40 c_61_37 rfl hI.1.1 rfl ?_
    refine z_getf (v := .int (jn li)) 43 c_61_40 rfl hI.1.2.1.1 rfl ?_
    refine z_go 44 _ [.int (jn 1), .int (jn li)] _ c_61_43 rfl ?_
    refine z_go 45 _ [.int ((jn li) + (jn 1))] _ c_61_44 rfl ?_
    refine z_v (jn_add _ _) ?_
    refine z_go 46 [some (.ref 16), some (.int (jn 0)), some (.int (jn (li + 1)))] [] _ c_61_45 rfl ?_
    refine z_go 47 _ [.ref 16] _ c_61_46 rfl ?_
    refine z_go 48 _ [.int (jn 0), .ref 16] _ c_61_47 rfl ?_
    refine z_go 49 _ [.int (jn (li + 1)), .int (jn 0), .ref 16] _ c_61_48 rfl ?_
    refine z_callvV 52 5 65 2 16 c_61_49 rfl ⟨Nat.le_of_ble_eq_true rfl, Nat.le_of_ble_eq_true rfl⟩ rfl hI.1.1 [.ref 16, .int (jb false), .int (jn (li + 1))] rfl rfl [some (.ref 16), some (.int (jb false)), some (.int (jn (li + 1))), none] rfl rfl (t_chP0 (d := d) (id := li + 1) hI.1 (by omega) hX hs hu) ?_
    intro M2 ⟨hc2, hf2⟩
    have hI2 := cI_C hI hf2 hc2
    show jZ _ _ _ _ [.int (jb true)] _ _
    refine z_ifeq 59 55 c_61_52 rfl jb_t (fun h => absurd h (by decide)) (fun _ => ?_)
    refine z_go 56 _ [.int (jn (li + 1))] _ c_61_55 rfl ?_
    refine z_go 61 _ [.int (jn (li + 1))] _ c_61_56 rfl ?_
    refine z_go 62 [some (.ref 16), some (.int (jn (li + 1))), some (.int (jn (li + 1)))] [] _ c_61_61 rfl ?_
    refine z_go 63 _ [.ref 16] _ c_61_62 rfl ?_
    refine z_go 64 _ [.int (jn 0), .ref 16] _ c_61_63 rfl ?_
    refine z_putf (M' := jm [(16, xO 0 0 0 false)] M2) 67 c_61_64 rfl hI2.1.1 (rfl) (Nat.le_of_ble_eq_true rfl) rfl ?_
    have hs3 : sm 16 16 M2 (jm [(16, xO 0 0 0 false)] M2) := sm_jm rfl
    have hI3 := cI_16 hI2 hs3 rfl
    refine z_go 68 _ [.int (jn (li + 1))] _ c_61_67 rfl ?_
    refine z_iret c_61_68 ?_
    exact ⟨rfl, hI3, (fX_C hf2).tr (fX_m hs3 (by decide) (by decide))⟩
  · omega
theorem t_regN1 {d : Nat} {ty : Nat} {tx : Nat → Nat} {hc : Nat} {hit : Nat → Nat} {p : Nat → Nat} {sz li : Nat} {ids : Nat → Nat} {G : Nat → GR} {rm : Bool} {id : Nat} {Z : GR} {M : jx_M} (hI : cI M ty tx hc hit 1 false p sz li ids G false rm id Z) (hu : sz < 12) (hli : li + 1 < 2 ^ 31) {X : GR} (hX : jgr M 28 X) (hs : sp_sl ids (jn (li + 1)) sz 0 = none) : jZ (d + 4) 61 9 [some (.ref 16), none, none] [.int (jn 0)] M (jV (some (.int (-2))) fun M' => cI M' 0 tx 0 hit 0 true p sz li ids G false rm id Z ∧ fX M M') := by
  refine z_go 10 [some (.ref 16), some (.int (jn 0)), none] [] _ c_61_9 rfl ?_
  refine z_go 11 _ [.int (jn 0)] _ c_61_10 rfl ?_
  refine z_ifne 62 14 c_61_11 rfl (jn_z (by decide)) (fun _ => ?_) (fun h => absurd rfl h)
  refine z_go 15 _ [.ref 16] _ c_61_14 rfl ?_
  refine z_getf (v := .ref 35) 18 c_61_15 rfl hI.1.1 rfl ?_
  refine z_getf (v := .int (jn sz)) 21 c_61_18 rfl hI.1.2.1.1 rfl ?_
  refine z_go 23 _ [.int (jn 12), .int (jn sz)] _ c_61_21 rfl ?_
  refine z_ilt 36 26 c_61_23 rfl (by omega) (by omega) (fun h12 => ?_) (fun h12 => ?_)
  · refine z_go 37 _ [.ref 16] _ c_61_36 rfl ?_
    refine z_getf (v := .ref 35) 40 c_61_37 rfl hI.1.1 rfl ?_
    refine z_getf (v := .int (jn li)) 43 c_61_40 rfl hI.1.2.1.1 rfl ?_
    refine z_go 44 _ [.int (jn 1), .int (jn li)] _ c_61_43 rfl ?_
    refine z_go 45 _ [.int ((jn li) + (jn 1))] _ c_61_44 rfl ?_
    refine z_v (jn_add _ _) ?_
    refine z_go 46 [some (.ref 16), some (.int (jn 0)), some (.int (jn (li + 1)))] [] _ c_61_45 rfl ?_
    refine z_go 47 _ [.ref 16] _ c_61_46 rfl ?_
    refine z_go 48 _ [.int (jn 0), .ref 16] _ c_61_47 rfl ?_
    refine z_go 49 _ [.int (jn (li + 1)), .int (jn 0), .ref 16] _ c_61_48 rfl ?_
    refine z_callvV 52 5 65 2 16 c_61_49 rfl ⟨Nat.le_of_ble_eq_true rfl, Nat.le_of_ble_eq_true rfl⟩ rfl hI.1.1 [.ref 16, .int (jb false), .int (jn (li + 1))] rfl rfl [some (.ref 16), some (.int (jb false)), some (.int (jn (li + 1))), none] rfl rfl (t_chP1 (d := d) (id := li + 1) hI.1 (by omega) hX hs hu) ?_
    intro M2 ⟨hc2, hf2⟩
    have hI2 := cI_C hI hf2 hc2
    show jZ _ _ _ _ [.int (jb false)] _ _
    refine z_ifeq 59 55 c_61_52 rfl jb_t (fun _ => ?_) (fun h => absurd rfl h)
    refine z_go 61 _ [.int ((-2))] _ c_61_59 rfl ?_
    refine z_go 62 [some (.ref 16), some (.int ((-2))), some (.int (jn (li + 1)))] [] _ c_61_61 rfl ?_
    refine z_go 63 _ [.ref 16] _ c_61_62 rfl ?_
    refine z_go 64 _ [.int (jn 0), .ref 16] _ c_61_63 rfl ?_
    refine z_putf (M' := jm [(16, xO 0 0 0 true)] M2) 67 c_61_64 rfl hI2.1.1 (rfl) (Nat.le_of_ble_eq_true rfl) rfl ?_
    have hs3 : sm 16 16 M2 (jm [(16, xO 0 0 0 true)] M2) := sm_jm rfl
    have hI3 := cI_16 hI2 hs3 rfl
    refine z_go 68 _ [.int ((-2))] _ c_61_67 rfl ?_
    refine z_iret c_61_68 ?_
    exact ⟨rfl, hI3, (fX_C hf2).tr (fX_m hs3 (by decide) (by decide))⟩
  · omega
theorem t_regN2 {d : Nat} {ty : Nat} {tx : Nat → Nat} {hc : Nat} {hit : Nat → Nat} {p : Nat → Nat} {sz li : Nat} {ids : Nat → Nat} {G : Nat → GR} {rm : Bool} {id : Nat} {Z : GR} {M : jx_M} (hI : cI M ty tx hc hit 2 false p sz li ids G false rm id Z) (hu : sz < 12) (hli : li + 1 < 2 ^ 31) {X : GR} (hX : jgr M 28 X) (hs : sp_sl ids (jn (li + 1)) sz 0 = none) : jZ (d + 4) 61 9 [some (.ref 16), none, none] [.int (jn 0)] M (jV (some (.int (-2))) fun M' => cI M' 0 tx 0 hit 0 true p sz li ids G false false (li + 1) X ∧ fX M M') := by
  refine z_go 10 [some (.ref 16), some (.int (jn 0)), none] [] _ c_61_9 rfl ?_
  refine z_go 11 _ [.int (jn 0)] _ c_61_10 rfl ?_
  refine z_ifne 62 14 c_61_11 rfl (jn_z (by decide)) (fun _ => ?_) (fun h => absurd rfl h)
  refine z_go 15 _ [.ref 16] _ c_61_14 rfl ?_
  refine z_getf (v := .ref 35) 18 c_61_15 rfl hI.1.1 rfl ?_
  refine z_getf (v := .int (jn sz)) 21 c_61_18 rfl hI.1.2.1.1 rfl ?_
  refine z_go 23 _ [.int (jn 12), .int (jn sz)] _ c_61_21 rfl ?_
  refine z_ilt 36 26 c_61_23 rfl (by omega) (by omega) (fun h12 => ?_) (fun h12 => ?_)
  · refine z_go 37 _ [.ref 16] _ c_61_36 rfl ?_
    refine z_getf (v := .ref 35) 40 c_61_37 rfl hI.1.1 rfl ?_
    refine z_getf (v := .int (jn li)) 43 c_61_40 rfl hI.1.2.1.1 rfl ?_
    refine z_go 44 _ [.int (jn 1), .int (jn li)] _ c_61_43 rfl ?_
    refine z_go 45 _ [.int ((jn li) + (jn 1))] _ c_61_44 rfl ?_
    refine z_v (jn_add _ _) ?_
    refine z_go 46 [some (.ref 16), some (.int (jn 0)), some (.int (jn (li + 1)))] [] _ c_61_45 rfl ?_
    refine z_go 47 _ [.ref 16] _ c_61_46 rfl ?_
    refine z_go 48 _ [.int (jn 0), .ref 16] _ c_61_47 rfl ?_
    refine z_go 49 _ [.int (jn (li + 1)), .int (jn 0), .ref 16] _ c_61_48 rfl ?_
    refine z_callvV 52 5 65 2 16 c_61_49 rfl ⟨Nat.le_of_ble_eq_true rfl, Nat.le_of_ble_eq_true rfl⟩ rfl hI.1.1 [.ref 16, .int (jb false), .int (jn (li + 1))] rfl rfl [some (.ref 16), some (.int (jb false)), some (.int (jn (li + 1))), none] rfl rfl (t_chP2 (d := d) (id := li + 1) hI.1 (by omega) hX hs hu) ?_
    intro M2 ⟨hc2, hf2⟩
    have hI2 := cI_C hI hf2 hc2
    show jZ _ _ _ _ [.int (jb false)] _ _
    refine z_ifeq 59 55 c_61_52 rfl jb_t (fun _ => ?_) (fun h => absurd rfl h)
    refine z_go 61 _ [.int ((-2))] _ c_61_59 rfl ?_
    refine z_go 62 [some (.ref 16), some (.int ((-2))), some (.int (jn (li + 1)))] [] _ c_61_61 rfl ?_
    refine z_go 63 _ [.ref 16] _ c_61_62 rfl ?_
    refine z_go 64 _ [.int (jn 0), .ref 16] _ c_61_63 rfl ?_
    refine z_putf (M' := jm [(16, xO 0 0 0 true)] M2) 67 c_61_64 rfl hI2.1.1 (rfl) (Nat.le_of_ble_eq_true rfl) rfl ?_
    have hs3 : sm 16 16 M2 (jm [(16, xO 0 0 0 true)] M2) := sm_jm rfl
    have hI3 := cI_16 hI2 hs3 rfl
    refine z_go 68 _ [.int ((-2))] _ c_61_67 rfl ?_
    refine z_iret c_61_68 ?_
    exact ⟨rfl, hI3, (fX_C hf2).tr (fX_m hs3 (by decide) (by decide))⟩
  · omega
theorem t_regN3 {d : Nat} {ty : Nat} {tx : Nat → Nat} {hc : Nat} {hit : Nat → Nat} {p : Nat → Nat} {sz li : Nat} {ids : Nat → Nat} {G : Nat → GR} {rm : Bool} {id : Nat} {Z : GR} {M : jx_M} (hI : cI M ty tx hc hit 3 false p sz li ids G false rm id Z) (hu : sz < 12) (hli : li + 1 < 2 ^ 31) {X : GR} (hX : jgr M 28 X) (hs : sp_sl ids (jn (li + 1)) sz 0 = none) : jZ (d + 4) 61 9 [some (.ref 16), none, none] [.int (jn 0)] M (jV (some (.int (-2))) fun M' => cI M' 0 tx 0 hit 0 true p sz li ids G true false (li + 1) X ∧ fX M M') := by
  refine z_go 10 [some (.ref 16), some (.int (jn 0)), none] [] _ c_61_9 rfl ?_
  refine z_go 11 _ [.int (jn 0)] _ c_61_10 rfl ?_
  refine z_ifne 62 14 c_61_11 rfl (jn_z (by decide)) (fun _ => ?_) (fun h => absurd rfl h)
  refine z_go 15 _ [.ref 16] _ c_61_14 rfl ?_
  refine z_getf (v := .ref 35) 18 c_61_15 rfl hI.1.1 rfl ?_
  refine z_getf (v := .int (jn sz)) 21 c_61_18 rfl hI.1.2.1.1 rfl ?_
  refine z_go 23 _ [.int (jn 12), .int (jn sz)] _ c_61_21 rfl ?_
  refine z_ilt 36 26 c_61_23 rfl (by omega) (by omega) (fun h12 => ?_) (fun h12 => ?_)
  · refine z_go 37 _ [.ref 16] _ c_61_36 rfl ?_
    refine z_getf (v := .ref 35) 40 c_61_37 rfl hI.1.1 rfl ?_
    refine z_getf (v := .int (jn li)) 43 c_61_40 rfl hI.1.2.1.1 rfl ?_
    refine z_go 44 _ [.int (jn 1), .int (jn li)] _ c_61_43 rfl ?_
    refine z_go 45 _ [.int ((jn li) + (jn 1))] _ c_61_44 rfl ?_
    refine z_v (jn_add _ _) ?_
    refine z_go 46 [some (.ref 16), some (.int (jn 0)), some (.int (jn (li + 1)))] [] _ c_61_45 rfl ?_
    refine z_go 47 _ [.ref 16] _ c_61_46 rfl ?_
    refine z_go 48 _ [.int (jn 0), .ref 16] _ c_61_47 rfl ?_
    refine z_go 49 _ [.int (jn (li + 1)), .int (jn 0), .ref 16] _ c_61_48 rfl ?_
    refine z_callvV 52 5 65 2 16 c_61_49 rfl ⟨Nat.le_of_ble_eq_true rfl, Nat.le_of_ble_eq_true rfl⟩ rfl hI.1.1 [.ref 16, .int (jb false), .int (jn (li + 1))] rfl rfl [some (.ref 16), some (.int (jb false)), some (.int (jn (li + 1))), none] rfl rfl (t_chP3 (d := d) (id := li + 1) hI.1 (by omega) hX hs hu) ?_
    intro M2 ⟨hc2, hf2⟩
    have hI2 := cI_C hI hf2 hc2
    show jZ _ _ _ _ [.int (jb false)] _ _
    refine z_ifeq 59 55 c_61_52 rfl jb_t (fun _ => ?_) (fun h => absurd rfl h)
    refine z_go 61 _ [.int ((-2))] _ c_61_59 rfl ?_
    refine z_go 62 [some (.ref 16), some (.int ((-2))), some (.int (jn (li + 1)))] [] _ c_61_61 rfl ?_
    refine z_go 63 _ [.ref 16] _ c_61_62 rfl ?_
    refine z_go 64 _ [.int (jn 0), .ref 16] _ c_61_63 rfl ?_
    refine z_putf (M' := jm [(16, xO 0 0 0 true)] M2) 67 c_61_64 rfl hI2.1.1 (rfl) (Nat.le_of_ble_eq_true rfl) rfl ?_
    have hs3 : sm 16 16 M2 (jm [(16, xO 0 0 0 true)] M2) := sm_jm rfl
    have hI3 := cI_16 hI2 hs3 rfl
    refine z_go 68 _ [.int ((-2))] _ c_61_67 rfl ?_
    refine z_iret c_61_68 ?_
    exact ⟨rfl, hI3, (fX_C hf2).tr (fX_m hs3 (by decide) (by decide))⟩
  · omega
theorem t_regN4 {d : Nat} {ty : Nat} {tx : Nat → Nat} {hc : Nat} {hit : Nat → Nat} {p : Nat → Nat} {sz li : Nat} {ids : Nat → Nat} {G : Nat → GR} {rm : Bool} {id : Nat} {Z : GR} {M : jx_M} (hI : cI M ty tx hc hit 4 false p sz li ids G false rm id Z) (hu : sz < 12) (hli : li + 1 < 2 ^ 31) {X : GR} (hX : jgr M 28 X) (hs : sp_sl ids (jn (li + 1)) sz 0 = none) : jZ (d + 4) 61 9 [some (.ref 16), none, none] [.int (jn 0)] M (jV (some (.int (-2))) fun M' => cI M' 0 tx 0 hit 0 true p (sz + 1) (li + 1) (nu ids sz (li + 1)) (nu G sz X) true false (li + 1) X ∧ fX M M') := by
  refine z_go 10 [some (.ref 16), some (.int (jn 0)), none] [] _ c_61_9 rfl ?_
  refine z_go 11 _ [.int (jn 0)] _ c_61_10 rfl ?_
  refine z_ifne 62 14 c_61_11 rfl (jn_z (by decide)) (fun _ => ?_) (fun h => absurd rfl h)
  refine z_go 15 _ [.ref 16] _ c_61_14 rfl ?_
  refine z_getf (v := .ref 35) 18 c_61_15 rfl hI.1.1 rfl ?_
  refine z_getf (v := .int (jn sz)) 21 c_61_18 rfl hI.1.2.1.1 rfl ?_
  refine z_go 23 _ [.int (jn 12), .int (jn sz)] _ c_61_21 rfl ?_
  refine z_ilt 36 26 c_61_23 rfl (by omega) (by omega) (fun h12 => ?_) (fun h12 => ?_)
  · refine z_go 37 _ [.ref 16] _ c_61_36 rfl ?_
    refine z_getf (v := .ref 35) 40 c_61_37 rfl hI.1.1 rfl ?_
    refine z_getf (v := .int (jn li)) 43 c_61_40 rfl hI.1.2.1.1 rfl ?_
    refine z_go 44 _ [.int (jn 1), .int (jn li)] _ c_61_43 rfl ?_
    refine z_go 45 _ [.int ((jn li) + (jn 1))] _ c_61_44 rfl ?_
    refine z_v (jn_add _ _) ?_
    refine z_go 46 [some (.ref 16), some (.int (jn 0)), some (.int (jn (li + 1)))] [] _ c_61_45 rfl ?_
    refine z_go 47 _ [.ref 16] _ c_61_46 rfl ?_
    refine z_go 48 _ [.int (jn 0), .ref 16] _ c_61_47 rfl ?_
    refine z_go 49 _ [.int (jn (li + 1)), .int (jn 0), .ref 16] _ c_61_48 rfl ?_
    refine z_callvV 52 5 65 2 16 c_61_49 rfl ⟨Nat.le_of_ble_eq_true rfl, Nat.le_of_ble_eq_true rfl⟩ rfl hI.1.1 [.ref 16, .int (jb false), .int (jn (li + 1))] rfl rfl [some (.ref 16), some (.int (jb false)), some (.int (jn (li + 1))), none] rfl rfl (t_chP4 (d := d) (id := li + 1) hI.1 (by omega) hX hs hu) ?_
    intro M2 ⟨hc2, hf2⟩
    have hI2 := cI_C hI hf2 hc2
    show jZ _ _ _ _ [.int (jb false)] _ _
    refine z_ifeq 59 55 c_61_52 rfl jb_t (fun _ => ?_) (fun h => absurd rfl h)
    refine z_go 61 _ [.int ((-2))] _ c_61_59 rfl ?_
    refine z_go 62 [some (.ref 16), some (.int ((-2))), some (.int (jn (li + 1)))] [] _ c_61_61 rfl ?_
    refine z_go 63 _ [.ref 16] _ c_61_62 rfl ?_
    refine z_go 64 _ [.int (jn 0), .ref 16] _ c_61_63 rfl ?_
    refine z_putf (M' := jm [(16, xO 0 0 0 true)] M2) 67 c_61_64 rfl hI2.1.1 (rfl) (Nat.le_of_ble_eq_true rfl) rfl ?_
    have hs3 : sm 16 16 M2 (jm [(16, xO 0 0 0 true)] M2) := sm_jm rfl
    have hI3 := cI_16 hI2 hs3 rfl
    refine z_go 68 _ [.int ((-2))] _ c_61_67 rfl ?_
    refine z_iret c_61_68 ?_
    exact ⟨rfl, hI3, (fX_C hf2).tr (fX_m hs3 (by decide) (by decide))⟩
  · omega
theorem t_rem7 {d : Nat} {x : Int32} {ty : Nat} {tx : Nat → Nat} {hc : Nat} {hit : Nat → Nat} {tf : Nat} {p : Nat → Nat} {sz li : Nat} {ids : Nat → Nat} {G : Nat → GR} {mk rm : Bool} {id : Nat} {Z : GR} {M : jx_M} (hI : cI M ty tx hc hit tf true p sz li ids G mk rm id Z) (hB : jB1 M) : jZ (d + 1) 68 0 [some (.ref 16), some (.int x)] [] M (jT 7 fun M1 => cI M1 ty tx hc hit tf true p sz li ids G mk rm id Z ∧ fX M M1) := by
  refine z_go 1 _ [.ref 16] _ c_68_0 rfl ?_
  refine z_callvT 5 63 0 16 c_68_1 ⟨Nat.le_of_ble_eq_true rfl, Nat.le_of_ble_eq_true rfl⟩ rfl hI.1.1 [.ref 16] rfl [some (.ref 16)] rfl rfl (by decide) (t_ref1 hI.1.1 hB) ?_
  exact fun M1 h => ⟨M1, rfl, rfl, by rw [h]; exact ⟨hI, fX_r M⟩⟩
theorem t_rem0 {d : Nat} {x : Int32} {ty : Nat} {tx : Nat → Nat} {hc : Nat} {hit : Nat → Nat} {tf : Nat} {p : Nat → Nat} {sz li : Nat} {ids : Nat → Nat} {G : Nat → GR} {mk rm : Bool} {id : Nat} {Z : GR} {M : jx_M} (hI : cI M ty tx hc hit tf false p sz li ids G mk rm id Z) (hsz : sz ≤ 12) (hs : sp_sl ids x sz 0 = none) : jZ (d + 1) 68 0 [some (.ref 16), some (.int x)] [] M (jV (some (.int (jn 0))) fun M' => cI M' ty tx hc hit tf false p sz li ids G mk rm id Z ∧ fX M M') := by
  refine z_go 1 _ [.ref 16] _ c_68_0 rfl ?_
  refine z_callv 4 5 63 0 16 c_68_1 rfl ⟨Nat.le_of_ble_eq_true rfl, Nat.le_of_ble_eq_true rfl⟩ rfl hI.1.1 [.ref 16] rfl rfl [some (.ref 16)] rfl rfl (t_ref0 hI.1.1) ?_
  show jZ _ _ _ _ [] _ _
  refine z_go 5 _ [.ref 16] _ c_68_4 rfl ?_
  refine z_getf (v := .ref 35) 8 c_68_5 rfl hI.1.1 rfl ?_
  refine z_go 9 _ [.int x, .ref 35] _ c_68_8 rfl ?_
  refine z_callv 12 4 44 1 35 c_68_9 rfl ⟨Nat.le_of_ble_eq_true rfl, Nat.le_of_ble_eq_true rfl⟩ rfl hI.1.2.1.1 [.ref 35, .int x] rfl rfl [some (.ref 35), some (.int x), none] rfl rfl (t_slot (x := x) hI.1.2.1.1 hI.1.2.1.2.2.1 hsz) ?_
  show jZ _ _ _ _ [.int (jo (sp_sl ids x sz 0))] _ _
  rw [hs]
  show jZ _ _ _ _ [.int (jo none)] _ _
  refine z_go 13 _ [.int (jo none), .int (jo none)] _ c_68_12 rfl ?_
  refine z_ine 18 16 c_68_13 rfl Iff.rfl (fun _ => ?_) (fun h => absurd rfl h)
  refine z_go 17 _ [.int (jn 0)] _ c_68_16 rfl ?_
  refine z_iret c_68_17 ?_
  exact ⟨rfl, hI, fX_r M⟩
theorem t_remN0 {d : Nat} {ty : Nat} {tx : Nat → Nat} {hc : Nat} {hit : Nat → Nat} {p : Nat → Nat} {sz li : Nat} {ids : Nat → Nat} {G : Nat → GR} {rm : Bool} {id : Nat} {Z : GR} {M : jx_M} (hI : cI M ty tx hc hit 0 false p sz li ids G false rm id Z) (hsz : sz ≤ 12) {go : Nat} (hs : sp_sl ids (jn (ids go)) sz 0 = some go) : jZ (d + 4) 68 0 [some (.ref 16), some (.int (jn (ids go)))] [] M (jV (some (.int (jn 1))) fun M' => cI M' ty tx 0 hit 0 false (sp_tk p go sz) (sz - 1) li (sp_sh ids go (sz - 1)) (sp_tk G go sz) false false 0 Z ∧ fX M M') := by
  obtain ⟨-, hgo, -⟩ := sp_sl_some hs
  refine z_go 1 _ [.ref 16] _ c_68_0 rfl ?_
  refine z_callv 4 5 63 0 16 c_68_1 rfl ⟨Nat.le_of_ble_eq_true rfl, Nat.le_of_ble_eq_true rfl⟩ rfl hI.1.1 [.ref 16] rfl rfl [some (.ref 16)] rfl rfl (t_ref0 hI.1.1) ?_
  show jZ _ _ _ _ [] _ _
  refine z_go 5 _ [.ref 16] _ c_68_4 rfl ?_
  refine z_getf (v := .ref 35) 8 c_68_5 rfl hI.1.1 rfl ?_
  refine z_go 9 _ [.int (jn ((ids go))), .ref 35] _ c_68_8 rfl ?_
  refine z_callv 12 4 44 1 35 c_68_9 rfl ⟨Nat.le_of_ble_eq_true rfl, Nat.le_of_ble_eq_true rfl⟩ rfl hI.1.2.1.1 [.ref 35, .int (jn ((ids go)))] rfl rfl [some (.ref 35), some (.int (jn ((ids go)))), none] rfl rfl (t_slot (x := jn (ids go)) hI.1.2.1.1 hI.1.2.1.2.2.1 hsz) ?_
  show jZ _ _ _ _ [.int (jo (sp_sl ids (jn (ids go)) sz 0))] _ _
  rw [hs]
  show jZ _ _ _ _ [.int (jn go)] _ _
  refine z_go 13 _ [.int (jo none), .int (jn go)] _ c_68_12 rfl ?_
  refine z_ine 18 16 c_68_13 rfl (jn_m1 (by omega)) (fun h => h.elim) (fun _ => ?_)
  refine z_go 19 _ [.ref 16] _ c_68_18 rfl ?_
  refine z_go 20 _ [.int (jn 1), .ref 16] _ c_68_19 rfl ?_
  refine z_go 21 _ [.int (jn ((ids go))), .int (jn 1), .ref 16] _ c_68_20 rfl ?_
  refine z_callvV 24 5 65 2 16 c_68_21 rfl ⟨Nat.le_of_ble_eq_true rfl, Nat.le_of_ble_eq_true rfl⟩ rfl hI.1.1 [.ref 16, .int (jb true), .int (jn ((ids go)))] rfl rfl [some (.ref 16), some (.int (jb true)), some (.int (jn ((ids go)))), none] rfl rfl (t_chT0 (d := d) (id := ids go) hI.1 hsz hs) ?_
  intro M2 ⟨hc2, hf2⟩
  have hI2 := cI_C hI hf2 hc2
  show jZ _ _ _ _ [.int (jb true)] _ _
  refine z_ifeq 31 27 c_68_24 rfl jb_t (fun h => absurd h (by decide)) (fun _ => ?_)
  refine z_go 28 _ [.int (jn 1)] _ c_68_27 rfl ?_
  refine z_go 33 _ [.int (jn 1)] _ c_68_28 rfl ?_
  refine z_iret c_68_33 ?_
  exact ⟨rfl, hI2, fX_C hf2⟩
theorem t_remN1 {d : Nat} {ty : Nat} {tx : Nat → Nat} {hc : Nat} {hit : Nat → Nat} {p : Nat → Nat} {sz li : Nat} {ids : Nat → Nat} {G : Nat → GR} {rm : Bool} {id : Nat} {Z : GR} {M : jx_M} (hI : cI M ty tx hc hit 1 false p sz li ids G false rm id Z) (hsz : sz ≤ 12) {go : Nat} (hs : sp_sl ids (jn (ids go)) sz 0 = some go) : jZ (d + 4) 68 0 [some (.ref 16), some (.int (jn (ids go)))] [] M (jV (some (.int (-2))) fun M' => cI M' ty tx 0 hit 0 true p sz li ids G false rm id Z ∧ fX M M') := by
  obtain ⟨-, hgo, -⟩ := sp_sl_some hs
  refine z_go 1 _ [.ref 16] _ c_68_0 rfl ?_
  refine z_callv 4 5 63 0 16 c_68_1 rfl ⟨Nat.le_of_ble_eq_true rfl, Nat.le_of_ble_eq_true rfl⟩ rfl hI.1.1 [.ref 16] rfl rfl [some (.ref 16)] rfl rfl (t_ref0 hI.1.1) ?_
  show jZ _ _ _ _ [] _ _
  refine z_go 5 _ [.ref 16] _ c_68_4 rfl ?_
  refine z_getf (v := .ref 35) 8 c_68_5 rfl hI.1.1 rfl ?_
  refine z_go 9 _ [.int (jn ((ids go))), .ref 35] _ c_68_8 rfl ?_
  refine z_callv 12 4 44 1 35 c_68_9 rfl ⟨Nat.le_of_ble_eq_true rfl, Nat.le_of_ble_eq_true rfl⟩ rfl hI.1.2.1.1 [.ref 35, .int (jn ((ids go)))] rfl rfl [some (.ref 35), some (.int (jn ((ids go)))), none] rfl rfl (t_slot (x := jn (ids go)) hI.1.2.1.1 hI.1.2.1.2.2.1 hsz) ?_
  show jZ _ _ _ _ [.int (jo (sp_sl ids (jn (ids go)) sz 0))] _ _
  rw [hs]
  show jZ _ _ _ _ [.int (jn go)] _ _
  refine z_go 13 _ [.int (jo none), .int (jn go)] _ c_68_12 rfl ?_
  refine z_ine 18 16 c_68_13 rfl (jn_m1 (by omega)) (fun h => h.elim) (fun _ => ?_)
  refine z_go 19 _ [.ref 16] _ c_68_18 rfl ?_
  refine z_go 20 _ [.int (jn 1), .ref 16] _ c_68_19 rfl ?_
  refine z_go 21 _ [.int (jn ((ids go))), .int (jn 1), .ref 16] _ c_68_20 rfl ?_
  refine z_callvV 24 5 65 2 16 c_68_21 rfl ⟨Nat.le_of_ble_eq_true rfl, Nat.le_of_ble_eq_true rfl⟩ rfl hI.1.1 [.ref 16, .int (jb true), .int (jn ((ids go)))] rfl rfl [some (.ref 16), some (.int (jb true)), some (.int (jn ((ids go)))), none] rfl rfl (t_chT1 (d := d) (id := ids go) hI.1 hsz hs) ?_
  intro M2 ⟨hc2, hf2⟩
  have hI2 := cI_C hI hf2 hc2
  show jZ _ _ _ _ [.int (jb false)] _ _
  refine z_ifeq 31 27 c_68_24 rfl jb_t (fun _ => ?_) (fun h => absurd rfl h)
  refine z_go 33 _ [.int ((-2))] _ c_68_31 rfl ?_
  refine z_iret c_68_33 ?_
  exact ⟨rfl, hI2, fX_C hf2⟩
theorem t_remN2 {d : Nat} {ty : Nat} {tx : Nat → Nat} {hc : Nat} {hit : Nat → Nat} {p : Nat → Nat} {sz li : Nat} {ids : Nat → Nat} {G : Nat → GR} {rm : Bool} {id : Nat} {Z : GR} {M : jx_M} (hI : cI M ty tx hc hit 2 false p sz li ids G false rm id Z) (hsz : sz ≤ 12) {go : Nat} (hs : sp_sl ids (jn (ids go)) sz 0 = some go) : jZ (d + 4) 68 0 [some (.ref 16), some (.int (jn (ids go)))] [] M (jV (some (.int (-2))) fun M' => cI M' ty tx 0 hit 0 true p sz li ids G false true (ids go) Z ∧ fX M M') := by
  obtain ⟨-, hgo, -⟩ := sp_sl_some hs
  refine z_go 1 _ [.ref 16] _ c_68_0 rfl ?_
  refine z_callv 4 5 63 0 16 c_68_1 rfl ⟨Nat.le_of_ble_eq_true rfl, Nat.le_of_ble_eq_true rfl⟩ rfl hI.1.1 [.ref 16] rfl rfl [some (.ref 16)] rfl rfl (t_ref0 hI.1.1) ?_
  show jZ _ _ _ _ [] _ _
  refine z_go 5 _ [.ref 16] _ c_68_4 rfl ?_
  refine z_getf (v := .ref 35) 8 c_68_5 rfl hI.1.1 rfl ?_
  refine z_go 9 _ [.int (jn ((ids go))), .ref 35] _ c_68_8 rfl ?_
  refine z_callv 12 4 44 1 35 c_68_9 rfl ⟨Nat.le_of_ble_eq_true rfl, Nat.le_of_ble_eq_true rfl⟩ rfl hI.1.2.1.1 [.ref 35, .int (jn ((ids go)))] rfl rfl [some (.ref 35), some (.int (jn ((ids go)))), none] rfl rfl (t_slot (x := jn (ids go)) hI.1.2.1.1 hI.1.2.1.2.2.1 hsz) ?_
  show jZ _ _ _ _ [.int (jo (sp_sl ids (jn (ids go)) sz 0))] _ _
  rw [hs]
  show jZ _ _ _ _ [.int (jn go)] _ _
  refine z_go 13 _ [.int (jo none), .int (jn go)] _ c_68_12 rfl ?_
  refine z_ine 18 16 c_68_13 rfl (jn_m1 (by omega)) (fun h => h.elim) (fun _ => ?_)
  refine z_go 19 _ [.ref 16] _ c_68_18 rfl ?_
  refine z_go 20 _ [.int (jn 1), .ref 16] _ c_68_19 rfl ?_
  refine z_go 21 _ [.int (jn ((ids go))), .int (jn 1), .ref 16] _ c_68_20 rfl ?_
  refine z_callvV 24 5 65 2 16 c_68_21 rfl ⟨Nat.le_of_ble_eq_true rfl, Nat.le_of_ble_eq_true rfl⟩ rfl hI.1.1 [.ref 16, .int (jb true), .int (jn ((ids go)))] rfl rfl [some (.ref 16), some (.int (jb true)), some (.int (jn ((ids go)))), none] rfl rfl (t_chT2 (d := d) (id := ids go) hI.1 hsz hs) ?_
  intro M2 ⟨hc2, hf2⟩
  have hI2 := cI_C hI hf2 hc2
  show jZ _ _ _ _ [.int (jb false)] _ _
  refine z_ifeq 31 27 c_68_24 rfl jb_t (fun _ => ?_) (fun h => absurd rfl h)
  refine z_go 33 _ [.int ((-2))] _ c_68_31 rfl ?_
  refine z_iret c_68_33 ?_
  exact ⟨rfl, hI2, fX_C hf2⟩
theorem t_remN3 {d : Nat} {ty : Nat} {tx : Nat → Nat} {hc : Nat} {hit : Nat → Nat} {p : Nat → Nat} {sz li : Nat} {ids : Nat → Nat} {G : Nat → GR} {rm : Bool} {id : Nat} {Z : GR} {M : jx_M} (hI : cI M ty tx hc hit 3 false p sz li ids G false rm id Z) (hsz : sz ≤ 12) {go : Nat} (hs : sp_sl ids (jn (ids go)) sz 0 = some go) : jZ (d + 4) 68 0 [some (.ref 16), some (.int (jn (ids go)))] [] M (jV (some (.int (-2))) fun M' => cI M' ty tx 0 hit 0 true p sz li ids G true true (ids go) Z ∧ fX M M') := by
  obtain ⟨-, hgo, -⟩ := sp_sl_some hs
  refine z_go 1 _ [.ref 16] _ c_68_0 rfl ?_
  refine z_callv 4 5 63 0 16 c_68_1 rfl ⟨Nat.le_of_ble_eq_true rfl, Nat.le_of_ble_eq_true rfl⟩ rfl hI.1.1 [.ref 16] rfl rfl [some (.ref 16)] rfl rfl (t_ref0 hI.1.1) ?_
  show jZ _ _ _ _ [] _ _
  refine z_go 5 _ [.ref 16] _ c_68_4 rfl ?_
  refine z_getf (v := .ref 35) 8 c_68_5 rfl hI.1.1 rfl ?_
  refine z_go 9 _ [.int (jn ((ids go))), .ref 35] _ c_68_8 rfl ?_
  refine z_callv 12 4 44 1 35 c_68_9 rfl ⟨Nat.le_of_ble_eq_true rfl, Nat.le_of_ble_eq_true rfl⟩ rfl hI.1.2.1.1 [.ref 35, .int (jn ((ids go)))] rfl rfl [some (.ref 35), some (.int (jn ((ids go)))), none] rfl rfl (t_slot (x := jn (ids go)) hI.1.2.1.1 hI.1.2.1.2.2.1 hsz) ?_
  show jZ _ _ _ _ [.int (jo (sp_sl ids (jn (ids go)) sz 0))] _ _
  rw [hs]
  show jZ _ _ _ _ [.int (jn go)] _ _
  refine z_go 13 _ [.int (jo none), .int (jn go)] _ c_68_12 rfl ?_
  refine z_ine 18 16 c_68_13 rfl (jn_m1 (by omega)) (fun h => h.elim) (fun _ => ?_)
  refine z_go 19 _ [.ref 16] _ c_68_18 rfl ?_
  refine z_go 20 _ [.int (jn 1), .ref 16] _ c_68_19 rfl ?_
  refine z_go 21 _ [.int (jn ((ids go))), .int (jn 1), .ref 16] _ c_68_20 rfl ?_
  refine z_callvV 24 5 65 2 16 c_68_21 rfl ⟨Nat.le_of_ble_eq_true rfl, Nat.le_of_ble_eq_true rfl⟩ rfl hI.1.1 [.ref 16, .int (jb true), .int (jn ((ids go)))] rfl rfl [some (.ref 16), some (.int (jb true)), some (.int (jn ((ids go)))), none] rfl rfl (t_chT3 (d := d) (id := ids go) hI.1 hsz hs) ?_
  intro M2 ⟨hc2, hf2⟩
  have hI2 := cI_C hI hf2 hc2
  show jZ _ _ _ _ [.int (jb false)] _ _
  refine z_ifeq 31 27 c_68_24 rfl jb_t (fun _ => ?_) (fun h => absurd rfl h)
  refine z_go 33 _ [.int ((-2))] _ c_68_31 rfl ?_
  refine z_iret c_68_33 ?_
  exact ⟨rfl, hI2, fX_C hf2⟩
theorem t_remN4 {d : Nat} {ty : Nat} {tx : Nat → Nat} {hc : Nat} {hit : Nat → Nat} {p : Nat → Nat} {sz li : Nat} {ids : Nat → Nat} {G : Nat → GR} {rm : Bool} {id : Nat} {Z : GR} {M : jx_M} (hI : cI M ty tx hc hit 4 false p sz li ids G false rm id Z) (hsz : sz ≤ 12) {go : Nat} (hs : sp_sl ids (jn (ids go)) sz 0 = some go) : jZ (d + 4) 68 0 [some (.ref 16), some (.int (jn (ids go)))] [] M (jV (some (.int (-2))) fun M' => cI M' ty tx 0 hit 0 true (sp_tk p go sz) (sz - 1) li (sp_sh ids go (sz - 1)) (sp_tk G go sz) true true (ids go) Z ∧ fX M M') := by
  obtain ⟨-, hgo, -⟩ := sp_sl_some hs
  refine z_go 1 _ [.ref 16] _ c_68_0 rfl ?_
  refine z_callv 4 5 63 0 16 c_68_1 rfl ⟨Nat.le_of_ble_eq_true rfl, Nat.le_of_ble_eq_true rfl⟩ rfl hI.1.1 [.ref 16] rfl rfl [some (.ref 16)] rfl rfl (t_ref0 hI.1.1) ?_
  show jZ _ _ _ _ [] _ _
  refine z_go 5 _ [.ref 16] _ c_68_4 rfl ?_
  refine z_getf (v := .ref 35) 8 c_68_5 rfl hI.1.1 rfl ?_
  refine z_go 9 _ [.int (jn ((ids go))), .ref 35] _ c_68_8 rfl ?_
  refine z_callv 12 4 44 1 35 c_68_9 rfl ⟨Nat.le_of_ble_eq_true rfl, Nat.le_of_ble_eq_true rfl⟩ rfl hI.1.2.1.1 [.ref 35, .int (jn ((ids go)))] rfl rfl [some (.ref 35), some (.int (jn ((ids go)))), none] rfl rfl (t_slot (x := jn (ids go)) hI.1.2.1.1 hI.1.2.1.2.2.1 hsz) ?_
  show jZ _ _ _ _ [.int (jo (sp_sl ids (jn (ids go)) sz 0))] _ _
  rw [hs]
  show jZ _ _ _ _ [.int (jn go)] _ _
  refine z_go 13 _ [.int (jo none), .int (jn go)] _ c_68_12 rfl ?_
  refine z_ine 18 16 c_68_13 rfl (jn_m1 (by omega)) (fun h => h.elim) (fun _ => ?_)
  refine z_go 19 _ [.ref 16] _ c_68_18 rfl ?_
  refine z_go 20 _ [.int (jn 1), .ref 16] _ c_68_19 rfl ?_
  refine z_go 21 _ [.int (jn ((ids go))), .int (jn 1), .ref 16] _ c_68_20 rfl ?_
  refine z_callvV 24 5 65 2 16 c_68_21 rfl ⟨Nat.le_of_ble_eq_true rfl, Nat.le_of_ble_eq_true rfl⟩ rfl hI.1.1 [.ref 16, .int (jb true), .int (jn ((ids go)))] rfl rfl [some (.ref 16), some (.int (jb true)), some (.int (jn ((ids go)))), none] rfl rfl (t_chT4 (d := d) (id := ids go) hI.1 hsz hs) ?_
  intro M2 ⟨hc2, hf2⟩
  have hI2 := cI_C hI hf2 hc2
  show jZ _ _ _ _ [.int (jb false)] _ _
  refine z_ifeq 31 27 c_68_24 rfl jb_t (fun _ => ?_) (fun h => absurd rfl h)
  refine z_go 33 _ [.int ((-2))] _ c_68_31 rfl ?_
  refine z_iret c_68_33 ?_
  exact ⟨rfl, hI2, fX_C hf2⟩
def sp_hits (p : Nat → Bool) (ids : Nat → Nat) : Nat → Nat → Nat × (Nat → Nat) → Nat × (Nat → Nat)
  | 0, _, H => H
  | k + 1, i, H => sp_hits p ids k (i + 1) (if p i = true then (H.1 + 1, nu H.2 H.1 (ids i)) else H)
theorem t_sea_l {d : Nat} {ty : Nat} {tx : Nat → Nat} {tf : Nat} {p : Nat → Nat} {sz li : Nat} {ids : Nat → Nat} {G : Nat → GR} {mk rm : Bool} {id : Nat} {Z : GR} {X : GR} (hsz : sz ≤ 12) (hx : xOk X) (hy : ∀ s, s < sz → yOk (G s)) : ∀ {k i hc : Nat} {hit : Nat → Nat} {M : jx_M}, i + k = sz → hc ≤ i → cI M ty tx hc hit tf false p sz li ids G mk rm id Z → jgr M 28 X → jZ (d + 13) 67 17 [some (.ref 16), some (.int (jn i))] [] M (jV (some (.int (jn (sp_hits (fun s => sIn X (G s)) ids k i (hc, hit)).1))) fun M' => cI M' ty tx (sp_hits (fun s => sIn X (G s)) ids k i (hc, hit)).1 (sp_hits (fun s => sIn X (G s)) ids k i (hc, hit)).2 tf false p sz li ids G mk rm id Z ∧ fX M M') := by
  intro k
  induction k with
  | zero =>
    intro i hc hit M hk hh hI hX
    refine z_go 18 _ [.int (jn i)] _ c_67_17 rfl ?_
    refine z_go 19 _ [.ref 16, .int (jn i)] _ c_67_18 rfl ?_
    refine z_getf (v := .ref 35) 22 c_67_19 rfl hI.1.1 rfl ?_
    refine z_getf (v := .int (jn sz)) 25 c_67_22 rfl hI.1.2.1.1 rfl ?_
    refine z_ige 85 28 c_67_25 rfl (by omega) (by omega) (fun hi => ?_) (fun hi => ?_)
    · omega
    · refine z_go 86 _ [.ref 16] _ c_67_85 rfl ?_
      refine z_getf (v := .int (jn hc)) 89 c_67_86 rfl hI.1.1 rfl ?_
      refine z_iret c_67_89 ?_
      exact ⟨rfl, hI, fX_r M⟩
  | succ k ih =>
    intro i hc hit M hk hh hI hX
    refine z_go 18 _ [.int (jn i)] _ c_67_17 rfl ?_
    refine z_go 19 _ [.ref 16, .int (jn i)] _ c_67_18 rfl ?_
    refine z_getf (v := .ref 35) 22 c_67_19 rfl hI.1.1 rfl ?_
    refine z_getf (v := .int (jn sz)) 25 c_67_22 rfl hI.1.2.1.1 rfl ?_
    refine z_ige 85 28 c_67_25 rfl (by omega) (by omega) (fun hi => ?_) (fun hi => ?_)
    · have hpi := hI.1.2.1.2.2.2.1 i (by omega)
      refine z_go 29 _ [.ref 16] _ c_67_28 rfl ?_
      refine z_getf (v := .ref 32) 32 c_67_29 rfl hI.1.1 rfl ?_
      refine z_go 33 _ [.ref 16, .ref 32] _ c_67_32 rfl ?_
      refine z_getf (v := .ref 28) 36 c_67_33 rfl hI.1.1 rfl ?_
      refine z_go 37 _ [.ref 16, .ref 28, .ref 32] _ c_67_36 rfl ?_
      refine z_getf (v := .ref 35) 40 c_67_37 rfl hI.1.1 rfl ?_
      refine z_getf (v := .ref 36) 43 c_67_40 rfl hI.1.2.1.1 rfl ?_
      refine z_go 44 _ [.int (jn i), .ref 36, .ref 28, .ref 32] _ c_67_43 rfl ?_
      refine z_aaldq 45 c_67_44 rfl hI.1.2.1.2.1 (by omega) ?_
      refine z_callvV 48 2 21 2 32 c_67_45 rfl ⟨Nat.le_of_ble_eq_true rfl, Nat.le_of_ble_eq_true rfl⟩ rfl hI.2.2.2.2.1.1 [.ref 32, .ref 28, .ref (p i)] rfl rfl [some (.ref 32), some (.ref 28), some (.ref (p i))] rfl rfl (t_inX (d := d) hX (hI.1.2.1.2.2.2.2.2 i (by omega)) hx (hy i hi) (by omega) hI.2.2.2.2.1 hI.2.2.2.2.2.2.1) ?_
      intro M1 ⟨hs1, hm1⟩
      have hI1 := cI_m hI hs1 hm1
      have hX1 : jgr M1 28 X := jgr_fr hX fun k a b => hs1.1 k (by omega)
      have hf1 : fX M M1 := fX_m hs1 (by decide) (by decide)
      show jZ _ _ _ _ [.int (jb (sIn X (G i)))] _ _
      refine z_ifeq 79 51 c_67_48 rfl jb_t (fun h1 => ?_) (fun h1 => ?_)
      · refine z_iinc 82 [some (.ref 16), some (.int (jn (i + 1)))] c_67_79 rfl rfl (jn_add _ _) rfl ?_
        refine z_go 17 _ [] _ c_67_82 rfl ?_
        have e1 : sp_hits (fun s => sIn X (G s)) ids (k + 1) i (hc, hit) = sp_hits (fun s => sIn X (G s)) ids k (i + 1) (hc, hit) := by rw [sp_hits, if_neg (by rw [h1]; decide)]
        rw [e1]
        exact (ih (i := i + 1) (by omega) (by omega) hI1 hX1).mono fun r M2 q => ⟨q.1, q.2.1, hf1.tr q.2.2⟩
      · have h2 : sIn X (G i) = true := by cases hh : sIn X (G i) <;> simp_all
        refine z_go 52 _ [.ref 16] _ c_67_51 rfl ?_
        refine z_getf (v := .ref 91) 55 c_67_52 rfl hI1.1.1 rfl ?_
        refine z_go 56 _ [.ref 16, .ref 91] _ c_67_55 rfl ?_
        refine z_getf (v := .int (jn hc)) 59 c_67_56 rfl hI1.1.1 rfl ?_
        refine z_go 60 _ [.ref 16, .int (jn hc), .ref 91] _ c_67_59 rfl ?_
        refine z_getf (v := .ref 35) 63 c_67_60 rfl hI1.1.1 rfl ?_
        refine z_getf (v := .ref 37) 66 c_67_63 rfl hI1.1.2.1.1 rfl ?_
        refine z_go 67 _ [.int (jn i), .ref 37, .int (jn hc), .ref 91] _ c_67_66 rfl ?_
        refine z_iald 68 c_67_67 rfl hI1.1.2.1.2.2.1 (Or.inl rfl) (by omega) (by omega) ?_
        show jZ _ _ _ _ ([.int (jn (ids i)), .int (jn hc), .ref 91]) _ _
        refine z_iast (M' := jm [(91, .inl (0, 12, .inl (ja (nu hit hc (ids i)))))] M1) 69 c_67_68 rfl hI1.2.2.2.2.2.1 (by omega) (by omega) (by rw [ja_upd]; exact rfl) ?_
        refine z_go 70 _ [.ref 16] _ c_67_69 rfl ?_
        refine z_go 71 _ [.ref 16, .ref 16] _ c_67_70 rfl ?_
        refine z_getf (v := .int (jn hc)) 74 c_67_71 rfl hI1.1.1 rfl ?_
        refine z_go 75 _ [.int (jn 1), .int (jn hc), .ref 16] _ c_67_74 rfl ?_
        refine z_go 76 _ [.int ((jn hc) + (jn 1)), .ref 16] _ c_67_75 rfl ?_
        refine z_v (jn_add _ _) ?_
        refine z_putf (M' := jm [(16, xO ty (hc + 1) tf false), (91, .inl (0, 12, .inl (ja (nu hit hc (ids i)))))] M1) 79 c_67_76 rfl hI1.1.1 (rfl) (Nat.le_of_ble_eq_true rfl) rfl ?_
        refine z_iinc 82 [some (.ref 16), some (.int (jn (i + 1)))] c_67_79 rfl rfl (jn_add _ _) rfl ?_
        refine z_go 17 _ [] _ c_67_82 rfl ?_
        have e1 : sp_hits (fun s => sIn X (G s)) ids (k + 1) i (hc, hit) = sp_hits (fun s => sIn X (G s)) ids k (i + 1) (hc + 1, nu hit hc (ids i)) := by rw [sp_hits, if_pos h2]
        rw [e1]
        have hfw : ∀ k, k ≠ 16 → k ≠ 91 → (jm [(16, xO ty (hc + 1) tf false), (91, .inl (0, 12, .inl (ja (nu hit hc (ids i)))))] M1).1 k = M1.1 k := fun k h1 h2 => (if_neg (by omega)).trans (if_neg (by omega))
        have hI2 : cI (jm [(16, xO ty (hc + 1) tf false), (91, .inl (0, 12, .inl (ja (nu hit hc (ids i)))))] M1) ty tx (hc + 1) (nu hit hc (ids i)) tf false p sz li ids G mk rm id Z := by
          obtain ⟨⟨g1, g2, g3, g4⟩, g5, g6, ⟨Y, g7⟩, g8, g9, g10, g11⟩ := hI1
          exact ⟨⟨rfl, jsh_fr g2 fun k a b => hfw k (by omega) (by omega), (hfw 86 (by decide) (by decide)).trans g3, jgr_fr g4 fun k a b => hfw k (by omega) (by omega)⟩, (hfw 17 (by decide) (by decide)).trans g5, rSh_fr g6 fun k a b => hfw k (by omega) (by omega), ⟨Y, jgr_fr g7 fun k a b => hfw k (by omega) (by omega)⟩, mt_fr g8 fun k a b => hfw k (by omega) (by omega), rfl, jc_fr g10 fun k a => hfw k (by omega) (by omega), (hfw 1 (by decide) (by decide)).trans g11⟩
        have hX2 : jgr (jm [(16, xO ty (hc + 1) tf false), (91, .inl (0, 12, .inl (ja (nu hit hc (ids i)))))] M1) 28 X := jgr_fr hX1 fun k a b => hfw k (by omega) (by omega)
        exact (ih (i := i + 1) (by omega) (by omega) hI2 hX2).mono fun r M2 q => ⟨q.1, q.2.1, hf1.tr (fX.tr ⟨fun k hk => hfw k (by omega) (by omega), rfl⟩ q.2.2)⟩
    · omega
theorem t_search {d : Nat} {ty : Nat} {tx : Nat → Nat} {hc : Nat} {hit : Nat → Nat} {tf : Nat} {p : Nat → Nat} {sz li : Nat} {ids : Nat → Nat} {G : Nat → GR} {mk rm : Bool} {id : Nat} {Z : GR} {M : jx_M} (hI : cI M ty tx hc hit tf false p sz li ids G mk rm id Z) (hty : ty ≤ 40) (htx : ∀ j, tx j < 127) (hB : jB1 M) (A : Nat → MA) (bm : Nat → Nat) (oa' : Nat → Option Nat) (ol' bk' : Nat → Nat) {n : Nat} {A2 : Nat → MA} {bm2 : Nat → Nat} (hm : sm_rd tx ty true 40 none 0 0 A bm (sp_none oa' 10) ol' bk' 0 = some (n, A2, bm2)) (hn : n ≤ 10) (hsz : sz ≤ 12) (hy : ∀ s, s < sz → yOk (G s)) : jZ (d + 13) 67 0 [some (.ref 16), none] [] M (fun r M' => ∃ X, (gA encC X n A2 bm2 ∧ ∀ j, j < n → okA true (A2 j)) ∧ r = .inl (some (.int (jn (sp_hits (fun s => sIn X (G s)) ids sz 0 (0, hit)).1))) ∧ cI M' 0 tx (sp_hits (fun s => sIn X (G s)) ids sz 0 (0, hit)).1 (sp_hits (fun s => sIn X (G s)) ids sz 0 (0, hit)).2 tf false p sz li ids G mk rm id Z ∧ fX M M') := by
  obtain ⟨Y, hY⟩ := hI.2.2.2.1
  refine z_go 1 _ [.ref 16] _ c_67_0 rfl ?_
  refine z_go 2 _ [.int (jn 1), .ref 16] _ c_67_1 rfl ?_
  refine z_callvV 5 5 62 1 16 c_67_2 rfl ⟨Nat.le_of_ble_eq_true rfl, Nat.le_of_ble_eq_true rfl⟩ rfl hI.1.1 [.ref 16, .int (jb true)] rfl rfl [some (.ref 16), some (.int (jb true))] rfl rfl (t_rbP (d := d) hI.1.1 hI.2.1 hty htx hI.2.2.1 hY hI.2.2.2.2.2.2.1 hI.2.2.2.2.2.2.2 hB A bm oa' ol' bk' hm hn) ?_
  intro M1 ⟨⟨X, hX, hgx, hok⟩, hr1, hf1⟩
  have hI1 := cI_R hI hf1 hr1 ⟨X, hX⟩
  have hx := gA_xP hgx hok
  show jZ _ _ _ _ [] _ _
  refine z_go 6 _ [.ref 16] _ c_67_5 rfl ?_
  refine z_go 7 _ [.int (jn 0), .ref 16] _ c_67_6 rfl ?_
  refine z_putf (M' := jm [(16, xO 0 hc tf false)] M1) 10 c_67_7 rfl hI1.1.1 (rfl) (Nat.le_of_ble_eq_true rfl) rfl ?_
  refine z_go 11 _ [.ref 16] _ c_67_10 rfl ?_
  refine z_go 12 _ [.int (jn 0), .ref 16] _ c_67_11 rfl ?_
  refine z_putf (M' := jm [(16, xO 0 0 tf false)] M1) 15 c_67_12 rfl rfl (rfl) (Nat.le_of_ble_eq_true rfl) (jm_w rfl) ?_
  have hs2 : sm 16 16 M1 (jm [(16, xO 0 0 tf false)] M1) := sm_jm rfl
  have hI2 := cI_16 hI1 hs2 rfl
  have hX2 : jgr (jm [(16, xO 0 0 tf false)] M1) 28 X := jgr_fr hX fun k a b => hs2.1 k (by omega)
  refine z_go 16 _ [.int (jn 0)] _ c_67_15 rfl ?_
  refine z_go 17 [some (.ref 16), some (.int (jn 0))] [] _ c_67_16 rfl ?_
  exact (t_sea_l (hc := 0) hsz hx hy (by omega) (by omega) hI2 hX2).mono fun r M3 q => ⟨X, ⟨hgx, hok⟩, q.1, q.2.1, ((fX_R hf1).tr (fX_m hs2 (by decide) (by decide))).tr q.2.2⟩
