/-! THE LAW FROM ITS START; printed by wip/whole/p85.py -/
theorem c_0_0 : jx_cd 0 0 = some (o_new 5 [.null, .int 0, .null, .null, .null, .null, .null, .null, .int 0, .int 0, .int 0]) := rfl
theorem c_0_3 : jx_cd 0 3 = some (o_dup) := rfl
theorem c_0_4 : jx_cd 0 4 = some (o_callv 5 47 0) := rfl
theorem c_0_7 : jx_cd 0 7 = some (o_ast 1 1) := rfl
theorem c_0_8 : jx_cd 0 8 = some (o_new 6 [.int 0, .int 0, .null, .int 0, .int 0, .null, .null, .null, .null, .null, .null, .null, .null, .null, .null, .int 0, .int 0, .int 0, .null, .null, .null, .null, .null, .null, .null, .null, .null, .int 0, .int 0, .int 0, .int 0, .int 0, .int 0, .null, .null, .null, .null, .null, .int 0, .null]) := rfl
theorem c_0_11 : jx_cd 0 11 = some (o_dup) := rfl
theorem c_0_12 : jx_cd 0 12 = some (o_callv 6 69 0) := rfl
theorem c_0_15 : jx_cd 0 15 = some (o_ast 2 1) := rfl
theorem c_0_16 : jx_cd 0 16 = some (o_push (.int 1) 1) := rfl
theorem c_0_17 : jx_cd 0 17 = some (o_newa 3 jx_zl) := rfl
theorem c_0_19 : jx_cd 0 19 = some (o_ast 3 1) := rfl
theorem c_0_20 : jx_cd 0 20 = some (o_push (.int 0) 1) := rfl
theorem c_0_21 : jx_cd 0 21 = some (o_ist 4 2) := rfl
theorem c_47_0 : jx_cd 47 0 = some (o_ald 0 1) := rfl
theorem c_47_1 : jx_cd 47 1 = some (o_oinit) := rfl
theorem c_47_4 : jx_cd 47 4 = some (o_ald 0 1) := rfl
theorem c_47_5 : jx_cd 47 5 = some (o_push (.int 40) 2) := rfl
theorem c_47_7 : jx_cd 47 7 = some (o_newa 1 jx_zi) := rfl
theorem c_47_9 : jx_cd 47 9 = some (o_putf 5 0 jx_okR) := rfl
theorem c_47_12 : jx_cd 47 12 = some (o_ald 0 1) := rfl
theorem c_47_13 : jx_cd 47 13 = some (o_new 3 [.null, .int 0, .int 0, .int 0, .null, .null, .int 0, .null, .null, .null, .int 0, .null, .null, .null, .int 0]) := rfl
theorem c_47_16 : jx_cd 47 16 = some (o_dup) := rfl
theorem c_47_17 : jx_cd 47 17 = some (o_callv 3 22 0) := rfl
theorem c_47_20 : jx_cd 47 20 = some (o_putf 5 2 jx_okR) := rfl
theorem c_47_23 : jx_cd 47 23 = some (o_ald 0 1) := rfl
theorem c_47_24 : jx_cd 47 24 = some (o_new 0 [.null, .null, .null, .int 0, .int 0]) := rfl
theorem c_47_27 : jx_cd 47 27 = some (o_dup) := rfl
theorem c_47_28 : jx_cd 47 28 = some (o_callv 0 1 0) := rfl
theorem c_47_31 : jx_cd 47 31 = some (o_putf 5 3 jx_okR) := rfl
theorem c_47_34 : jx_cd 47 34 = some (o_ald 0 1) := rfl
theorem c_47_35 : jx_cd 47 35 = some (o_new 2 [.null, .null]) := rfl
theorem c_47_38 : jx_cd 47 38 = some (o_dup) := rfl
theorem c_47_39 : jx_cd 47 39 = some (o_callv 2 14 0) := rfl
theorem c_47_42 : jx_cd 47 42 = some (o_putf 5 4 jx_okR) := rfl
theorem c_47_45 : jx_cd 47 45 = some (o_ald 0 1) := rfl
theorem c_47_46 : jx_cd 47 46 = some (o_new 4 [.null, .null, .int 0, .int 0]) := rfl
theorem c_47_49 : jx_cd 47 49 = some (o_dup) := rfl
theorem c_47_50 : jx_cd 47 50 = some (o_callv 4 43 0) := rfl
theorem c_47_53 : jx_cd 47 53 = some (o_putf 5 5 jx_okR) := rfl
theorem c_47_56 : jx_cd 47 56 = some (o_ald 0 1) := rfl
theorem c_47_57 : jx_cd 47 57 = some (o_new 1 [.int 0, .int 0, .int 0, .null]) := rfl
theorem c_47_60 : jx_cd 47 60 = some (o_dup) := rfl
theorem c_47_61 : jx_cd 47 61 = some (o_callv 1 11 0) := rfl
theorem c_47_64 : jx_cd 47 64 = some (o_putf 5 6 jx_okR) := rfl
theorem c_47_67 : jx_cd 47 67 = some (o_ald 0 1) := rfl
theorem c_47_68 : jx_cd 47 68 = some (o_push (.int 12) 2) := rfl
theorem c_47_70 : jx_cd 47 70 = some (o_newa 0 jx_zi) := rfl
theorem c_47_72 : jx_cd 47 72 = some (o_putf 5 7 jx_okR) := rfl
theorem c_47_75 : jx_cd 47 75 = some (o_ald 0 1) := rfl
theorem c_47_76 : jx_cd 47 76 = some (o_push (.int 0) 1) := rfl
theorem c_47_77 : jx_cd 47 77 = some (o_putf 5 9 jx_okI) := rfl
theorem c_47_80 : jx_cd 47 80 = some (o_ret) := rfl
theorem t_xinit {d c s : Nat} {M : jx_M} (hg : M.1 16 = .inr (5, [.null, .int 0, .null, .null, .null, .null, .null, .null, .int 0, .int 0, .int 0])) (hM : M.2 = (17, c, s)) (hc : 5000 ≤ c) (hs : 100000 ≤ s) (hj : jc M) (hv : M.1 1 = .inl (9, 5, .inl (ja fV))) : jZ (d + 2) 47 0 [some (.ref 16)] [] M (jV none fun M' => (cI M' 0 (fun _ => 0) 0 (fun _ => 0) 0 false (fun s => 38 + 4 * s) 0 0 (fun _ => 0) (fun _ => g00) false false 0 g00) ∧ (∀ k, k < 16 → M'.1 k = M.1 k) ∧ M'.2 = (92, c - 75, s - 2871)) := by
  refine z_m (jNw_0 hM) ?_
  refine z_go 1 _ [.ref 16] _ c_47_0 rfl ?_
  refine z_go 4 _ [] _ c_47_1 rfl ?_
  refine z_go 5 _ [.ref 16] _ c_47_4 rfl ?_
  refine z_go 7 _ [.int (jn 40), .ref 16] _ c_47_5 rfl ?_
  refine z_newa (c := .inl (1, 40, .inl (ja (fun _ => 0)))) 9 18 (c - 1) (s - 40) c_47_7 rfl (by decide) rfl (by omega) (show 40 ≤ s by omega) rfl (by omega) (show s - 40 = s - 40 by omega) ?_
  show jZ _ _ _ _ _ (jNw [(17, .inl (1, 40, .inl (ja (fun _ => 0))))] 18 (c - 1) (s - 40) M) _
  refine z_putf (M' := jNw [(16, .inr (5, [.ref 17, .int 0, .null, .null, .null, .null, .null, .null, .int 0, .int 0, .int 0])), (17, .inl (1, 40, .inl (ja (fun _ => 0))))] 18 (c - 1) (s - 40) M) 12 c_47_9 rfl hg rfl (Nat.le_of_ble_eq_true rfl) rfl ?_
  refine z_go 13 _ [.ref 16] _ c_47_12 rfl ?_
  refine z_new 16 19 (c - 2) (s - 55) c_47_13 rfl (by omega) (show 15 ≤ s - 40 by omega) rfl (by omega) (show s - 40 - 15 = s - 55 by omega) ?_
  show jZ _ _ _ _ _ (jNw [(18, .inr (3, [.null, .int 0, .int 0, .int 0, .null, .null, .int 0, .null, .null, .null, .int 0, .null, .null, .null, .int 0])), (16, .inr (5, [.ref 17, .int 0, .null, .null, .null, .null, .null, .null, .int 0, .int 0, .int 0])), (17, .inl (1, 40, .inl (ja (fun _ => 0))))] 19 (c - 2) (s - 55) M) _
  refine z_go 17 _ [.ref 18, .ref 18, .ref 16] _ c_47_16 rfl ?_
  refine z_callvV 20 3 22 0 18 c_47_17 rfl ⟨Nat.le_of_ble_eq_true rfl, Nat.le_of_ble_eq_true rfl⟩ rfl rfl [.ref 18] rfl rfl [some (.ref 18)] rfl rfl (t_rinit (d := d + 1) (c := c - 2) (s := s - 55) (M := jNw [(18, .inr (3, [.null, .int 0, .int 0, .int 0, .null, .null, .int 0, .null, .null, .null, .int 0, .null, .null, .null, .int 0])), (16, .inr (5, [.ref 17, .int 0, .null, .null, .null, .null, .null, .null, .int 0, .int 0, .int 0])), (17, .inl (1, 40, .inl (ja (fun _ => 0))))] 19 (c - 2) (s - 55) M) rfl rfl (by omega) (by omega)) ?_
  intro M1 ⟨f1, g1, y1⟩
  show jZ _ _ _ _ [.ref 18, .ref 16] _ _
  have hb1 : ∀ k, k < 18 → k ≠ 16 → k ≠ 17 → M1.1 k = M.1 k := fun k hk h16 h17 => (g1 k hk).trans ((if_neg (by omega)).trans ((if_neg (by omega)).trans ((if_neg (by omega)).trans (rfl))))
  have h16_1 : M1.1 16 = .inr (5, [.ref 17, .int 0, .null, .null, .null, .null, .null, .null, .int 0, .int 0, .int 0]) := (g1 16 (by decide)).trans rfl
  have h17_1 : M1.1 17 = .inl (1, 40, .inl (ja (fun _ => 0))) := (g1 17 (by decide)).trans rfl
  refine z_m (jNw_0 (c := c - 11) (s := s - 355) (y1.trans (trip rfl (by omega) (by omega)))) ?_
  refine z_putf (M' := jNw [(16, .inr (5, [.ref 17, .int 0, .ref 18, .null, .null, .null, .null, .null, .int 0, .int 0, .int 0]))] 28 (c - 11) (s - 355) M1) 23 c_47_20 rfl h16_1 rfl (Nat.le_of_ble_eq_true rfl) rfl ?_
  refine z_go 24 _ [.ref 16] _ c_47_23 rfl ?_
  refine z_new 27 29 (c - 12) (s - 360) c_47_24 rfl (by omega) (show 5 ≤ s - 355 by omega) rfl (by omega) (show s - 355 - 5 = s - 360 by omega) ?_
  show jZ _ _ _ _ _ (jNw [(28, .inr (0, [.null, .null, .null, .int 0, .int 0])), (16, .inr (5, [.ref 17, .int 0, .ref 18, .null, .null, .null, .null, .null, .int 0, .int 0, .int 0]))] 29 (c - 12) (s - 360) M1) _
  refine z_go 28 _ [.ref 28, .ref 28, .ref 16] _ c_47_27 rfl ?_
  refine z_callvV 31 0 1 0 28 c_47_28 rfl ⟨Nat.le_of_ble_eq_true rfl, Nat.le_of_ble_eq_true rfl⟩ rfl rfl [.ref 28] rfl rfl [some (.ref 28)] rfl rfl (t_ginit (d := d + 1) (g := 28) (c := c - 12) (s := s - 360) (M := jNw [(28, .inr (0, [.null, .null, .null, .int 0, .int 0])), (16, .inr (5, [.ref 17, .int 0, .ref 18, .null, .null, .null, .null, .null, .int 0, .int 0, .int 0]))] 29 (c - 12) (s - 360) M1) rfl rfl (by omega) (by omega)) ?_
  intro M2 ⟨f2, g2, y2⟩
  show jZ _ _ _ _ [.ref 28, .ref 16] _ _
  have hb2 : ∀ k, k < 28 → k ≠ 16 → k ≠ 17 → M2.1 k = M1.1 k := fun k hk h16 h17 => (g2 k hk).trans ((if_neg (by omega)).trans ((if_neg (by omega)).trans (rfl)))
  have h16_2 : M2.1 16 = .inr (5, [.ref 17, .int 0, .ref 18, .null, .null, .null, .null, .null, .int 0, .int 0, .int 0]) := (g2 16 (by decide)).trans rfl
  have h17_2 : M2.1 17 = .inl (1, 40, .inl (ja (fun _ => 0))) := (g2 17 (by decide)).trans h17_1
  have r2 : rSh M2 := rSh_fr f1 fun k a b => hb2 k (by omega) (by omega) (by omega)
  refine z_m (jNw_0 (c := c - 15) (s := s - 530) (y2.trans (trip rfl (by omega) (by omega)))) ?_
  refine z_putf (M' := jNw [(16, .inr (5, [.ref 17, .int 0, .ref 18, .ref 28, .null, .null, .null, .null, .int 0, .int 0, .int 0]))] 32 (c - 15) (s - 530) M2) 34 c_47_31 rfl h16_2 rfl (Nat.le_of_ble_eq_true rfl) rfl ?_
  refine z_go 35 _ [.ref 16] _ c_47_34 rfl ?_
  refine z_new 38 33 (c - 16) (s - 532) c_47_35 rfl (by omega) (show 2 ≤ s - 530 by omega) rfl (by omega) (show s - 530 - 2 = s - 532 by omega) ?_
  show jZ _ _ _ _ _ (jNw [(32, .inr (2, [.null, .null])), (16, .inr (5, [.ref 17, .int 0, .ref 18, .ref 28, .null, .null, .null, .null, .int 0, .int 0, .int 0]))] 33 (c - 16) (s - 532) M2) _
  refine z_go 39 _ [.ref 32, .ref 32, .ref 16] _ c_47_38 rfl ?_
  refine z_callvV 42 2 14 0 32 c_47_39 rfl ⟨Nat.le_of_ble_eq_true rfl, Nat.le_of_ble_eq_true rfl⟩ rfl rfl [.ref 32] rfl rfl [some (.ref 32)] rfl rfl (t_minit (d := d + 1) (c := c - 16) (s := s - 532) (M := jNw [(32, .inr (2, [.null, .null])), (16, .inr (5, [.ref 17, .int 0, .ref 18, .ref 28, .null, .null, .null, .null, .int 0, .int 0, .int 0]))] 33 (c - 16) (s - 532) M2) rfl rfl (by omega) (by omega)) ?_
  intro M3 ⟨f3, g3, y3⟩
  show jZ _ _ _ _ [.ref 32, .ref 16] _ _
  have hb3 : ∀ k, k < 32 → k ≠ 16 → k ≠ 17 → M3.1 k = M2.1 k := fun k hk h16 h17 => (g3 k hk).trans ((if_neg (by omega)).trans ((if_neg (by omega)).trans (rfl)))
  have h16_3 : M3.1 16 = .inr (5, [.ref 17, .int 0, .ref 18, .ref 28, .null, .null, .null, .null, .int 0, .int 0, .int 0]) := (g3 16 (by decide)).trans rfl
  have h17_3 : M3.1 17 = .inl (1, 40, .inl (ja (fun _ => 0))) := (g3 17 (by decide)).trans h17_2
  have r3 : rSh M3 := rSh_fr r2 fun k a b => hb3 k (by omega) (by omega) (by omega)
  have gr3 : jgr M3 28 g00 := jgr_fr f2 fun k a b => hb3 k (by omega) (by omega) (by omega)
  refine z_m (jNw_0 (c := c - 18) (s := s - 552) (y3.trans (trip rfl (by omega) (by omega)))) ?_
  refine z_putf (M' := jNw [(16, .inr (5, [.ref 17, .int 0, .ref 18, .ref 28, .ref 32, .null, .null, .null, .int 0, .int 0, .int 0]))] 35 (c - 18) (s - 552) M3) 45 c_47_42 rfl h16_3 rfl (Nat.le_of_ble_eq_true rfl) rfl ?_
  refine z_go 46 _ [.ref 16] _ c_47_45 rfl ?_
  refine z_new 49 36 (c - 19) (s - 556) c_47_46 rfl (by omega) (show 4 ≤ s - 552 by omega) rfl (by omega) (show s - 552 - 4 = s - 556 by omega) ?_
  show jZ _ _ _ _ _ (jNw [(35, .inr (4, [.null, .null, .int 0, .int 0])), (16, .inr (5, [.ref 17, .int 0, .ref 18, .ref 28, .ref 32, .null, .null, .null, .int 0, .int 0, .int 0]))] 36 (c - 19) (s - 556) M3) _
  refine z_go 50 _ [.ref 35, .ref 35, .ref 16] _ c_47_49 rfl ?_
  refine z_callvV 53 4 43 0 35 c_47_50 rfl ⟨Nat.le_of_ble_eq_true rfl, Nat.le_of_ble_eq_true rfl⟩ rfl rfl [.ref 35] rfl rfl [some (.ref 35), none] rfl rfl (t_sinit (d := d) (c := c - 19) (s := s - 556) (M := jNw [(35, .inr (4, [.null, .null, .int 0, .int 0])), (16, .inr (5, [.ref 17, .int 0, .ref 18, .ref 28, .ref 32, .null, .null, .null, .int 0, .int 0, .int 0]))] 36 (c - 19) (s - 556) M3) rfl rfl (by omega) (by omega)) ?_
  intro M4 ⟨f4, g4, y4⟩
  show jZ _ _ _ _ [.ref 35, .ref 16] _ _
  have hb4 : ∀ k, k < 35 → k ≠ 16 → k ≠ 17 → M4.1 k = M3.1 k := fun k hk h16 h17 => (g4 k hk).trans ((if_neg (by omega)).trans ((if_neg (by omega)).trans (rfl)))
  have h16_4 : M4.1 16 = .inr (5, [.ref 17, .int 0, .ref 18, .ref 28, .ref 32, .null, .null, .null, .int 0, .int 0, .int 0]) := (g4 16 (by decide)).trans rfl
  have h17_4 : M4.1 17 = .inl (1, 40, .inl (ja (fun _ => 0))) := (g4 17 (by decide)).trans h17_3
  have r4 : rSh M4 := rSh_fr r3 fun k a b => hb4 k (by omega) (by omega) (by omega)
  have gr4 : jgr M4 28 g00 := jgr_fr gr3 fun k a b => hb4 k (by omega) (by omega) (by omega)
  have mt4 : mt M4 := mt_fr f3 fun k a b => hb4 k (by omega) (by omega) (by omega)
  refine z_m (jNw_0 (c := c - 69) (s := s - 2680) (y4.trans (trip rfl (by omega) (by omega)))) ?_
  refine z_putf (M' := jNw [(16, .inr (5, [.ref 17, .int 0, .ref 18, .ref 28, .ref 32, .ref 35, .null, .null, .int 0, .int 0, .int 0]))] 86 (c - 69) (s - 2680) M4) 56 c_47_53 rfl h16_4 rfl (Nat.le_of_ble_eq_true rfl) rfl ?_
  refine z_go 57 _ [.ref 16] _ c_47_56 rfl ?_
  refine z_new 60 87 (c - 70) (s - 2684) c_47_57 rfl (by omega) (show 4 ≤ s - 2680 by omega) rfl (by omega) (show s - 2680 - 4 = s - 2684 by omega) ?_
  show jZ _ _ _ _ _ (jNw [(86, .inr (1, [.int 0, .int 0, .int 0, .null])), (16, .inr (5, [.ref 17, .int 0, .ref 18, .ref 28, .ref 32, .ref 35, .null, .null, .int 0, .int 0, .int 0]))] 87 (c - 70) (s - 2684) M4) _
  refine z_go 61 _ [.ref 86, .ref 86, .ref 16] _ c_47_60 rfl ?_
  refine z_callvV 64 1 11 0 86 c_47_61 rfl ⟨Nat.le_of_ble_eq_true rfl, Nat.le_of_ble_eq_true rfl⟩ rfl rfl [.ref 86] rfl rfl [some (.ref 86)] rfl rfl (t_linit (d := d) (c := c - 70) (s := s - 2684) (M := jNw [(86, .inr (1, [.int 0, .int 0, .int 0, .null])), (16, .inr (5, [.ref 17, .int 0, .ref 18, .ref 28, .ref 32, .ref 35, .null, .null, .int 0, .int 0, .int 0]))] 87 (c - 70) (s - 2684) M4) rfl rfl (by omega) (by omega)) ?_
  intro M5 ⟨f5, g5, y5⟩
  show jZ _ _ _ _ [.ref 86, .ref 16] _ _
  have hb5 : ∀ k, k < 86 → k ≠ 16 → k ≠ 17 → M5.1 k = M4.1 k := fun k hk h16 h17 => (g5 k hk).trans ((if_neg (by omega)).trans ((if_neg (by omega)).trans (rfl)))
  have h16_5 : M5.1 16 = .inr (5, [.ref 17, .int 0, .ref 18, .ref 28, .ref 32, .ref 35, .null, .null, .int 0, .int 0, .int 0]) := (g5 16 (by decide)).trans rfl
  have h17_5 : M5.1 17 = .inl (1, 40, .inl (ja (fun _ => 0))) := (g5 17 (by decide)).trans h17_4
  have r5 : rSh M5 := rSh_fr r4 fun k a b => hb5 k (by omega) (by omega) (by omega)
  have gr5 : jgr M5 28 g00 := jgr_fr gr4 fun k a b => hb5 k (by omega) (by omega) (by omega)
  have mt5 : mt M5 := mt_fr mt4 fun k a b => hb5 k (by omega) (by omega) (by omega)
  have low : ∀ k, k < 16 → M5.1 k = M.1 k := fun k hk => (hb5 k (by omega) (by omega) (by omega)).trans ((hb4 k (by omega) (by omega) (by omega)).trans ((hb3 k (by omega) (by omega) (by omega)).trans ((hb2 k (by omega) (by omega) (by omega)).trans (hb1 k (by omega) (by omega) (by omega)))))
  refine z_m (jNw_0 (c := c - 74) (s := s - 2859) (y5.trans (trip rfl (by omega) (by omega)))) ?_
  refine z_putf (M' := jNw [(16, .inr (5, [.ref 17, .int 0, .ref 18, .ref 28, .ref 32, .ref 35, .ref 86, .null, .int 0, .int 0, .int 0]))] 91 (c - 74) (s - 2859) M5) 67 c_47_64 rfl h16_5 rfl (Nat.le_of_ble_eq_true rfl) rfl ?_
  refine z_go 68 _ [.ref 16] _ c_47_67 rfl ?_
  refine z_go 70 _ [.int (jn 12), .ref 16] _ c_47_68 rfl ?_
  refine z_newa (c := .inl (0, 12, .inl (ja (fun _ => 0)))) 72 92 (c - 75) (s - 2871) c_47_70 rfl (by decide) rfl (by omega) (show 12 ≤ s - 2859 by omega) rfl (by omega) (show s - 2859 - 12 = s - 2871 by omega) ?_
  show jZ _ _ _ _ _ (jNw [(91, .inl (0, 12, .inl (ja (fun _ => 0)))), (16, .inr (5, [.ref 17, .int 0, .ref 18, .ref 28, .ref 32, .ref 35, .ref 86, .null, .int 0, .int 0, .int 0]))] 92 (c - 75) (s - 2871) M5) _
  refine z_putf (M' := jNw [(91, .inl (0, 12, .inl (ja (fun _ => 0)))), (16, .inr (5, [.ref 17, .int 0, .ref 18, .ref 28, .ref 32, .ref 35, .ref 86, .ref 91, .int 0, .int 0, .int 0]))] 92 (c - 75) (s - 2871) M5) 75 c_47_72 rfl rfl rfl (Nat.le_of_ble_eq_true rfl) (jNw_w rfl) ?_
  refine z_go 76 _ [.ref 16] _ c_47_75 rfl ?_
  refine z_go 77 _ [.int (jn 0), .ref 16] _ c_47_76 rfl ?_
  refine z_putf (M' := jNw [(91, .inl (0, 12, .inl (ja (fun _ => 0)))), (16, .inr (5, [.ref 17, .int 0, .ref 18, .ref 28, .ref 32, .ref 35, .ref 86, .ref 91, .int 0, .int (jn 0), .int 0]))] 92 (c - 75) (s - 2871) M5) 80 c_47_77 rfl rfl rfl (Nat.le_of_ble_eq_true rfl) (jNw_w rfl) ?_
  refine z_ret c_47_80 ?_
  have hw : ∀ k, k ≠ 16 → k ≠ 91 → (jNw [(91, .inl (0, 12, .inl (ja (fun _ => 0)))), (16, .inr (5, [.ref 17, .int 0, .ref 18, .ref 28, .ref 32, .ref 35, .ref 86, .ref 91, .int 0, .int (jn 0), .int 0]))] 92 (c - 75) (s - 2871) M5).1 k = M5.1 k := fun k a b => (if_neg (by omega)).trans ((if_neg (by omega)).trans (rfl))
  have hsh : jsh (jNw [(91, .inl (0, 12, .inl (ja (fun _ => 0)))), (16, .inr (5, [.ref 17, .int 0, .ref 18, .ref 28, .ref 32, .ref 35, .ref 86, .ref 91, .int 0, .int (jn 0), .int 0]))] 92 (c - 75) (s - 2871) M5) (fun s => 38 + 4 * s) 0 0 (fun _ => 0) (fun _ => g00) := by
    obtain ⟨q1, q2, q3, q4⟩ := f4
    refine ⟨(hw 35 (by decide) (by decide)).trans ((hb5 35 (by decide) (by decide) (by decide)).trans q1), (hw 36 (by decide) (by decide)).trans ((hb5 36 (by decide) (by decide) (by decide)).trans q2), (hw 37 (by decide) (by decide)).trans ((hb5 37 (by decide) (by decide) (by decide)).trans q3), fun s hs => ⟨by dsimp only; omega, by dsimp only; omega, by dsimp only; omega⟩, fun s t _ _ h => by have h : 38 + 4 * s = 38 + 4 * t := h; omega, fun s hs => jgr_fr (q4 s hs) fun k a b => ?_⟩
    dsimp only at a b
    exact (hw k (by omega) (by omega)).trans (hb5 k (by omega) (by omega) (by omega))
  refine ⟨rfl, ⟨⟨rfl, hsh, (hw 86 (by decide) (by decide)).trans f5.1, jgr_fr f5.2 fun k a b => hw k (by omega) (by omega)⟩, (hw 17 (by decide) (by decide)).trans h17_5, rSh_fr r5 fun k a b => hw k (by omega) (by omega), ⟨g00, jgr_fr gr5 fun k a b => hw k (by omega) (by omega)⟩, mt_fr mt5 fun k a b => hw k (by omega) (by omega), rfl, jc_fr hj fun k hk => (hw k (by omega) (by omega)).trans (low k hk), ((hw 1 (by decide) (by decide)).trans (low 1 (by decide))).trans hv⟩, fun k hk => (hw k (by omega) (by omega)).trans (low k hk), rfl⟩
theorem bv_V : jx_bv [4, 3, 2, 2, 1] = ja fV := by
  funext j
  unfold jx_bv ja fV
  rcases j with _ | _ | _ | _ | _ | j <;> rfl
theorem bv_E : jx_bv [67, 78, 79, 83, 70] = ja fE := by
  funext j
  unfold jx_bv ja fE
  rcases j with _ | _ | _ | _ | _ | j <;> rfl
theorem bv_A : jx_bv [99, 110, 111, 115] = ja fA := by
  funext j
  unfold jx_bv ja fA
  rcases j with _ | _ | _ | _ | j <;> rfl
def jx_Ms (L : Nat) (xs : Nat → Int32) : jx_M := (fun k => if k < jx_g then jx_gl L xs k else jx_dead, jx_g, 601024, 7293034)
theorem Ms_jc {L : Nat} {xs : Nat → Int32} : jc (jx_Ms L xs) ∧ (jx_Ms L xs).1 1 = .inl (9, 5, .inl (ja fV)) ∧ (jx_Ms L xs).1 0 = .inl (9, L, .inl xs) := by
  refine ⟨⟨⟨rfl, ?_⟩, rfl, ?_⟩, ?_, rfl⟩
  · rw [← bv_E]; rfl
  · rw [← bv_A]; rfl
  · rw [← bv_V]; rfl
theorem t_law {L : Nat} {xs : Nat → Int32} {d : Nat} (hL : L ≤ 2048) : jZ (d + 21) 0 0 [some (.ref 0), none, none, none, none, none, none] [] (jx_Ms L xs) (fun r _ => r = .inl (some (.int (jn 1)))) := by
  obtain ⟨hj, hv, h0⟩ := Ms_jc (L := L) (xs := xs)
  obtain ⟨c, hc⟩ : ∃ c, c = 601024 := ⟨_, rfl⟩
  obtain ⟨s, hs⟩ : ∃ s, s = 7293034 := ⟨_, rfl⟩
  have hM : (jx_Ms L xs).2 = (16, c, s) := by rw [hc, hs]; rfl
  refine z_m (jNw_0 hM) ?_
  refine z_new 3 17 (c - 1) (s - 11) c_0_0 rfl (by omega) (show 11 ≤ s by omega) rfl (by omega) (show s - 11 = s - 11 by omega) ?_
  show jZ _ _ _ _ _ (jNw [(16, .inr (5, [.null, .int 0, .null, .null, .null, .null, .null, .null, .int 0, .int 0, .int 0]))] 17 (c - 1) (s - 11) (jx_Ms L xs)) _
  refine z_go 4 _ [.ref 16, .ref 16] _ c_0_3 rfl ?_
  refine z_callvV 7 5 47 0 16 c_0_4 rfl ⟨Nat.le_of_ble_eq_true rfl, Nat.le_of_ble_eq_true rfl⟩ rfl rfl [.ref 16] rfl rfl [some (.ref 16)] rfl rfl (t_xinit (d := d + 18) (c := c - 1) (s := s - 11) (M := jNw [(16, .inr (5, [.null, .int 0, .null, .null, .null, .null, .null, .null, .int 0, .int 0, .int 0]))] 17 (c - 1) (s - 11) (jx_Ms L xs)) rfl rfl (by omega) (by omega) (jc_fr hj fun k hk => if_neg (by omega)) hv) ?_
  intro M1 ⟨hI1, g1, y1⟩
  show jZ _ _ _ _ [.ref 16] _ _
  refine z_m (jNw_0 (c := c - 76) (s := s - 2882) (y1.trans (trip rfl (by omega) (by omega)))) ?_
  refine z_go 8 [some (.ref 0), some (.ref 16), none, none, none, none, none] [] _ c_0_7 rfl ?_
  refine z_new 11 93 (c - 77) (s - 2922) c_0_8 rfl (by omega) (show 40 ≤ s - 2882 by omega) rfl (by omega) (show s - 2882 - 40 = s - 2922 by omega) ?_
  show jZ _ _ _ _ _ (jNw [(92, .inr (6, [.int 0, .int 0, .null, .int 0, .int 0, .null, .null, .null, .null, .null, .null, .null, .null, .null, .null, .int 0, .int 0, .int 0, .null, .null, .null, .null, .null, .null, .null, .null, .null, .int 0, .int 0, .int 0, .int 0, .int 0, .int 0, .null, .null, .null, .null, .null, .int 0, .null]))] 93 (c - 77) (s - 2922) M1) _
  refine z_go 12 _ [.ref 92, .ref 92] _ c_0_11 rfl ?_
  refine z_callvV 15 6 69 0 92 c_0_12 rfl ⟨Nat.le_of_ble_eq_true rfl, Nat.le_of_ble_eq_true rfl⟩ rfl rfl [.ref 92] rfl rfl [some (.ref 92)] rfl rfl (t_moinit (d := d + 20) (c := c - 77) (s := s - 2922) (M := jNw [(92, .inr (6, [.int 0, .int 0, .null, .int 0, .int 0, .null, .null, .null, .null, .null, .null, .null, .null, .null, .null, .int 0, .int 0, .int 0, .null, .null, .null, .null, .null, .null, .null, .null, .null, .int 0, .int 0, .int 0, .int 0, .int 0, .int 0, .null, .null, .null, .null, .null, .int 0, .null]))] 93 (c - 77) (s - 2922) M1) rfl rfl (by omega) (by omega)) ?_
  intro M2 ⟨hI2, g2, y2⟩
  have hI1b := cI_fr hI1 (M1 := M2) fun k hk => (g2 k (by omega)).trans (if_neg (by omega))
  show jZ _ _ _ _ [.ref 92] _ _
  refine z_m (jNw_0 (c := c - 103) (s := s - 6769) (y2.trans (trip rfl (by omega) (by omega)))) ?_
  refine z_go 16 [some (.ref 0), some (.ref 16), some (.ref 92), none, none, none, none] [] _ c_0_15 rfl ?_
  refine z_go 17 _ [.int (jn 1)] _ c_0_16 rfl ?_
  refine z_newa (c := .inl (3, jx_zl 1)) 19 120 (c - 104) (s - 6770) c_0_17 rfl (by decide) rfl (by omega) (show 1 ≤ s - 6769 by omega) rfl (by omega) (show s - 6769 - 1 = s - 6770 by omega) ?_
  show jZ _ _ _ _ _ (jNw [(119, .inl (3, jx_zl 1))] 120 (c - 104) (s - 6770) M2) _
  refine z_go 20 [some (.ref 0), some (.ref 16), some (.ref 92), some (.ref 119), none, none, none] [] _ c_0_19 rfl ?_
  refine z_go 21 _ [.int (jn 0)] _ c_0_20 rfl ?_
  refine z_go 23 [some (.ref 0), some (.ref 16), some (.ref 92), some (.ref 119), some (.int (jn 0)), none, none] [] _ c_0_21 rfl ?_
  have hw : ∀ k, k < 119 → (jNw [(119, .inl (3, jx_zl 1))] 120 (c - 104) (s - 6770) M2).1 k = M2.1 k := fun k hk => if_neg (by omega)
  have hz0 : (jNw [(119, .inl (3, jx_zl 1))] 120 (c - 104) (s - 6770) M2).1 0 = .inl (9, L, .inl xs) := (hw 0 (by decide)).trans ((g2 0 (by decide)).trans ((jNw_fr (a := 92) rfl (by decide)).trans ((g1 0 (by decide)).trans ((jNw_fr (a := 16) rfl (by decide)).trans h0))))
  refine t_loop (xs := xs) (d := d) (q := 512) (i := 0) (th := 0) (M := jNw [(119, .inl (3, jx_zl 1))] 120 (c - 104) (s - 6770) M2) hL (by omega) (by omega) ?_
  exact ⟨0, fun _ => 0, 0, fun _ => 0, 0, false, fun s => 38 + 4 * s, 0, 0, fun _ => 0, fun _ => g00, false, false, 0, g00, 0, 0, false, 0, fun _ => 0, fun _ => 0, (fun _ => (0, false, 0, some 0, false, 0)), fun _ => 0, (fun _ => (0, false, 0, some 0, false, 0)), fun _ => 0, fun _ => 0, ⟨cI_fr hI1b fun k hk => hw k (by omega), mI_fr hI2 fun k a b => hw k (by omega), hz0, ⟨fun _ => 0, rfl⟩, ⟨by show 120 ≤ 120; omega, by show 512 ≤ c - 104; omega, by show 6 * 512 ≤ s - 6770; omega⟩⟩, ⟨by decide, fun _ => (by decide : (0 : Nat) < 127)⟩, ⟨by decide, fun j hj => by omega⟩, by decide, by decide, ⟨by decide, fun s hs => by omega, fun s t _ hs => by omega, fun s hs => by omega⟩, rfl, rfl⟩
