/-! THE REGISTRY: its changes; printed by wip/whole/p60.py -/
theorem c_54_0 : jx_cd 54 0 = some (o_ald 0 1) := rfl
theorem c_54_1 : jx_cd 54 1 = some (o_getf 5 10) := rfl
theorem c_54_4 : jx_cd 54 4 = some (o_ifne 9) := rfl
theorem c_54_7 : jx_cd 54 7 = some (o_push (.int (-1)) 1) := rfl
theorem c_54_8 : jx_cd 54 8 = some (o_iret) := rfl
theorem c_54_9 : jx_cd 54 9 = some (o_ald 0 1) := rfl
theorem c_54_10 : jx_cd 54 10 = some (o_getf 5 6) := rfl
theorem c_54_13 : jx_cd 54 13 = some (o_getf 1 0) := rfl
theorem c_54_16 : jx_cd 54 16 = some (o_ist 1 1) := rfl
theorem c_54_17 : jx_cd 54 17 = some (o_ild 1 1) := rfl
theorem c_54_18 : jx_cd 54 18 = some (o_ifeq 25) := rfl
theorem c_54_21 : jx_cd 54 21 = some (o_ald 0 1) := rfl
theorem c_54_22 : jx_cd 54 22 = some (o_callv 5 55 0) := rfl
theorem c_54_25 : jx_cd 54 25 = some (o_ald 0 1) := rfl
theorem c_54_26 : jx_cd 54 26 = some (o_getf 5 6) := rfl
theorem c_54_29 : jx_cd 54 29 = some (o_callv 1 12 0) := rfl
theorem c_54_32 : jx_cd 54 32 = some (o_ald 0 1) := rfl
theorem c_54_33 : jx_cd 54 33 = some (o_push (.int 0) 1) := rfl
theorem c_54_34 : jx_cd 54 34 = some (o_putf 5 10 jx_okZ) := rfl
theorem c_54_37 : jx_cd 54 37 = some (o_ild 1 1) := rfl
theorem c_54_38 : jx_cd 54 38 = some (o_ifeq 45) := rfl
theorem c_54_41 : jx_cd 54 41 = some (o_push (.int 1) 1) := rfl
theorem c_54_42 : jx_cd 54 42 = some (o_goto 46) := rfl
theorem c_54_45 : jx_cd 54 45 = some (o_push (.int 0) 1) := rfl
theorem c_54_46 : jx_cd 54 46 = some (o_iret) := rfl
theorem c_55_0 : jx_cd 55 0 = some (o_ald 0 1) := rfl
theorem c_55_1 : jx_cd 55 1 = some (o_getf 5 5) := rfl
theorem c_55_4 : jx_cd 55 4 = some (o_ald 0 1) := rfl
theorem c_55_5 : jx_cd 55 5 = some (o_getf 5 6) := rfl
theorem c_55_8 : jx_cd 55 8 = some (o_getf 1 2) := rfl
theorem c_55_11 : jx_cd 55 11 = some (o_callv 4 44 1) := rfl
theorem c_55_14 : jx_cd 55 14 = some (o_push (.int (-1)) 1) := rfl
theorem c_55_15 : jx_cd 55 15 = some (o_ieq 22) := rfl
theorem c_55_18 : jx_cd 55 18 = some (o_push (.int 1) 1) := rfl
theorem c_55_19 : jx_cd 55 19 = some (o_goto 23) := rfl
theorem c_55_22 : jx_cd 55 22 = some (o_push (.int 0) 1) := rfl
theorem c_55_23 : jx_cd 55 23 = some (o_ist 1 1) := rfl
theorem c_55_24 : jx_cd 55 24 = some (o_ald 0 1) := rfl
theorem c_55_25 : jx_cd 55 25 = some (o_getf 5 6) := rfl
theorem c_55_28 : jx_cd 55 28 = some (o_getf 1 1) := rfl
theorem c_55_31 : jx_cd 55 31 = some (o_ifeq 52) := rfl
theorem c_55_34 : jx_cd 55 34 = some (o_ild 1 1) := rfl
theorem c_55_35 : jx_cd 55 35 = some (o_ifeq 52) := rfl
theorem c_55_38 : jx_cd 55 38 = some (o_ald 0 1) := rfl
theorem c_55_39 : jx_cd 55 39 = some (o_getf 5 5) := rfl
theorem c_55_42 : jx_cd 55 42 = some (o_ald 0 1) := rfl
theorem c_55_43 : jx_cd 55 43 = some (o_getf 5 6) := rfl
theorem c_55_46 : jx_cd 55 46 = some (o_getf 1 2) := rfl
theorem c_55_49 : jx_cd 55 49 = some (o_callv 4 45 1) := rfl
theorem c_55_52 : jx_cd 55 52 = some (o_ald 0 1) := rfl
theorem c_55_53 : jx_cd 55 53 = some (o_getf 5 6) := rfl
theorem c_55_56 : jx_cd 55 56 = some (o_getf 1 1) := rfl
theorem c_55_59 : jx_cd 55 59 = some (o_ifne 87) := rfl
theorem c_55_62 : jx_cd 55 62 = some (o_ild 1 1) := rfl
theorem c_55_63 : jx_cd 55 63 = some (o_ifne 87) := rfl
theorem c_55_66 : jx_cd 55 66 = some (o_ald 0 1) := rfl
theorem c_55_67 : jx_cd 55 67 = some (o_getf 5 5) := rfl
theorem c_55_70 : jx_cd 55 70 = some (o_ald 0 1) := rfl
theorem c_55_71 : jx_cd 55 71 = some (o_getf 5 6) := rfl
theorem c_55_74 : jx_cd 55 74 = some (o_getf 1 2) := rfl
theorem c_55_77 : jx_cd 55 77 = some (o_ald 0 1) := rfl
theorem c_55_78 : jx_cd 55 78 = some (o_getf 5 6) := rfl
theorem c_55_81 : jx_cd 55 81 = some (o_getf 1 3) := rfl
theorem c_55_84 : jx_cd 55 84 = some (o_callv 4 46 2) := rfl
theorem c_55_87 : jx_cd 55 87 = some (o_ret) := rfl
theorem c_65_0 : jx_cd 65 0 = some (o_ald 0 1) := rfl
theorem c_65_1 : jx_cd 65 1 = some (o_getf 5 9) := rfl
theorem c_65_4 : jx_cd 65 4 = some (o_ifne 11) := rfl
theorem c_65_7 : jx_cd 65 7 = some (o_push (.int 5) 1) := rfl
theorem c_65_8 : jx_cd 65 8 = some (o_goto 15) := rfl
theorem c_65_11 : jx_cd 65 11 = some (o_ald 0 1) := rfl
theorem c_65_12 : jx_cd 65 12 = some (o_getf 5 9) := rfl
theorem c_65_15 : jx_cd 65 15 = some (o_ist 3 1) := rfl
theorem c_65_16 : jx_cd 65 16 = some (o_ald 0 1) := rfl
theorem c_65_17 : jx_cd 65 17 = some (o_push (.int 0) 1) := rfl
theorem c_65_18 : jx_cd 65 18 = some (o_putf 5 9 jx_okI) := rfl
theorem c_65_21 : jx_cd 65 21 = some (o_ald 0 1) := rfl
theorem c_65_22 : jx_cd 65 22 = some (o_push (.int 0) 1) := rfl
theorem c_65_23 : jx_cd 65 23 = some (o_putf 5 8 jx_okI) := rfl
theorem c_65_26 : jx_cd 65 26 = some (o_ild 3 1) := rfl
theorem c_65_27 : jx_cd 65 27 = some (o_push (.int 1) 1) := rfl
theorem c_65_28 : jx_cd 65 28 = some (o_ile 44) := rfl
theorem c_65_31 : jx_cd 65 31 = some (o_ald 0 1) := rfl
theorem c_65_32 : jx_cd 65 32 = some (o_getf 5 6) := rfl
theorem c_65_35 : jx_cd 65 35 = some (o_ild 1 1) := rfl
theorem c_65_36 : jx_cd 65 36 = some (o_ild 2 1) := rfl
theorem c_65_37 : jx_cd 65 37 = some (o_ald 0 1) := rfl
theorem c_65_38 : jx_cd 65 38 = some (o_getf 5 3) := rfl
theorem c_65_41 : jx_cd 65 41 = some (o_callv 1 13 3) := rfl
theorem c_65_44 : jx_cd 65 44 = some (o_ild 3 1) := rfl
theorem c_65_45 : jx_cd 65 45 = some (o_push (.int 2) 1) := rfl
theorem c_65_46 : jx_cd 65 46 = some (o_ile 57) := rfl
theorem c_65_49 : jx_cd 65 49 = some (o_ald 0 1) := rfl
theorem c_65_50 : jx_cd 65 50 = some (o_getf 5 6) := rfl
theorem c_65_53 : jx_cd 65 53 = some (o_push (.int 1) 1) := rfl
theorem c_65_54 : jx_cd 65 54 = some (o_putf 1 0 jx_okZ) := rfl
theorem c_65_57 : jx_cd 65 57 = some (o_ild 3 1) := rfl
theorem c_65_58 : jx_cd 65 58 = some (o_push (.int 3) 1) := rfl
theorem c_65_59 : jx_cd 65 59 = some (o_ile 66) := rfl
theorem c_65_62 : jx_cd 65 62 = some (o_ald 0 1) := rfl
theorem c_65_63 : jx_cd 65 63 = some (o_callv 5 55 0) := rfl
theorem c_65_66 : jx_cd 65 66 = some (o_ild 3 1) := rfl
theorem c_65_67 : jx_cd 65 67 = some (o_push (.int 4) 1) := rfl
theorem c_65_68 : jx_cd 65 68 = some (o_ile 78) := rfl
theorem c_65_71 : jx_cd 65 71 = some (o_ald 0 1) := rfl
theorem c_65_72 : jx_cd 65 72 = some (o_getf 5 6) := rfl
theorem c_65_75 : jx_cd 65 75 = some (o_callv 1 12 0) := rfl
theorem c_65_78 : jx_cd 65 78 = some (o_ald 0 1) := rfl
theorem c_65_79 : jx_cd 65 79 = some (o_ild 3 1) := rfl
theorem c_65_80 : jx_cd 65 80 = some (o_push (.int 4) 1) := rfl
theorem c_65_81 : jx_cd 65 81 = some (o_igt 88) := rfl
theorem c_65_84 : jx_cd 65 84 = some (o_push (.int 1) 1) := rfl
theorem c_65_85 : jx_cd 65 85 = some (o_goto 89) := rfl
theorem c_65_88 : jx_cd 65 88 = some (o_push (.int 0) 1) := rfl
theorem c_65_89 : jx_cd 65 89 = some (o_putf 5 10 jx_okZ) := rfl
theorem c_65_92 : jx_cd 65 92 = some (o_ald 0 1) := rfl
theorem c_65_93 : jx_cd 65 93 = some (o_getf 5 10) := rfl
theorem c_65_96 : jx_cd 65 96 = some (o_ifne 103) := rfl
theorem c_65_99 : jx_cd 65 99 = some (o_push (.int 1) 1) := rfl
theorem c_65_100 : jx_cd 65 100 = some (o_goto 104) := rfl
theorem c_65_103 : jx_cd 65 103 = some (o_push (.int 0) 1) := rfl
theorem c_65_104 : jx_cd 65 104 = some (o_zret) := rfl
/-- what a change touches: the registry's own fields, the shelf, the log -/
def cS (M : jx_M) (ty hc tf : Nat) (dn : Bool) (p : Nat → Nat) (sz li : Nat) (ids : Nat → Nat) (G : Nat → GR) (mk rm : Bool) (id : Nat) (X : GR) : Prop := M.1 16 = xO ty hc tf dn ∧ jsh M p sz li ids G ∧ M.1 86 = lO mk rm id ∧ jgr M 87 X
def fC (M M' : jx_M) : Prop := (∀ k, k ≠ 16 → k < 35 ∨ 90 < k → M'.1 k = M.1 k) ∧ M'.2 = M.2
theorem fC_r (M : jx_M) : fC M M := ⟨fun _ _ _ => rfl, rfl⟩
theorem fC.tr {M M1 M2 : jx_M} (h : fC M M1) (k : fC M1 M2) : fC M M2 := ⟨fun q h1 h2 => (k.1 q h1 h2).trans (h.1 q h1 h2), k.2.trans h.2⟩
theorem fC_sm {M M1 : jx_M} (h : sm 35 90 M M1) : fC M M1 := ⟨fun q _ h2 => h.1 q h2, h.2⟩
theorem fC_16 {M M1 : jx_M} (h : sm 16 16 M M1) : fC M M1 := ⟨fun q h1 _ => h.1 q (by omega), h.2⟩
theorem cS_16 {M M1 : jx_M} {ty hc tf : Nat} {dn : Bool} {p : Nat → Nat} {sz li : Nat} {ids : Nat → Nat} {G : Nat → GR} {mk rm : Bool} {id : Nat} {X : GR} {ty' hc' tf' : Nat} {dn' : Bool} (h : cS M ty hc tf dn p sz li ids G mk rm id X) (hs : sm 16 16 M M1) (h16 : M1.1 16 = xO ty' hc' tf' dn') : cS M1 ty' hc' tf' dn' p sz li ids G mk rm id X := ⟨h16, jsh_fr h.2.1 fun k a b => hs.1 k (by omega), (hs.1 86 (by decide)).trans h.2.2.1, jgr_fr h.2.2.2 fun k a b => hs.1 k (by omega)⟩
theorem cS_86 {M M1 : jx_M} {ty hc tf : Nat} {dn : Bool} {p : Nat → Nat} {sz li : Nat} {ids : Nat → Nat} {G : Nat → GR} {mk rm : Bool} {id : Nat} {X : GR} {mk' rm' : Bool} {id' : Nat} (h : cS M ty hc tf dn p sz li ids G mk rm id X) (hs : sm 86 86 M M1) (h86 : M1.1 86 = lO mk' rm' id') : cS M1 ty hc tf dn p sz li ids G mk' rm' id' X := ⟨(hs.1 16 (by decide)).trans h.1, jsh_fr h.2.1 fun k a b => hs.1 k (by omega), h86, jgr_fr h.2.2.2 fun k a b => hs.1 k (by omega)⟩
theorem cS_lg {M M1 : jx_M} {ty hc tf : Nat} {dn : Bool} {p : Nat → Nat} {sz li : Nat} {ids : Nat → Nat} {G : Nat → GR} {mk rm : Bool} {id : Nat} {X : GR} {mk' rm' : Bool} {id' : Nat} {X' : GR} (h : cS M ty hc tf dn p sz li ids G mk rm id X) (hs : sm 86 90 M M1) (h86 : M1.1 86 = lO mk' rm' id') (hX : jgr M1 87 X') : cS M1 ty hc tf dn p sz li ids G mk' rm' id' X' := ⟨(hs.1 16 (by decide)).trans h.1, jsh_fr h.2.1 fun k a b => hs.1 k (by omega), h86, hX⟩
theorem cS_sh {M M1 : jx_M} {ty hc tf : Nat} {dn : Bool} {p : Nat → Nat} {sz li : Nat} {ids : Nat → Nat} {G : Nat → GR} {mk rm : Bool} {id : Nat} {X : GR} {p' : Nat → Nat} {sz' li' : Nat} {ids' : Nat → Nat} {G' : Nat → GR} (h : cS M ty hc tf dn p sz li ids G mk rm id X) (hs : sm 35 85 M M1) (hS : jsh M1 p' sz' li' ids' G') : cS M1 ty hc tf dn p' sz' li' ids' G' mk rm id X := ⟨(hs.1 16 (by decide)).trans h.1, hS, (hs.1 86 (by decide)).trans h.2.2.1, jgr_fr h.2.2.2 fun k a b => hs.1 k (by omega)⟩
theorem t_carT {d ty hc tf : Nat} {dn : Bool} {p : Nat → Nat} {sz li : Nat} {ids : Nat → Nat} {G : Nat → GR} {mk : Bool} {id : Nat} {X : GR} {M : jx_M} (hc0 : cS M ty hc tf dn p sz li ids G mk true id X) (hsz : sz ≤ 12) {go : Nat} (hs : sp_sl ids (jn id) sz 0 = some go) : jZ (d + 2) 55 0 [some (.ref 16), none] [] M (jV none fun M' => cS M' ty hc tf dn (sp_tk p go sz) (sz - 1) li (sp_sh ids go (sz - 1)) (sp_tk G go sz) mk true id X ∧ fC M M') := by
  obtain ⟨-, hgo, -⟩ := sp_sl_some hs
  refine z_go 1 _ [.ref 16] _ c_55_0 rfl ?_
  refine z_getf (v := .ref 35) 4 c_55_1 rfl hc0.1 rfl ?_
  refine z_go 5 _ [.ref 16, .ref 35] _ c_55_4 rfl ?_
  refine z_getf (v := .ref 86) 8 c_55_5 rfl hc0.1 rfl ?_
  refine z_getf (v := .int (jn id)) 11 c_55_8 rfl hc0.2.2.1 rfl ?_
  refine z_callv 14 4 44 1 35 c_55_11 rfl ⟨Nat.le_of_ble_eq_true rfl, Nat.le_of_ble_eq_true rfl⟩ rfl hc0.2.1.1 [.ref 35, .int (jn id)] rfl rfl [some (.ref 35), some (.int (jn id)), none] rfl rfl (t_slot hc0.2.1.1 hc0.2.1.2.2.1 hsz) ?_
  show jZ _ _ _ _ [.int (jo (sp_sl ids (jn id) sz 0))] _ _
  rw [hs]
  show jZ _ _ _ _ [.int (jn go)] _ _
  refine z_go 15 _ [.int (jo none), .int (jn go)] _ c_55_14 rfl ?_
  refine z_ieq 22 18 c_55_15 rfl (jn_m1 (by omega)) (fun h => h.elim) (fun _ => ?_)
  refine z_go 19 _ [.int (jn 1)] _ c_55_18 rfl ?_
  refine z_go 23 _ [.int (jn 1)] _ c_55_19 rfl ?_
  refine z_go 24 [some (.ref 16), some (.int (jn 1))] [] _ c_55_23 rfl ?_
  refine z_go 25 _ [.ref 16] _ c_55_24 rfl ?_
  refine z_getf (v := .ref 86) 28 c_55_25 rfl hc0.1 rfl ?_
  refine z_getf (v := .int (jb true)) 31 c_55_28 rfl hc0.2.2.1 rfl ?_
  refine z_ifeq 52 34 c_55_31 rfl jb_t (fun h => absurd h (by decide)) (fun _ => ?_)
  refine z_go 35 _ [.int (jn 1)] _ c_55_34 rfl ?_
  refine z_ifeq 52 38 c_55_35 rfl (jn_z (by decide)) (fun h => absurd h (by decide)) (fun _ => ?_)
  refine z_go 39 _ [.ref 16] _ c_55_38 rfl ?_
  refine z_getf (v := .ref 35) 42 c_55_39 rfl hc0.1 rfl ?_
  refine z_go 43 _ [.ref 16, .ref 35] _ c_55_42 rfl ?_
  refine z_getf (v := .ref 86) 46 c_55_43 rfl hc0.1 rfl ?_
  refine z_getf (v := .int (jn id)) 49 c_55_46 rfl hc0.2.2.1 rfl ?_
  refine z_callvV 52 4 45 1 35 c_55_49 rfl ⟨Nat.le_of_ble_eq_true rfl, Nat.le_of_ble_eq_true rfl⟩ rfl hc0.2.1.1 [.ref 35, .int (jn id)] rfl rfl [some (.ref 35), some (.int (jn id)), none, none, none] rfl rfl (t_take (x := jn id) hc0.2.1 hsz hs) ?_
  intro M1 ⟨hS1, hs1⟩
  have hc1 := cS_sh hc0 (hs1.wd (by decide) (by decide)) hS1
  show jZ _ _ _ _ [] _ _
  refine z_go 53 _ [.ref 16] _ c_55_52 rfl ?_
  refine z_getf (v := .ref 86) 56 c_55_53 rfl hc1.1 rfl ?_
  refine z_getf (v := .int (jb true)) 59 c_55_56 rfl hc1.2.2.1 rfl ?_
  refine z_ifne 87 62 c_55_59 rfl jb_t (fun h => absurd h (by decide)) (fun _ => ?_)
  refine z_ret c_55_87 ?_
  exact ⟨rfl, hc1, fC_sm (hs1.wd (by decide) (by decide))⟩
theorem t_carP {d ty hc tf : Nat} {dn : Bool} {p : Nat → Nat} {sz li : Nat} {ids : Nat → Nat} {G : Nat → GR} {mk : Bool} {id : Nat} {X : GR} {M : jx_M} (hc0 : cS M ty hc tf dn p sz li ids G mk false id X) (hsz : sz ≤ 12) (hs : sp_sl ids (jn id) sz 0 = none) (hs12 : sz < 12) : jZ (d + 2) 55 0 [some (.ref 16), none] [] M (jV none fun M' => cS M' ty hc tf dn p (sz + 1) id (nu ids sz id) (nu G sz X) mk false id X ∧ fC M M') := by
  refine z_go 1 _ [.ref 16] _ c_55_0 rfl ?_
  refine z_getf (v := .ref 35) 4 c_55_1 rfl hc0.1 rfl ?_
  refine z_go 5 _ [.ref 16, .ref 35] _ c_55_4 rfl ?_
  refine z_getf (v := .ref 86) 8 c_55_5 rfl hc0.1 rfl ?_
  refine z_getf (v := .int (jn id)) 11 c_55_8 rfl hc0.2.2.1 rfl ?_
  refine z_callv 14 4 44 1 35 c_55_11 rfl ⟨Nat.le_of_ble_eq_true rfl, Nat.le_of_ble_eq_true rfl⟩ rfl hc0.2.1.1 [.ref 35, .int (jn id)] rfl rfl [some (.ref 35), some (.int (jn id)), none] rfl rfl (t_slot hc0.2.1.1 hc0.2.1.2.2.1 hsz) ?_
  show jZ _ _ _ _ [.int (jo (sp_sl ids (jn id) sz 0))] _ _
  rw [hs]
  show jZ _ _ _ _ [.int (jo none)] _ _
  refine z_go 15 _ [.int (jo none), .int (jo none)] _ c_55_14 rfl ?_
  refine z_ieq 22 18 c_55_15 rfl Iff.rfl (fun _ => ?_) (fun h => absurd rfl h)
  refine z_go 23 _ [.int (jn 0)] _ c_55_22 rfl ?_
  refine z_go 24 [some (.ref 16), some (.int (jn 0))] [] _ c_55_23 rfl ?_
  refine z_go 25 _ [.ref 16] _ c_55_24 rfl ?_
  refine z_getf (v := .ref 86) 28 c_55_25 rfl hc0.1 rfl ?_
  refine z_getf (v := .int (jb false)) 31 c_55_28 rfl hc0.2.2.1 rfl ?_
  refine z_ifeq 52 34 c_55_31 rfl jb_t (fun _ => ?_) (fun h => absurd rfl h)
  refine z_go 53 _ [.ref 16] _ c_55_52 rfl ?_
  refine z_getf (v := .ref 86) 56 c_55_53 rfl hc0.1 rfl ?_
  refine z_getf (v := .int (jb false)) 59 c_55_56 rfl hc0.2.2.1 rfl ?_
  refine z_ifne 87 62 c_55_59 rfl jb_t (fun _ => ?_) (fun h => absurd rfl h)
  refine z_go 63 _ [.int (jn 0)] _ c_55_62 rfl ?_
  refine z_ifne 87 66 c_55_63 rfl (jn_z (by decide)) (fun _ => ?_) (fun h => absurd rfl h)
  refine z_go 67 _ [.ref 16] _ c_55_66 rfl ?_
  refine z_getf (v := .ref 35) 70 c_55_67 rfl hc0.1 rfl ?_
  refine z_go 71 _ [.ref 16, .ref 35] _ c_55_70 rfl ?_
  refine z_getf (v := .ref 86) 74 c_55_71 rfl hc0.1 rfl ?_
  refine z_getf (v := .int (jn id)) 77 c_55_74 rfl hc0.2.2.1 rfl ?_
  refine z_go 78 _ [.ref 16, .int (jn id), .ref 35] _ c_55_77 rfl ?_
  refine z_getf (v := .ref 86) 81 c_55_78 rfl hc0.1 rfl ?_
  refine z_getf (v := .ref 87) 84 c_55_81 rfl hc0.2.2.1 rfl ?_
  refine z_callvV 87 4 46 2 35 c_55_84 rfl ⟨Nat.le_of_ble_eq_true rfl, Nat.le_of_ble_eq_true rfl⟩ rfl hc0.2.1.1 [.ref 35, .int (jn id), .ref 87] rfl rfl [some (.ref 35), some (.int (jn id)), some (.ref 87)] rfl rfl (t_put hc0.2.1 hs12 hc0.2.2.2 (by decide)) ?_
  intro M1 ⟨hS1, hs1⟩
  have hc1 := cS_sh hc0 hs1 hS1
  show jZ _ _ _ _ [] _ _
  refine z_ret c_55_87 ?_
  exact ⟨rfl, hc1, fC_sm (hs1.wd (by decide) (by decide))⟩
theorem t_carN1 {d ty hc tf : Nat} {dn : Bool} {p : Nat → Nat} {sz li : Nat} {ids : Nat → Nat} {G : Nat → GR} {mk : Bool} {id : Nat} {X : GR} {M : jx_M} (hc0 : cS M ty hc tf dn p sz li ids G mk true id X) (hsz : sz ≤ 12) (hs : sp_sl ids (jn id) sz 0 = none) : jZ (d + 2) 55 0 [some (.ref 16), none] [] M (jV none fun M' => cS M' ty hc tf dn p sz li ids G mk true id X ∧ fC M M') := by
  refine z_go 1 _ [.ref 16] _ c_55_0 rfl ?_
  refine z_getf (v := .ref 35) 4 c_55_1 rfl hc0.1 rfl ?_
  refine z_go 5 _ [.ref 16, .ref 35] _ c_55_4 rfl ?_
  refine z_getf (v := .ref 86) 8 c_55_5 rfl hc0.1 rfl ?_
  refine z_getf (v := .int (jn id)) 11 c_55_8 rfl hc0.2.2.1 rfl ?_
  refine z_callv 14 4 44 1 35 c_55_11 rfl ⟨Nat.le_of_ble_eq_true rfl, Nat.le_of_ble_eq_true rfl⟩ rfl hc0.2.1.1 [.ref 35, .int (jn id)] rfl rfl [some (.ref 35), some (.int (jn id)), none] rfl rfl (t_slot hc0.2.1.1 hc0.2.1.2.2.1 hsz) ?_
  show jZ _ _ _ _ [.int (jo (sp_sl ids (jn id) sz 0))] _ _
  rw [hs]
  show jZ _ _ _ _ [.int (jo none)] _ _
  refine z_go 15 _ [.int (jo none), .int (jo none)] _ c_55_14 rfl ?_
  refine z_ieq 22 18 c_55_15 rfl Iff.rfl (fun _ => ?_) (fun h => absurd rfl h)
  refine z_go 23 _ [.int (jn 0)] _ c_55_22 rfl ?_
  refine z_go 24 [some (.ref 16), some (.int (jn 0))] [] _ c_55_23 rfl ?_
  refine z_go 25 _ [.ref 16] _ c_55_24 rfl ?_
  refine z_getf (v := .ref 86) 28 c_55_25 rfl hc0.1 rfl ?_
  refine z_getf (v := .int (jb true)) 31 c_55_28 rfl hc0.2.2.1 rfl ?_
  refine z_ifeq 52 34 c_55_31 rfl jb_t (fun h => absurd h (by decide)) (fun _ => ?_)
  refine z_go 35 _ [.int (jn 0)] _ c_55_34 rfl ?_
  refine z_ifeq 52 38 c_55_35 rfl (jn_z (by decide)) (fun _ => ?_) (fun h => absurd rfl h)
  refine z_go 53 _ [.ref 16] _ c_55_52 rfl ?_
  refine z_getf (v := .ref 86) 56 c_55_53 rfl hc0.1 rfl ?_
  refine z_getf (v := .int (jb true)) 59 c_55_56 rfl hc0.2.2.1 rfl ?_
  refine z_ifne 87 62 c_55_59 rfl jb_t (fun h => absurd h (by decide)) (fun _ => ?_)
  refine z_ret c_55_87 ?_
  exact ⟨rfl, hc0, fC_r M⟩
theorem t_carN2 {d ty hc tf : Nat} {dn : Bool} {p : Nat → Nat} {sz li : Nat} {ids : Nat → Nat} {G : Nat → GR} {mk : Bool} {id : Nat} {X : GR} {M : jx_M} (hc0 : cS M ty hc tf dn p sz li ids G mk false id X) (hsz : sz ≤ 12) {go : Nat} (hs : sp_sl ids (jn id) sz 0 = some go) : jZ (d + 2) 55 0 [some (.ref 16), none] [] M (jV none fun M' => cS M' ty hc tf dn p sz li ids G mk false id X ∧ fC M M') := by
  obtain ⟨-, hgo, -⟩ := sp_sl_some hs
  refine z_go 1 _ [.ref 16] _ c_55_0 rfl ?_
  refine z_getf (v := .ref 35) 4 c_55_1 rfl hc0.1 rfl ?_
  refine z_go 5 _ [.ref 16, .ref 35] _ c_55_4 rfl ?_
  refine z_getf (v := .ref 86) 8 c_55_5 rfl hc0.1 rfl ?_
  refine z_getf (v := .int (jn id)) 11 c_55_8 rfl hc0.2.2.1 rfl ?_
  refine z_callv 14 4 44 1 35 c_55_11 rfl ⟨Nat.le_of_ble_eq_true rfl, Nat.le_of_ble_eq_true rfl⟩ rfl hc0.2.1.1 [.ref 35, .int (jn id)] rfl rfl [some (.ref 35), some (.int (jn id)), none] rfl rfl (t_slot hc0.2.1.1 hc0.2.1.2.2.1 hsz) ?_
  show jZ _ _ _ _ [.int (jo (sp_sl ids (jn id) sz 0))] _ _
  rw [hs]
  show jZ _ _ _ _ [.int (jn go)] _ _
  refine z_go 15 _ [.int (jo none), .int (jn go)] _ c_55_14 rfl ?_
  refine z_ieq 22 18 c_55_15 rfl (jn_m1 (by omega)) (fun h => h.elim) (fun _ => ?_)
  refine z_go 19 _ [.int (jn 1)] _ c_55_18 rfl ?_
  refine z_go 23 _ [.int (jn 1)] _ c_55_19 rfl ?_
  refine z_go 24 [some (.ref 16), some (.int (jn 1))] [] _ c_55_23 rfl ?_
  refine z_go 25 _ [.ref 16] _ c_55_24 rfl ?_
  refine z_getf (v := .ref 86) 28 c_55_25 rfl hc0.1 rfl ?_
  refine z_getf (v := .int (jb false)) 31 c_55_28 rfl hc0.2.2.1 rfl ?_
  refine z_ifeq 52 34 c_55_31 rfl jb_t (fun _ => ?_) (fun h => absurd rfl h)
  refine z_go 53 _ [.ref 16] _ c_55_52 rfl ?_
  refine z_getf (v := .ref 86) 56 c_55_53 rfl hc0.1 rfl ?_
  refine z_getf (v := .int (jb false)) 59 c_55_56 rfl hc0.2.2.1 rfl ?_
  refine z_ifne 87 62 c_55_59 rfl jb_t (fun _ => ?_) (fun h => absurd rfl h)
  refine z_go 63 _ [.int (jn 1)] _ c_55_62 rfl ?_
  refine z_ifne 87 66 c_55_63 rfl (jn_z (by decide)) (fun h => absurd h (by decide)) (fun _ => ?_)
  refine z_ret c_55_87 ?_
  exact ⟨rfl, hc0, fC_r M⟩
theorem t_chT0 {d ty hc : Nat} {dn : Bool} {p : Nat → Nat} {sz li : Nat} {ids : Nat → Nat} {G : Nat → GR} {rm0 : Bool} {id0 id : Nat} {X : GR} {M : jx_M} (hc0 : cS M ty hc 0 dn p sz li ids G false rm0 id0 X) (hsz : sz ≤ 12) {go : Nat} (hs : sp_sl ids (jn id) sz 0 = some go) : jZ (d + 3) 65 0 [some (.ref 16), some (.int (jb true)), some (.int (jn id)), none] [] M (jV (some (.int (jb true))) fun M' => cS M' ty 0 0 false (sp_tk p go sz) (sz - 1) li (sp_sh ids go (sz - 1)) (sp_tk G go sz) false false 0 X ∧ fC M M') := by
  refine z_go 1 _ [.ref 16] _ c_65_0 rfl ?_
  refine z_getf (v := .int (jn 0)) 4 c_65_1 rfl hc0.1 rfl ?_
  refine z_ifne 11 7 c_65_4 rfl (jn_z (by decide)) (fun _ => ?_) (fun h => absurd rfl h)
  refine z_go 8 _ [.int (jn 5)] _ c_65_7 rfl ?_
  refine z_go 15 _ [.int (jn 5)] _ c_65_8 rfl ?_
  refine z_go 16 [some (.ref 16), some (.int (jb true)), some (.int (jn id)), some (.int (jn 5))] [] _ c_65_15 rfl ?_
  refine z_go 17 _ [.ref 16] _ c_65_16 rfl ?_
  refine z_go 18 _ [.int (jn 0), .ref 16] _ c_65_17 rfl ?_
  refine z_putf (M' := jm [(16, xO ty hc 0 dn)] M) 21 c_65_18 rfl hc0.1 (rfl) (Nat.le_of_ble_eq_true rfl) rfl ?_
  refine z_go 22 _ [.ref 16] _ c_65_21 rfl ?_
  refine z_go 23 _ [.int (jn 0), .ref 16] _ c_65_22 rfl ?_
  refine z_putf (M' := jm [(16, xO ty 0 0 dn)] M) 26 c_65_23 rfl rfl (rfl) (Nat.le_of_ble_eq_true rfl) (jm_w rfl) ?_
  have hs1 : sm 16 16 M (jm [(16, xO ty 0 0 dn)] M) := sm_jm rfl
  have hw1 : cS (jm [(16, xO ty 0 0 dn)] M) ty 0 0 dn p sz li ids G false rm0 id0 X := cS_16 hc0 hs1 rfl
  generalize hM1 : jm [(16, xO ty 0 0 dn)] M = M1 at hs1 hw1 ⊢
  have hc1 := hw1
  have hf1 : fC M M1 := fC_16 hs1
  refine z_go 27 _ [.int (jn 5)] _ c_65_26 rfl ?_
  refine z_go 28 _ [.int (jn 1), .int (jn 5)] _ c_65_27 rfl ?_
  refine z_ile 44 31 c_65_28 rfl (by decide) (by decide) (fun _ => ?_) (fun h => absurd (by decide) h)
  refine z_go 32 _ [.ref 16] _ c_65_31 rfl ?_
  refine z_getf (v := .ref 86) 35 c_65_32 rfl hc1.1 rfl ?_
  refine z_go 36 _ [.int (jb true), .ref 86] _ c_65_35 rfl ?_
  refine z_go 37 _ [.int (jn id), .int (jb true), .ref 86] _ c_65_36 rfl ?_
  refine z_go 38 _ [.ref 16, .int (jn id), .int (jb true), .ref 86] _ c_65_37 rfl ?_
  refine z_getf (v := .ref 28) 41 c_65_38 rfl hc1.1 rfl ?_
  refine z_callv 44 1 13 3 86 c_65_41 rfl ⟨Nat.le_of_ble_eq_true rfl, Nat.le_of_ble_eq_true rfl⟩ rfl hc1.2.2.1 [.ref 86, .int (jb true), .int (jn id), .ref 28] rfl rfl [some (.ref 86), some (.int (jb true)), some (.int (jn id)), some (.ref 28)] rfl rfl (t_lwr1 hc1.2.2.1) ?_
  show jZ _ _ _ _ [] _ _
  have hs2 : sm 86 86 M1 (jm [(86, lO false true id)] M1) := sm_jm rfl
  have hw2 : cS (jm [(86, lO false true id)] M1) ty 0 0 dn p sz li ids G false true id X := cS_86 hc1 hs2 rfl
  generalize hM2 : jm [(86, lO false true id)] M1 = M2 at hs2 hw2 ⊢
  have hc2 := hw2
  have hf2 : fC M M2 := (hf1).tr (fC_sm (hs2.wd (by decide) (by decide)))
  refine z_go 45 _ [.int (jn 5)] _ c_65_44 rfl ?_
  refine z_go 46 _ [.int (jn 2), .int (jn 5)] _ c_65_45 rfl ?_
  refine z_ile 57 49 c_65_46 rfl (by decide) (by decide) (fun _ => ?_) (fun h => absurd (by decide) h)
  refine z_go 50 _ [.ref 16] _ c_65_49 rfl ?_
  refine z_getf (v := .ref 86) 53 c_65_50 rfl hc2.1 rfl ?_
  refine z_go 54 _ [.int (jn 1), .ref 86] _ c_65_53 rfl ?_
  refine z_putf (M' := jm [(86, lO true true id)] M2) 57 c_65_54 rfl hc2.2.2.1 (by decide) (Nat.le_of_ble_eq_true rfl) rfl ?_
  have hs3 : sm 86 86 M2 (jm [(86, lO true true id)] M2) := sm_jm rfl
  have hw3 : cS (jm [(86, lO true true id)] M2) ty 0 0 dn p sz li ids G true true id X := cS_86 hc2 hs3 rfl
  generalize hM3 : jm [(86, lO true true id)] M2 = M3 at hs3 hw3 ⊢
  have hc3 := hw3
  have hf3 : fC M M3 := (hf2).tr (fC_sm (hs3.wd (by decide) (by decide)))
  refine z_go 58 _ [.int (jn 5)] _ c_65_57 rfl ?_
  refine z_go 59 _ [.int (jn 3), .int (jn 5)] _ c_65_58 rfl ?_
  refine z_ile 66 62 c_65_59 rfl (by decide) (by decide) (fun _ => ?_) (fun h => absurd (by decide) h)
  refine z_go 63 _ [.ref 16] _ c_65_62 rfl ?_
  refine z_callvV 66 5 55 0 16 c_65_63 rfl ⟨Nat.le_of_ble_eq_true rfl, Nat.le_of_ble_eq_true rfl⟩ rfl hc3.1 [.ref 16] rfl rfl [some (.ref 16), none] rfl rfl (t_carT (d := d) hc3 hsz hs) ?_
  intro M4 ⟨hc4, qf⟩
  have hf4 : fC M M4 := hf3.tr qf
  show jZ _ _ _ _ [] _ _
  refine z_go 67 _ [.int (jn 5)] _ c_65_66 rfl ?_
  refine z_go 68 _ [.int (jn 4), .int (jn 5)] _ c_65_67 rfl ?_
  refine z_ile 78 71 c_65_68 rfl (by decide) (by decide) (fun _ => ?_) (fun h => absurd (by decide) h)
  refine z_go 72 _ [.ref 16] _ c_65_71 rfl ?_
  refine z_getf (v := .ref 86) 75 c_65_72 rfl hc4.1 rfl ?_
  refine z_callv 78 1 12 0 86 c_65_75 rfl ⟨Nat.le_of_ble_eq_true rfl, Nat.le_of_ble_eq_true rfl⟩ rfl hc4.2.2.1 [.ref 86] rfl rfl [some (.ref 86)] rfl rfl (t_lclear hc4.2.2.1) ?_
  show jZ _ _ _ _ [] _ _
  have hs5 : sm 86 86 M4 (jm [(86, lO false false 0)] M4) := sm_jm rfl
  have hw5 : cS (jm [(86, lO false false 0)] M4) ty 0 0 dn (sp_tk p go sz) (sz - 1) li (sp_sh ids go (sz - 1)) (sp_tk G go sz) false false 0 X := cS_86 hc4 hs5 rfl
  generalize hM5 : jm [(86, lO false false 0)] M4 = M5 at hs5 hw5 ⊢
  have hc5 := hw5
  have hf5 : fC M M5 := (hf4).tr (fC_sm (hs5.wd (by decide) (by decide)))
  refine z_go 79 _ [.ref 16] _ c_65_78 rfl ?_
  refine z_go 80 _ [.int (jn 5), .ref 16] _ c_65_79 rfl ?_
  refine z_go 81 _ [.int (jn 4), .int (jn 5), .ref 16] _ c_65_80 rfl ?_
  refine z_igt 88 84 c_65_81 rfl (by decide) (by decide) (fun _ => ?_) (fun h => absurd (by decide) h)
  refine z_go 89 _ [.int (jn 0), .ref 16] _ c_65_88 rfl ?_
  refine z_putf (M' := jm [(16, xO ty 0 0 false)] M5) 92 c_65_89 rfl hc5.1 (by decide) (Nat.le_of_ble_eq_true rfl) rfl ?_
  have hs9 : sm 16 16 M5 (jm [(16, xO ty 0 0 false)] M5) := sm_jm rfl
  have hw9 : cS (jm [(16, xO ty 0 0 false)] M5) ty 0 0 false (sp_tk p go sz) (sz - 1) li (sp_sh ids go (sz - 1)) (sp_tk G go sz) false false 0 X := cS_16 hc5 hs9 rfl
  generalize hM9 : jm [(16, xO ty 0 0 false)] M5 = M9 at hs9 hw9 ⊢
  have hc9 := hw9
  have hf9 : fC M M9 := (hf5).tr (fC_16 hs9)
  refine z_go 93 _ [.ref 16] _ c_65_92 rfl ?_
  refine z_getf (v := .int (jb false)) 96 c_65_93 rfl hc9.1 rfl ?_
  refine z_ifne 103 99 c_65_96 rfl jb_t (fun _ => ?_) (fun h => absurd rfl h)
  refine z_go 100 _ [.int (jn 1)] _ c_65_99 rfl ?_
  refine z_go 104 _ [.int (jn 1)] _ c_65_100 rfl ?_
  refine z_zret (b := true) c_65_104 ?_
  exact ⟨rfl, hc9, hf9⟩
theorem t_chT1 {d ty hc : Nat} {dn : Bool} {p : Nat → Nat} {sz li : Nat} {ids : Nat → Nat} {G : Nat → GR} {rm0 : Bool} {id0 id : Nat} {X : GR} {M : jx_M} (hc0 : cS M ty hc 1 dn p sz li ids G false rm0 id0 X) (hsz : sz ≤ 12) {go : Nat} (hs : sp_sl ids (jn id) sz 0 = some go) : jZ (d + 3) 65 0 [some (.ref 16), some (.int (jb true)), some (.int (jn id)), none] [] M (jV (some (.int (jb false))) fun M' => cS M' ty 0 0 true p sz li ids G false rm0 id0 X ∧ fC M M') := by
  refine z_go 1 _ [.ref 16] _ c_65_0 rfl ?_
  refine z_getf (v := .int (jn 1)) 4 c_65_1 rfl hc0.1 rfl ?_
  refine z_ifne 11 7 c_65_4 rfl (jn_z (by decide)) (fun h => absurd h (by decide)) (fun _ => ?_)
  refine z_go 12 _ [.ref 16] _ c_65_11 rfl ?_
  refine z_getf (v := .int (jn 1)) 15 c_65_12 rfl hc0.1 rfl ?_
  refine z_go 16 [some (.ref 16), some (.int (jb true)), some (.int (jn id)), some (.int (jn 1))] [] _ c_65_15 rfl ?_
  refine z_go 17 _ [.ref 16] _ c_65_16 rfl ?_
  refine z_go 18 _ [.int (jn 0), .ref 16] _ c_65_17 rfl ?_
  refine z_putf (M' := jm [(16, xO ty hc 0 dn)] M) 21 c_65_18 rfl hc0.1 (rfl) (Nat.le_of_ble_eq_true rfl) rfl ?_
  refine z_go 22 _ [.ref 16] _ c_65_21 rfl ?_
  refine z_go 23 _ [.int (jn 0), .ref 16] _ c_65_22 rfl ?_
  refine z_putf (M' := jm [(16, xO ty 0 0 dn)] M) 26 c_65_23 rfl rfl (rfl) (Nat.le_of_ble_eq_true rfl) (jm_w rfl) ?_
  have hs1 : sm 16 16 M (jm [(16, xO ty 0 0 dn)] M) := sm_jm rfl
  have hw1 : cS (jm [(16, xO ty 0 0 dn)] M) ty 0 0 dn p sz li ids G false rm0 id0 X := cS_16 hc0 hs1 rfl
  generalize hM1 : jm [(16, xO ty 0 0 dn)] M = M1 at hs1 hw1 ⊢
  have hc1 := hw1
  have hf1 : fC M M1 := fC_16 hs1
  refine z_go 27 _ [.int (jn 1)] _ c_65_26 rfl ?_
  refine z_go 28 _ [.int (jn 1), .int (jn 1)] _ c_65_27 rfl ?_
  refine z_ile 44 31 c_65_28 rfl (by decide) (by decide) (fun h => absurd h (by decide)) (fun _ => ?_)
  refine z_go 45 _ [.int (jn 1)] _ c_65_44 rfl ?_
  refine z_go 46 _ [.int (jn 2), .int (jn 1)] _ c_65_45 rfl ?_
  refine z_ile 57 49 c_65_46 rfl (by decide) (by decide) (fun h => absurd h (by decide)) (fun _ => ?_)
  refine z_go 58 _ [.int (jn 1)] _ c_65_57 rfl ?_
  refine z_go 59 _ [.int (jn 3), .int (jn 1)] _ c_65_58 rfl ?_
  refine z_ile 66 62 c_65_59 rfl (by decide) (by decide) (fun h => absurd h (by decide)) (fun _ => ?_)
  refine z_go 67 _ [.int (jn 1)] _ c_65_66 rfl ?_
  refine z_go 68 _ [.int (jn 4), .int (jn 1)] _ c_65_67 rfl ?_
  refine z_ile 78 71 c_65_68 rfl (by decide) (by decide) (fun h => absurd h (by decide)) (fun _ => ?_)
  refine z_go 79 _ [.ref 16] _ c_65_78 rfl ?_
  refine z_go 80 _ [.int (jn 1), .ref 16] _ c_65_79 rfl ?_
  refine z_go 81 _ [.int (jn 4), .int (jn 1), .ref 16] _ c_65_80 rfl ?_
  refine z_igt 88 84 c_65_81 rfl (by decide) (by decide) (fun h => absurd h (by decide)) (fun _ => ?_)
  refine z_go 85 _ [.int (jn 1), .ref 16] _ c_65_84 rfl ?_
  refine z_go 89 _ [.int (jn 1), .ref 16] _ c_65_85 rfl ?_
  refine z_putf (M' := jm [(16, xO ty 0 0 true)] M1) 92 c_65_89 rfl hc1.1 (by decide) (Nat.le_of_ble_eq_true rfl) rfl ?_
  have hs9 : sm 16 16 M1 (jm [(16, xO ty 0 0 true)] M1) := sm_jm rfl
  have hw9 : cS (jm [(16, xO ty 0 0 true)] M1) ty 0 0 true p sz li ids G false rm0 id0 X := cS_16 hc1 hs9 rfl
  generalize hM9 : jm [(16, xO ty 0 0 true)] M1 = M9 at hs9 hw9 ⊢
  have hc9 := hw9
  have hf9 : fC M M9 := (hf1).tr (fC_16 hs9)
  refine z_go 93 _ [.ref 16] _ c_65_92 rfl ?_
  refine z_getf (v := .int (jb true)) 96 c_65_93 rfl hc9.1 rfl ?_
  refine z_ifne 103 99 c_65_96 rfl jb_t (fun h => absurd h (by decide)) (fun _ => ?_)
  refine z_go 104 _ [.int (jn 0)] _ c_65_103 rfl ?_
  refine z_zret (b := false) c_65_104 ?_
  exact ⟨rfl, hc9, hf9⟩
theorem t_chT2 {d ty hc : Nat} {dn : Bool} {p : Nat → Nat} {sz li : Nat} {ids : Nat → Nat} {G : Nat → GR} {rm0 : Bool} {id0 id : Nat} {X : GR} {M : jx_M} (hc0 : cS M ty hc 2 dn p sz li ids G false rm0 id0 X) (hsz : sz ≤ 12) {go : Nat} (hs : sp_sl ids (jn id) sz 0 = some go) : jZ (d + 3) 65 0 [some (.ref 16), some (.int (jb true)), some (.int (jn id)), none] [] M (jV (some (.int (jb false))) fun M' => cS M' ty 0 0 true p sz li ids G false true id X ∧ fC M M') := by
  refine z_go 1 _ [.ref 16] _ c_65_0 rfl ?_
  refine z_getf (v := .int (jn 2)) 4 c_65_1 rfl hc0.1 rfl ?_
  refine z_ifne 11 7 c_65_4 rfl (jn_z (by decide)) (fun h => absurd h (by decide)) (fun _ => ?_)
  refine z_go 12 _ [.ref 16] _ c_65_11 rfl ?_
  refine z_getf (v := .int (jn 2)) 15 c_65_12 rfl hc0.1 rfl ?_
  refine z_go 16 [some (.ref 16), some (.int (jb true)), some (.int (jn id)), some (.int (jn 2))] [] _ c_65_15 rfl ?_
  refine z_go 17 _ [.ref 16] _ c_65_16 rfl ?_
  refine z_go 18 _ [.int (jn 0), .ref 16] _ c_65_17 rfl ?_
  refine z_putf (M' := jm [(16, xO ty hc 0 dn)] M) 21 c_65_18 rfl hc0.1 (rfl) (Nat.le_of_ble_eq_true rfl) rfl ?_
  refine z_go 22 _ [.ref 16] _ c_65_21 rfl ?_
  refine z_go 23 _ [.int (jn 0), .ref 16] _ c_65_22 rfl ?_
  refine z_putf (M' := jm [(16, xO ty 0 0 dn)] M) 26 c_65_23 rfl rfl (rfl) (Nat.le_of_ble_eq_true rfl) (jm_w rfl) ?_
  have hs1 : sm 16 16 M (jm [(16, xO ty 0 0 dn)] M) := sm_jm rfl
  have hw1 : cS (jm [(16, xO ty 0 0 dn)] M) ty 0 0 dn p sz li ids G false rm0 id0 X := cS_16 hc0 hs1 rfl
  generalize hM1 : jm [(16, xO ty 0 0 dn)] M = M1 at hs1 hw1 ⊢
  have hc1 := hw1
  have hf1 : fC M M1 := fC_16 hs1
  refine z_go 27 _ [.int (jn 2)] _ c_65_26 rfl ?_
  refine z_go 28 _ [.int (jn 1), .int (jn 2)] _ c_65_27 rfl ?_
  refine z_ile 44 31 c_65_28 rfl (by decide) (by decide) (fun _ => ?_) (fun h => absurd (by decide) h)
  refine z_go 32 _ [.ref 16] _ c_65_31 rfl ?_
  refine z_getf (v := .ref 86) 35 c_65_32 rfl hc1.1 rfl ?_
  refine z_go 36 _ [.int (jb true), .ref 86] _ c_65_35 rfl ?_
  refine z_go 37 _ [.int (jn id), .int (jb true), .ref 86] _ c_65_36 rfl ?_
  refine z_go 38 _ [.ref 16, .int (jn id), .int (jb true), .ref 86] _ c_65_37 rfl ?_
  refine z_getf (v := .ref 28) 41 c_65_38 rfl hc1.1 rfl ?_
  refine z_callv 44 1 13 3 86 c_65_41 rfl ⟨Nat.le_of_ble_eq_true rfl, Nat.le_of_ble_eq_true rfl⟩ rfl hc1.2.2.1 [.ref 86, .int (jb true), .int (jn id), .ref 28] rfl rfl [some (.ref 86), some (.int (jb true)), some (.int (jn id)), some (.ref 28)] rfl rfl (t_lwr1 hc1.2.2.1) ?_
  show jZ _ _ _ _ [] _ _
  have hs2 : sm 86 86 M1 (jm [(86, lO false true id)] M1) := sm_jm rfl
  have hw2 : cS (jm [(86, lO false true id)] M1) ty 0 0 dn p sz li ids G false true id X := cS_86 hc1 hs2 rfl
  generalize hM2 : jm [(86, lO false true id)] M1 = M2 at hs2 hw2 ⊢
  have hc2 := hw2
  have hf2 : fC M M2 := (hf1).tr (fC_sm (hs2.wd (by decide) (by decide)))
  refine z_go 45 _ [.int (jn 2)] _ c_65_44 rfl ?_
  refine z_go 46 _ [.int (jn 2), .int (jn 2)] _ c_65_45 rfl ?_
  refine z_ile 57 49 c_65_46 rfl (by decide) (by decide) (fun h => absurd h (by decide)) (fun _ => ?_)
  refine z_go 58 _ [.int (jn 2)] _ c_65_57 rfl ?_
  refine z_go 59 _ [.int (jn 3), .int (jn 2)] _ c_65_58 rfl ?_
  refine z_ile 66 62 c_65_59 rfl (by decide) (by decide) (fun h => absurd h (by decide)) (fun _ => ?_)
  refine z_go 67 _ [.int (jn 2)] _ c_65_66 rfl ?_
  refine z_go 68 _ [.int (jn 4), .int (jn 2)] _ c_65_67 rfl ?_
  refine z_ile 78 71 c_65_68 rfl (by decide) (by decide) (fun h => absurd h (by decide)) (fun _ => ?_)
  refine z_go 79 _ [.ref 16] _ c_65_78 rfl ?_
  refine z_go 80 _ [.int (jn 2), .ref 16] _ c_65_79 rfl ?_
  refine z_go 81 _ [.int (jn 4), .int (jn 2), .ref 16] _ c_65_80 rfl ?_
  refine z_igt 88 84 c_65_81 rfl (by decide) (by decide) (fun h => absurd h (by decide)) (fun _ => ?_)
  refine z_go 85 _ [.int (jn 1), .ref 16] _ c_65_84 rfl ?_
  refine z_go 89 _ [.int (jn 1), .ref 16] _ c_65_85 rfl ?_
  refine z_putf (M' := jm [(16, xO ty 0 0 true)] M2) 92 c_65_89 rfl hc2.1 (by decide) (Nat.le_of_ble_eq_true rfl) rfl ?_
  have hs9 : sm 16 16 M2 (jm [(16, xO ty 0 0 true)] M2) := sm_jm rfl
  have hw9 : cS (jm [(16, xO ty 0 0 true)] M2) ty 0 0 true p sz li ids G false true id X := cS_16 hc2 hs9 rfl
  generalize hM9 : jm [(16, xO ty 0 0 true)] M2 = M9 at hs9 hw9 ⊢
  have hc9 := hw9
  have hf9 : fC M M9 := (hf2).tr (fC_16 hs9)
  refine z_go 93 _ [.ref 16] _ c_65_92 rfl ?_
  refine z_getf (v := .int (jb true)) 96 c_65_93 rfl hc9.1 rfl ?_
  refine z_ifne 103 99 c_65_96 rfl jb_t (fun h => absurd h (by decide)) (fun _ => ?_)
  refine z_go 104 _ [.int (jn 0)] _ c_65_103 rfl ?_
  refine z_zret (b := false) c_65_104 ?_
  exact ⟨rfl, hc9, hf9⟩
theorem t_chT3 {d ty hc : Nat} {dn : Bool} {p : Nat → Nat} {sz li : Nat} {ids : Nat → Nat} {G : Nat → GR} {rm0 : Bool} {id0 id : Nat} {X : GR} {M : jx_M} (hc0 : cS M ty hc 3 dn p sz li ids G false rm0 id0 X) (hsz : sz ≤ 12) {go : Nat} (hs : sp_sl ids (jn id) sz 0 = some go) : jZ (d + 3) 65 0 [some (.ref 16), some (.int (jb true)), some (.int (jn id)), none] [] M (jV (some (.int (jb false))) fun M' => cS M' ty 0 0 true p sz li ids G true true id X ∧ fC M M') := by
  refine z_go 1 _ [.ref 16] _ c_65_0 rfl ?_
  refine z_getf (v := .int (jn 3)) 4 c_65_1 rfl hc0.1 rfl ?_
  refine z_ifne 11 7 c_65_4 rfl (jn_z (by decide)) (fun h => absurd h (by decide)) (fun _ => ?_)
  refine z_go 12 _ [.ref 16] _ c_65_11 rfl ?_
  refine z_getf (v := .int (jn 3)) 15 c_65_12 rfl hc0.1 rfl ?_
  refine z_go 16 [some (.ref 16), some (.int (jb true)), some (.int (jn id)), some (.int (jn 3))] [] _ c_65_15 rfl ?_
  refine z_go 17 _ [.ref 16] _ c_65_16 rfl ?_
  refine z_go 18 _ [.int (jn 0), .ref 16] _ c_65_17 rfl ?_
  refine z_putf (M' := jm [(16, xO ty hc 0 dn)] M) 21 c_65_18 rfl hc0.1 (rfl) (Nat.le_of_ble_eq_true rfl) rfl ?_
  refine z_go 22 _ [.ref 16] _ c_65_21 rfl ?_
  refine z_go 23 _ [.int (jn 0), .ref 16] _ c_65_22 rfl ?_
  refine z_putf (M' := jm [(16, xO ty 0 0 dn)] M) 26 c_65_23 rfl rfl (rfl) (Nat.le_of_ble_eq_true rfl) (jm_w rfl) ?_
  have hs1 : sm 16 16 M (jm [(16, xO ty 0 0 dn)] M) := sm_jm rfl
  have hw1 : cS (jm [(16, xO ty 0 0 dn)] M) ty 0 0 dn p sz li ids G false rm0 id0 X := cS_16 hc0 hs1 rfl
  generalize hM1 : jm [(16, xO ty 0 0 dn)] M = M1 at hs1 hw1 ⊢
  have hc1 := hw1
  have hf1 : fC M M1 := fC_16 hs1
  refine z_go 27 _ [.int (jn 3)] _ c_65_26 rfl ?_
  refine z_go 28 _ [.int (jn 1), .int (jn 3)] _ c_65_27 rfl ?_
  refine z_ile 44 31 c_65_28 rfl (by decide) (by decide) (fun _ => ?_) (fun h => absurd (by decide) h)
  refine z_go 32 _ [.ref 16] _ c_65_31 rfl ?_
  refine z_getf (v := .ref 86) 35 c_65_32 rfl hc1.1 rfl ?_
  refine z_go 36 _ [.int (jb true), .ref 86] _ c_65_35 rfl ?_
  refine z_go 37 _ [.int (jn id), .int (jb true), .ref 86] _ c_65_36 rfl ?_
  refine z_go 38 _ [.ref 16, .int (jn id), .int (jb true), .ref 86] _ c_65_37 rfl ?_
  refine z_getf (v := .ref 28) 41 c_65_38 rfl hc1.1 rfl ?_
  refine z_callv 44 1 13 3 86 c_65_41 rfl ⟨Nat.le_of_ble_eq_true rfl, Nat.le_of_ble_eq_true rfl⟩ rfl hc1.2.2.1 [.ref 86, .int (jb true), .int (jn id), .ref 28] rfl rfl [some (.ref 86), some (.int (jb true)), some (.int (jn id)), some (.ref 28)] rfl rfl (t_lwr1 hc1.2.2.1) ?_
  show jZ _ _ _ _ [] _ _
  have hs2 : sm 86 86 M1 (jm [(86, lO false true id)] M1) := sm_jm rfl
  have hw2 : cS (jm [(86, lO false true id)] M1) ty 0 0 dn p sz li ids G false true id X := cS_86 hc1 hs2 rfl
  generalize hM2 : jm [(86, lO false true id)] M1 = M2 at hs2 hw2 ⊢
  have hc2 := hw2
  have hf2 : fC M M2 := (hf1).tr (fC_sm (hs2.wd (by decide) (by decide)))
  refine z_go 45 _ [.int (jn 3)] _ c_65_44 rfl ?_
  refine z_go 46 _ [.int (jn 2), .int (jn 3)] _ c_65_45 rfl ?_
  refine z_ile 57 49 c_65_46 rfl (by decide) (by decide) (fun _ => ?_) (fun h => absurd (by decide) h)
  refine z_go 50 _ [.ref 16] _ c_65_49 rfl ?_
  refine z_getf (v := .ref 86) 53 c_65_50 rfl hc2.1 rfl ?_
  refine z_go 54 _ [.int (jn 1), .ref 86] _ c_65_53 rfl ?_
  refine z_putf (M' := jm [(86, lO true true id)] M2) 57 c_65_54 rfl hc2.2.2.1 (by decide) (Nat.le_of_ble_eq_true rfl) rfl ?_
  have hs3 : sm 86 86 M2 (jm [(86, lO true true id)] M2) := sm_jm rfl
  have hw3 : cS (jm [(86, lO true true id)] M2) ty 0 0 dn p sz li ids G true true id X := cS_86 hc2 hs3 rfl
  generalize hM3 : jm [(86, lO true true id)] M2 = M3 at hs3 hw3 ⊢
  have hc3 := hw3
  have hf3 : fC M M3 := (hf2).tr (fC_sm (hs3.wd (by decide) (by decide)))
  refine z_go 58 _ [.int (jn 3)] _ c_65_57 rfl ?_
  refine z_go 59 _ [.int (jn 3), .int (jn 3)] _ c_65_58 rfl ?_
  refine z_ile 66 62 c_65_59 rfl (by decide) (by decide) (fun h => absurd h (by decide)) (fun _ => ?_)
  refine z_go 67 _ [.int (jn 3)] _ c_65_66 rfl ?_
  refine z_go 68 _ [.int (jn 4), .int (jn 3)] _ c_65_67 rfl ?_
  refine z_ile 78 71 c_65_68 rfl (by decide) (by decide) (fun h => absurd h (by decide)) (fun _ => ?_)
  refine z_go 79 _ [.ref 16] _ c_65_78 rfl ?_
  refine z_go 80 _ [.int (jn 3), .ref 16] _ c_65_79 rfl ?_
  refine z_go 81 _ [.int (jn 4), .int (jn 3), .ref 16] _ c_65_80 rfl ?_
  refine z_igt 88 84 c_65_81 rfl (by decide) (by decide) (fun h => absurd h (by decide)) (fun _ => ?_)
  refine z_go 85 _ [.int (jn 1), .ref 16] _ c_65_84 rfl ?_
  refine z_go 89 _ [.int (jn 1), .ref 16] _ c_65_85 rfl ?_
  refine z_putf (M' := jm [(16, xO ty 0 0 true)] M3) 92 c_65_89 rfl hc3.1 (by decide) (Nat.le_of_ble_eq_true rfl) rfl ?_
  have hs9 : sm 16 16 M3 (jm [(16, xO ty 0 0 true)] M3) := sm_jm rfl
  have hw9 : cS (jm [(16, xO ty 0 0 true)] M3) ty 0 0 true p sz li ids G true true id X := cS_16 hc3 hs9 rfl
  generalize hM9 : jm [(16, xO ty 0 0 true)] M3 = M9 at hs9 hw9 ⊢
  have hc9 := hw9
  have hf9 : fC M M9 := (hf3).tr (fC_16 hs9)
  refine z_go 93 _ [.ref 16] _ c_65_92 rfl ?_
  refine z_getf (v := .int (jb true)) 96 c_65_93 rfl hc9.1 rfl ?_
  refine z_ifne 103 99 c_65_96 rfl jb_t (fun h => absurd h (by decide)) (fun _ => ?_)
  refine z_go 104 _ [.int (jn 0)] _ c_65_103 rfl ?_
  refine z_zret (b := false) c_65_104 ?_
  exact ⟨rfl, hc9, hf9⟩
theorem t_chT4 {d ty hc : Nat} {dn : Bool} {p : Nat → Nat} {sz li : Nat} {ids : Nat → Nat} {G : Nat → GR} {rm0 : Bool} {id0 id : Nat} {X : GR} {M : jx_M} (hc0 : cS M ty hc 4 dn p sz li ids G false rm0 id0 X) (hsz : sz ≤ 12) {go : Nat} (hs : sp_sl ids (jn id) sz 0 = some go) : jZ (d + 3) 65 0 [some (.ref 16), some (.int (jb true)), some (.int (jn id)), none] [] M (jV (some (.int (jb false))) fun M' => cS M' ty 0 0 true (sp_tk p go sz) (sz - 1) li (sp_sh ids go (sz - 1)) (sp_tk G go sz) true true id X ∧ fC M M') := by
  refine z_go 1 _ [.ref 16] _ c_65_0 rfl ?_
  refine z_getf (v := .int (jn 4)) 4 c_65_1 rfl hc0.1 rfl ?_
  refine z_ifne 11 7 c_65_4 rfl (jn_z (by decide)) (fun h => absurd h (by decide)) (fun _ => ?_)
  refine z_go 12 _ [.ref 16] _ c_65_11 rfl ?_
  refine z_getf (v := .int (jn 4)) 15 c_65_12 rfl hc0.1 rfl ?_
  refine z_go 16 [some (.ref 16), some (.int (jb true)), some (.int (jn id)), some (.int (jn 4))] [] _ c_65_15 rfl ?_
  refine z_go 17 _ [.ref 16] _ c_65_16 rfl ?_
  refine z_go 18 _ [.int (jn 0), .ref 16] _ c_65_17 rfl ?_
  refine z_putf (M' := jm [(16, xO ty hc 0 dn)] M) 21 c_65_18 rfl hc0.1 (rfl) (Nat.le_of_ble_eq_true rfl) rfl ?_
  refine z_go 22 _ [.ref 16] _ c_65_21 rfl ?_
  refine z_go 23 _ [.int (jn 0), .ref 16] _ c_65_22 rfl ?_
  refine z_putf (M' := jm [(16, xO ty 0 0 dn)] M) 26 c_65_23 rfl rfl (rfl) (Nat.le_of_ble_eq_true rfl) (jm_w rfl) ?_
  have hs1 : sm 16 16 M (jm [(16, xO ty 0 0 dn)] M) := sm_jm rfl
  have hw1 : cS (jm [(16, xO ty 0 0 dn)] M) ty 0 0 dn p sz li ids G false rm0 id0 X := cS_16 hc0 hs1 rfl
  generalize hM1 : jm [(16, xO ty 0 0 dn)] M = M1 at hs1 hw1 ⊢
  have hc1 := hw1
  have hf1 : fC M M1 := fC_16 hs1
  refine z_go 27 _ [.int (jn 4)] _ c_65_26 rfl ?_
  refine z_go 28 _ [.int (jn 1), .int (jn 4)] _ c_65_27 rfl ?_
  refine z_ile 44 31 c_65_28 rfl (by decide) (by decide) (fun _ => ?_) (fun h => absurd (by decide) h)
  refine z_go 32 _ [.ref 16] _ c_65_31 rfl ?_
  refine z_getf (v := .ref 86) 35 c_65_32 rfl hc1.1 rfl ?_
  refine z_go 36 _ [.int (jb true), .ref 86] _ c_65_35 rfl ?_
  refine z_go 37 _ [.int (jn id), .int (jb true), .ref 86] _ c_65_36 rfl ?_
  refine z_go 38 _ [.ref 16, .int (jn id), .int (jb true), .ref 86] _ c_65_37 rfl ?_
  refine z_getf (v := .ref 28) 41 c_65_38 rfl hc1.1 rfl ?_
  refine z_callv 44 1 13 3 86 c_65_41 rfl ⟨Nat.le_of_ble_eq_true rfl, Nat.le_of_ble_eq_true rfl⟩ rfl hc1.2.2.1 [.ref 86, .int (jb true), .int (jn id), .ref 28] rfl rfl [some (.ref 86), some (.int (jb true)), some (.int (jn id)), some (.ref 28)] rfl rfl (t_lwr1 hc1.2.2.1) ?_
  show jZ _ _ _ _ [] _ _
  have hs2 : sm 86 86 M1 (jm [(86, lO false true id)] M1) := sm_jm rfl
  have hw2 : cS (jm [(86, lO false true id)] M1) ty 0 0 dn p sz li ids G false true id X := cS_86 hc1 hs2 rfl
  generalize hM2 : jm [(86, lO false true id)] M1 = M2 at hs2 hw2 ⊢
  have hc2 := hw2
  have hf2 : fC M M2 := (hf1).tr (fC_sm (hs2.wd (by decide) (by decide)))
  refine z_go 45 _ [.int (jn 4)] _ c_65_44 rfl ?_
  refine z_go 46 _ [.int (jn 2), .int (jn 4)] _ c_65_45 rfl ?_
  refine z_ile 57 49 c_65_46 rfl (by decide) (by decide) (fun _ => ?_) (fun h => absurd (by decide) h)
  refine z_go 50 _ [.ref 16] _ c_65_49 rfl ?_
  refine z_getf (v := .ref 86) 53 c_65_50 rfl hc2.1 rfl ?_
  refine z_go 54 _ [.int (jn 1), .ref 86] _ c_65_53 rfl ?_
  refine z_putf (M' := jm [(86, lO true true id)] M2) 57 c_65_54 rfl hc2.2.2.1 (by decide) (Nat.le_of_ble_eq_true rfl) rfl ?_
  have hs3 : sm 86 86 M2 (jm [(86, lO true true id)] M2) := sm_jm rfl
  have hw3 : cS (jm [(86, lO true true id)] M2) ty 0 0 dn p sz li ids G true true id X := cS_86 hc2 hs3 rfl
  generalize hM3 : jm [(86, lO true true id)] M2 = M3 at hs3 hw3 ⊢
  have hc3 := hw3
  have hf3 : fC M M3 := (hf2).tr (fC_sm (hs3.wd (by decide) (by decide)))
  refine z_go 58 _ [.int (jn 4)] _ c_65_57 rfl ?_
  refine z_go 59 _ [.int (jn 3), .int (jn 4)] _ c_65_58 rfl ?_
  refine z_ile 66 62 c_65_59 rfl (by decide) (by decide) (fun _ => ?_) (fun h => absurd (by decide) h)
  refine z_go 63 _ [.ref 16] _ c_65_62 rfl ?_
  refine z_callvV 66 5 55 0 16 c_65_63 rfl ⟨Nat.le_of_ble_eq_true rfl, Nat.le_of_ble_eq_true rfl⟩ rfl hc3.1 [.ref 16] rfl rfl [some (.ref 16), none] rfl rfl (t_carT (d := d) hc3 hsz hs) ?_
  intro M4 ⟨hc4, qf⟩
  have hf4 : fC M M4 := hf3.tr qf
  show jZ _ _ _ _ [] _ _
  refine z_go 67 _ [.int (jn 4)] _ c_65_66 rfl ?_
  refine z_go 68 _ [.int (jn 4), .int (jn 4)] _ c_65_67 rfl ?_
  refine z_ile 78 71 c_65_68 rfl (by decide) (by decide) (fun h => absurd h (by decide)) (fun _ => ?_)
  refine z_go 79 _ [.ref 16] _ c_65_78 rfl ?_
  refine z_go 80 _ [.int (jn 4), .ref 16] _ c_65_79 rfl ?_
  refine z_go 81 _ [.int (jn 4), .int (jn 4), .ref 16] _ c_65_80 rfl ?_
  refine z_igt 88 84 c_65_81 rfl (by decide) (by decide) (fun h => absurd h (by decide)) (fun _ => ?_)
  refine z_go 85 _ [.int (jn 1), .ref 16] _ c_65_84 rfl ?_
  refine z_go 89 _ [.int (jn 1), .ref 16] _ c_65_85 rfl ?_
  refine z_putf (M' := jm [(16, xO ty 0 0 true)] M4) 92 c_65_89 rfl hc4.1 (by decide) (Nat.le_of_ble_eq_true rfl) rfl ?_
  have hs9 : sm 16 16 M4 (jm [(16, xO ty 0 0 true)] M4) := sm_jm rfl
  have hw9 : cS (jm [(16, xO ty 0 0 true)] M4) ty 0 0 true (sp_tk p go sz) (sz - 1) li (sp_sh ids go (sz - 1)) (sp_tk G go sz) true true id X := cS_16 hc4 hs9 rfl
  generalize hM9 : jm [(16, xO ty 0 0 true)] M4 = M9 at hs9 hw9 ⊢
  have hc9 := hw9
  have hf9 : fC M M9 := (hf4).tr (fC_16 hs9)
  refine z_go 93 _ [.ref 16] _ c_65_92 rfl ?_
  refine z_getf (v := .int (jb true)) 96 c_65_93 rfl hc9.1 rfl ?_
  refine z_ifne 103 99 c_65_96 rfl jb_t (fun h => absurd h (by decide)) (fun _ => ?_)
  refine z_go 104 _ [.int (jn 0)] _ c_65_103 rfl ?_
  refine z_zret (b := false) c_65_104 ?_
  exact ⟨rfl, hc9, hf9⟩
theorem t_chP0 {d ty hc : Nat} {dn : Bool} {p : Nat → Nat} {sz li : Nat} {ids : Nat → Nat} {G : Nat → GR} {rm0 : Bool} {id0 id : Nat} {X : GR} {M : jx_M} (hc0 : cS M ty hc 0 dn p sz li ids G false rm0 id0 X) (hsz : sz ≤ 12) {Y : GR} (hY : jgr M 28 Y) (hs : sp_sl ids (jn id) sz 0 = none) (hs12 : sz < 12) : jZ (d + 3) 65 0 [some (.ref 16), some (.int (jb false)), some (.int (jn id)), none] [] M (jV (some (.int (jb true))) fun M' => cS M' ty 0 0 false p (sz + 1) id (nu ids sz id) (nu G sz Y) false false 0 Y ∧ fC M M') := by
  refine z_go 1 _ [.ref 16] _ c_65_0 rfl ?_
  refine z_getf (v := .int (jn 0)) 4 c_65_1 rfl hc0.1 rfl ?_
  refine z_ifne 11 7 c_65_4 rfl (jn_z (by decide)) (fun _ => ?_) (fun h => absurd rfl h)
  refine z_go 8 _ [.int (jn 5)] _ c_65_7 rfl ?_
  refine z_go 15 _ [.int (jn 5)] _ c_65_8 rfl ?_
  refine z_go 16 [some (.ref 16), some (.int (jb false)), some (.int (jn id)), some (.int (jn 5))] [] _ c_65_15 rfl ?_
  refine z_go 17 _ [.ref 16] _ c_65_16 rfl ?_
  refine z_go 18 _ [.int (jn 0), .ref 16] _ c_65_17 rfl ?_
  refine z_putf (M' := jm [(16, xO ty hc 0 dn)] M) 21 c_65_18 rfl hc0.1 (rfl) (Nat.le_of_ble_eq_true rfl) rfl ?_
  refine z_go 22 _ [.ref 16] _ c_65_21 rfl ?_
  refine z_go 23 _ [.int (jn 0), .ref 16] _ c_65_22 rfl ?_
  refine z_putf (M' := jm [(16, xO ty 0 0 dn)] M) 26 c_65_23 rfl rfl (rfl) (Nat.le_of_ble_eq_true rfl) (jm_w rfl) ?_
  have hs1 : sm 16 16 M (jm [(16, xO ty 0 0 dn)] M) := sm_jm rfl
  have hw1 : cS (jm [(16, xO ty 0 0 dn)] M) ty 0 0 dn p sz li ids G false rm0 id0 X := cS_16 hc0 hs1 rfl
  generalize hM1 : jm [(16, xO ty 0 0 dn)] M = M1 at hs1 hw1 ⊢
  have hc1 := hw1
  have hf1 : fC M M1 := fC_16 hs1
  refine z_go 27 _ [.int (jn 5)] _ c_65_26 rfl ?_
  refine z_go 28 _ [.int (jn 1), .int (jn 5)] _ c_65_27 rfl ?_
  refine z_ile 44 31 c_65_28 rfl (by decide) (by decide) (fun _ => ?_) (fun h => absurd (by decide) h)
  refine z_go 32 _ [.ref 16] _ c_65_31 rfl ?_
  refine z_getf (v := .ref 86) 35 c_65_32 rfl hc1.1 rfl ?_
  refine z_go 36 _ [.int (jb false), .ref 86] _ c_65_35 rfl ?_
  refine z_go 37 _ [.int (jn id), .int (jb false), .ref 86] _ c_65_36 rfl ?_
  refine z_go 38 _ [.ref 16, .int (jn id), .int (jb false), .ref 86] _ c_65_37 rfl ?_
  refine z_getf (v := .ref 28) 41 c_65_38 rfl hc1.1 rfl ?_
  have hY1 : jgr M1 28 Y := jgr_fr hY fun k a b => hf1.1 k (by omega) (by omega)
  refine z_callvV 44 1 13 3 86 c_65_41 rfl ⟨Nat.le_of_ble_eq_true rfl, Nat.le_of_ble_eq_true rfl⟩ rfl hc1.2.2.1 [.ref 86, .int (jb false), .int (jn id), .ref 28] rfl rfl [some (.ref 86), some (.int (jb false)), some (.int (jn id)), some (.ref 28)] rfl rfl (t_lwr0 (d := d + 1) hc1.2.2.1 hY1 hc1.2.2.2) ?_
  intro M2 ⟨q86, qX, qs⟩
  have hc2 := cS_lg hc1 qs q86 qX
  have hf2 : fC M M2 := hf1.tr (fC_sm (qs.wd (by decide) (by decide)))
  show jZ _ _ _ _ [] _ _
  refine z_go 45 _ [.int (jn 5)] _ c_65_44 rfl ?_
  refine z_go 46 _ [.int (jn 2), .int (jn 5)] _ c_65_45 rfl ?_
  refine z_ile 57 49 c_65_46 rfl (by decide) (by decide) (fun _ => ?_) (fun h => absurd (by decide) h)
  refine z_go 50 _ [.ref 16] _ c_65_49 rfl ?_
  refine z_getf (v := .ref 86) 53 c_65_50 rfl hc2.1 rfl ?_
  refine z_go 54 _ [.int (jn 1), .ref 86] _ c_65_53 rfl ?_
  refine z_putf (M' := jm [(86, lO true false id)] M2) 57 c_65_54 rfl hc2.2.2.1 (by decide) (Nat.le_of_ble_eq_true rfl) rfl ?_
  have hs3 : sm 86 86 M2 (jm [(86, lO true false id)] M2) := sm_jm rfl
  have hw3 : cS (jm [(86, lO true false id)] M2) ty 0 0 dn p sz li ids G true false id Y := cS_86 hc2 hs3 rfl
  generalize hM3 : jm [(86, lO true false id)] M2 = M3 at hs3 hw3 ⊢
  have hc3 := hw3
  have hf3 : fC M M3 := (hf2).tr (fC_sm (hs3.wd (by decide) (by decide)))
  refine z_go 58 _ [.int (jn 5)] _ c_65_57 rfl ?_
  refine z_go 59 _ [.int (jn 3), .int (jn 5)] _ c_65_58 rfl ?_
  refine z_ile 66 62 c_65_59 rfl (by decide) (by decide) (fun _ => ?_) (fun h => absurd (by decide) h)
  refine z_go 63 _ [.ref 16] _ c_65_62 rfl ?_
  refine z_callvV 66 5 55 0 16 c_65_63 rfl ⟨Nat.le_of_ble_eq_true rfl, Nat.le_of_ble_eq_true rfl⟩ rfl hc3.1 [.ref 16] rfl rfl [some (.ref 16), none] rfl rfl (t_carP (d := d) hc3 hsz hs hs12) ?_
  intro M4 ⟨hc4, qf⟩
  have hf4 : fC M M4 := hf3.tr qf
  show jZ _ _ _ _ [] _ _
  refine z_go 67 _ [.int (jn 5)] _ c_65_66 rfl ?_
  refine z_go 68 _ [.int (jn 4), .int (jn 5)] _ c_65_67 rfl ?_
  refine z_ile 78 71 c_65_68 rfl (by decide) (by decide) (fun _ => ?_) (fun h => absurd (by decide) h)
  refine z_go 72 _ [.ref 16] _ c_65_71 rfl ?_
  refine z_getf (v := .ref 86) 75 c_65_72 rfl hc4.1 rfl ?_
  refine z_callv 78 1 12 0 86 c_65_75 rfl ⟨Nat.le_of_ble_eq_true rfl, Nat.le_of_ble_eq_true rfl⟩ rfl hc4.2.2.1 [.ref 86] rfl rfl [some (.ref 86)] rfl rfl (t_lclear hc4.2.2.1) ?_
  show jZ _ _ _ _ [] _ _
  have hs5 : sm 86 86 M4 (jm [(86, lO false false 0)] M4) := sm_jm rfl
  have hw5 : cS (jm [(86, lO false false 0)] M4) ty 0 0 dn p (sz + 1) id (nu ids sz id) (nu G sz Y) false false 0 Y := cS_86 hc4 hs5 rfl
  generalize hM5 : jm [(86, lO false false 0)] M4 = M5 at hs5 hw5 ⊢
  have hc5 := hw5
  have hf5 : fC M M5 := (hf4).tr (fC_sm (hs5.wd (by decide) (by decide)))
  refine z_go 79 _ [.ref 16] _ c_65_78 rfl ?_
  refine z_go 80 _ [.int (jn 5), .ref 16] _ c_65_79 rfl ?_
  refine z_go 81 _ [.int (jn 4), .int (jn 5), .ref 16] _ c_65_80 rfl ?_
  refine z_igt 88 84 c_65_81 rfl (by decide) (by decide) (fun _ => ?_) (fun h => absurd (by decide) h)
  refine z_go 89 _ [.int (jn 0), .ref 16] _ c_65_88 rfl ?_
  refine z_putf (M' := jm [(16, xO ty 0 0 false)] M5) 92 c_65_89 rfl hc5.1 (by decide) (Nat.le_of_ble_eq_true rfl) rfl ?_
  have hs9 : sm 16 16 M5 (jm [(16, xO ty 0 0 false)] M5) := sm_jm rfl
  have hw9 : cS (jm [(16, xO ty 0 0 false)] M5) ty 0 0 false p (sz + 1) id (nu ids sz id) (nu G sz Y) false false 0 Y := cS_16 hc5 hs9 rfl
  generalize hM9 : jm [(16, xO ty 0 0 false)] M5 = M9 at hs9 hw9 ⊢
  have hc9 := hw9
  have hf9 : fC M M9 := (hf5).tr (fC_16 hs9)
  refine z_go 93 _ [.ref 16] _ c_65_92 rfl ?_
  refine z_getf (v := .int (jb false)) 96 c_65_93 rfl hc9.1 rfl ?_
  refine z_ifne 103 99 c_65_96 rfl jb_t (fun _ => ?_) (fun h => absurd rfl h)
  refine z_go 100 _ [.int (jn 1)] _ c_65_99 rfl ?_
  refine z_go 104 _ [.int (jn 1)] _ c_65_100 rfl ?_
  refine z_zret (b := true) c_65_104 ?_
  exact ⟨rfl, hc9, hf9⟩
theorem t_chP1 {d ty hc : Nat} {dn : Bool} {p : Nat → Nat} {sz li : Nat} {ids : Nat → Nat} {G : Nat → GR} {rm0 : Bool} {id0 id : Nat} {X : GR} {M : jx_M} (hc0 : cS M ty hc 1 dn p sz li ids G false rm0 id0 X) (hsz : sz ≤ 12) {Y : GR} (hY : jgr M 28 Y) (hs : sp_sl ids (jn id) sz 0 = none) (hs12 : sz < 12) : jZ (d + 3) 65 0 [some (.ref 16), some (.int (jb false)), some (.int (jn id)), none] [] M (jV (some (.int (jb false))) fun M' => cS M' ty 0 0 true p sz li ids G false rm0 id0 X ∧ fC M M') := by
  refine z_go 1 _ [.ref 16] _ c_65_0 rfl ?_
  refine z_getf (v := .int (jn 1)) 4 c_65_1 rfl hc0.1 rfl ?_
  refine z_ifne 11 7 c_65_4 rfl (jn_z (by decide)) (fun h => absurd h (by decide)) (fun _ => ?_)
  refine z_go 12 _ [.ref 16] _ c_65_11 rfl ?_
  refine z_getf (v := .int (jn 1)) 15 c_65_12 rfl hc0.1 rfl ?_
  refine z_go 16 [some (.ref 16), some (.int (jb false)), some (.int (jn id)), some (.int (jn 1))] [] _ c_65_15 rfl ?_
  refine z_go 17 _ [.ref 16] _ c_65_16 rfl ?_
  refine z_go 18 _ [.int (jn 0), .ref 16] _ c_65_17 rfl ?_
  refine z_putf (M' := jm [(16, xO ty hc 0 dn)] M) 21 c_65_18 rfl hc0.1 (rfl) (Nat.le_of_ble_eq_true rfl) rfl ?_
  refine z_go 22 _ [.ref 16] _ c_65_21 rfl ?_
  refine z_go 23 _ [.int (jn 0), .ref 16] _ c_65_22 rfl ?_
  refine z_putf (M' := jm [(16, xO ty 0 0 dn)] M) 26 c_65_23 rfl rfl (rfl) (Nat.le_of_ble_eq_true rfl) (jm_w rfl) ?_
  have hs1 : sm 16 16 M (jm [(16, xO ty 0 0 dn)] M) := sm_jm rfl
  have hw1 : cS (jm [(16, xO ty 0 0 dn)] M) ty 0 0 dn p sz li ids G false rm0 id0 X := cS_16 hc0 hs1 rfl
  generalize hM1 : jm [(16, xO ty 0 0 dn)] M = M1 at hs1 hw1 ⊢
  have hc1 := hw1
  have hf1 : fC M M1 := fC_16 hs1
  refine z_go 27 _ [.int (jn 1)] _ c_65_26 rfl ?_
  refine z_go 28 _ [.int (jn 1), .int (jn 1)] _ c_65_27 rfl ?_
  refine z_ile 44 31 c_65_28 rfl (by decide) (by decide) (fun h => absurd h (by decide)) (fun _ => ?_)
  refine z_go 45 _ [.int (jn 1)] _ c_65_44 rfl ?_
  refine z_go 46 _ [.int (jn 2), .int (jn 1)] _ c_65_45 rfl ?_
  refine z_ile 57 49 c_65_46 rfl (by decide) (by decide) (fun h => absurd h (by decide)) (fun _ => ?_)
  refine z_go 58 _ [.int (jn 1)] _ c_65_57 rfl ?_
  refine z_go 59 _ [.int (jn 3), .int (jn 1)] _ c_65_58 rfl ?_
  refine z_ile 66 62 c_65_59 rfl (by decide) (by decide) (fun h => absurd h (by decide)) (fun _ => ?_)
  refine z_go 67 _ [.int (jn 1)] _ c_65_66 rfl ?_
  refine z_go 68 _ [.int (jn 4), .int (jn 1)] _ c_65_67 rfl ?_
  refine z_ile 78 71 c_65_68 rfl (by decide) (by decide) (fun h => absurd h (by decide)) (fun _ => ?_)
  refine z_go 79 _ [.ref 16] _ c_65_78 rfl ?_
  refine z_go 80 _ [.int (jn 1), .ref 16] _ c_65_79 rfl ?_
  refine z_go 81 _ [.int (jn 4), .int (jn 1), .ref 16] _ c_65_80 rfl ?_
  refine z_igt 88 84 c_65_81 rfl (by decide) (by decide) (fun h => absurd h (by decide)) (fun _ => ?_)
  refine z_go 85 _ [.int (jn 1), .ref 16] _ c_65_84 rfl ?_
  refine z_go 89 _ [.int (jn 1), .ref 16] _ c_65_85 rfl ?_
  refine z_putf (M' := jm [(16, xO ty 0 0 true)] M1) 92 c_65_89 rfl hc1.1 (by decide) (Nat.le_of_ble_eq_true rfl) rfl ?_
  have hs9 : sm 16 16 M1 (jm [(16, xO ty 0 0 true)] M1) := sm_jm rfl
  have hw9 : cS (jm [(16, xO ty 0 0 true)] M1) ty 0 0 true p sz li ids G false rm0 id0 X := cS_16 hc1 hs9 rfl
  generalize hM9 : jm [(16, xO ty 0 0 true)] M1 = M9 at hs9 hw9 ⊢
  have hc9 := hw9
  have hf9 : fC M M9 := (hf1).tr (fC_16 hs9)
  refine z_go 93 _ [.ref 16] _ c_65_92 rfl ?_
  refine z_getf (v := .int (jb true)) 96 c_65_93 rfl hc9.1 rfl ?_
  refine z_ifne 103 99 c_65_96 rfl jb_t (fun h => absurd h (by decide)) (fun _ => ?_)
  refine z_go 104 _ [.int (jn 0)] _ c_65_103 rfl ?_
  refine z_zret (b := false) c_65_104 ?_
  exact ⟨rfl, hc9, hf9⟩
theorem t_chP2 {d ty hc : Nat} {dn : Bool} {p : Nat → Nat} {sz li : Nat} {ids : Nat → Nat} {G : Nat → GR} {rm0 : Bool} {id0 id : Nat} {X : GR} {M : jx_M} (hc0 : cS M ty hc 2 dn p sz li ids G false rm0 id0 X) (hsz : sz ≤ 12) {Y : GR} (hY : jgr M 28 Y) (hs : sp_sl ids (jn id) sz 0 = none) (hs12 : sz < 12) : jZ (d + 3) 65 0 [some (.ref 16), some (.int (jb false)), some (.int (jn id)), none] [] M (jV (some (.int (jb false))) fun M' => cS M' ty 0 0 true p sz li ids G false false id Y ∧ fC M M') := by
  refine z_go 1 _ [.ref 16] _ c_65_0 rfl ?_
  refine z_getf (v := .int (jn 2)) 4 c_65_1 rfl hc0.1 rfl ?_
  refine z_ifne 11 7 c_65_4 rfl (jn_z (by decide)) (fun h => absurd h (by decide)) (fun _ => ?_)
  refine z_go 12 _ [.ref 16] _ c_65_11 rfl ?_
  refine z_getf (v := .int (jn 2)) 15 c_65_12 rfl hc0.1 rfl ?_
  refine z_go 16 [some (.ref 16), some (.int (jb false)), some (.int (jn id)), some (.int (jn 2))] [] _ c_65_15 rfl ?_
  refine z_go 17 _ [.ref 16] _ c_65_16 rfl ?_
  refine z_go 18 _ [.int (jn 0), .ref 16] _ c_65_17 rfl ?_
  refine z_putf (M' := jm [(16, xO ty hc 0 dn)] M) 21 c_65_18 rfl hc0.1 (rfl) (Nat.le_of_ble_eq_true rfl) rfl ?_
  refine z_go 22 _ [.ref 16] _ c_65_21 rfl ?_
  refine z_go 23 _ [.int (jn 0), .ref 16] _ c_65_22 rfl ?_
  refine z_putf (M' := jm [(16, xO ty 0 0 dn)] M) 26 c_65_23 rfl rfl (rfl) (Nat.le_of_ble_eq_true rfl) (jm_w rfl) ?_
  have hs1 : sm 16 16 M (jm [(16, xO ty 0 0 dn)] M) := sm_jm rfl
  have hw1 : cS (jm [(16, xO ty 0 0 dn)] M) ty 0 0 dn p sz li ids G false rm0 id0 X := cS_16 hc0 hs1 rfl
  generalize hM1 : jm [(16, xO ty 0 0 dn)] M = M1 at hs1 hw1 ⊢
  have hc1 := hw1
  have hf1 : fC M M1 := fC_16 hs1
  refine z_go 27 _ [.int (jn 2)] _ c_65_26 rfl ?_
  refine z_go 28 _ [.int (jn 1), .int (jn 2)] _ c_65_27 rfl ?_
  refine z_ile 44 31 c_65_28 rfl (by decide) (by decide) (fun _ => ?_) (fun h => absurd (by decide) h)
  refine z_go 32 _ [.ref 16] _ c_65_31 rfl ?_
  refine z_getf (v := .ref 86) 35 c_65_32 rfl hc1.1 rfl ?_
  refine z_go 36 _ [.int (jb false), .ref 86] _ c_65_35 rfl ?_
  refine z_go 37 _ [.int (jn id), .int (jb false), .ref 86] _ c_65_36 rfl ?_
  refine z_go 38 _ [.ref 16, .int (jn id), .int (jb false), .ref 86] _ c_65_37 rfl ?_
  refine z_getf (v := .ref 28) 41 c_65_38 rfl hc1.1 rfl ?_
  have hY1 : jgr M1 28 Y := jgr_fr hY fun k a b => hf1.1 k (by omega) (by omega)
  refine z_callvV 44 1 13 3 86 c_65_41 rfl ⟨Nat.le_of_ble_eq_true rfl, Nat.le_of_ble_eq_true rfl⟩ rfl hc1.2.2.1 [.ref 86, .int (jb false), .int (jn id), .ref 28] rfl rfl [some (.ref 86), some (.int (jb false)), some (.int (jn id)), some (.ref 28)] rfl rfl (t_lwr0 (d := d + 1) hc1.2.2.1 hY1 hc1.2.2.2) ?_
  intro M2 ⟨q86, qX, qs⟩
  have hc2 := cS_lg hc1 qs q86 qX
  have hf2 : fC M M2 := hf1.tr (fC_sm (qs.wd (by decide) (by decide)))
  show jZ _ _ _ _ [] _ _
  refine z_go 45 _ [.int (jn 2)] _ c_65_44 rfl ?_
  refine z_go 46 _ [.int (jn 2), .int (jn 2)] _ c_65_45 rfl ?_
  refine z_ile 57 49 c_65_46 rfl (by decide) (by decide) (fun h => absurd h (by decide)) (fun _ => ?_)
  refine z_go 58 _ [.int (jn 2)] _ c_65_57 rfl ?_
  refine z_go 59 _ [.int (jn 3), .int (jn 2)] _ c_65_58 rfl ?_
  refine z_ile 66 62 c_65_59 rfl (by decide) (by decide) (fun h => absurd h (by decide)) (fun _ => ?_)
  refine z_go 67 _ [.int (jn 2)] _ c_65_66 rfl ?_
  refine z_go 68 _ [.int (jn 4), .int (jn 2)] _ c_65_67 rfl ?_
  refine z_ile 78 71 c_65_68 rfl (by decide) (by decide) (fun h => absurd h (by decide)) (fun _ => ?_)
  refine z_go 79 _ [.ref 16] _ c_65_78 rfl ?_
  refine z_go 80 _ [.int (jn 2), .ref 16] _ c_65_79 rfl ?_
  refine z_go 81 _ [.int (jn 4), .int (jn 2), .ref 16] _ c_65_80 rfl ?_
  refine z_igt 88 84 c_65_81 rfl (by decide) (by decide) (fun h => absurd h (by decide)) (fun _ => ?_)
  refine z_go 85 _ [.int (jn 1), .ref 16] _ c_65_84 rfl ?_
  refine z_go 89 _ [.int (jn 1), .ref 16] _ c_65_85 rfl ?_
  refine z_putf (M' := jm [(16, xO ty 0 0 true)] M2) 92 c_65_89 rfl hc2.1 (by decide) (Nat.le_of_ble_eq_true rfl) rfl ?_
  have hs9 : sm 16 16 M2 (jm [(16, xO ty 0 0 true)] M2) := sm_jm rfl
  have hw9 : cS (jm [(16, xO ty 0 0 true)] M2) ty 0 0 true p sz li ids G false false id Y := cS_16 hc2 hs9 rfl
  generalize hM9 : jm [(16, xO ty 0 0 true)] M2 = M9 at hs9 hw9 ⊢
  have hc9 := hw9
  have hf9 : fC M M9 := (hf2).tr (fC_16 hs9)
  refine z_go 93 _ [.ref 16] _ c_65_92 rfl ?_
  refine z_getf (v := .int (jb true)) 96 c_65_93 rfl hc9.1 rfl ?_
  refine z_ifne 103 99 c_65_96 rfl jb_t (fun h => absurd h (by decide)) (fun _ => ?_)
  refine z_go 104 _ [.int (jn 0)] _ c_65_103 rfl ?_
  refine z_zret (b := false) c_65_104 ?_
  exact ⟨rfl, hc9, hf9⟩
theorem t_chP3 {d ty hc : Nat} {dn : Bool} {p : Nat → Nat} {sz li : Nat} {ids : Nat → Nat} {G : Nat → GR} {rm0 : Bool} {id0 id : Nat} {X : GR} {M : jx_M} (hc0 : cS M ty hc 3 dn p sz li ids G false rm0 id0 X) (hsz : sz ≤ 12) {Y : GR} (hY : jgr M 28 Y) (hs : sp_sl ids (jn id) sz 0 = none) (hs12 : sz < 12) : jZ (d + 3) 65 0 [some (.ref 16), some (.int (jb false)), some (.int (jn id)), none] [] M (jV (some (.int (jb false))) fun M' => cS M' ty 0 0 true p sz li ids G true false id Y ∧ fC M M') := by
  refine z_go 1 _ [.ref 16] _ c_65_0 rfl ?_
  refine z_getf (v := .int (jn 3)) 4 c_65_1 rfl hc0.1 rfl ?_
  refine z_ifne 11 7 c_65_4 rfl (jn_z (by decide)) (fun h => absurd h (by decide)) (fun _ => ?_)
  refine z_go 12 _ [.ref 16] _ c_65_11 rfl ?_
  refine z_getf (v := .int (jn 3)) 15 c_65_12 rfl hc0.1 rfl ?_
  refine z_go 16 [some (.ref 16), some (.int (jb false)), some (.int (jn id)), some (.int (jn 3))] [] _ c_65_15 rfl ?_
  refine z_go 17 _ [.ref 16] _ c_65_16 rfl ?_
  refine z_go 18 _ [.int (jn 0), .ref 16] _ c_65_17 rfl ?_
  refine z_putf (M' := jm [(16, xO ty hc 0 dn)] M) 21 c_65_18 rfl hc0.1 (rfl) (Nat.le_of_ble_eq_true rfl) rfl ?_
  refine z_go 22 _ [.ref 16] _ c_65_21 rfl ?_
  refine z_go 23 _ [.int (jn 0), .ref 16] _ c_65_22 rfl ?_
  refine z_putf (M' := jm [(16, xO ty 0 0 dn)] M) 26 c_65_23 rfl rfl (rfl) (Nat.le_of_ble_eq_true rfl) (jm_w rfl) ?_
  have hs1 : sm 16 16 M (jm [(16, xO ty 0 0 dn)] M) := sm_jm rfl
  have hw1 : cS (jm [(16, xO ty 0 0 dn)] M) ty 0 0 dn p sz li ids G false rm0 id0 X := cS_16 hc0 hs1 rfl
  generalize hM1 : jm [(16, xO ty 0 0 dn)] M = M1 at hs1 hw1 ⊢
  have hc1 := hw1
  have hf1 : fC M M1 := fC_16 hs1
  refine z_go 27 _ [.int (jn 3)] _ c_65_26 rfl ?_
  refine z_go 28 _ [.int (jn 1), .int (jn 3)] _ c_65_27 rfl ?_
  refine z_ile 44 31 c_65_28 rfl (by decide) (by decide) (fun _ => ?_) (fun h => absurd (by decide) h)
  refine z_go 32 _ [.ref 16] _ c_65_31 rfl ?_
  refine z_getf (v := .ref 86) 35 c_65_32 rfl hc1.1 rfl ?_
  refine z_go 36 _ [.int (jb false), .ref 86] _ c_65_35 rfl ?_
  refine z_go 37 _ [.int (jn id), .int (jb false), .ref 86] _ c_65_36 rfl ?_
  refine z_go 38 _ [.ref 16, .int (jn id), .int (jb false), .ref 86] _ c_65_37 rfl ?_
  refine z_getf (v := .ref 28) 41 c_65_38 rfl hc1.1 rfl ?_
  have hY1 : jgr M1 28 Y := jgr_fr hY fun k a b => hf1.1 k (by omega) (by omega)
  refine z_callvV 44 1 13 3 86 c_65_41 rfl ⟨Nat.le_of_ble_eq_true rfl, Nat.le_of_ble_eq_true rfl⟩ rfl hc1.2.2.1 [.ref 86, .int (jb false), .int (jn id), .ref 28] rfl rfl [some (.ref 86), some (.int (jb false)), some (.int (jn id)), some (.ref 28)] rfl rfl (t_lwr0 (d := d + 1) hc1.2.2.1 hY1 hc1.2.2.2) ?_
  intro M2 ⟨q86, qX, qs⟩
  have hc2 := cS_lg hc1 qs q86 qX
  have hf2 : fC M M2 := hf1.tr (fC_sm (qs.wd (by decide) (by decide)))
  show jZ _ _ _ _ [] _ _
  refine z_go 45 _ [.int (jn 3)] _ c_65_44 rfl ?_
  refine z_go 46 _ [.int (jn 2), .int (jn 3)] _ c_65_45 rfl ?_
  refine z_ile 57 49 c_65_46 rfl (by decide) (by decide) (fun _ => ?_) (fun h => absurd (by decide) h)
  refine z_go 50 _ [.ref 16] _ c_65_49 rfl ?_
  refine z_getf (v := .ref 86) 53 c_65_50 rfl hc2.1 rfl ?_
  refine z_go 54 _ [.int (jn 1), .ref 86] _ c_65_53 rfl ?_
  refine z_putf (M' := jm [(86, lO true false id)] M2) 57 c_65_54 rfl hc2.2.2.1 (by decide) (Nat.le_of_ble_eq_true rfl) rfl ?_
  have hs3 : sm 86 86 M2 (jm [(86, lO true false id)] M2) := sm_jm rfl
  have hw3 : cS (jm [(86, lO true false id)] M2) ty 0 0 dn p sz li ids G true false id Y := cS_86 hc2 hs3 rfl
  generalize hM3 : jm [(86, lO true false id)] M2 = M3 at hs3 hw3 ⊢
  have hc3 := hw3
  have hf3 : fC M M3 := (hf2).tr (fC_sm (hs3.wd (by decide) (by decide)))
  refine z_go 58 _ [.int (jn 3)] _ c_65_57 rfl ?_
  refine z_go 59 _ [.int (jn 3), .int (jn 3)] _ c_65_58 rfl ?_
  refine z_ile 66 62 c_65_59 rfl (by decide) (by decide) (fun h => absurd h (by decide)) (fun _ => ?_)
  refine z_go 67 _ [.int (jn 3)] _ c_65_66 rfl ?_
  refine z_go 68 _ [.int (jn 4), .int (jn 3)] _ c_65_67 rfl ?_
  refine z_ile 78 71 c_65_68 rfl (by decide) (by decide) (fun h => absurd h (by decide)) (fun _ => ?_)
  refine z_go 79 _ [.ref 16] _ c_65_78 rfl ?_
  refine z_go 80 _ [.int (jn 3), .ref 16] _ c_65_79 rfl ?_
  refine z_go 81 _ [.int (jn 4), .int (jn 3), .ref 16] _ c_65_80 rfl ?_
  refine z_igt 88 84 c_65_81 rfl (by decide) (by decide) (fun h => absurd h (by decide)) (fun _ => ?_)
  refine z_go 85 _ [.int (jn 1), .ref 16] _ c_65_84 rfl ?_
  refine z_go 89 _ [.int (jn 1), .ref 16] _ c_65_85 rfl ?_
  refine z_putf (M' := jm [(16, xO ty 0 0 true)] M3) 92 c_65_89 rfl hc3.1 (by decide) (Nat.le_of_ble_eq_true rfl) rfl ?_
  have hs9 : sm 16 16 M3 (jm [(16, xO ty 0 0 true)] M3) := sm_jm rfl
  have hw9 : cS (jm [(16, xO ty 0 0 true)] M3) ty 0 0 true p sz li ids G true false id Y := cS_16 hc3 hs9 rfl
  generalize hM9 : jm [(16, xO ty 0 0 true)] M3 = M9 at hs9 hw9 ⊢
  have hc9 := hw9
  have hf9 : fC M M9 := (hf3).tr (fC_16 hs9)
  refine z_go 93 _ [.ref 16] _ c_65_92 rfl ?_
  refine z_getf (v := .int (jb true)) 96 c_65_93 rfl hc9.1 rfl ?_
  refine z_ifne 103 99 c_65_96 rfl jb_t (fun h => absurd h (by decide)) (fun _ => ?_)
  refine z_go 104 _ [.int (jn 0)] _ c_65_103 rfl ?_
  refine z_zret (b := false) c_65_104 ?_
  exact ⟨rfl, hc9, hf9⟩
theorem t_chP4 {d ty hc : Nat} {dn : Bool} {p : Nat → Nat} {sz li : Nat} {ids : Nat → Nat} {G : Nat → GR} {rm0 : Bool} {id0 id : Nat} {X : GR} {M : jx_M} (hc0 : cS M ty hc 4 dn p sz li ids G false rm0 id0 X) (hsz : sz ≤ 12) {Y : GR} (hY : jgr M 28 Y) (hs : sp_sl ids (jn id) sz 0 = none) (hs12 : sz < 12) : jZ (d + 3) 65 0 [some (.ref 16), some (.int (jb false)), some (.int (jn id)), none] [] M (jV (some (.int (jb false))) fun M' => cS M' ty 0 0 true p (sz + 1) id (nu ids sz id) (nu G sz Y) true false id Y ∧ fC M M') := by
  refine z_go 1 _ [.ref 16] _ c_65_0 rfl ?_
  refine z_getf (v := .int (jn 4)) 4 c_65_1 rfl hc0.1 rfl ?_
  refine z_ifne 11 7 c_65_4 rfl (jn_z (by decide)) (fun h => absurd h (by decide)) (fun _ => ?_)
  refine z_go 12 _ [.ref 16] _ c_65_11 rfl ?_
  refine z_getf (v := .int (jn 4)) 15 c_65_12 rfl hc0.1 rfl ?_
  refine z_go 16 [some (.ref 16), some (.int (jb false)), some (.int (jn id)), some (.int (jn 4))] [] _ c_65_15 rfl ?_
  refine z_go 17 _ [.ref 16] _ c_65_16 rfl ?_
  refine z_go 18 _ [.int (jn 0), .ref 16] _ c_65_17 rfl ?_
  refine z_putf (M' := jm [(16, xO ty hc 0 dn)] M) 21 c_65_18 rfl hc0.1 (rfl) (Nat.le_of_ble_eq_true rfl) rfl ?_
  refine z_go 22 _ [.ref 16] _ c_65_21 rfl ?_
  refine z_go 23 _ [.int (jn 0), .ref 16] _ c_65_22 rfl ?_
  refine z_putf (M' := jm [(16, xO ty 0 0 dn)] M) 26 c_65_23 rfl rfl (rfl) (Nat.le_of_ble_eq_true rfl) (jm_w rfl) ?_
  have hs1 : sm 16 16 M (jm [(16, xO ty 0 0 dn)] M) := sm_jm rfl
  have hw1 : cS (jm [(16, xO ty 0 0 dn)] M) ty 0 0 dn p sz li ids G false rm0 id0 X := cS_16 hc0 hs1 rfl
  generalize hM1 : jm [(16, xO ty 0 0 dn)] M = M1 at hs1 hw1 ⊢
  have hc1 := hw1
  have hf1 : fC M M1 := fC_16 hs1
  refine z_go 27 _ [.int (jn 4)] _ c_65_26 rfl ?_
  refine z_go 28 _ [.int (jn 1), .int (jn 4)] _ c_65_27 rfl ?_
  refine z_ile 44 31 c_65_28 rfl (by decide) (by decide) (fun _ => ?_) (fun h => absurd (by decide) h)
  refine z_go 32 _ [.ref 16] _ c_65_31 rfl ?_
  refine z_getf (v := .ref 86) 35 c_65_32 rfl hc1.1 rfl ?_
  refine z_go 36 _ [.int (jb false), .ref 86] _ c_65_35 rfl ?_
  refine z_go 37 _ [.int (jn id), .int (jb false), .ref 86] _ c_65_36 rfl ?_
  refine z_go 38 _ [.ref 16, .int (jn id), .int (jb false), .ref 86] _ c_65_37 rfl ?_
  refine z_getf (v := .ref 28) 41 c_65_38 rfl hc1.1 rfl ?_
  have hY1 : jgr M1 28 Y := jgr_fr hY fun k a b => hf1.1 k (by omega) (by omega)
  refine z_callvV 44 1 13 3 86 c_65_41 rfl ⟨Nat.le_of_ble_eq_true rfl, Nat.le_of_ble_eq_true rfl⟩ rfl hc1.2.2.1 [.ref 86, .int (jb false), .int (jn id), .ref 28] rfl rfl [some (.ref 86), some (.int (jb false)), some (.int (jn id)), some (.ref 28)] rfl rfl (t_lwr0 (d := d + 1) hc1.2.2.1 hY1 hc1.2.2.2) ?_
  intro M2 ⟨q86, qX, qs⟩
  have hc2 := cS_lg hc1 qs q86 qX
  have hf2 : fC M M2 := hf1.tr (fC_sm (qs.wd (by decide) (by decide)))
  show jZ _ _ _ _ [] _ _
  refine z_go 45 _ [.int (jn 4)] _ c_65_44 rfl ?_
  refine z_go 46 _ [.int (jn 2), .int (jn 4)] _ c_65_45 rfl ?_
  refine z_ile 57 49 c_65_46 rfl (by decide) (by decide) (fun _ => ?_) (fun h => absurd (by decide) h)
  refine z_go 50 _ [.ref 16] _ c_65_49 rfl ?_
  refine z_getf (v := .ref 86) 53 c_65_50 rfl hc2.1 rfl ?_
  refine z_go 54 _ [.int (jn 1), .ref 86] _ c_65_53 rfl ?_
  refine z_putf (M' := jm [(86, lO true false id)] M2) 57 c_65_54 rfl hc2.2.2.1 (by decide) (Nat.le_of_ble_eq_true rfl) rfl ?_
  have hs3 : sm 86 86 M2 (jm [(86, lO true false id)] M2) := sm_jm rfl
  have hw3 : cS (jm [(86, lO true false id)] M2) ty 0 0 dn p sz li ids G true false id Y := cS_86 hc2 hs3 rfl
  generalize hM3 : jm [(86, lO true false id)] M2 = M3 at hs3 hw3 ⊢
  have hc3 := hw3
  have hf3 : fC M M3 := (hf2).tr (fC_sm (hs3.wd (by decide) (by decide)))
  refine z_go 58 _ [.int (jn 4)] _ c_65_57 rfl ?_
  refine z_go 59 _ [.int (jn 3), .int (jn 4)] _ c_65_58 rfl ?_
  refine z_ile 66 62 c_65_59 rfl (by decide) (by decide) (fun _ => ?_) (fun h => absurd (by decide) h)
  refine z_go 63 _ [.ref 16] _ c_65_62 rfl ?_
  refine z_callvV 66 5 55 0 16 c_65_63 rfl ⟨Nat.le_of_ble_eq_true rfl, Nat.le_of_ble_eq_true rfl⟩ rfl hc3.1 [.ref 16] rfl rfl [some (.ref 16), none] rfl rfl (t_carP (d := d) hc3 hsz hs hs12) ?_
  intro M4 ⟨hc4, qf⟩
  have hf4 : fC M M4 := hf3.tr qf
  show jZ _ _ _ _ [] _ _
  refine z_go 67 _ [.int (jn 4)] _ c_65_66 rfl ?_
  refine z_go 68 _ [.int (jn 4), .int (jn 4)] _ c_65_67 rfl ?_
  refine z_ile 78 71 c_65_68 rfl (by decide) (by decide) (fun h => absurd h (by decide)) (fun _ => ?_)
  refine z_go 79 _ [.ref 16] _ c_65_78 rfl ?_
  refine z_go 80 _ [.int (jn 4), .ref 16] _ c_65_79 rfl ?_
  refine z_go 81 _ [.int (jn 4), .int (jn 4), .ref 16] _ c_65_80 rfl ?_
  refine z_igt 88 84 c_65_81 rfl (by decide) (by decide) (fun h => absurd h (by decide)) (fun _ => ?_)
  refine z_go 85 _ [.int (jn 1), .ref 16] _ c_65_84 rfl ?_
  refine z_go 89 _ [.int (jn 1), .ref 16] _ c_65_85 rfl ?_
  refine z_putf (M' := jm [(16, xO ty 0 0 true)] M4) 92 c_65_89 rfl hc4.1 (by decide) (Nat.le_of_ble_eq_true rfl) rfl ?_
  have hs9 : sm 16 16 M4 (jm [(16, xO ty 0 0 true)] M4) := sm_jm rfl
  have hw9 : cS (jm [(16, xO ty 0 0 true)] M4) ty 0 0 true p (sz + 1) id (nu ids sz id) (nu G sz Y) true false id Y := cS_16 hc4 hs9 rfl
  generalize hM9 : jm [(16, xO ty 0 0 true)] M4 = M9 at hs9 hw9 ⊢
  have hc9 := hw9
  have hf9 : fC M M9 := (hf4).tr (fC_16 hs9)
  refine z_go 93 _ [.ref 16] _ c_65_92 rfl ?_
  refine z_getf (v := .int (jb true)) 96 c_65_93 rfl hc9.1 rfl ?_
  refine z_ifne 103 99 c_65_96 rfl jb_t (fun h => absurd h (by decide)) (fun _ => ?_)
  refine z_go 104 _ [.int (jn 0)] _ c_65_103 rfl ?_
  refine z_zret (b := false) c_65_104 ?_
  exact ⟨rfl, hc9, hf9⟩
theorem t_rec0 {d ty hc tf : Nat} {p : Nat → Nat} {sz li : Nat} {ids : Nat → Nat} {G : Nat → GR} {rm : Bool} {id : Nat} {X : GR} {M : jx_M} (hc0 : cS M ty hc tf true p sz li ids G false rm id X) (hsz : sz ≤ 12) : jZ (d + 3) 54 0 [some (.ref 16), none] [] M (jV (some (.int (jn 0))) fun M' => cS M' ty hc tf false p sz li ids G false false 0 X ∧ fC M M') := by
  refine z_go 1 _ [.ref 16] _ c_54_0 rfl ?_
  refine z_getf (v := .int (jb true)) 4 c_54_1 rfl hc0.1 rfl ?_
  refine z_ifne 9 7 c_54_4 rfl jb_t (fun h => absurd h (by decide)) (fun _ => ?_)
  refine z_go 10 _ [.ref 16] _ c_54_9 rfl ?_
  refine z_getf (v := .ref 86) 13 c_54_10 rfl hc0.1 rfl ?_
  refine z_getf (v := .int (jb false)) 16 c_54_13 rfl hc0.2.2.1 rfl ?_
  refine z_go 17 [some (.ref 16), some (.int (jb false))] [] _ c_54_16 rfl ?_
  refine z_go 18 _ [.int (jb false)] _ c_54_17 rfl ?_
  refine z_ifeq 25 21 c_54_18 rfl jb_t (fun _ => ?_) (fun h => absurd rfl h)
  refine z_go 26 _ [.ref 16] _ c_54_25 rfl ?_
  refine z_getf (v := .ref 86) 29 c_54_26 rfl hc0.1 rfl ?_
  refine z_callv 32 1 12 0 86 c_54_29 rfl ⟨Nat.le_of_ble_eq_true rfl, Nat.le_of_ble_eq_true rfl⟩ rfl hc0.2.2.1 [.ref 86] rfl rfl [some (.ref 86)] rfl rfl (t_lclear hc0.2.2.1) ?_
  show jZ _ _ _ _ [] _ _
  have hf0 := fC_r M
  have hs5 : sm 86 86 M (jm [(86, lO false false 0)] M) := sm_jm rfl
  have hw5 : cS (jm [(86, lO false false 0)] M) ty hc tf true p sz li ids G false false 0 X := cS_86 hc0 hs5 rfl
  generalize hM5 : jm [(86, lO false false 0)] M = M5 at hs5 hw5 ⊢
  have hc5 := hw5
  have hf5 : fC M M5 := fC_sm (hs5.wd (by decide) (by decide))
  refine z_go 33 _ [.ref 16] _ c_54_32 rfl ?_
  refine z_go 34 _ [.int (jn 0), .ref 16] _ c_54_33 rfl ?_
  refine z_putf (M' := jm [(16, xO ty hc tf false)] M5) 37 c_54_34 rfl hc5.1 (by decide) (Nat.le_of_ble_eq_true rfl) rfl ?_
  have hs9 : sm 16 16 M5 (jm [(16, xO ty hc tf false)] M5) := sm_jm rfl
  have hw9 : cS (jm [(16, xO ty hc tf false)] M5) ty hc tf false p sz li ids G false false 0 X := cS_16 hc5 hs9 rfl
  generalize hM9 : jm [(16, xO ty hc tf false)] M5 = M9 at hs9 hw9 ⊢
  have hc9 := hw9
  have hf9 : fC M M9 := (hf5).tr (fC_16 hs9)
  refine z_go 38 _ [.int (jb false)] _ c_54_37 rfl ?_
  refine z_ifeq 45 41 c_54_38 rfl jb_t (fun _ => ?_) (fun h => absurd rfl h)
  refine z_go 46 _ [.int (jn 0)] _ c_54_45 rfl ?_
  refine z_iret c_54_46 ?_
  exact ⟨rfl, hc9, hf9⟩
theorem t_recT {d ty hc tf : Nat} {p : Nat → Nat} {sz li : Nat} {ids : Nat → Nat} {G : Nat → GR} {id : Nat} {X : GR} {M : jx_M} (hc0 : cS M ty hc tf true p sz li ids G true true id X) (hsz : sz ≤ 12) {go : Nat} (hs : sp_sl ids (jn id) sz 0 = some go) : jZ (d + 3) 54 0 [some (.ref 16), none] [] M (jV (some (.int (jn 1))) fun M' => cS M' ty hc tf false (sp_tk p go sz) (sz - 1) li (sp_sh ids go (sz - 1)) (sp_tk G go sz) false false 0 X ∧ fC M M') := by
  refine z_go 1 _ [.ref 16] _ c_54_0 rfl ?_
  refine z_getf (v := .int (jb true)) 4 c_54_1 rfl hc0.1 rfl ?_
  refine z_ifne 9 7 c_54_4 rfl jb_t (fun h => absurd h (by decide)) (fun _ => ?_)
  refine z_go 10 _ [.ref 16] _ c_54_9 rfl ?_
  refine z_getf (v := .ref 86) 13 c_54_10 rfl hc0.1 rfl ?_
  refine z_getf (v := .int (jb true)) 16 c_54_13 rfl hc0.2.2.1 rfl ?_
  refine z_go 17 [some (.ref 16), some (.int (jb true))] [] _ c_54_16 rfl ?_
  refine z_go 18 _ [.int (jb true)] _ c_54_17 rfl ?_
  refine z_ifeq 25 21 c_54_18 rfl jb_t (fun h => absurd h (by decide)) (fun _ => ?_)
  refine z_go 22 _ [.ref 16] _ c_54_21 rfl ?_
  refine z_callvV 25 5 55 0 16 c_54_22 rfl ⟨Nat.le_of_ble_eq_true rfl, Nat.le_of_ble_eq_true rfl⟩ rfl hc0.1 [.ref 16] rfl rfl [some (.ref 16), none] rfl rfl (t_carT (d := d) hc0 hsz hs) ?_
  intro M4 ⟨hc4, hf4⟩
  show jZ _ _ _ _ [] _ _
  refine z_go 26 _ [.ref 16] _ c_54_25 rfl ?_
  refine z_getf (v := .ref 86) 29 c_54_26 rfl hc4.1 rfl ?_
  refine z_callv 32 1 12 0 86 c_54_29 rfl ⟨Nat.le_of_ble_eq_true rfl, Nat.le_of_ble_eq_true rfl⟩ rfl hc4.2.2.1 [.ref 86] rfl rfl [some (.ref 86)] rfl rfl (t_lclear hc4.2.2.1) ?_
  show jZ _ _ _ _ [] _ _
  have hs5 : sm 86 86 M4 (jm [(86, lO false false 0)] M4) := sm_jm rfl
  have hw5 : cS (jm [(86, lO false false 0)] M4) ty hc tf true (sp_tk p go sz) (sz - 1) li (sp_sh ids go (sz - 1)) (sp_tk G go sz) false false 0 X := cS_86 hc4 hs5 rfl
  generalize hM5 : jm [(86, lO false false 0)] M4 = M5 at hs5 hw5 ⊢
  have hc5 := hw5
  have hf5 : fC M M5 := (hf4).tr (fC_sm (hs5.wd (by decide) (by decide)))
  refine z_go 33 _ [.ref 16] _ c_54_32 rfl ?_
  refine z_go 34 _ [.int (jn 0), .ref 16] _ c_54_33 rfl ?_
  refine z_putf (M' := jm [(16, xO ty hc tf false)] M5) 37 c_54_34 rfl hc5.1 (by decide) (Nat.le_of_ble_eq_true rfl) rfl ?_
  have hs9 : sm 16 16 M5 (jm [(16, xO ty hc tf false)] M5) := sm_jm rfl
  have hw9 : cS (jm [(16, xO ty hc tf false)] M5) ty hc tf false (sp_tk p go sz) (sz - 1) li (sp_sh ids go (sz - 1)) (sp_tk G go sz) false false 0 X := cS_16 hc5 hs9 rfl
  generalize hM9 : jm [(16, xO ty hc tf false)] M5 = M9 at hs9 hw9 ⊢
  have hc9 := hw9
  have hf9 : fC M M9 := (hf5).tr (fC_16 hs9)
  refine z_go 38 _ [.int (jb true)] _ c_54_37 rfl ?_
  refine z_ifeq 45 41 c_54_38 rfl jb_t (fun h => absurd h (by decide)) (fun _ => ?_)
  refine z_go 42 _ [.int (jn 1)] _ c_54_41 rfl ?_
  refine z_go 46 _ [.int (jn 1)] _ c_54_42 rfl ?_
  refine z_iret c_54_46 ?_
  exact ⟨rfl, hc9, hf9⟩
theorem t_recP {d ty hc tf : Nat} {p : Nat → Nat} {sz li : Nat} {ids : Nat → Nat} {G : Nat → GR} {id : Nat} {X : GR} {M : jx_M} (hc0 : cS M ty hc tf true p sz li ids G true false id X) (hsz : sz ≤ 12) (hs : sp_sl ids (jn id) sz 0 = none) (hs12 : sz < 12) : jZ (d + 3) 54 0 [some (.ref 16), none] [] M (jV (some (.int (jn 1))) fun M' => cS M' ty hc tf false p (sz + 1) id (nu ids sz id) (nu G sz X) false false 0 X ∧ fC M M') := by
  refine z_go 1 _ [.ref 16] _ c_54_0 rfl ?_
  refine z_getf (v := .int (jb true)) 4 c_54_1 rfl hc0.1 rfl ?_
  refine z_ifne 9 7 c_54_4 rfl jb_t (fun h => absurd h (by decide)) (fun _ => ?_)
  refine z_go 10 _ [.ref 16] _ c_54_9 rfl ?_
  refine z_getf (v := .ref 86) 13 c_54_10 rfl hc0.1 rfl ?_
  refine z_getf (v := .int (jb true)) 16 c_54_13 rfl hc0.2.2.1 rfl ?_
  refine z_go 17 [some (.ref 16), some (.int (jb true))] [] _ c_54_16 rfl ?_
  refine z_go 18 _ [.int (jb true)] _ c_54_17 rfl ?_
  refine z_ifeq 25 21 c_54_18 rfl jb_t (fun h => absurd h (by decide)) (fun _ => ?_)
  refine z_go 22 _ [.ref 16] _ c_54_21 rfl ?_
  refine z_callvV 25 5 55 0 16 c_54_22 rfl ⟨Nat.le_of_ble_eq_true rfl, Nat.le_of_ble_eq_true rfl⟩ rfl hc0.1 [.ref 16] rfl rfl [some (.ref 16), none] rfl rfl (t_carP (d := d) hc0 hsz hs hs12) ?_
  intro M4 ⟨hc4, hf4⟩
  show jZ _ _ _ _ [] _ _
  refine z_go 26 _ [.ref 16] _ c_54_25 rfl ?_
  refine z_getf (v := .ref 86) 29 c_54_26 rfl hc4.1 rfl ?_
  refine z_callv 32 1 12 0 86 c_54_29 rfl ⟨Nat.le_of_ble_eq_true rfl, Nat.le_of_ble_eq_true rfl⟩ rfl hc4.2.2.1 [.ref 86] rfl rfl [some (.ref 86)] rfl rfl (t_lclear hc4.2.2.1) ?_
  show jZ _ _ _ _ [] _ _
  have hs5 : sm 86 86 M4 (jm [(86, lO false false 0)] M4) := sm_jm rfl
  have hw5 : cS (jm [(86, lO false false 0)] M4) ty hc tf true p (sz + 1) id (nu ids sz id) (nu G sz X) false false 0 X := cS_86 hc4 hs5 rfl
  generalize hM5 : jm [(86, lO false false 0)] M4 = M5 at hs5 hw5 ⊢
  have hc5 := hw5
  have hf5 : fC M M5 := (hf4).tr (fC_sm (hs5.wd (by decide) (by decide)))
  refine z_go 33 _ [.ref 16] _ c_54_32 rfl ?_
  refine z_go 34 _ [.int (jn 0), .ref 16] _ c_54_33 rfl ?_
  refine z_putf (M' := jm [(16, xO ty hc tf false)] M5) 37 c_54_34 rfl hc5.1 (by decide) (Nat.le_of_ble_eq_true rfl) rfl ?_
  have hs9 : sm 16 16 M5 (jm [(16, xO ty hc tf false)] M5) := sm_jm rfl
  have hw9 : cS (jm [(16, xO ty hc tf false)] M5) ty hc tf false p (sz + 1) id (nu ids sz id) (nu G sz X) false false 0 X := cS_16 hc5 hs9 rfl
  generalize hM9 : jm [(16, xO ty hc tf false)] M5 = M9 at hs9 hw9 ⊢
  have hc9 := hw9
  have hf9 : fC M M9 := (hf5).tr (fC_16 hs9)
  refine z_go 38 _ [.int (jb true)] _ c_54_37 rfl ?_
  refine z_ifeq 45 41 c_54_38 rfl jb_t (fun h => absurd h (by decide)) (fun _ => ?_)
  refine z_go 42 _ [.int (jn 1)] _ c_54_41 rfl ?_
  refine z_go 46 _ [.int (jn 1)] _ c_54_42 rfl ?_
  refine z_iret c_54_46 ?_
  exact ⟨rfl, hc9, hf9⟩
theorem t_recN1 {d ty hc tf : Nat} {p : Nat → Nat} {sz li : Nat} {ids : Nat → Nat} {G : Nat → GR} {id : Nat} {X : GR} {M : jx_M} (hc0 : cS M ty hc tf true p sz li ids G true true id X) (hsz : sz ≤ 12) (hs : sp_sl ids (jn id) sz 0 = none) : jZ (d + 3) 54 0 [some (.ref 16), none] [] M (jV (some (.int (jn 1))) fun M' => cS M' ty hc tf false p sz li ids G false false 0 X ∧ fC M M') := by
  refine z_go 1 _ [.ref 16] _ c_54_0 rfl ?_
  refine z_getf (v := .int (jb true)) 4 c_54_1 rfl hc0.1 rfl ?_
  refine z_ifne 9 7 c_54_4 rfl jb_t (fun h => absurd h (by decide)) (fun _ => ?_)
  refine z_go 10 _ [.ref 16] _ c_54_9 rfl ?_
  refine z_getf (v := .ref 86) 13 c_54_10 rfl hc0.1 rfl ?_
  refine z_getf (v := .int (jb true)) 16 c_54_13 rfl hc0.2.2.1 rfl ?_
  refine z_go 17 [some (.ref 16), some (.int (jb true))] [] _ c_54_16 rfl ?_
  refine z_go 18 _ [.int (jb true)] _ c_54_17 rfl ?_
  refine z_ifeq 25 21 c_54_18 rfl jb_t (fun h => absurd h (by decide)) (fun _ => ?_)
  refine z_go 22 _ [.ref 16] _ c_54_21 rfl ?_
  refine z_callvV 25 5 55 0 16 c_54_22 rfl ⟨Nat.le_of_ble_eq_true rfl, Nat.le_of_ble_eq_true rfl⟩ rfl hc0.1 [.ref 16] rfl rfl [some (.ref 16), none] rfl rfl (t_carN1 (d := d) hc0 hsz hs) ?_
  intro M4 ⟨hc4, hf4⟩
  show jZ _ _ _ _ [] _ _
  refine z_go 26 _ [.ref 16] _ c_54_25 rfl ?_
  refine z_getf (v := .ref 86) 29 c_54_26 rfl hc4.1 rfl ?_
  refine z_callv 32 1 12 0 86 c_54_29 rfl ⟨Nat.le_of_ble_eq_true rfl, Nat.le_of_ble_eq_true rfl⟩ rfl hc4.2.2.1 [.ref 86] rfl rfl [some (.ref 86)] rfl rfl (t_lclear hc4.2.2.1) ?_
  show jZ _ _ _ _ [] _ _
  have hs5 : sm 86 86 M4 (jm [(86, lO false false 0)] M4) := sm_jm rfl
  have hw5 : cS (jm [(86, lO false false 0)] M4) ty hc tf true p sz li ids G false false 0 X := cS_86 hc4 hs5 rfl
  generalize hM5 : jm [(86, lO false false 0)] M4 = M5 at hs5 hw5 ⊢
  have hc5 := hw5
  have hf5 : fC M M5 := (hf4).tr (fC_sm (hs5.wd (by decide) (by decide)))
  refine z_go 33 _ [.ref 16] _ c_54_32 rfl ?_
  refine z_go 34 _ [.int (jn 0), .ref 16] _ c_54_33 rfl ?_
  refine z_putf (M' := jm [(16, xO ty hc tf false)] M5) 37 c_54_34 rfl hc5.1 (by decide) (Nat.le_of_ble_eq_true rfl) rfl ?_
  have hs9 : sm 16 16 M5 (jm [(16, xO ty hc tf false)] M5) := sm_jm rfl
  have hw9 : cS (jm [(16, xO ty hc tf false)] M5) ty hc tf false p sz li ids G false false 0 X := cS_16 hc5 hs9 rfl
  generalize hM9 : jm [(16, xO ty hc tf false)] M5 = M9 at hs9 hw9 ⊢
  have hc9 := hw9
  have hf9 : fC M M9 := (hf5).tr (fC_16 hs9)
  refine z_go 38 _ [.int (jb true)] _ c_54_37 rfl ?_
  refine z_ifeq 45 41 c_54_38 rfl jb_t (fun h => absurd h (by decide)) (fun _ => ?_)
  refine z_go 42 _ [.int (jn 1)] _ c_54_41 rfl ?_
  refine z_go 46 _ [.int (jn 1)] _ c_54_42 rfl ?_
  refine z_iret c_54_46 ?_
  exact ⟨rfl, hc9, hf9⟩
theorem t_recN2 {d ty hc tf : Nat} {p : Nat → Nat} {sz li : Nat} {ids : Nat → Nat} {G : Nat → GR} {id : Nat} {X : GR} {M : jx_M} (hc0 : cS M ty hc tf true p sz li ids G true false id X) (hsz : sz ≤ 12) {go : Nat} (hs : sp_sl ids (jn id) sz 0 = some go) : jZ (d + 3) 54 0 [some (.ref 16), none] [] M (jV (some (.int (jn 1))) fun M' => cS M' ty hc tf false p sz li ids G false false 0 X ∧ fC M M') := by
  refine z_go 1 _ [.ref 16] _ c_54_0 rfl ?_
  refine z_getf (v := .int (jb true)) 4 c_54_1 rfl hc0.1 rfl ?_
  refine z_ifne 9 7 c_54_4 rfl jb_t (fun h => absurd h (by decide)) (fun _ => ?_)
  refine z_go 10 _ [.ref 16] _ c_54_9 rfl ?_
  refine z_getf (v := .ref 86) 13 c_54_10 rfl hc0.1 rfl ?_
  refine z_getf (v := .int (jb true)) 16 c_54_13 rfl hc0.2.2.1 rfl ?_
  refine z_go 17 [some (.ref 16), some (.int (jb true))] [] _ c_54_16 rfl ?_
  refine z_go 18 _ [.int (jb true)] _ c_54_17 rfl ?_
  refine z_ifeq 25 21 c_54_18 rfl jb_t (fun h => absurd h (by decide)) (fun _ => ?_)
  refine z_go 22 _ [.ref 16] _ c_54_21 rfl ?_
  refine z_callvV 25 5 55 0 16 c_54_22 rfl ⟨Nat.le_of_ble_eq_true rfl, Nat.le_of_ble_eq_true rfl⟩ rfl hc0.1 [.ref 16] rfl rfl [some (.ref 16), none] rfl rfl (t_carN2 (d := d) hc0 hsz hs) ?_
  intro M4 ⟨hc4, hf4⟩
  show jZ _ _ _ _ [] _ _
  refine z_go 26 _ [.ref 16] _ c_54_25 rfl ?_
  refine z_getf (v := .ref 86) 29 c_54_26 rfl hc4.1 rfl ?_
  refine z_callv 32 1 12 0 86 c_54_29 rfl ⟨Nat.le_of_ble_eq_true rfl, Nat.le_of_ble_eq_true rfl⟩ rfl hc4.2.2.1 [.ref 86] rfl rfl [some (.ref 86)] rfl rfl (t_lclear hc4.2.2.1) ?_
  show jZ _ _ _ _ [] _ _
  have hs5 : sm 86 86 M4 (jm [(86, lO false false 0)] M4) := sm_jm rfl
  have hw5 : cS (jm [(86, lO false false 0)] M4) ty hc tf true p sz li ids G false false 0 X := cS_86 hc4 hs5 rfl
  generalize hM5 : jm [(86, lO false false 0)] M4 = M5 at hs5 hw5 ⊢
  have hc5 := hw5
  have hf5 : fC M M5 := (hf4).tr (fC_sm (hs5.wd (by decide) (by decide)))
  refine z_go 33 _ [.ref 16] _ c_54_32 rfl ?_
  refine z_go 34 _ [.int (jn 0), .ref 16] _ c_54_33 rfl ?_
  refine z_putf (M' := jm [(16, xO ty hc tf false)] M5) 37 c_54_34 rfl hc5.1 (by decide) (Nat.le_of_ble_eq_true rfl) rfl ?_
  have hs9 : sm 16 16 M5 (jm [(16, xO ty hc tf false)] M5) := sm_jm rfl
  have hw9 : cS (jm [(16, xO ty hc tf false)] M5) ty hc tf false p sz li ids G false false 0 X := cS_16 hc5 hs9 rfl
  generalize hM9 : jm [(16, xO ty hc tf false)] M5 = M9 at hs9 hw9 ⊢
  have hc9 := hw9
  have hf9 : fC M M9 := (hf5).tr (fC_16 hs9)
  refine z_go 38 _ [.int (jb true)] _ c_54_37 rfl ?_
  refine z_ifeq 45 41 c_54_38 rfl jb_t (fun h => absurd h (by decide)) (fun _ => ?_)
  refine z_go 42 _ [.int (jn 1)] _ c_54_41 rfl ?_
  refine z_go 46 _ [.int (jn 1)] _ c_54_42 rfl ?_
  refine z_iret c_54_46 ?_
  exact ⟨rfl, hc9, hf9⟩
theorem t_recD {d ty hc tf : Nat} {M : jx_M} (h16 : M.1 16 = xO ty hc tf false) : jZ d 54 0 [some (.ref 16), none] [] M (jR (some (.int (-1))) M) := by
  refine z_go 1 _ [.ref 16] _ c_54_0 rfl ?_
  refine z_getf (v := .int (jb false)) 4 c_54_1 rfl h16 rfl ?_
  refine z_ifne 9 7 c_54_4 rfl jb_t (fun _ => ?_) (fun h => absurd rfl h)
  refine z_go 8 _ [.int (jo none)] _ c_54_7 rfl ?_
  refine z_iret c_54_8 ?_
  exact ⟨rfl, rfl⟩
