/-! THE READER: a whole text; printed by wip/whole/p47.py -/
theorem c_39_0 : jx_cd 39 0 = some (o_ild 1 1) := rfl
theorem c_39_1 : jx_cd 39 1 = some (o_ist 2 1) := rfl
theorem c_39_2 : jx_cd 39 2 = some (o_push (.int 0) 1) := rfl
theorem c_39_3 : jx_cd 39 3 = some (o_ist 3 1) := rfl
theorem c_39_4 : jx_cd 39 4 = some (o_ild 3 1) := rfl
theorem c_39_5 : jx_cd 39 5 = some (o_push (.int 40) 2) := rfl
theorem c_39_7 : jx_cd 39 7 = some (o_ige 64) := rfl
theorem c_39_10 : jx_cd 39 10 = some (o_ald 0 1) := rfl
theorem c_39_11 : jx_cd 39 11 = some (o_callv 3 28 0) := rfl
theorem c_39_14 : jx_cd 39 14 = some (o_push (.int 41) 2) := rfl
theorem c_39_16 : jx_cd 39 16 = some (o_ine 64) := rfl
theorem c_39_19 : jx_cd 39 19 = some (o_ald 0 1) := rfl
theorem c_39_20 : jx_cd 39 20 = some (o_getf 3 14) := rfl
theorem c_39_23 : jx_cd 39 23 = some (o_ifne 28) := rfl
theorem c_39_26 : jx_cd 39 26 = some (o_push (.int (-1)) 1) := rfl
theorem c_39_27 : jx_cd 39 27 = some (o_iret) := rfl
theorem c_39_28 : jx_cd 39 28 = some (o_ald 0 1) := rfl
theorem c_39_29 : jx_cd 39 29 = some (o_dup) := rfl
theorem c_39_30 : jx_cd 39 30 = some (o_getf 3 14) := rfl
theorem c_39_33 : jx_cd 39 33 = some (o_push (.int 1) 1) := rfl
theorem c_39_34 : jx_cd 39 34 = some (o_bin fun x y => x - y) := rfl
theorem c_39_35 : jx_cd 39 35 = some (o_putf 3 14 jx_okI) := rfl
theorem c_39_38 : jx_cd 39 38 = some (o_ald 0 1) := rfl
theorem c_39_39 : jx_cd 39 39 = some (o_getf 3 13) := rfl
theorem c_39_42 : jx_cd 39 42 = some (o_ald 0 1) := rfl
theorem c_39_43 : jx_cd 39 43 = some (o_getf 3 14) := rfl
theorem c_39_46 : jx_cd 39 46 = some (o_iald) := rfl
theorem c_39_47 : jx_cd 39 47 = some (o_ist 2 1) := rfl
theorem c_39_48 : jx_cd 39 48 = some (o_ald 0 1) := rfl
theorem c_39_49 : jx_cd 39 49 = some (o_dup) := rfl
theorem c_39_50 : jx_cd 39 50 = some (o_getf 3 2) := rfl
theorem c_39_53 : jx_cd 39 53 = some (o_push (.int 1) 1) := rfl
theorem c_39_54 : jx_cd 39 54 = some (o_bin fun x y => x + y) := rfl
theorem c_39_55 : jx_cd 39 55 = some (o_putf 3 2 jx_okI) := rfl
theorem c_39_58 : jx_cd 39 58 = some (o_iinc 3 1) := rfl
theorem c_39_61 : jx_cd 39 61 = some (o_goto 4) := rfl
theorem c_39_64 : jx_cd 39 64 = some (o_ild 2 1) := rfl
theorem c_39_65 : jx_cd 39 65 = some (o_iret) := rfl
theorem c_40_0 : jx_cd 40 0 = some (o_ald 0 1) := rfl
theorem c_40_1 : jx_cd 40 1 = some (o_callv 3 28 0) := rfl
theorem c_40_4 : jx_cd 40 4 = some (o_push (.int 40) 2) := rfl
theorem c_40_6 : jx_cd 40 6 = some (o_ine 48) := rfl
theorem c_40_9 : jx_cd 40 9 = some (o_ald 0 1) := rfl
theorem c_40_10 : jx_cd 40 10 = some (o_getf 3 14) := rfl
theorem c_40_13 : jx_cd 40 13 = some (o_push (.int 40) 2) := rfl
theorem c_40_15 : jx_cd 40 15 = some (o_ige 48) := rfl
theorem c_40_18 : jx_cd 40 18 = some (o_ald 0 1) := rfl
theorem c_40_19 : jx_cd 40 19 = some (o_getf 3 13) := rfl
theorem c_40_22 : jx_cd 40 22 = some (o_ald 0 1) := rfl
theorem c_40_23 : jx_cd 40 23 = some (o_getf 3 14) := rfl
theorem c_40_26 : jx_cd 40 26 = some (o_ild 1 1) := rfl
theorem c_40_27 : jx_cd 40 27 = some (o_iast) := rfl
theorem c_40_28 : jx_cd 40 28 = some (o_ald 0 1) := rfl
theorem c_40_29 : jx_cd 40 29 = some (o_dup) := rfl
theorem c_40_30 : jx_cd 40 30 = some (o_getf 3 14) := rfl
theorem c_40_33 : jx_cd 40 33 = some (o_push (.int 1) 1) := rfl
theorem c_40_34 : jx_cd 40 34 = some (o_bin fun x y => x + y) := rfl
theorem c_40_35 : jx_cd 40 35 = some (o_putf 3 14 jx_okI) := rfl
theorem c_40_38 : jx_cd 40 38 = some (o_ald 0 1) := rfl
theorem c_40_39 : jx_cd 40 39 = some (o_dup) := rfl
theorem c_40_40 : jx_cd 40 40 = some (o_getf 3 2) := rfl
theorem c_40_43 : jx_cd 40 43 = some (o_push (.int 1) 1) := rfl
theorem c_40_44 : jx_cd 40 44 = some (o_bin fun x y => x + y) := rfl
theorem c_40_45 : jx_cd 40 45 = some (o_putf 3 2 jx_okI) := rfl
theorem c_40_48 : jx_cd 40 48 = some (o_ret) := rfl
theorem c_41_0 : jx_cd 41 0 = some (o_push (.int 1) 1) := rfl
theorem c_41_1 : jx_cd 41 1 = some (o_ist 1 1) := rfl
theorem c_41_2 : jx_cd 41 2 = some (o_ild 1 1) := rfl
theorem c_41_3 : jx_cd 41 3 = some (o_push (.int 9) 2) := rfl
theorem c_41_5 : jx_cd 41 5 = some (o_igt 26) := rfl
theorem c_41_8 : jx_cd 41 8 = some (o_ald 0 1) := rfl
theorem c_41_9 : jx_cd 41 9 = some (o_getf 3 11) := rfl
theorem c_41_12 : jx_cd 41 12 = some (o_ild 1 1) := rfl
theorem c_41_13 : jx_cd 41 13 = some (o_iald) := rfl
theorem c_41_14 : jx_cd 41 14 = some (o_push (.int (-1)) 1) := rfl
theorem c_41_15 : jx_cd 41 15 = some (o_ieq 20) := rfl
theorem c_41_18 : jx_cd 41 18 = some (o_push (.int 1) 1) := rfl
theorem c_41_19 : jx_cd 41 19 = some (o_zret) := rfl
theorem c_41_20 : jx_cd 41 20 = some (o_iinc 1 1) := rfl
theorem c_41_23 : jx_cd 41 23 = some (o_goto 2) := rfl
theorem c_41_26 : jx_cd 41 26 = some (o_push (.int 0) 1) := rfl
theorem c_41_27 : jx_cd 41 27 = some (o_zret) := rfl
theorem jn_m1 {a : Nat} (h : a < 2 ^ 31) : jn a = -1 ↔ False := ⟨fun q => jn_ne1 h q, False.elim⟩
def jE {α : Type} (M : jx_M) (Q : α → jx_M → Prop) (vf : α → Value) (v0 : Value) (o : Option α) : jx_R → jx_M → Prop := match o with
  | none => jV (some v0) fun M' => rSh M' ∧ same M M'
  | some x => jV (some (vf x)) fun M' => Q x M' ∧ same M M'
theorem jE_sh {α : Type} {M M1 : jx_M} {Q : α → jx_M → Prop} {vf : α → Value} {v0 : Value} {o : Option α} {r : jx_R} {M' : jx_M} (k : same M M1) (h : jE M1 Q vf v0 o r M') : jE M Q vf v0 o r M' := by
  cases o with
  | none => exact ⟨h.1, h.2.1, k.tr h.2.2⟩
  | some x => exact ⟨h.1, h.2.1, k.tr h.2.2⟩
def sp_pe (tx : Nat → Nat) (ln : Nat) (br : Nat → Nat) : Nat → Nat → Nat → Nat → Option (Nat × Nat × Nat)
  | 0, ps, dp, o => some (o, ps, dp)
  | k + 1, ps, dp, o => if sp_here tx ln ps = 41 then (if dp = 0 then none else sp_pe tx ln br k (ps + 1) (dp - 1) (br (dp - 1))) else some (o, ps, dp)
theorem t_pe_l {d ln sz a : Nat} {pt : Bool} {tx cs br : Nat → Nat} {wr : Nat → Option Nat} {bf bs bk ol : Nat → Nat} {bc : Nat} {oa : Nat → Option Nat} (hl : ln ≤ 40) (ht : ∀ j, tx j < 128) (hbr : ∀ j, br j < 40) (hwr : ∀ j k, wr j = some k → k < 100) (hI : cbI (bf, bs, bk, bc, oa, ol)) : ∀ {k i ps dp o : Nat} {M : jx_M}, i + k = 40 → ps ≤ ln → dp ≤ 40 → rA M tx ln pt ps sz cs wr (bf, bs, bk, bc, oa, ol) br dp → jZ (d + 1) 39 4 [some (.ref 18), some (.int (jn a)), some (.int (jn o)), some (.int (jn i))] [] M (jE M (fun x M' => rA M' tx ln pt x.2.1 sz cs wr (bf, bs, bk, bc, oa, ol) br x.2.2) (fun x => .int (jn x.1)) (.int (jo none)) (sp_pe tx ln br k ps dp o)) := by
  intro k
  induction k with
  | zero =>
    intro i ps dp o M hk hp hdp hR
    obtain ⟨h18, h19, h20, h21, h22, h23, h24, h25, h26, h27⟩ := hR
    refine z_go 5 _ [.int (jn i)] _ c_39_4 rfl ?_
    refine z_go 7 _ [.int (jn 40), .int (jn i)] _ c_39_5 rfl ?_
    refine z_ige 64 10 c_39_7 rfl (by omega) (by omega) (fun hi => ?_) (fun hi => ?_)
    · omega
    · refine z_go 65 _ [.int (jn o)] _ c_39_64 rfl ?_
      refine z_iret c_39_65 ?_
      exact ⟨rfl, ⟨h18, h19, h20, h21, h22, h23, h24, h25, h26, h27⟩, same_r M⟩
  | succ k ih =>
    intro i ps dp o M hk hp hdp hR
    have hR0 := hR
    obtain ⟨h18, h19, h20, h21, h22, h23, h24, h25, h26, h27⟩ := hR
    refine z_go 5 _ [.int (jn i)] _ c_39_4 rfl ?_
    refine z_go 7 _ [.int (jn 40), .int (jn i)] _ c_39_5 rfl ?_
    refine z_ige 64 10 c_39_7 rfl (by omega) (by omega) (fun hi => ?_) (fun hi => ?_)
    · have hcl := sp_here_lt (tx := tx) (ln := ln) (ps := ps) ht
      refine z_go 11 _ [.ref 18] _ c_39_10 rfl ?_
      refine z_callv 14 3 28 0 18 c_39_11 rfl ⟨Nat.le_of_ble_eq_true rfl, Nat.le_of_ble_eq_true rfl⟩ rfl h18 [.ref 18] rfl rfl [some (.ref 18)] rfl rfl (t_here' h18 h19 hl (by omega) ht) ?_
      show jZ _ _ _ _ [.int (jn (sp_here tx ln ps))] _ _
      refine z_go 16 _ [.int (jn 41), .int (jn (sp_here tx ln ps))] _ c_39_14 rfl ?_
      refine z_ine 64 19 c_39_16 rfl (jn_inj (by omega) (by omega)) (fun h1 => ?_) (fun h1 => ?_)
      · have hlt := sp_here_pos (tx := tx) (ln := ln) (ps := ps) (by omega)
        refine z_go 20 _ [.ref 18] _ c_39_19 rfl ?_
        refine z_getf (v := .int (jn dp)) 23 c_39_20 rfl h18 rfl ?_
        refine z_ifne 28 26 c_39_23 rfl (jn_z (by omega)) (fun h2 => ?_) (fun h2 => ?_)
        · refine z_go 27 _ [.int (jo none)] _ c_39_26 rfl ?_
          refine z_iret c_39_27 ?_
          rw [sp_pe, if_pos h1, if_pos h2]
          exact ⟨rfl, ⟨_, _, _, _, _, _, _, _, _, _, hR0, ht, hbr, hwr, hI⟩, same_r M⟩
        · have hbr1 := hbr (dp - 1)
          refine z_go 29 _ [.ref 18] _ c_39_28 rfl ?_
          refine z_go 30 _ [.ref 18, .ref 18] _ c_39_29 rfl ?_
          refine z_getf (v := .int (jn dp)) 33 c_39_30 rfl h18 rfl ?_
          refine z_go 34 _ [.int (jn 1), .int (jn dp), .ref 18] _ c_39_33 rfl ?_
          refine z_go 35 _ [.int ((jn dp) - (jn 1)), .ref 18] _ c_39_34 rfl ?_
          refine z_v (jn_sub (by omega)) ?_
          refine z_putf (M' := jm [(18, rO ln ps pt sz bc (dp - 1))] M) 38 c_39_35 rfl h18 (rfl) (Nat.le_of_ble_eq_true rfl) rfl ?_
          refine z_go 39 _ [.ref 18] _ c_39_38 rfl ?_
          refine z_getf (v := .ref 27) 42 c_39_39 rfl rfl rfl ?_
          refine z_go 43 _ [.ref 18, .ref 27] _ c_39_42 rfl ?_
          refine z_getf (v := .int (jn (dp - 1))) 46 c_39_43 rfl rfl rfl ?_
          refine z_iald 47 c_39_46 rfl h27 (Or.inl rfl) (by omega) (by omega) ?_
          show jZ _ _ _ _ ([.int (jn (br (dp - 1)))]) _ _
          refine z_go 48 [some (.ref 18), some (.int (jn a)), some (.int (jn (br (dp - 1)))), some (.int (jn i))] [] _ c_39_47 rfl ?_
          refine z_go 49 _ [.ref 18] _ c_39_48 rfl ?_
          refine z_go 50 _ [.ref 18, .ref 18] _ c_39_49 rfl ?_
          refine z_getf (v := .int (jn ps)) 53 c_39_50 rfl rfl rfl ?_
          refine z_go 54 _ [.int (jn 1), .int (jn ps), .ref 18] _ c_39_53 rfl ?_
          refine z_go 55 _ [.int ((jn ps) + (jn 1)), .ref 18] _ c_39_54 rfl ?_
          refine z_v (jn_add _ _) ?_
          refine z_putf (M' := jm [(18, rO ln (ps + 1) pt sz bc (dp - 1))] M) 58 c_39_55 rfl rfl (rfl) (Nat.le_of_ble_eq_true rfl) (jm_w rfl) ?_
          refine z_iinc 61 [some (.ref 18), some (.int (jn a)), some (.int (jn (br (dp - 1)))), some (.int (jn (i + 1)))] c_39_58 rfl rfl (jn_add _ _) rfl ?_
          refine z_go 4 _ [] _ c_39_61 rfl ?_
          have e1 : sp_pe tx ln br (k + 1) ps dp o = sp_pe tx ln br k (ps + 1) (dp - 1) (br (dp - 1)) := by rw [sp_pe, if_pos h1, if_neg h2]
          rw [e1]
          exact (ih (i := i + 1) (M := jm [(18, rO ln (ps + 1) pt sz bc (dp - 1))] M) (by omega) (by omega) (by omega) ⟨rfl, h19, h20, h21, h22, h23, h24, h25, h26, h27⟩).mono fun r M2 q => jE_sh (same_jm rfl) q
      · refine z_go 65 _ [.int (jn o)] _ c_39_64 rfl ?_
        refine z_iret c_39_65 ?_
        rw [sp_pe, if_neg h1]
        exact ⟨rfl, hR0, same_r M⟩
    · omega
theorem t_pe {d ln ps sz dp : Nat} {pt : Bool} {tx cs br : Nat → Nat} {wr : Nat → Option Nat} {M : jx_M} {bf bs bk ol : Nat → Nat} {bc : Nat} {oa : Nat → Option Nat} {a : Nat} (hl : ln ≤ 40) (ht : ∀ j, tx j < 128) (hbr : ∀ j, br j < 40) (hwr : ∀ j k, wr j = some k → k < 100) (hI : cbI (bf, bs, bk, bc, oa, ol)) (hp : ps ≤ ln) (hdp : dp ≤ 40) (hR : rA M tx ln pt ps sz cs wr (bf, bs, bk, bc, oa, ol) br dp) : jZ (d + 1) 39 0 [some (.ref 18), some (.int (jn a)), none, none] [] M (jE M (fun x M' => rA M' tx ln pt x.2.1 sz cs wr (bf, bs, bk, bc, oa, ol) br x.2.2) (fun x => .int (jn x.1)) (.int (jo none)) (sp_pe tx ln br 40 ps dp a)) := by
  refine z_go 1 _ [.int (jn a)] _ c_39_0 rfl ?_
  refine z_go 2 [some (.ref 18), some (.int (jn a)), some (.int (jn a)), none] [] _ c_39_1 rfl ?_
  refine z_go 3 _ [.int (jn 0)] _ c_39_2 rfl ?_
  refine z_go 4 [some (.ref 18), some (.int (jn a)), some (.int (jn a)), some (.int (jn 0))] [] _ c_39_3 rfl ?_
  exact t_pe_l hl ht hbr hwr hI (by omega) hp hdp hR
def sp_st (tx : Nat → Nat) (ln ps : Nat) (br : Nat → Nat) (dp o : Nat) : Nat × (Nat → Nat) × Nat := if sp_here tx ln ps = 40 ∧ dp < 40 then (ps + 1, nu br dp o, dp + 1) else (ps, br, dp)
theorem t_st {d ln ps sz dp : Nat} {pt : Bool} {tx cs br : Nat → Nat} {wr : Nat → Option Nat} {M : jx_M} {bf bs bk ol : Nat → Nat} {bc : Nat} {oa : Nat → Option Nat} {o : Nat} (hl : ln ≤ 40) (ht : ∀ j, tx j < 128) (hp : ps ≤ ln) (hdp : dp ≤ 40) (hR : rA M tx ln pt ps sz cs wr (bf, bs, bk, bc, oa, ol) br dp) : jZ (d + 1) 40 0 [some (.ref 18), some (.int (jn o))] [] M (jV none fun M' => rA M' tx ln pt (sp_st tx ln ps br dp o).1 sz cs wr (bf, bs, bk, bc, oa, ol) (sp_st tx ln ps br dp o).2.1 (sp_st tx ln ps br dp o).2.2 ∧ same M M') := by
  have hR0 := hR
  obtain ⟨h18, h19, h20, h21, h22, h23, h24, h25, h26, h27⟩ := hR
  have hcl := sp_here_lt (tx := tx) (ln := ln) (ps := ps) ht
  refine z_go 1 _ [.ref 18] _ c_40_0 rfl ?_
  refine z_callv 4 3 28 0 18 c_40_1 rfl ⟨Nat.le_of_ble_eq_true rfl, Nat.le_of_ble_eq_true rfl⟩ rfl h18 [.ref 18] rfl rfl [some (.ref 18)] rfl rfl (t_here' h18 h19 hl (by omega) ht) ?_
  show jZ _ _ _ _ [.int (jn (sp_here tx ln ps))] _ _
  refine z_go 6 _ [.int (jn 40), .int (jn (sp_here tx ln ps))] _ c_40_4 rfl ?_
  refine z_ine 48 9 c_40_6 rfl (jn_inj (by omega) (by omega)) (fun h1 => ?_) (fun h1 => ?_)
  · refine z_go 10 _ [.ref 18] _ c_40_9 rfl ?_
    refine z_getf (v := .int (jn dp)) 13 c_40_10 rfl h18 rfl ?_
    refine z_go 15 _ [.int (jn 40), .int (jn dp)] _ c_40_13 rfl ?_
    refine z_ige 48 18 c_40_15 rfl (by omega) (by omega) (fun h2 => ?_) (fun h2 => ?_)
    · refine z_go 19 _ [.ref 18] _ c_40_18 rfl ?_
      refine z_getf (v := .ref 27) 22 c_40_19 rfl h18 rfl ?_
      refine z_go 23 _ [.ref 18, .ref 27] _ c_40_22 rfl ?_
      refine z_getf (v := .int (jn dp)) 26 c_40_23 rfl h18 rfl ?_
      refine z_go 27 _ [.int (jn o), .int (jn dp), .ref 27] _ c_40_26 rfl ?_
      refine z_iast (M' := jm [(27, .inl (0, 40, .inl (ja (nu br dp o))))] M) 28 c_40_27 rfl h27 (by omega) (by omega) (by rw [ja_upd]; exact rfl) ?_
      refine z_go 29 _ [.ref 18] _ c_40_28 rfl ?_
      refine z_go 30 _ [.ref 18, .ref 18] _ c_40_29 rfl ?_
      refine z_getf (v := .int (jn dp)) 33 c_40_30 rfl h18 rfl ?_
      refine z_go 34 _ [.int (jn 1), .int (jn dp), .ref 18] _ c_40_33 rfl ?_
      refine z_go 35 _ [.int ((jn dp) + (jn 1)), .ref 18] _ c_40_34 rfl ?_
      refine z_v (jn_add _ _) ?_
      refine z_putf (M' := jm [(18, rO ln ps pt sz bc (dp + 1)), (27, .inl (0, 40, .inl (ja (nu br dp o))))] M) 38 c_40_35 rfl h18 (rfl) (Nat.le_of_ble_eq_true rfl) rfl ?_
      refine z_go 39 _ [.ref 18] _ c_40_38 rfl ?_
      refine z_go 40 _ [.ref 18, .ref 18] _ c_40_39 rfl ?_
      refine z_getf (v := .int (jn ps)) 43 c_40_40 rfl rfl rfl ?_
      refine z_go 44 _ [.int (jn 1), .int (jn ps), .ref 18] _ c_40_43 rfl ?_
      refine z_go 45 _ [.int ((jn ps) + (jn 1)), .ref 18] _ c_40_44 rfl ?_
      refine z_v (jn_add _ _) ?_
      refine z_putf (M' := jm [(18, rO ln (ps + 1) pt sz bc (dp + 1)), (27, .inl (0, 40, .inl (ja (nu br dp o))))] M) 48 c_40_45 rfl rfl (rfl) (Nat.le_of_ble_eq_true rfl) (jm_w rfl) ?_
      refine z_ret c_40_48 ?_
      rw [sp_st, if_pos ⟨h1, h2⟩]
      exact ⟨rfl, ⟨rfl, h19, h20, h21, h22, h23, h24, h25, h26, rfl⟩, same_jm rfl⟩
    · refine z_ret c_40_48 ?_
      rw [sp_st, if_neg (fun q => h2 q.2)]
      exact ⟨rfl, hR0, same_r M⟩
  · refine z_ret c_40_48 ?_
    rw [sp_st, if_neg (fun q => h1 q.1)]
    exact ⟨rfl, hR0, same_r M⟩
def sp_op (oa : Nat → Option Nat) : Nat → Nat → Bool
  | 0, _ => false
  | k + 1, i => if oa i = none then sp_op oa k (i + 1) else true
theorem t_op_l {d ln ps sz bc dp : Nat} {pt : Bool} {oa : Nat → Option Nat} {M : jx_M} (h18 : M.1 18 = rO ln ps pt sz bc dp) (h25 : M.1 25 = .inl (0, 10, .inl (jao oa))) (hoa : ∀ j k, oa j = some k → k < 40) : ∀ {k i : Nat}, i + k = 10 → jZ d 41 2 [some (.ref 18), some (.int (jn i))] [] M (jR (some (.int (jb (sp_op oa k i)))) M) := by
  intro k
  induction k with
  | zero =>
    intro i hk
    refine z_go 3 _ [.int (jn i)] _ c_41_2 rfl ?_
    refine z_go 5 _ [.int (jn 9), .int (jn i)] _ c_41_3 rfl ?_
    refine z_igt 26 8 c_41_5 rfl (by omega) (by omega) (fun hi => ?_) (fun hi => ?_)
    · refine z_go 27 _ [.int (jn 0)] _ c_41_26 rfl ?_
      refine z_zret (b := false) c_41_27 ?_
      exact ⟨rfl, rfl⟩
    · omega
  | succ k ih =>
    intro i hk
    refine z_go 3 _ [.int (jn i)] _ c_41_2 rfl ?_
    refine z_go 5 _ [.int (jn 9), .int (jn i)] _ c_41_3 rfl ?_
    refine z_igt 26 8 c_41_5 rfl (by omega) (by omega) (fun hi => ?_) (fun hi => ?_)
    · omega
    · have hob : ∀ k, oa i = some k → k < 2 ^ 31 := fun k q => by have : k < 40 := hoa i k q; omega
      refine z_go 9 _ [.ref 18] _ c_41_8 rfl ?_
      refine z_getf (v := .ref 25) 12 c_41_9 rfl h18 rfl ?_
      refine z_go 13 _ [.int (jn i), .ref 25] _ c_41_12 rfl ?_
      refine z_iald 14 c_41_13 rfl h25 (Or.inl rfl) (by omega) (by omega) ?_
      show jZ _ _ _ _ ([.int (jo (oa i))]) _ _
      refine z_go 15 _ [.int (jo none), .int (jo (oa i))] _ c_41_14 rfl ?_
      refine z_ieq 20 18 c_41_15 rfl (jo_none (by first | omega | assumption)) (fun h1 => ?_) (fun h1 => ?_)
      · refine z_iinc 23 [some (.ref 18), some (.int (jn (i + 1)))] c_41_20 rfl rfl (jn_add _ _) rfl ?_
        refine z_go 2 _ [] _ c_41_23 rfl ?_
        refine (ih (i := i + 1) (by omega)).mono fun r M1 q => ⟨q.1.trans ?_, q.2⟩
        rw [sp_op, if_pos h1]
      · refine z_go 19 _ [.int (jn 1)] _ c_41_18 rfl ?_
        refine z_zret (b := true) c_41_19 ?_
        exact ⟨by rw [sp_op, if_neg h1], rfl⟩
theorem t_op {d ln ps sz bc dp : Nat} {pt : Bool} {oa : Nat → Option Nat} {M : jx_M} (h18 : M.1 18 = rO ln ps pt sz bc dp) (h25 : M.1 25 = .inl (0, 10, .inl (jao oa))) (hoa : ∀ j k, oa j = some k → k < 40) : jZ d 41 0 [some (.ref 18), none] [] M (jR (some (.int (jb (sp_op oa 9 1)))) M) := by
  refine z_go 1 _ [.int (jn 1)] _ c_41_0 rfl ?_
  refine z_go 2 [some (.ref 18), some (.int (jn 1))] [] _ c_41_1 rfl ?_
  exact t_op_l h18 h25 hoa (by omega)
