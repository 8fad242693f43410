/-! THE READER: start and fill; printed by wip/whole/p50.py -/
theorem c_23_0 : jx_cd 23 0 = some (o_ald 0 1) := rfl
theorem c_23_1 : jx_cd 23 1 = some (o_ild 2 1) := rfl
theorem c_23_2 : jx_cd 23 2 = some (o_push (.int 40) 2) := rfl
theorem c_23_4 : jx_cd 23 4 = some (o_call 121 2) := rfl
theorem c_23_7 : jx_cd 23 7 = some (o_putf 3 1 jx_okI) := rfl
theorem c_23_10 : jx_cd 23 10 = some (o_ald 1 1) := rfl
theorem c_23_11 : jx_cd 23 11 = some (o_push (.int 0) 1) := rfl
theorem c_23_12 : jx_cd 23 12 = some (o_ald 0 1) := rfl
theorem c_23_13 : jx_cd 23 13 = some (o_getf 3 0) := rfl
theorem c_23_16 : jx_cd 23 16 = some (o_push (.int 0) 1) := rfl
theorem c_23_17 : jx_cd 23 17 = some (o_ald 0 1) := rfl
theorem c_23_18 : jx_cd 23 18 = some (o_getf 3 1) := rfl
theorem c_23_21 : jx_cd 23 21 = some (o_copy) := rfl
theorem c_23_24 : jx_cd 23 24 = some (o_ald 0 1) := rfl
theorem c_23_25 : jx_cd 23 25 = some (o_ild 3 1) := rfl
theorem c_23_26 : jx_cd 23 26 = some (o_putf 3 3 jx_okZ) := rfl
theorem c_23_29 : jx_cd 23 29 = some (o_ald 0 1) := rfl
theorem c_23_30 : jx_cd 23 30 = some (o_push (.int 0) 1) := rfl
theorem c_23_31 : jx_cd 23 31 = some (o_putf 3 2 jx_okI) := rfl
theorem c_23_34 : jx_cd 23 34 = some (o_ald 0 1) := rfl
theorem c_23_35 : jx_cd 23 35 = some (o_push (.int 0) 1) := rfl
theorem c_23_36 : jx_cd 23 36 = some (o_putf 3 6 jx_okI) := rfl
theorem c_23_39 : jx_cd 23 39 = some (o_ald 0 1) := rfl
theorem c_23_40 : jx_cd 23 40 = some (o_push (.int 0) 1) := rfl
theorem c_23_41 : jx_cd 23 41 = some (o_putf 3 10 jx_okI) := rfl
theorem c_23_44 : jx_cd 23 44 = some (o_ald 0 1) := rfl
theorem c_23_45 : jx_cd 23 45 = some (o_push (.int 0) 1) := rfl
theorem c_23_46 : jx_cd 23 46 = some (o_putf 3 14 jx_okI) := rfl
theorem c_23_49 : jx_cd 23 49 = some (o_ald 0 1) := rfl
theorem c_23_50 : jx_cd 23 50 = some (o_getf 3 11) := rfl
theorem c_23_53 : jx_cd 23 53 = some (o_push (.int (-1)) 1) := rfl
theorem c_23_54 : jx_cd 23 54 = some (o_call 123 2) := rfl
theorem c_23_57 : jx_cd 23 57 = some (o_ret) := rfl
theorem c_42_0 : jx_cd 42 0 = some (o_ald 1 1) := rfl
theorem c_42_1 : jx_cd 42 1 = some (o_callv 0 5 0) := rfl
theorem c_42_4 : jx_cd 42 4 = some (o_push (.int 0) 1) := rfl
theorem c_42_5 : jx_cd 42 5 = some (o_ist 2 1) := rfl
theorem c_42_6 : jx_cd 42 6 = some (o_ild 2 1) := rfl
theorem c_42_7 : jx_cd 42 7 = some (o_ald 0 1) := rfl
theorem c_42_8 : jx_cd 42 8 = some (o_getf 3 6) := rfl
theorem c_42_11 : jx_cd 42 11 = some (o_ige 30) := rfl
theorem c_42_14 : jx_cd 42 14 = some (o_ald 1 1) := rfl
theorem c_42_15 : jx_cd 42 15 = some (o_ald 0 1) := rfl
theorem c_42_16 : jx_cd 42 16 = some (o_getf 3 4) := rfl
theorem c_42_19 : jx_cd 42 19 = some (o_ild 2 1) := rfl
theorem c_42_20 : jx_cd 42 20 = some (o_iald) := rfl
theorem c_42_21 : jx_cd 42 21 = some (o_callv 0 6 1) := rfl
theorem c_42_24 : jx_cd 42 24 = some (o_iinc 2 1) := rfl
theorem c_42_27 : jx_cd 42 27 = some (o_goto 6) := rfl
theorem c_42_30 : jx_cd 42 30 = some (o_push (.int 0) 1) := rfl
theorem c_42_31 : jx_cd 42 31 = some (o_ist 2 1) := rfl
theorem c_42_32 : jx_cd 42 32 = some (o_ild 2 1) := rfl
theorem c_42_33 : jx_cd 42 33 = some (o_ald 0 1) := rfl
theorem c_42_34 : jx_cd 42 34 = some (o_getf 3 10) := rfl
theorem c_42_37 : jx_cd 42 37 = some (o_ige 68) := rfl
theorem c_42_40 : jx_cd 42 40 = some (o_ald 1 1) := rfl
theorem c_42_41 : jx_cd 42 41 = some (o_ald 0 1) := rfl
theorem c_42_42 : jx_cd 42 42 = some (o_getf 3 7) := rfl
theorem c_42_45 : jx_cd 42 45 = some (o_ild 2 1) := rfl
theorem c_42_46 : jx_cd 42 46 = some (o_iald) := rfl
theorem c_42_47 : jx_cd 42 47 = some (o_ald 0 1) := rfl
theorem c_42_48 : jx_cd 42 48 = some (o_getf 3 8) := rfl
theorem c_42_51 : jx_cd 42 51 = some (o_ild 2 1) := rfl
theorem c_42_52 : jx_cd 42 52 = some (o_iald) := rfl
theorem c_42_53 : jx_cd 42 53 = some (o_ald 0 1) := rfl
theorem c_42_54 : jx_cd 42 54 = some (o_getf 3 9) := rfl
theorem c_42_57 : jx_cd 42 57 = some (o_ild 2 1) := rfl
theorem c_42_58 : jx_cd 42 58 = some (o_iald) := rfl
theorem c_42_59 : jx_cd 42 59 = some (o_callv 0 7 3) := rfl
theorem c_42_62 : jx_cd 42 62 = some (o_iinc 2 1) := rfl
theorem c_42_65 : jx_cd 42 65 = some (o_goto 32) := rfl
theorem c_42_68 : jx_cd 42 68 = some (o_ret) := rfl
def sp_none (f : Nat → Option Nat) (n : Nat) : Nat → Option Nat := fun j => if j < n then none else f j
theorem sp_fill_o {f : Nat → Option Nat} {n : Nat} : sp_fill (jao f) (jo none) 0 n = jao (sp_none f n) := by
  funext j
  simp only [sp_fill, jao, sp_none]
  by_cases h : j < n
  · rw [if_pos h, if_pos (by omega)]
  · rw [if_neg h, if_neg (by omega)]
theorem t_fillo {d a n : Nat} {f : Nat → Option Nat} {M : jx_M} (hn : n < 2 ^ 31) (h : M.1 a = .inl (0, n, .inl (jao f))) : jZ d 123 0 [some (.ref a), some (.int (jo none)), none, none] [] M (jR none (jm [(a, .inl (0, n, .inl (jao (sp_none f n))))] M)) := by
  rw [← sp_fill_o]
  exact t_fill hn h
theorem t_start {d ln ps sz dp n : Nat} {pt q : Bool} {tx cs br bu : Nat → Nat} {wr : Nat → Option Nat} {M : jx_M} {bf bs bk ol : Nat → Nat} {bc : Nat} {oa : Nat → Option Nat} (hR : rA M tx ln pt ps sz cs wr (bf, bs, bk, bc, oa, ol) br dp) (h17 : M.1 17 = .inl (1, 40, .inl (ja bu))) (hn : n ≤ 40) (hfit : ∀ j, bu j < 128) : jZ (d + 1) 23 0 [some (.ref 18), some (.ref 17), some (.int (jn n)), some (.int (jb q))] [] M (jV none fun M' => rA M' (sp_cpy bu tx n) n q 0 0 cs wr (bf, bs, bk, 0, sp_none oa 10, ol) br 0 ∧ same M M') := by
  obtain ⟨h18, h19, h20, h21, h22, h23, h24, h25, h26, h27⟩ := hR
  refine z_go 1 _ [.ref 18] _ c_23_0 rfl ?_
  refine z_go 2 _ [.int (jn n), .ref 18] _ c_23_1 rfl ?_
  refine z_go 4 _ [.int (jn 40), .int (jn n), .ref 18] _ c_23_2 rfl ?_
  refine z_call 7 121 2 c_23_4 rfl ⟨Nat.le_of_ble_eq_true rfl, Nat.le_of_ble_eq_true rfl⟩ [.int (jn n), .int (jn 40)] rfl rfl [some (.int (jn n)), some (.int (jn 40))] rfl rfl ((t_min (a := n) (b := 40) (by omega) (by omega)).mono fun r M1 q => ⟨q.1.trans (by rw [if_pos (by omega)]), q.2⟩) ?_
  show jZ _ _ _ _ [.int (jn n), .ref 18] _ _
  refine z_putf (M' := jm [(18, rO n ps pt sz bc dp)] M) 10 c_23_7 rfl h18 (rfl) (Nat.le_of_ble_eq_true rfl) rfl ?_
  refine z_go 11 _ [.ref 17] _ c_23_10 rfl ?_
  refine z_go 12 _ [.int (jn 0), .ref 17] _ c_23_11 rfl ?_
  refine z_go 13 _ [.ref 18, .int (jn 0), .ref 17] _ c_23_12 rfl ?_
  refine z_getf (v := .ref 19) 16 c_23_13 rfl rfl rfl ?_
  refine z_go 17 _ [.int (jn 0), .ref 19, .int (jn 0), .ref 17] _ c_23_16 rfl ?_
  refine z_go 18 _ [.ref 18, .int (jn 0), .ref 19, .int (jn 0), .ref 17] _ c_23_17 rfl ?_
  refine z_getf (v := .int (jn n)) 21 c_23_18 rfl rfl rfl ?_
  refine z_copy (M' := jm [(19, .inl (1, 40, .inl (ja (sp_cpy bu tx n)))), (18, rO n ps pt sz bc dp)] M) 24 c_23_21 rfl h17 h19 (Or.inr ⟨rfl, hfit⟩) (by omega) (by omega) (by omega) (Nat.le_of_ble_eq_true rfl) rfl ?_
  refine z_go 25 _ [.ref 18] _ c_23_24 rfl ?_
  refine z_go 26 _ [.int (jb q), .ref 18] _ c_23_25 rfl ?_
  refine z_putf (M' := jm [(19, .inl (1, 40, .inl (ja (sp_cpy bu tx n)))), (18, rO n ps q sz bc dp)] M) 29 c_23_26 rfl rfl (jb_ok) (Nat.le_of_ble_eq_true rfl) (jm_w rfl) ?_
  refine z_go 30 _ [.ref 18] _ c_23_29 rfl ?_
  refine z_go 31 _ [.int (jn 0), .ref 18] _ c_23_30 rfl ?_
  refine z_putf (M' := jm [(19, .inl (1, 40, .inl (ja (sp_cpy bu tx n)))), (18, rO n 0 q sz bc dp)] M) 34 c_23_31 rfl rfl (rfl) (Nat.le_of_ble_eq_true rfl) (jm_w rfl) ?_
  refine z_go 35 _ [.ref 18] _ c_23_34 rfl ?_
  refine z_go 36 _ [.int (jn 0), .ref 18] _ c_23_35 rfl ?_
  refine z_putf (M' := jm [(19, .inl (1, 40, .inl (ja (sp_cpy bu tx n)))), (18, rO n 0 q 0 bc dp)] M) 39 c_23_36 rfl rfl (rfl) (Nat.le_of_ble_eq_true rfl) (jm_w rfl) ?_
  refine z_go 40 _ [.ref 18] _ c_23_39 rfl ?_
  refine z_go 41 _ [.int (jn 0), .ref 18] _ c_23_40 rfl ?_
  refine z_putf (M' := jm [(19, .inl (1, 40, .inl (ja (sp_cpy bu tx n)))), (18, rO n 0 q 0 0 dp)] M) 44 c_23_41 rfl rfl (rfl) (Nat.le_of_ble_eq_true rfl) (jm_w rfl) ?_
  refine z_go 45 _ [.ref 18] _ c_23_44 rfl ?_
  refine z_go 46 _ [.int (jn 0), .ref 18] _ c_23_45 rfl ?_
  refine z_putf (M' := jm [(19, .inl (1, 40, .inl (ja (sp_cpy bu tx n)))), (18, rO n 0 q 0 0 0)] M) 49 c_23_46 rfl rfl (rfl) (Nat.le_of_ble_eq_true rfl) (jm_w rfl) ?_
  refine z_go 50 _ [.ref 18] _ c_23_49 rfl ?_
  refine z_getf (v := .ref 25) 53 c_23_50 rfl rfl rfl ?_
  refine z_go 54 _ [.int (jo none), .ref 25] _ c_23_53 rfl ?_
  refine z_call 57 123 2 c_23_54 rfl ⟨Nat.le_of_ble_eq_true rfl, Nat.le_of_ble_eq_true rfl⟩ [.ref 25, .int (jo none)] rfl rfl [some (.ref 25), some (.int (jo none)), none, none] rfl rfl (t_fillo (by decide) (f := oa) h25) ?_
  show jZ _ _ _ _ [] _ _
  refine z_m (M' := jm [(25, .inl (0, 10, .inl (jao (sp_none oa 10)))), (19, .inl (1, 40, .inl (ja (sp_cpy bu tx n)))), (18, rO n 0 q 0 0 0)] M) (jm_jw _ _ _) ?_
  refine z_ret c_23_57 ?_
  exact ⟨rfl, ⟨rfl, rfl, h20, h21, h22, h23, h24, rfl, h26, h27⟩, same_jm rfl⟩
def sp_ad (cs : Nat → Nat) : Nat → Nat → (Nat → Nat) → Nat → Nat
  | 0, _, c => c
  | k + 1, i, c => sp_ad cs k (i + 1) (nu c i (cs i))
def sp_jn (bf bs bk : Nat → Nat) : Nat → Nat → (Nat → Nat) × (Nat → Nat) → (Nat → Nat) × (Nat → Nat)
  | 0, _, K => K
  | k + 1, i, K => sp_jn bf bs bk k (i + 1) (nu (nu K.1 (bf i * 10 + bs i) (bk i)) (bs i * 10 + bf i) (bk i), sp_nr (sp_nr K.2 (bf i) (bs i) (bk i)) (bs i) (bf i) (bk i))
theorem t_fl1 {d ln ps sz bc dp : Nat} {pt : Bool} {cs ks nr : Nat → Nat} {post : jx_R → jx_M → Prop} (hz : sz ≤ 10) : ∀ {k i : Nat} {c : Nat → Nat} {M : jx_M}, i + k = sz → jg M 28 i 0 c ks nr → M.1 18 = rO ln ps pt sz bc dp → M.1 20 = .inl (0, 40, .inl (ja cs)) → (∀ M', jg M' 28 sz 0 (sp_ad cs k i c) ks nr → sameG 28 M M' → jZ (d + 2) 42 30 [some (.ref 18), some (.ref 28), some (.int (jn sz))] [] M' post) → jZ (d + 2) 42 6 [some (.ref 18), some (.ref 28), some (.int (jn i))] [] M post := by
  intro k
  induction k with
  | zero =>
    intro i c M hk hg h18 h20 kk
    refine z_go 7 _ [.int (jn i)] _ c_42_6 rfl ?_
    refine z_go 8 _ [.ref 18, .int (jn i)] _ c_42_7 rfl ?_
    refine z_getf (v := .int (jn sz)) 11 c_42_8 rfl h18 rfl ?_
    refine z_ige 30 14 c_42_11 rfl (by omega) (by omega) (fun hi => ?_) (fun hi => ?_)
    · omega
    · obtain rfl : i = sz := by omega
      exact kk M hg (sameG_r 28 M)
  | succ k ih =>
    intro i c M hk hg h18 h20 kk
    refine z_go 7 _ [.int (jn i)] _ c_42_6 rfl ?_
    refine z_go 8 _ [.ref 18, .int (jn i)] _ c_42_7 rfl ?_
    refine z_getf (v := .int (jn sz)) 11 c_42_8 rfl h18 rfl ?_
    refine z_ige 30 14 c_42_11 rfl (by omega) (by omega) (fun hi => ?_) (fun hi => ?_)
    · refine z_go 15 _ [.ref 28] _ c_42_14 rfl ?_
      refine z_go 16 _ [.ref 18, .ref 28] _ c_42_15 rfl ?_
      refine z_getf (v := .ref 20) 19 c_42_16 rfl h18 rfl ?_
      refine z_go 20 _ [.int (jn i), .ref 20, .ref 28] _ c_42_19 rfl ?_
      refine z_iald 21 c_42_20 rfl h20 (Or.inl rfl) (by omega) (by omega) ?_
      show jZ _ _ _ _ ([.int (jn (cs i)), .ref 28]) _ _
      refine z_callvV 24 0 6 1 28 c_42_21 rfl ⟨Nat.le_of_ble_eq_true rfl, Nat.le_of_ble_eq_true rfl⟩ rfl hg.1 [.ref 28, .int (jn (cs i))] rfl rfl [some (.ref 28), some (.int (jn (cs i)))] rfl rfl (t_gadd (g := 28) hg (by omega)) ?_
      intro M1 ⟨hg1, hs1⟩
      show jZ _ _ _ _ [] _ _
      refine z_iinc 27 [some (.ref 18), some (.ref 28), some (.int (jn (i + 1)))] c_42_24 rfl rfl (jn_add _ _) rfl ?_
      refine z_go 6 _ [] _ c_42_27 rfl ?_
      exact ih (i := i + 1) (by omega) hg1 ((hs1.1 18 (by decide)).trans h18) ((hs1.1 20 (by decide)).trans h20) fun M2 hg2 hs2 => kk M2 hg2 (hs1.tr hs2)
    · omega
theorem t_fl2 {d ln ps sz bc dp : Nat} {pt : Bool} {c bf bs bk : Nat → Nat} (hz : sz ≤ 10) (hbc : bc ≤ 40) (hb : ∀ i, i < bc → bf i < sz ∧ bs i < sz ∧ bk i < 6) : ∀ {k i : Nat} {K : (Nat → Nat) × (Nat → Nat)} {M : jx_M}, i + k = bc → jg M 28 sz i c K.1 K.2 → M.1 18 = rO ln ps pt sz bc dp → M.1 22 = .inl (0, 40, .inl (ja bf)) → M.1 23 = .inl (0, 40, .inl (ja bs)) → M.1 24 = .inl (0, 40, .inl (ja bk)) → jZ (d + 2) 42 32 [some (.ref 18), some (.ref 28), some (.int (jn i))] [] M (jV none fun M' => jg M' 28 sz bc c (sp_jn bf bs bk k i K).1 (sp_jn bf bs bk k i K).2 ∧ sameG 28 M M') := by
  intro k
  induction k with
  | zero =>
    intro i K M hk hg h18 h22 h23 h24
    refine z_go 33 _ [.int (jn i)] _ c_42_32 rfl ?_
    refine z_go 34 _ [.ref 18, .int (jn i)] _ c_42_33 rfl ?_
    refine z_getf (v := .int (jn bc)) 37 c_42_34 rfl h18 rfl ?_
    refine z_ige 68 40 c_42_37 rfl (by omega) (by omega) (fun hi => ?_) (fun hi => ?_)
    · omega
    · refine z_ret c_42_68 ?_
      obtain rfl : i = bc := by omega
      exact ⟨rfl, hg, sameG_r 28 M⟩
  | succ k ih =>
    intro i K M hk hg h18 h22 h23 h24
    refine z_go 33 _ [.int (jn i)] _ c_42_32 rfl ?_
    refine z_go 34 _ [.ref 18, .int (jn i)] _ c_42_33 rfl ?_
    refine z_getf (v := .int (jn bc)) 37 c_42_34 rfl h18 rfl ?_
    refine z_ige 68 40 c_42_37 rfl (by omega) (by omega) (fun hi => ?_) (fun hi => ?_)
    · obtain ⟨hb1, hb2, hb3⟩ := hb i hi
      refine z_go 41 _ [.ref 28] _ c_42_40 rfl ?_
      refine z_go 42 _ [.ref 18, .ref 28] _ c_42_41 rfl ?_
      refine z_getf (v := .ref 22) 45 c_42_42 rfl h18 rfl ?_
      refine z_go 46 _ [.int (jn i), .ref 22, .ref 28] _ c_42_45 rfl ?_
      refine z_iald 47 c_42_46 rfl h22 (Or.inl rfl) (by omega) (by omega) ?_
      show jZ _ _ _ _ ([.int (jn (bf i)), .ref 28]) _ _
      refine z_go 48 _ [.ref 18, .int (jn (bf i)), .ref 28] _ c_42_47 rfl ?_
      refine z_getf (v := .ref 23) 51 c_42_48 rfl h18 rfl ?_
      refine z_go 52 _ [.int (jn i), .ref 23, .int (jn (bf i)), .ref 28] _ c_42_51 rfl ?_
      refine z_iald 53 c_42_52 rfl h23 (Or.inl rfl) (by omega) (by omega) ?_
      show jZ _ _ _ _ ([.int (jn (bs i)), .int (jn (bf i)), .ref 28]) _ _
      refine z_go 54 _ [.ref 18, .int (jn (bs i)), .int (jn (bf i)), .ref 28] _ c_42_53 rfl ?_
      refine z_getf (v := .ref 24) 57 c_42_54 rfl h18 rfl ?_
      refine z_go 58 _ [.int (jn i), .ref 24, .int (jn (bs i)), .int (jn (bf i)), .ref 28] _ c_42_57 rfl ?_
      refine z_iald 59 c_42_58 rfl h24 (Or.inl rfl) (by omega) (by omega) ?_
      show jZ _ _ _ _ ([.int (jn (bk i)), .int (jn (bs i)), .int (jn (bf i)), .ref 28]) _ _
      refine z_callvV 62 0 7 3 28 c_42_59 rfl ⟨Nat.le_of_ble_eq_true rfl, Nat.le_of_ble_eq_true rfl⟩ rfl hg.1 [.ref 28, .int (jn (bf i)), .int (jn (bs i)), .int (jn (bk i))] rfl rfl [some (.ref 28), some (.int (jn (bf i))), some (.int (jn (bs i))), some (.int (jn (bk i)))] rfl rfl (t_gjoin (g := 28) hg hz (by omega) hb1 hb2 hb3) ?_
      intro M1 ⟨hg1, hs1⟩
      show jZ _ _ _ _ [] _ _
      refine z_iinc 65 [some (.ref 18), some (.ref 28), some (.int (jn (i + 1)))] c_42_62 rfl rfl (jn_add _ _) rfl ?_
      refine z_go 32 _ [] _ c_42_65 rfl ?_
      refine (ih (i := i + 1) (K := (_, _)) (by omega) hg1 ((hs1.1 18 (by decide)).trans h18) ((hs1.1 22 (by decide)).trans h22) ((hs1.1 23 (by decide)).trans h23) ((hs1.1 24 (by decide)).trans h24)).mono fun r M2 q => ⟨q.1, q.2.1, hs1.tr q.2.2⟩
    · omega
theorem t_gfill {d ln ps sz dp n bn : Nat} {pt : Bool} {tx cs br c ks nr : Nat → Nat} {wr : Nat → Option Nat} {M : jx_M} {bf bs bk ol : Nat → Nat} {bc : Nat} {oa : Nat → Option Nat} (hR : rA M tx ln pt ps sz cs wr (bf, bs, bk, bc, oa, ol) br dp) (hg : jg M 28 n bn c ks nr) (hz : sz ≤ 10) (hbc : bc ≤ 40) (hb : ∀ i, i < bc → bf i < sz ∧ bs i < sz ∧ bk i < 6) : jZ (d + 2) 42 0 [some (.ref 18), some (.ref 28), none] [] M (jV none fun M' => jg M' 28 sz bc (sp_ad cs sz 0 (sp_cpy (fun _ => 0) c 10)) (sp_jn bf bs bk bc 0 (sp_cpy (fun _ => 0) ks 100, sp_cpy (fun _ => 0) nr 60)).1 (sp_jn bf bs bk bc 0 (sp_cpy (fun _ => 0) ks 100, sp_cpy (fun _ => 0) nr 60)).2 ∧ sameG 28 M M') := by
  obtain ⟨h18, h19, h20, h21, h22, h23, h24, h25, h26, h27⟩ := hR
  refine z_go 1 _ [.ref 28] _ c_42_0 rfl ?_
  refine z_callvV 4 0 5 0 28 c_42_1 rfl ⟨Nat.le_of_ble_eq_true rfl, Nat.le_of_ble_eq_true rfl⟩ rfl hg.1 [.ref 28] rfl rfl [some (.ref 28)] rfl rfl (t_gclear (g := 28) hg) ?_
  intro M1 ⟨hg1, hs1⟩
  show jZ _ _ _ _ [] _ _
  refine z_go 5 _ [.int (jn 0)] _ c_42_4 rfl ?_
  refine z_go 6 [some (.ref 18), some (.ref 28), some (.int (jn 0))] [] _ c_42_5 rfl ?_
  refine t_fl1 (cs := cs) hz (k := sz) (i := 0) (by omega) hg1 ((hs1.1 18 (by decide)).trans h18) ((hs1.1 20 (by decide)).trans h20) fun M2 hg2 hs2 => ?_
  refine z_go 31 _ [.int (jn 0)] _ c_42_30 rfl ?_
  refine z_go 32 [some (.ref 18), some (.ref 28), some (.int (jn 0))] [] _ c_42_31 rfl ?_
  exact (t_fl2 hz hbc hb (k := bc) (i := 0) (K := (_, _)) (by omega) hg2 ((hs2.1 18 (by decide)).trans ((hs1.1 18 (by decide)).trans h18)) ((hs2.1 22 (by decide)).trans ((hs1.1 22 (by decide)).trans h22)) ((hs2.1 23 (by decide)).trans ((hs1.1 23 (by decide)).trans h23)) ((hs2.1 24 (by decide)).trans ((hs1.1 24 (by decide)).trans h24))).mono fun r M3 q => ⟨q.1, q.2.1, (hs1.tr hs2).tr q.2.2⟩
