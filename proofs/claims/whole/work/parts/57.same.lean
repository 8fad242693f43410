/-! THE MATCHER: areSame, isIn; printed by wip/whole/p57.py -/
theorem c_15_0 : jx_cd 15 0 = some (o_ald 1 1) := rfl
theorem c_15_1 : jx_cd 15 1 = some (o_getf 0 3) := rfl
theorem c_15_4 : jx_cd 15 4 = some (o_ald 2 1) := rfl
theorem c_15_5 : jx_cd 15 5 = some (o_getf 0 3) := rfl
theorem c_15_8 : jx_cd 15 8 = some (o_ine 50) := rfl
theorem c_15_11 : jx_cd 15 11 = some (o_ald 1 1) := rfl
theorem c_15_12 : jx_cd 15 12 = some (o_getf 0 4) := rfl
theorem c_15_15 : jx_cd 15 15 = some (o_ald 2 1) := rfl
theorem c_15_16 : jx_cd 15 16 = some (o_getf 0 4) := rfl
theorem c_15_19 : jx_cd 15 19 = some (o_ine 50) := rfl
theorem c_15_22 : jx_cd 15 22 = some (o_ald 0 1) := rfl
theorem c_15_23 : jx_cd 15 23 = some (o_ald 1 1) := rfl
theorem c_15_24 : jx_cd 15 24 = some (o_ald 2 1) := rfl
theorem c_15_25 : jx_cd 15 25 = some (o_push (.int 0) 1) := rfl
theorem c_15_26 : jx_cd 15 26 = some (o_callv 2 16 3) := rfl
theorem c_15_29 : jx_cd 15 29 = some (o_ifeq 50) := rfl
theorem c_15_32 : jx_cd 15 32 = some (o_ald 0 1) := rfl
theorem c_15_33 : jx_cd 15 33 = some (o_ald 1 1) := rfl
theorem c_15_34 : jx_cd 15 34 = some (o_ald 2 1) := rfl
theorem c_15_35 : jx_cd 15 35 = some (o_push (.int 0) 1) := rfl
theorem c_15_36 : jx_cd 15 36 = some (o_ald 2 1) := rfl
theorem c_15_37 : jx_cd 15 37 = some (o_call 19 1) := rfl
theorem c_15_40 : jx_cd 15 40 = some (o_callv 2 20 4) := rfl
theorem c_15_43 : jx_cd 15 43 = some (o_ifeq 50) := rfl
theorem c_15_46 : jx_cd 15 46 = some (o_push (.int 1) 1) := rfl
theorem c_15_47 : jx_cd 15 47 = some (o_goto 51) := rfl
theorem c_15_50 : jx_cd 15 50 = some (o_push (.int 0) 1) := rfl
theorem c_15_51 : jx_cd 15 51 = some (o_zret) := rfl
theorem c_21_0 : jx_cd 21 0 = some (o_ald 1 1) := rfl
theorem c_21_1 : jx_cd 21 1 = some (o_getf 0 3) := rfl
theorem c_21_4 : jx_cd 21 4 = some (o_ald 2 1) := rfl
theorem c_21_5 : jx_cd 21 5 = some (o_getf 0 3) := rfl
theorem c_21_8 : jx_cd 21 8 = some (o_igt 41) := rfl
theorem c_21_11 : jx_cd 21 11 = some (o_ald 0 1) := rfl
theorem c_21_12 : jx_cd 21 12 = some (o_ald 1 1) := rfl
theorem c_21_13 : jx_cd 21 13 = some (o_ald 2 1) := rfl
theorem c_21_14 : jx_cd 21 14 = some (o_push (.int 1792) 3) := rfl
theorem c_21_17 : jx_cd 21 17 = some (o_callv 2 16 3) := rfl
theorem c_21_20 : jx_cd 21 20 = some (o_ifeq 41) := rfl
theorem c_21_23 : jx_cd 21 23 = some (o_ald 0 1) := rfl
theorem c_21_24 : jx_cd 21 24 = some (o_ald 1 1) := rfl
theorem c_21_25 : jx_cd 21 25 = some (o_ald 2 1) := rfl
theorem c_21_26 : jx_cd 21 26 = some (o_push (.int 0) 1) := rfl
theorem c_21_27 : jx_cd 21 27 = some (o_ald 2 1) := rfl
theorem c_21_28 : jx_cd 21 28 = some (o_call 19 1) := rfl
theorem c_21_31 : jx_cd 21 31 = some (o_callv 2 20 4) := rfl
theorem c_21_34 : jx_cd 21 34 = some (o_ifeq 41) := rfl
theorem c_21_37 : jx_cd 21 37 = some (o_push (.int 1) 1) := rfl
theorem c_21_38 : jx_cd 21 38 = some (o_goto 42) := rfl
theorem c_21_41 : jx_cd 21 41 = some (o_push (.int 0) 1) := rfl
theorem c_21_42 : jx_cd 21 42 = some (o_zret) := rfl
/-- the atoms that a could go to by itself -/
def sp_cf (cs nr : Nat → Nat) (n' : Nat) (cs' nr' : Nat → Nat) (ig a : Nat) : Nat := sp_cs (sp_may cs nr cs' nr' ig a) n' 0 0
theorem sp_fc_some {cs nr : Nat → Nat} {n' : Nat} {cs' nr' : Nat → Nat} {ig : Nat} : ∀ {k a : Nat} {ch ch' : Nat → Nat}, sp_fc cs nr n' cs' nr' ig k a ch = some ch' → (∀ j, j < a → ch' j = ch j) ∧ ∀ j, a ≤ j → j < a + k → ch' j = sp_cf cs nr n' cs' nr' ig j ∧ sp_cf cs nr n' cs' nr' ig j ≠ 0 := by
  intro k
  induction k with
  | zero =>
    intro a ch ch' h
    cases h
    exact ⟨fun _ _ => rfl, fun j h1 h2 => by omega⟩
  | succ k ih =>
    intro a ch ch' h
    rw [sp_fc] at h
    by_cases h0 : sp_cs (sp_may cs nr cs' nr' ig a) n' 0 0 = 0
    · rw [if_pos h0] at h
      cases h
    · rw [if_neg h0] at h
      obtain ⟨h1, h2⟩ := ih h
      refine ⟨fun j hj => ?_, fun j hj1 hj2 => ?_⟩
      · rw [h1 j (by omega), nu, if_neg (by omega)]
      · by_cases e : j = a
        · subst e
          exact ⟨by rw [h1 j (by omega), nu_at]; rfl, h0⟩
        · exact h2 j (by omega) (by omega)
theorem sp_fc_none {cs nr : Nat → Nat} {n' : Nat} {cs' nr' : Nat → Nat} {ig : Nat} : ∀ {k a : Nat} {ch : Nat → Nat}, sp_fc cs nr n' cs' nr' ig k a ch = none → ∃ j, j < a + k ∧ sp_cf cs nr n' cs' nr' ig j = 0 := by
  intro k
  induction k with
  | zero => intro a ch h; cases h
  | succ k ih =>
    intro a ch h
    rw [sp_fc] at h
    by_cases h0 : sp_cs (sp_may cs nr cs' nr' ig a) n' 0 0 = 0
    · exact ⟨a, by omega, h0⟩
    · rw [if_neg h0] at h
      obtain ⟨j, h1, h2⟩ := ih h
      exact ⟨j, by omega, h2⟩
theorem sp_pc_ch {n n' : Nat} {ch ch' ks nr' : Nat → Nat} (h : ∀ j, j < n → ch j = ch' j) : ∀ {f a fr : Nat} {pl : Nat → Nat}, sp_pc n n' ch ks nr' f a fr pl = sp_pc n n' ch' ks nr' f a fr pl := by
  intro f
  induction f with
  | zero => intro a fr pl; rfl
  | succ f ih =>
    intro a fr pl
    rw [sp_pc, sp_pc]
    split
    · rename_i ha
      refine sp_any_c fun b => ?_
      rw [h a ha, ih]
    · rfl
/-- whether the part can be put into the whole -/
def sp_sub (n : Nat) (cs ks nr : Nat → Nat) (n' : Nat) (cs' nr' : Nat → Nat) (ig : Nat) : Bool := decide (∀ j, j < n → sp_cf cs nr n' cs' nr' ig j ≠ 0) && sp_pc n n' (sp_cf cs nr n' cs' nr' ig) ks nr' 10 0 (2 ^ n' - 1) (fun _ => 0)
theorem sp_sub_n {n : Nat} {cs ks nr : Nat → Nat} {n' : Nat} {cs' nr' : Nat → Nat} {ig : Nat} {ch : Nat → Nat} (h : sp_fc cs nr n' cs' nr' ig n 0 ch = none) : sp_sub n cs ks nr n' cs' nr' ig = false := by
  obtain ⟨j, h1, h2⟩ := sp_fc_none h
  have h3 : ¬ ∀ j, j < n → sp_cf cs nr n' cs' nr' ig j ≠ 0 := fun q => q j (by omega) h2
  unfold sp_sub
  rw [decide_eq_false h3]
  rfl
theorem sp_sub_s {n : Nat} {cs ks nr : Nat → Nat} {n' : Nat} {cs' nr' : Nat → Nat} {ig : Nat} {ch ch' pl : Nat → Nat} (h : sp_fc cs nr n' cs' nr' ig n 0 ch = some ch') : sp_sub n cs ks nr n' cs' nr' ig = sp_pc n n' ch' ks nr' 10 0 (2 ^ n' - 1) pl := by
  obtain ⟨-, h2⟩ := sp_fc_some h
  unfold sp_sub
  rw [decide_eq_true (fun j hj => (h2 j (by omega) (by omega)).2), Bool.true_and, sp_pc_c (pl' := pl) (fun j hj => by omega)]
  exact sp_pc_ch fun j hj => ((h2 j (by omega) (by omega)).1).symm
theorem sp_fc_lt {n : Nat} {cs nr : Nat → Nat} {n' : Nat} {cs' nr' : Nat → Nat} {ig : Nat} {ch ch' : Nat → Nat} (hn' : n' ≤ 10) (h : sp_fc cs nr n' cs' nr' ig n 0 ch = some ch') (j : Nat) (hj : j < n) : ch' j < 1024 := by
  rw [((sp_fc_some h).2 j (by omega) (by omega)).1]
  exact sp_cs_lt (by omega) (by decide)
/-- the matcher's arrays may have changed, no more -/
def jMt (M M' : jx_M) : Prop := ∃ ch pl : Nat → Nat, M' = jm [(34, .inl (0, 10, .inl (ja pl))), (33, .inl (0, 10, .inl (ja ch)))] M ∧ ∀ j, pl j < 10
theorem jMt_id {M : jx_M} {ch pl : Nat → Nat} (h33 : M.1 33 = .inl (0, 10, .inl (ja ch))) (h34 : M.1 34 = .inl (0, 10, .inl (ja pl))) (hpl : ∀ j, pl j < 10) : jMt M M := ⟨ch, pl, by show M = jx_st (jx_st M 33 _) 34 _; rw [jx_st_id h33, jx_st_id h34], hpl⟩
theorem jC_n {d mi pc : Nat} {L : jx_L} {st : List Value} {M M0 : jx_M} (h : jZ d mi pc L st M (jC M0 none)) : jZ d mi pc L st M (jV (some (.int (jb false))) fun M' => ∃ ch', M' = jm [(33, .inl (0, 10, .inl (ja ch')))] M0) := h
theorem jC_s {d mi pc : Nat} {L : jx_L} {st : List Value} {M M0 : jx_M} {ch' : Nat → Nat} (h : jZ d mi pc L st M (jC M0 (some ch'))) : jZ d mi pc L st M (jV (some (.int (jb true))) fun M' => M' = jm [(33, .inl (0, 10, .inl (ja ch')))] M0) := h
theorem jMt_33 {M : jx_M} {ch pl : Nat → Nat} (h34 : M.1 34 = .inl (0, 10, .inl (ja pl))) (hpl : ∀ j, pl j < 10) : jMt M (jm [(33, .inl (0, 10, .inl (ja ch)))] M) := ⟨ch, pl, (jx_st_id (M := jm [(33, .inl (0, 10, .inl (ja ch)))] M) (a := 34) (c := .inl (0, 10, .inl (ja pl))) h34).symm, hpl⟩
theorem jPl_33 {M : jx_M} {n bc : Nat} {cs ks nr : Nat → Nat} {h n' bc' : Nat} {cs' ks' nr' ch ch' : Nat → Nat} (hh34 : 34 < h) (H : jPl M n bc cs ks nr h n' bc' cs' ks' nr' ch) : jPl (jm [(33, .inl (0, 10, .inl (ja ch')))] M) n bc cs ks nr h n' bc' cs' ks' nr' ch' := by
  obtain ⟨hg, hh, h32, h33⟩ := H
  have hs0 : ∀ k, k ≠ 33 → (jm [(33, .inl (0, 10, .inl (ja ch')))] M).1 k = M.1 k := fun k hk => if_neg hk
  exact ⟨⟨(hs0 _ (by decide)).trans hg.1, (hs0 _ (by decide)).trans hg.2.1, (hs0 _ (by decide)).trans hg.2.2.1, (hs0 _ (by decide)).trans hg.2.2.2⟩, ⟨(hs0 _ (by omega)).trans hh.1, (hs0 _ (by omega)).trans hh.2.1, (hs0 _ (by omega)).trans hh.2.2.1, (hs0 _ (by omega)).trans hh.2.2.2⟩, (hs0 _ (by decide)).trans h32, jhit⟩
theorem t_same {d n bc : Nat} {cs ks nr : Nat → Nat} {h n' bc' : Nat} {cs' ks' nr' ch pl : Nat → Nat} {M : jx_M} (hn : n ≤ 10) (hn' : n' ≤ 10) (hks : ∀ j, ks j < 6) (hb : ∀ j, nr j < 1024) (hb' : ∀ j, nr' j < 1024) (hcs : ∀ j, cs j < 32768) (hok : ∀ j, okW (cs j)) (hcs' : ∀ j, cs' j < 16384) (hh34 : 34 < h) (H : jPl M n bc cs ks nr h n' bc' cs' ks' nr' ch) (h34 : M.1 34 = .inl (0, 10, .inl (ja pl))) (hpl : ∀ j, pl j < 10) (hj : jc M) (hbc : bc < 1000) (hbc' : bc' < 1000) : jZ (d + 12) 15 0 [some (.ref 32), some (.ref 28), some (.ref h)] [] M (jV (some (.int (jb (decide (n = n' ∧ bc = bc') && sp_sub n cs ks nr n' cs' nr' 0)))) (jMt M)) := by
  refine z_go 1 _ [.ref 28] _ c_15_0 rfl ?_
  refine z_getf (v := .int (jn n)) 4 c_15_1 rfl H.1.1 rfl ?_
  refine z_go 5 _ [.ref h, .int (jn n)] _ c_15_4 rfl ?_
  refine z_getf (v := .int (jn n')) 8 c_15_5 rfl H.2.1.1 rfl ?_
  refine z_ine 50 11 c_15_8 rfl (jn_inj (by omega) (by omega)) (fun h1 => ?_) (fun h1 => ?_)
  · refine z_go 12 _ [.ref 28] _ c_15_11 rfl ?_
    refine z_getf (v := .int (jn bc)) 15 c_15_12 rfl H.1.1 rfl ?_
    refine z_go 16 _ [.ref h, .int (jn bc)] _ c_15_15 rfl ?_
    refine z_getf (v := .int (jn bc')) 19 c_15_16 rfl H.2.1.1 rfl ?_
    refine z_ine 50 22 c_15_19 rfl (jn_inj (by omega) (by omega)) (fun h2 => ?_) (fun h2 => ?_)
    · refine z_go 23 _ [.ref 32] _ c_15_22 rfl ?_
      refine z_go 24 _ [.ref 28, .ref 32] _ c_15_23 rfl ?_
      refine z_go 25 _ [.ref h, .ref 28, .ref 32] _ c_15_24 rfl ?_
      refine z_go 26 _ [.int (jn 0), .ref h, .ref 28, .ref 32] _ c_15_25 rfl ?_
      have hfc := t_fc (d := d + 6) (ig := 0) hn hn' hb hb' hcs hok hcs' (Or.inl rfl) hh34 H.1 H.2.1 H.2.2.1 H.2.2.2 hj
      cases hf : sp_fc cs nr n' cs' nr' 0 n 0 ch with
      | none =>
        rw [hf] at hfc
        refine z_callvV 29 2 16 3 32 c_15_26 rfl ⟨Nat.le_of_ble_eq_true rfl, Nat.le_of_ble_eq_true rfl⟩ rfl H.2.2.1 [.ref 32, .ref 28, .ref h, .int (jn 0)] rfl rfl [some (.ref 32), some (.ref 28), some (.ref h), some (.int (jn 0)), none, none] rfl rfl (jC_n hfc) ?_
        intro M1 ⟨ch1, hM1⟩
        show jZ _ _ _ _ [.int (jb false)] _ _
        refine z_ifeq 50 32 c_15_29 rfl jb_t (fun _ => ?_) (fun h => absurd rfl h)
        refine z_go 51 _ [.int (jn 0)] _ c_15_50 rfl ?_
        refine z_zret (b := false) c_15_51 ?_
        refine ⟨by rw [sp_sub_n (ks := ks) hf, Bool.and_false], ?_⟩
        rw [hM1]
        exact jMt_33 h34 hpl
      | some w =>
        rw [hf] at hfc
        refine z_callvV 29 2 16 3 32 c_15_26 rfl ⟨Nat.le_of_ble_eq_true rfl, Nat.le_of_ble_eq_true rfl⟩ rfl H.2.2.1 [.ref 32, .ref 28, .ref h, .int (jn 0)] rfl rfl [some (.ref 32), some (.ref 28), some (.ref h), some (.int (jn 0)), none, none] rfl rfl (jC_s hfc) ?_
        intro M1 hM1
        have H1 : jPl M1 n bc cs ks nr h n' bc' cs' ks' nr' w := by rw [hM1]; exact jPl_33 hh34 H
        have h341 : M1.1 34 = .inl (0, 10, .inl (ja pl)) := by rw [hM1]; exact h34
        have hfr : 2 ^ n' - 1 < 1024 := by have : 2 ^ n' ≤ 2 ^ 10 := Nat.pow_le_pow_right (by decide) hn'; omega
        show jZ _ _ _ _ [.int (jb true)] _ _
        refine z_ifeq 50 32 c_15_29 rfl jb_t (fun h => absurd h (by decide)) (fun _ => ?_)
        refine z_go 33 _ [.ref 32] _ c_15_32 rfl ?_
        refine z_go 34 _ [.ref 28, .ref 32] _ c_15_33 rfl ?_
        refine z_go 35 _ [.ref h, .ref 28, .ref 32] _ c_15_34 rfl ?_
        refine z_go 36 _ [.int (jn 0), .ref h, .ref 28, .ref 32] _ c_15_35 rfl ?_
        refine z_go 37 _ [.ref h, .int (jn 0), .ref h, .ref 28, .ref 32] _ c_15_36 rfl ?_
        refine z_call 40 19 1 c_15_37 rfl ⟨Nat.le_of_ble_eq_true rfl, Nat.le_of_ble_eq_true rfl⟩ [.ref h] rfl rfl [some (.ref h)] rfl rfl (t_every H1.2.1 hn') ?_
        show jZ _ _ _ _ [.int (jn (2 ^ n' - 1)), .int (jn 0), .ref h, .ref 28, .ref 32] _ _
        refine z_callvV 43 2 20 4 32 c_15_40 rfl ⟨Nat.le_of_ble_eq_true rfl, Nat.le_of_ble_eq_true rfl⟩ rfl H1.2.2.1 [.ref 32, .ref 28, .ref h, .int (jn 0), .int (jn (2 ^ n' - 1))] rfl rfl [some (.ref 32), some (.ref 28), some (.ref h), some (.int (jn 0)), some (.int (jn (2 ^ n' - 1))), none, none, none] rfl rfl (t_pc (f := 10) (d := d + 1) (a := 0) hn hn' hks hb' (sp_fc_lt hn' hf) hh34 (by omega) (by omega) hfr H1 h341 hpl) ?_
        intro M2 ⟨pl2, hM2, hpl1, hpl2⟩
        have hmt : jMt M M2 := ⟨w, pl2, by rw [hM2, hM1]; rfl, hpl2⟩
        show jZ _ _ _ _ [.int (jb (sp_pc n n' w ks nr' 10 0 (2 ^ n' - 1) pl))] _ _
        refine z_ifeq 50 46 c_15_43 rfl jb_t (fun h5 => ?_) (fun h5 => ?_)
        · refine z_go 51 _ [.int (jn 0)] _ c_15_50 rfl ?_
          refine z_zret (b := false) c_15_51 ?_
          exact ⟨(by rw [decide_eq_true (⟨h1, h2⟩), sp_sub_s (ks := ks) (pl := pl) hf, Bool.true_and]; revert h5; cases sp_pc n n' w ks nr' 10 0 (2 ^ n' - 1) pl <;> intro h5 <;> first | rfl | exact absurd rfl h5 | cases h5), hmt⟩
        · refine z_go 47 _ [.int (jn 1)] _ c_15_46 rfl ?_
          refine z_go 51 _ [.int (jn 1)] _ c_15_47 rfl ?_
          refine z_zret (b := true) c_15_51 ?_
          exact ⟨(by rw [decide_eq_true (⟨h1, h2⟩), sp_sub_s (ks := ks) (pl := pl) hf, Bool.true_and]; revert h5; cases sp_pc n n' w ks nr' 10 0 (2 ^ n' - 1) pl <;> intro h5 <;> first | rfl | exact absurd rfl h5 | cases h5), hmt⟩
    · refine z_go 51 _ [.int (jn 0)] _ c_15_50 rfl ?_
      refine z_zret (b := false) c_15_51 ?_
      exact ⟨by simp [h2], jMt_id H.2.2.2 h34 hpl⟩
  · refine z_go 51 _ [.int (jn 0)] _ c_15_50 rfl ?_
    refine z_zret (b := false) c_15_51 ?_
    exact ⟨by simp [h1], jMt_id H.2.2.2 h34 hpl⟩
theorem t_isin {d n bc : Nat} {cs ks nr : Nat → Nat} {h n' bc' : Nat} {cs' ks' nr' ch pl : Nat → Nat} {M : jx_M} (hn : n ≤ 10) (hn' : n' ≤ 10) (hks : ∀ j, ks j < 6) (hb : ∀ j, nr j < 1024) (hb' : ∀ j, nr' j < 1024) (hcs : ∀ j, cs j < 32768) (hok : ∀ j, okW (cs j)) (hcs' : ∀ j, cs' j < 16384) (hh34 : 34 < h) (H : jPl M n bc cs ks nr h n' bc' cs' ks' nr' ch) (h34 : M.1 34 = .inl (0, 10, .inl (ja pl))) (hpl : ∀ j, pl j < 10) (hj : jc M) : jZ (d + 12) 21 0 [some (.ref 32), some (.ref 28), some (.ref h)] [] M (jV (some (.int (jb (decide (n ≤ n') && sp_sub n cs ks nr n' cs' nr' 1792)))) (jMt M)) := by
  refine z_go 1 _ [.ref 28] _ c_21_0 rfl ?_
  refine z_getf (v := .int (jn n)) 4 c_21_1 rfl H.1.1 rfl ?_
  refine z_go 5 _ [.ref h, .int (jn n)] _ c_21_4 rfl ?_
  refine z_getf (v := .int (jn n')) 8 c_21_5 rfl H.2.1.1 rfl ?_
  refine z_igt 41 11 c_21_8 rfl (by omega) (by omega) (fun h1 => ?_) (fun h1 => ?_)
  · refine z_go 42 _ [.int (jn 0)] _ c_21_41 rfl ?_
    refine z_zret (b := false) c_21_42 ?_
    exact ⟨by simp [show ¬ n ≤ n' by omega], jMt_id H.2.2.2 h34 hpl⟩
  · refine z_go 12 _ [.ref 32] _ c_21_11 rfl ?_
    refine z_go 13 _ [.ref 28, .ref 32] _ c_21_12 rfl ?_
    refine z_go 14 _ [.ref h, .ref 28, .ref 32] _ c_21_13 rfl ?_
    refine z_go 17 _ [.int (jn 1792), .ref h, .ref 28, .ref 32] _ c_21_14 rfl ?_
    have hfc := t_fc (d := d + 6) (ig := 1792) hn hn' hb hb' hcs hok hcs' (Or.inr rfl) hh34 H.1 H.2.1 H.2.2.1 H.2.2.2 hj
    cases hf : sp_fc cs nr n' cs' nr' 1792 n 0 ch with
    | none =>
      rw [hf] at hfc
      refine z_callvV 20 2 16 3 32 c_21_17 rfl ⟨Nat.le_of_ble_eq_true rfl, Nat.le_of_ble_eq_true rfl⟩ rfl H.2.2.1 [.ref 32, .ref 28, .ref h, .int (jn 1792)] rfl rfl [some (.ref 32), some (.ref 28), some (.ref h), some (.int (jn 1792)), none, none] rfl rfl (jC_n hfc) ?_
      intro M1 ⟨ch1, hM1⟩
      show jZ _ _ _ _ [.int (jb false)] _ _
      refine z_ifeq 41 23 c_21_20 rfl jb_t (fun _ => ?_) (fun h => absurd rfl h)
      refine z_go 42 _ [.int (jn 0)] _ c_21_41 rfl ?_
      refine z_zret (b := false) c_21_42 ?_
      refine ⟨by rw [sp_sub_n (ks := ks) hf, Bool.and_false], ?_⟩
      rw [hM1]
      exact jMt_33 h34 hpl
    | some w =>
      rw [hf] at hfc
      refine z_callvV 20 2 16 3 32 c_21_17 rfl ⟨Nat.le_of_ble_eq_true rfl, Nat.le_of_ble_eq_true rfl⟩ rfl H.2.2.1 [.ref 32, .ref 28, .ref h, .int (jn 1792)] rfl rfl [some (.ref 32), some (.ref 28), some (.ref h), some (.int (jn 1792)), none, none] rfl rfl (jC_s hfc) ?_
      intro M1 hM1
      have H1 : jPl M1 n bc cs ks nr h n' bc' cs' ks' nr' w := by rw [hM1]; exact jPl_33 hh34 H
      have h341 : M1.1 34 = .inl (0, 10, .inl (ja pl)) := by rw [hM1]; exact h34
      have hfr : 2 ^ n' - 1 < 1024 := by have : 2 ^ n' ≤ 2 ^ 10 := Nat.pow_le_pow_right (by decide) hn'; omega
      show jZ _ _ _ _ [.int (jb true)] _ _
      refine z_ifeq 41 23 c_21_20 rfl jb_t (fun h => absurd h (by decide)) (fun _ => ?_)
      refine z_go 24 _ [.ref 32] _ c_21_23 rfl ?_
      refine z_go 25 _ [.ref 28, .ref 32] _ c_21_24 rfl ?_
      refine z_go 26 _ [.ref h, .ref 28, .ref 32] _ c_21_25 rfl ?_
      refine z_go 27 _ [.int (jn 0), .ref h, .ref 28, .ref 32] _ c_21_26 rfl ?_
      refine z_go 28 _ [.ref h, .int (jn 0), .ref h, .ref 28, .ref 32] _ c_21_27 rfl ?_
      refine z_call 31 19 1 c_21_28 rfl ⟨Nat.le_of_ble_eq_true rfl, Nat.le_of_ble_eq_true rfl⟩ [.ref h] rfl rfl [some (.ref h)] rfl rfl (t_every H1.2.1 hn') ?_
      show jZ _ _ _ _ [.int (jn (2 ^ n' - 1)), .int (jn 0), .ref h, .ref 28, .ref 32] _ _
      refine z_callvV 34 2 20 4 32 c_21_31 rfl ⟨Nat.le_of_ble_eq_true rfl, Nat.le_of_ble_eq_true rfl⟩ rfl H1.2.2.1 [.ref 32, .ref 28, .ref h, .int (jn 0), .int (jn (2 ^ n' - 1))] rfl rfl [some (.ref 32), some (.ref 28), some (.ref h), some (.int (jn 0)), some (.int (jn (2 ^ n' - 1))), none, none, none] rfl rfl (t_pc (f := 10) (d := d + 1) (a := 0) hn hn' hks hb' (sp_fc_lt hn' hf) hh34 (by omega) (by omega) hfr H1 h341 hpl) ?_
      intro M2 ⟨pl2, hM2, hpl1, hpl2⟩
      have hmt : jMt M M2 := ⟨w, pl2, by rw [hM2, hM1]; rfl, hpl2⟩
      show jZ _ _ _ _ [.int (jb (sp_pc n n' w ks nr' 10 0 (2 ^ n' - 1) pl))] _ _
      refine z_ifeq 41 37 c_21_34 rfl jb_t (fun h5 => ?_) (fun h5 => ?_)
      · refine z_go 42 _ [.int (jn 0)] _ c_21_41 rfl ?_
        refine z_zret (b := false) c_21_42 ?_
        exact ⟨(by rw [decide_eq_true (show n ≤ n' by omega), sp_sub_s (ks := ks) (pl := pl) hf, Bool.true_and]; revert h5; cases sp_pc n n' w ks nr' 10 0 (2 ^ n' - 1) pl <;> intro h5 <;> first | rfl | exact absurd rfl h5 | cases h5), hmt⟩
      · refine z_go 38 _ [.int (jn 1)] _ c_21_37 rfl ?_
        refine z_go 42 _ [.int (jn 1)] _ c_21_38 rfl ?_
        refine z_zret (b := true) c_21_42 ?_
        exact ⟨(by rw [decide_eq_true (show n ≤ n' by omega), sp_sub_s (ks := ks) (pl := pl) hf, Bool.true_and]; revert h5; cases sp_pc n n' w ks nr' 10 0 (2 ^ n' - 1) pl <;> intro h5 <;> first | rfl | exact absurd rfl h5 | cases h5), hmt⟩
