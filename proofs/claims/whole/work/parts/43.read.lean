/-! THE READER: characters, links, atoms; printed by wip/whole/p43.py -/
theorem t_here' {d ln ps sz bc dp : Nat} {pt : Bool} {tx : Nat → Nat} {M : jx_M} (h18 : M.1 18 = rO ln ps pt sz bc dp) (h19 : M.1 19 = .inl (1, 40, .inl (ja tx))) (hl : ln ≤ 40) (hp : ps ≤ 60) (ht : ∀ j, tx j < 128) : jZ d 28 0 [some (.ref 18)] [] M (jR (some (.int (jn (sp_here tx ln ps)))) M) := t_here h18 h19 hl (by omega) (by have := ht ps; omega)
theorem t_takes1 {d ln ps sz bc dp : Nat} {pt : Bool} {tx : Nat → Nat} {M : jx_M} {w : Nat} (h18 : M.1 18 = rO ln ps pt sz bc dp) (h19 : M.1 19 = .inl (1, 40, .inl (ja tx))) (hl : ln ≤ 40) (hp : ps ≤ 60) (ht : ∀ j, tx j < 128) (hw : w < 128) (h0 : w ≠ 0) (h : sp_here tx ln ps = w) : jZ d 26 0 [some (.ref 18), some (.int (jn w)), none] [] M (jR (some (.int (jb true))) (jm [(18, rO ln (ps + 1) pt sz bc dp)] M)) := by
  refine z_go 1 _ [.ref 18] _ c_26_0 rfl ?_
  refine z_getf (v := .int (jn ps)) 4 c_26_1 rfl h18 rfl ?_
  refine z_go 5 _ [.ref 18, .int (jn ps)] _ c_26_4 rfl ?_
  refine z_getf (v := .int (jn ln)) 8 c_26_5 rfl h18 rfl ?_
  refine z_ige 28 11 c_26_8 rfl (by omega) (by omega) (fun h1 => ?_) (fun h1 => ?_)
  · have htp := ht ps
    refine z_go 12 _ [.ref 18] _ c_26_11 rfl ?_
    refine z_getf (v := .ref 19) 15 c_26_12 rfl h18 rfl ?_
    refine z_go 16 _ [.ref 18, .ref 19] _ c_26_15 rfl ?_
    refine z_getf (v := .int (jn ps)) 19 c_26_16 rfl h18 rfl ?_
    refine z_xald 20 c_26_19 rfl h19 (by omega) (by omega) ?_
    show jZ _ _ _ _ ([.int (jn (tx ps))]) _ _
    refine z_go 21 _ [.int (jn w), .int (jn (tx ps))] _ c_26_20 rfl ?_
    refine z_ine 28 24 c_26_21 rfl (jn_inj (by omega) (by omega)) (fun h2 => ?_) (fun h2 => ?_)
    · refine z_go 25 _ [.int (jn 1)] _ c_26_24 rfl ?_
      refine z_go 29 _ [.int (jn 1)] _ c_26_25 rfl ?_
      refine z_go 30 [some (.ref 18), some (.int (jn w)), some (.int (jn 1))] [] _ c_26_29 rfl ?_
      refine z_go 31 _ [.int (jn 1)] _ c_26_30 rfl ?_
      refine z_ifeq 44 34 c_26_31 rfl (jn_z (by omega)) (fun h3 => ?_) (fun h3 => ?_)
      · exact absurd h3 (by decide)
      · refine z_go 35 _ [.ref 18] _ c_26_34 rfl ?_
        refine z_go 36 _ [.ref 18, .ref 18] _ c_26_35 rfl ?_
        refine z_getf (v := .int (jn ps)) 39 c_26_36 rfl h18 rfl ?_
        refine z_go 40 _ [.int (jn 1), .int (jn ps), .ref 18] _ c_26_39 rfl ?_
        refine z_go 41 _ [.int ((jn ps) + (jn 1)), .ref 18] _ c_26_40 rfl ?_
        refine z_v (jn_add _ _) ?_
        refine z_putf (M' := jm [(18, rO ln (ps + 1) pt sz bc dp)] M) 44 c_26_41 rfl h18 (rfl) (Nat.le_of_ble_eq_true rfl) rfl ?_
        refine z_go 45 _ [.int (jn 1)] _ c_26_44 rfl ?_
        refine z_zret (b := true) c_26_45 ?_
        exact ⟨rfl, rfl⟩
    · rw [sp_here, if_pos h1] at h
      exact absurd h h2
  · rw [sp_here, if_neg h1] at h
    omega
theorem t_takes0 {d ln ps sz bc dp : Nat} {pt : Bool} {tx : Nat → Nat} {M : jx_M} {w : Nat} (h18 : M.1 18 = rO ln ps pt sz bc dp) (h19 : M.1 19 = .inl (1, 40, .inl (ja tx))) (hl : ln ≤ 40) (hp : ps ≤ 60) (ht : ∀ j, tx j < 128) (hw : w < 128) (h : ¬ sp_here tx ln ps = w) : jZ d 26 0 [some (.ref 18), some (.int (jn w)), none] [] M (jR (some (.int (jb false))) M) := by
  refine z_go 1 _ [.ref 18] _ c_26_0 rfl ?_
  refine z_getf (v := .int (jn ps)) 4 c_26_1 rfl h18 rfl ?_
  refine z_go 5 _ [.ref 18, .int (jn ps)] _ c_26_4 rfl ?_
  refine z_getf (v := .int (jn ln)) 8 c_26_5 rfl h18 rfl ?_
  refine z_ige 28 11 c_26_8 rfl (by omega) (by omega) (fun h1 => ?_) (fun h1 => ?_)
  · have htp := ht ps
    refine z_go 12 _ [.ref 18] _ c_26_11 rfl ?_
    refine z_getf (v := .ref 19) 15 c_26_12 rfl h18 rfl ?_
    refine z_go 16 _ [.ref 18, .ref 19] _ c_26_15 rfl ?_
    refine z_getf (v := .int (jn ps)) 19 c_26_16 rfl h18 rfl ?_
    refine z_xald 20 c_26_19 rfl h19 (by omega) (by omega) ?_
    show jZ _ _ _ _ ([.int (jn (tx ps))]) _ _
    refine z_go 21 _ [.int (jn w), .int (jn (tx ps))] _ c_26_20 rfl ?_
    refine z_ine 28 24 c_26_21 rfl (jn_inj (by omega) (by omega)) (fun h2 => ?_) (fun h2 => ?_)
    · exact absurd (by rw [sp_here, if_pos h1]; exact h2) h
    · refine z_go 29 _ [.int (jn 0)] _ c_26_28 rfl ?_
      refine z_go 30 [some (.ref 18), some (.int (jn w)), some (.int (jn 0))] [] _ c_26_29 rfl ?_
      refine z_go 31 _ [.int (jn 0)] _ c_26_30 rfl ?_
      refine z_ifeq 44 34 c_26_31 rfl (jn_z (by omega)) (fun h3 => ?_) (fun h3 => ?_)
      · refine z_go 45 _ [.int (jn 0)] _ c_26_44 rfl ?_
        refine z_zret (b := false) c_26_45 ?_
        exact ⟨rfl, rfl⟩
      · exact absurd rfl h3
  · refine z_go 29 _ [.int (jn 0)] _ c_26_28 rfl ?_
    refine z_go 30 [some (.ref 18), some (.int (jn w)), some (.int (jn 0))] [] _ c_26_29 rfl ?_
    refine z_go 31 _ [.int (jn 0)] _ c_26_30 rfl ?_
    refine z_ifeq 44 34 c_26_31 rfl (jn_z (by omega)) (fun h3 => ?_) (fun h3 => ?_)
    · refine z_go 45 _ [.int (jn 0)] _ c_26_44 rfl ?_
      refine z_zret (b := false) c_26_45 ?_
      exact ⟨rfl, rfl⟩
    · exact absurd rfl h3
def sp_lk (h : Nat) (pt : Bool) : Nat := if h = 45 then 1 else if h = 61 then 2 else if h = 35 then 3 else if h = 126 ∧ pt = true then 5 else 0
theorem t_rlink {d ln ps sz bc dp : Nat} {pt : Bool} {tx : Nat → Nat} {M : jx_M} (h18 : M.1 18 = rO ln ps pt sz bc dp) (h19 : M.1 19 = .inl (1, 40, .inl (ja tx))) (hl : ln ≤ 40) (hp : ps ≤ 60) (ht : ∀ j, tx j < 128) : jZ (d + 1) 25 0 [some (.ref 18)] [] M (jR (some (.int (jn (sp_lk (sp_here tx ln ps) pt)))) (jm [(18, rO ln (ps + if sp_lk (sp_here tx ln ps) pt = 0 then 0 else 1) pt sz bc dp)] M)) := by
  refine z_go 1 _ [.ref 18] _ c_25_0 rfl ?_
  refine z_go 3 _ [.int (jn 45), .ref 18] _ c_25_1 rfl ?_
  by_cases h1 : sp_here tx ln ps = 45
  · refine z_callv 6 3 26 1 18 c_25_3 rfl ⟨Nat.le_of_ble_eq_true rfl, Nat.le_of_ble_eq_true rfl⟩ rfl h18 [.ref 18, .int (jn 45)] rfl rfl [some (.ref 18), some (.int (jn 45)), none] rfl rfl (t_takes1 (ps := ps) h18 h19 hl (by omega) ht (by decide) (by decide) h1) ?_
    show jZ _ _ _ _ [.int (jb true)] _ _
    refine z_ifeq 11 9 c_25_6 rfl jb_t (fun hq => ?_) (fun hq => ?_)
    · exact absurd hq (by decide)
    · refine z_go 10 _ [.int (jn 1)] _ c_25_9 rfl ?_
      refine z_iret c_25_10 ?_
      have e : sp_lk (sp_here tx ln ps) pt = 1 := by simp [sp_lk, h1]
      exact ⟨by rw [e], by rw [e]; rfl⟩
  · refine z_callv 6 3 26 1 18 c_25_3 rfl ⟨Nat.le_of_ble_eq_true rfl, Nat.le_of_ble_eq_true rfl⟩ rfl h18 [.ref 18, .int (jn 45)] rfl rfl [some (.ref 18), some (.int (jn 45)), none] rfl rfl (t_takes0 (ps := ps) h18 h19 hl (by omega) ht (by decide) h1) ?_
    show jZ _ _ _ _ [.int (jb false)] _ _
    refine z_ifeq 11 9 c_25_6 rfl jb_t (fun hq => ?_) (fun hq => ?_)
    · refine z_go 12 _ [.ref 18] _ c_25_11 rfl ?_
      refine z_go 14 _ [.int (jn 61), .ref 18] _ c_25_12 rfl ?_
      by_cases h2 : sp_here tx ln ps = 61
      · refine z_callv 17 3 26 1 18 c_25_14 rfl ⟨Nat.le_of_ble_eq_true rfl, Nat.le_of_ble_eq_true rfl⟩ rfl h18 [.ref 18, .int (jn 61)] rfl rfl [some (.ref 18), some (.int (jn 61)), none] rfl rfl (t_takes1 (ps := ps) h18 h19 hl (by omega) ht (by decide) (by decide) h2) ?_
        show jZ _ _ _ _ [.int (jb true)] _ _
        refine z_ifeq 22 20 c_25_17 rfl jb_t (fun hq => ?_) (fun hq => ?_)
        · exact absurd hq (by decide)
        · refine z_go 21 _ [.int (jn 2)] _ c_25_20 rfl ?_
          refine z_iret c_25_21 ?_
          have e : sp_lk (sp_here tx ln ps) pt = 2 := by simp [sp_lk, h2]
          exact ⟨by rw [e], by rw [e]; rfl⟩
      · refine z_callv 17 3 26 1 18 c_25_14 rfl ⟨Nat.le_of_ble_eq_true rfl, Nat.le_of_ble_eq_true rfl⟩ rfl h18 [.ref 18, .int (jn 61)] rfl rfl [some (.ref 18), some (.int (jn 61)), none] rfl rfl (t_takes0 (ps := ps) h18 h19 hl (by omega) ht (by decide) h2) ?_
        show jZ _ _ _ _ [.int (jb false)] _ _
        refine z_ifeq 22 20 c_25_17 rfl jb_t (fun hq => ?_) (fun hq => ?_)
        · refine z_go 23 _ [.ref 18] _ c_25_22 rfl ?_
          refine z_go 25 _ [.int (jn 35), .ref 18] _ c_25_23 rfl ?_
          by_cases h3 : sp_here tx ln ps = 35
          · refine z_callv 28 3 26 1 18 c_25_25 rfl ⟨Nat.le_of_ble_eq_true rfl, Nat.le_of_ble_eq_true rfl⟩ rfl h18 [.ref 18, .int (jn 35)] rfl rfl [some (.ref 18), some (.int (jn 35)), none] rfl rfl (t_takes1 (ps := ps) h18 h19 hl (by omega) ht (by decide) (by decide) h3) ?_
            show jZ _ _ _ _ [.int (jb true)] _ _
            refine z_ifeq 33 31 c_25_28 rfl jb_t (fun hq => ?_) (fun hq => ?_)
            · exact absurd hq (by decide)
            · refine z_go 32 _ [.int (jn 3)] _ c_25_31 rfl ?_
              refine z_iret c_25_32 ?_
              have e : sp_lk (sp_here tx ln ps) pt = 3 := by simp [sp_lk, h3]
              exact ⟨by rw [e], by rw [e]; rfl⟩
          · refine z_callv 28 3 26 1 18 c_25_25 rfl ⟨Nat.le_of_ble_eq_true rfl, Nat.le_of_ble_eq_true rfl⟩ rfl h18 [.ref 18, .int (jn 35)] rfl rfl [some (.ref 18), some (.int (jn 35)), none] rfl rfl (t_takes0 (ps := ps) h18 h19 hl (by omega) ht (by decide) h3) ?_
            show jZ _ _ _ _ [.int (jb false)] _ _
            refine z_ifeq 33 31 c_25_28 rfl jb_t (fun hq => ?_) (fun hq => ?_)
            · refine z_go 34 _ [.ref 18] _ c_25_33 rfl ?_
              refine z_getf (v := .int (jb pt)) 37 c_25_34 rfl h18 rfl ?_
              refine z_ifeq 53 40 c_25_37 rfl jb_t (fun h4 => ?_) (fun h4 => ?_)
              · refine z_go 54 _ [.int (jn 0)] _ c_25_53 rfl ?_
                refine z_iret c_25_54 ?_
                have e : sp_lk (sp_here tx ln ps) pt = 0 := by simp [sp_lk, h1, h2, h3, h4]
                exact ⟨by rw [e], by rw [e]; exact (jx_st_id h18).symm⟩
              · refine z_go 41 _ [.ref 18] _ c_25_40 rfl ?_
                refine z_go 43 _ [.int (jn 126), .ref 18] _ c_25_41 rfl ?_
                by_cases h5 : sp_here tx ln ps = 126
                · refine z_callv 46 3 26 1 18 c_25_43 rfl ⟨Nat.le_of_ble_eq_true rfl, Nat.le_of_ble_eq_true rfl⟩ rfl h18 [.ref 18, .int (jn 126)] rfl rfl [some (.ref 18), some (.int (jn 126)), none] rfl rfl (t_takes1 (ps := ps) h18 h19 hl (by omega) ht (by decide) (by decide) h5) ?_
                  show jZ _ _ _ _ [.int (jb true)] _ _
                  refine z_ifeq 53 49 c_25_46 rfl jb_t (fun hq => ?_) (fun hq => ?_)
                  · exact absurd hq (by decide)
                  · refine z_go 50 _ [.int (jn 5)] _ c_25_49 rfl ?_
                    refine z_go 54 _ [.int (jn 5)] _ c_25_50 rfl ?_
                    refine z_iret c_25_54 ?_
                    have h4 : pt = true := by simpa using h4
                    have e : sp_lk (sp_here tx ln ps) pt = 5 := by simp [sp_lk, h5, h4]
                    exact ⟨by rw [e], by rw [e]; rfl⟩
                · refine z_callv 46 3 26 1 18 c_25_43 rfl ⟨Nat.le_of_ble_eq_true rfl, Nat.le_of_ble_eq_true rfl⟩ rfl h18 [.ref 18, .int (jn 126)] rfl rfl [some (.ref 18), some (.int (jn 126)), none] rfl rfl (t_takes0 (ps := ps) h18 h19 hl (by omega) ht (by decide) h5) ?_
                  show jZ _ _ _ _ [.int (jb false)] _ _
                  refine z_ifeq 53 49 c_25_46 rfl jb_t (fun hq => ?_) (fun hq => ?_)
                  · refine z_go 54 _ [.int (jn 0)] _ c_25_53 rfl ?_
                    refine z_iret c_25_54 ?_
                    have e : sp_lk (sp_here tx ln ps) pt = 0 := by simp [sp_lk, h1, h2, h3, h5]
                    exact ⟨by rw [e], by rw [e]; exact (jx_st_id h18).symm⟩
                  · exact absurd hq (by decide)
            · exact absurd hq (by decide)
        · exact absurd hq (by decide)
    · exact absurd hq (by decide)
def sp_chg (h : Nat) : Nat := if h = 43 then 8192 else if h = 45 then 0 else 4096
def sp_chp (h : Nat) : Nat := if h = 43 ∨ h = 45 then 1 else 0
theorem t_chg {d ln ps sz bc dp : Nat} {pt : Bool} {tx : Nat → Nat} {M : jx_M} (h18 : M.1 18 = rO ln ps pt sz bc dp) (h19 : M.1 19 = .inl (1, 40, .inl (ja tx))) (hl : ln ≤ 40) (hp : ps ≤ 60) (ht : ∀ j, tx j < 128) : jZ (d + 1) 33 0 [some (.ref 18)] [] M (jR (some (.int (jn (sp_chg (sp_here tx ln ps))))) (jm [(18, rO ln (ps + sp_chp (sp_here tx ln ps)) pt sz bc dp)] M)) := by
  refine z_go 1 _ [.ref 18] _ c_33_0 rfl ?_
  refine z_go 3 _ [.int (jn 43), .ref 18] _ c_33_1 rfl ?_
  by_cases h1 : sp_here tx ln ps = 43
  · refine z_callv 6 3 26 1 18 c_33_3 rfl ⟨Nat.le_of_ble_eq_true rfl, Nat.le_of_ble_eq_true rfl⟩ rfl h18 [.ref 18, .int (jn 43)] rfl rfl [some (.ref 18), some (.int (jn 43)), none] rfl rfl (t_takes1 (ps := ps) h18 h19 hl (by omega) ht (by decide) (by decide) h1) ?_
    show jZ _ _ _ _ [.int (jb true)] _ _
    refine z_ifeq 13 9 c_33_6 rfl jb_t (fun hq => ?_) (fun hq => ?_)
    · exact absurd hq (by decide)
    · refine z_go 12 _ [.int (jn 8192)] _ c_33_9 rfl ?_
      refine z_iret c_33_12 ?_
      exact ⟨by simp [sp_chg, h1], by simp [sp_chp, h1]⟩
  · refine z_callv 6 3 26 1 18 c_33_3 rfl ⟨Nat.le_of_ble_eq_true rfl, Nat.le_of_ble_eq_true rfl⟩ rfl h18 [.ref 18, .int (jn 43)] rfl rfl [some (.ref 18), some (.int (jn 43)), none] rfl rfl (t_takes0 (ps := ps) h18 h19 hl (by omega) ht (by decide) h1) ?_
    show jZ _ _ _ _ [.int (jb false)] _ _
    refine z_ifeq 13 9 c_33_6 rfl jb_t (fun hq => ?_) (fun hq => ?_)
    · refine z_go 14 _ [.ref 18] _ c_33_13 rfl ?_
      refine z_go 16 _ [.int (jn 45), .ref 18] _ c_33_14 rfl ?_
      by_cases h2 : sp_here tx ln ps = 45
      · refine z_callv 19 3 26 1 18 c_33_16 rfl ⟨Nat.le_of_ble_eq_true rfl, Nat.le_of_ble_eq_true rfl⟩ rfl h18 [.ref 18, .int (jn 45)] rfl rfl [some (.ref 18), some (.int (jn 45)), none] rfl rfl (t_takes1 (ps := ps) h18 h19 hl (by omega) ht (by decide) (by decide) h2) ?_
        show jZ _ _ _ _ [.int (jb true)] _ _
        refine z_ifeq 26 22 c_33_19 rfl jb_t (fun hq => ?_) (fun hq => ?_)
        · exact absurd hq (by decide)
        · refine z_go 23 _ [.int (jn 0)] _ c_33_22 rfl ?_
          refine z_go 29 _ [.int (jn 0)] _ c_33_23 rfl ?_
          refine z_iret c_33_29 ?_
          exact ⟨by simp [sp_chg, h2], by simp [sp_chp, h2]⟩
      · refine z_callv 19 3 26 1 18 c_33_16 rfl ⟨Nat.le_of_ble_eq_true rfl, Nat.le_of_ble_eq_true rfl⟩ rfl h18 [.ref 18, .int (jn 45)] rfl rfl [some (.ref 18), some (.int (jn 45)), none] rfl rfl (t_takes0 (ps := ps) h18 h19 hl (by omega) ht (by decide) h2) ?_
        show jZ _ _ _ _ [.int (jb false)] _ _
        refine z_ifeq 26 22 c_33_19 rfl jb_t (fun hq => ?_) (fun hq => ?_)
        · refine z_go 29 _ [.int (jn 4096)] _ c_33_26 rfl ?_
          refine z_iret c_33_29 ?_
          exact ⟨by simp [sp_chg, h1, h2], by rw [show sp_chp (sp_here tx ln ps) = 0 by simp [sp_chp, h1, h2]]; exact (jx_st_id h18).symm⟩
        · exact absurd hq (by decide)
    · exact absurd hq (by decide)
def sp_hyd (h h2 : Nat) : Nat := if h = 72 then (if 50 ≤ h2 ∧ h2 ≤ 52 then h2 - 48 else 1) else 0
def sp_hyp (h h2 : Nat) : Nat := if h = 72 then (if 50 ≤ h2 ∧ h2 ≤ 52 then 2 else 1) else 0
theorem sp_here_lt {tx : Nat → Nat} {ln ps : Nat} (ht : ∀ j, tx j < 128) : sp_here tx ln ps < 128 := by
  unfold sp_here
  split
  · exact ht ps
  · decide
theorem t_hyd {d ln ps sz bc dp : Nat} {pt : Bool} {tx : Nat → Nat} {M : jx_M} (h18 : M.1 18 = rO ln ps pt sz bc dp) (h19 : M.1 19 = .inl (1, 40, .inl (ja tx))) (hl : ln ≤ 40) (hp : ps ≤ 60) (ht : ∀ j, tx j < 128) (hp2 : ps ≤ 58) : jZ (d + 1) 32 0 [some (.ref 18), none] [] M (jR (some (.int (jn (sp_hyd (sp_here tx ln ps) (sp_here tx ln (ps + 1)))))) (jm [(18, rO ln (ps + sp_hyp (sp_here tx ln ps) (sp_here tx ln (ps + 1))) pt sz bc dp)] M)) := by
  refine z_go 1 _ [.ref 18] _ c_32_0 rfl ?_
  refine z_go 3 _ [.int (jn 72), .ref 18] _ c_32_1 rfl ?_
  by_cases h1 : sp_here tx ln ps = 72
  · refine z_callv 6 3 26 1 18 c_32_3 rfl ⟨Nat.le_of_ble_eq_true rfl, Nat.le_of_ble_eq_true rfl⟩ rfl h18 [.ref 18, .int (jn 72)] rfl rfl [some (.ref 18), some (.int (jn 72)), none] rfl rfl (t_takes1 (ps := ps) h18 h19 hl (by omega) ht (by decide) (by decide) h1) ?_
    show jZ _ _ _ _ [.int (jb true)] _ _
    refine z_ifne 11 9 c_32_6 rfl jb_t (fun hq => ?_) (fun hq => ?_)
    · exact absurd hq (by decide)
    · refine z_go 12 _ [.ref 18] _ c_32_11 rfl ?_
      refine z_callv 15 3 28 0 18 c_32_12 rfl ⟨Nat.le_of_ble_eq_true rfl, Nat.le_of_ble_eq_true rfl⟩ rfl rfl [.ref 18] rfl rfl [some (.ref 18)] rfl rfl (t_here' (ps := ps + 1) rfl h19 hl (by omega) ht) ?_
      show jZ _ _ _ _ [.int (jn (sp_here tx ln (ps + 1)))] _ _
      have hlt := sp_here_lt (tx := tx) (ln := ln) (ps := ps + 1) ht
      refine z_go 16 [some (.ref 18), some (.int (jn (sp_here tx ln (ps + 1))))] [] _ c_32_15 rfl ?_
      refine z_go 17 _ [.int (jn (sp_here tx ln (ps + 1)))] _ c_32_16 rfl ?_
      refine z_go 19 _ [.int (jn 50), .int (jn (sp_here tx ln (ps + 1)))] _ c_32_17 rfl ?_
      refine z_ilt 28 22 c_32_19 rfl (by omega) (by omega) (fun h2 => ?_) (fun h2 => ?_)
      · refine z_go 29 _ [.int (jn 1)] _ c_32_28 rfl ?_
        refine z_iret c_32_29 ?_
        exact ⟨by rw [sp_hyd, if_pos h1, if_neg (by omega)], by rw [sp_hyp, if_pos h1, if_neg (by omega)]⟩
      · refine z_go 23 _ [.int (jn (sp_here tx ln (ps + 1)))] _ c_32_22 rfl ?_
        refine z_go 25 _ [.int (jn 52), .int (jn (sp_here tx ln (ps + 1)))] _ c_32_23 rfl ?_
        refine z_ile 30 28 c_32_25 rfl (by omega) (by omega) (fun h3 => ?_) (fun h3 => ?_)
        · refine z_go 29 _ [.int (jn 1)] _ c_32_28 rfl ?_
          refine z_iret c_32_29 ?_
          exact ⟨by rw [sp_hyd, if_pos h1, if_neg (by omega)], by rw [sp_hyp, if_pos h1, if_neg (by omega)]⟩
        · refine z_go 31 _ [.ref 18] _ c_32_30 rfl ?_
          refine z_go 32 _ [.ref 18, .ref 18] _ c_32_31 rfl ?_
          refine z_getf (v := .int (jn (ps + 1))) 35 c_32_32 rfl rfl rfl ?_
          refine z_go 36 _ [.int (jn 1), .int (jn (ps + 1)), .ref 18] _ c_32_35 rfl ?_
          refine z_go 37 _ [.int ((jn (ps + 1)) + (jn 1)), .ref 18] _ c_32_36 rfl ?_
          refine z_v (jn_add _ _) ?_
          refine z_putf (M' := jm [(18, rO ln ((ps + 1) + 1) pt sz bc dp)] M) 40 c_32_37 rfl rfl (rfl) (Nat.le_of_ble_eq_true rfl) (jm_w rfl) ?_
          refine z_go 41 _ [.int (jn (sp_here tx ln (ps + 1)))] _ c_32_40 rfl ?_
          refine z_go 43 _ [.int (jn 48), .int (jn (sp_here tx ln (ps + 1)))] _ c_32_41 rfl ?_
          refine z_go 44 _ [.int ((jn (sp_here tx ln (ps + 1))) - (jn 48))] _ c_32_43 rfl ?_
          refine z_v (jn_sub (by omega)) ?_
          refine z_iret c_32_44 ?_
          exact ⟨by rw [sp_hyd, if_pos h1, if_pos (by omega)], by rw [sp_hyp, if_pos h1, if_pos (by omega)]⟩
  · refine z_callv 6 3 26 1 18 c_32_3 rfl ⟨Nat.le_of_ble_eq_true rfl, Nat.le_of_ble_eq_true rfl⟩ rfl h18 [.ref 18, .int (jn 72)] rfl rfl [some (.ref 18), some (.int (jn 72)), none] rfl rfl (t_takes0 (ps := ps) h18 h19 hl (by omega) ht (by decide) h1) ?_
    show jZ _ _ _ _ [.int (jb false)] _ _
    refine z_ifne 11 9 c_32_6 rfl jb_t (fun hq => ?_) (fun hq => ?_)
    · refine z_go 10 _ [.int (jn 0)] _ c_32_9 rfl ?_
      refine z_iret c_32_10 ?_
      exact ⟨by rw [sp_hyd, if_neg h1], by rw [sp_hyp, if_neg h1]; exact (jx_st_id h18).symm⟩
    · exact absurd hq (by decide)
theorem t_add {d ln ps sz bc dp : Nat} {pt : Bool} {tx : Nat → Nat} {M : jx_M} {cs : Nat → Nat} {wr : Nat → Option Nat} {x : Nat} {hy : Option Nat} (h18 : M.1 18 = rO ln ps pt sz bc dp) (h19 : M.1 19 = .inl (1, 40, .inl (ja tx))) (h20 : M.1 20 = .inl (0, 40, .inl (ja cs))) (h21 : M.1 21 = .inl (0, 40, .inl (jao wr))) (hs : sz < 40) : jZ d 31 0 [some (.ref 18), some (.int (jn x)), some (.int (jo hy))] [] M (jR (some (.int (jb true))) (jm [(18, rO ln ps pt (sz + 1) bc dp), (21, .inl (0, 40, .inl (jao (nu wr sz hy)))), (20, .inl (0, 40, .inl (ja (nu cs sz x))))] M)) := by
  refine z_go 1 _ [.ref 18] _ c_31_0 rfl ?_
  refine z_getf (v := .int (jn sz)) 4 c_31_1 rfl h18 rfl ?_
  refine z_go 6 _ [.int (jn 40), .int (jn sz)] _ c_31_4 rfl ?_
  refine z_ilt 11 9 c_31_6 rfl (by omega) (by omega) (fun h1 => ?_) (fun h1 => ?_)
  · refine z_go 12 _ [.ref 18] _ c_31_11 rfl ?_
    refine z_getf (v := .ref 20) 15 c_31_12 rfl h18 rfl ?_
    refine z_go 16 _ [.ref 18, .ref 20] _ c_31_15 rfl ?_
    refine z_getf (v := .int (jn sz)) 19 c_31_16 rfl h18 rfl ?_
    refine z_go 20 _ [.int (jn x), .int (jn sz), .ref 20] _ c_31_19 rfl ?_
    refine z_iast (M' := jm [(20, .inl (0, 40, .inl (ja (nu cs sz x))))] M) 21 c_31_20 rfl h20 (by omega) (by omega) (by rw [ja_upd]; exact rfl) ?_
    refine z_go 22 _ [.ref 18] _ c_31_21 rfl ?_
    refine z_getf (v := .ref 21) 25 c_31_22 rfl h18 rfl ?_
    refine z_go 26 _ [.ref 18, .ref 21] _ c_31_25 rfl ?_
    refine z_getf (v := .int (jn sz)) 29 c_31_26 rfl h18 rfl ?_
    refine z_go 30 _ [.int (jo hy), .int (jn sz), .ref 21] _ c_31_29 rfl ?_
    refine z_iast (M' := jm [(21, .inl (0, 40, .inl (jao (nu wr sz hy)))), (20, .inl (0, 40, .inl (ja (nu cs sz x))))] M) 31 c_31_30 rfl h21 (by omega) (by omega) ((congrArg (fun f => jx_st _ 21 (.inl (0, 40, .inl f))) (jao_upd (f := wr) (k := sz) (x := hy))).trans rfl) ?_
    refine z_go 32 _ [.ref 18] _ c_31_31 rfl ?_
    refine z_go 33 _ [.ref 18, .ref 18] _ c_31_32 rfl ?_
    refine z_getf (v := .int (jn sz)) 36 c_31_33 rfl h18 rfl ?_
    refine z_go 37 _ [.int (jn 1), .int (jn sz), .ref 18] _ c_31_36 rfl ?_
    refine z_go 38 _ [.int ((jn sz) + (jn 1)), .ref 18] _ c_31_37 rfl ?_
    refine z_v (jn_add _ _) ?_
    refine z_putf (M' := jm [(18, rO ln ps pt (sz + 1) bc dp), (21, .inl (0, 40, .inl (jao (nu wr sz hy)))), (20, .inl (0, 40, .inl (ja (nu cs sz x))))] M) 41 c_31_38 rfl h18 (rfl) (Nat.le_of_ble_eq_true rfl) rfl ?_
    refine z_go 42 _ [.int (jn 1)] _ c_31_41 rfl ?_
    refine z_zret (b := true) c_31_42 ?_
    exact ⟨rfl, rfl⟩
  · omega
