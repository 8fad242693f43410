/-! THE READER: readAtoms; printed by wip/whole/p48.py -/
theorem c_24_0 : jx_cd 24 0 = some (o_push (.int (-1)) 1) := rfl
theorem c_24_1 : jx_cd 24 1 = some (o_ist 1 1) := rfl
theorem c_24_2 : jx_cd 24 2 = some (o_push (.int 0) 1) := rfl
theorem c_24_3 : jx_cd 24 3 = some (o_ist 2 1) := rfl
theorem c_24_4 : jx_cd 24 4 = some (o_ild 2 1) := rfl
theorem c_24_5 : jx_cd 24 5 = some (o_push (.int 40) 2) := rfl
theorem c_24_7 : jx_cd 24 7 = some (o_ige 125) := rfl
theorem c_24_10 : jx_cd 24 10 = some (o_ild 1 1) := rfl
theorem c_24_11 : jx_cd 24 11 = some (o_push (.int (-1)) 1) := rfl
theorem c_24_12 : jx_cd 24 12 = some (o_ine 19) := rfl
theorem c_24_15 : jx_cd 24 15 = some (o_push (.int 0) 1) := rfl
theorem c_24_16 : jx_cd 24 16 = some (o_goto 23) := rfl
theorem c_24_19 : jx_cd 24 19 = some (o_ald 0 1) := rfl
theorem c_24_20 : jx_cd 24 20 = some (o_callv 3 25 0) := rfl
theorem c_24_23 : jx_cd 24 23 = some (o_ist 3 1) := rfl
theorem c_24_24 : jx_cd 24 24 = some (o_ald 0 1) := rfl
theorem c_24_25 : jx_cd 24 25 = some (o_callv 3 27 0) := rfl
theorem c_24_28 : jx_cd 24 28 = some (o_ifeq 40) := rfl
theorem c_24_31 : jx_cd 24 31 = some (o_ald 0 1) := rfl
theorem c_24_32 : jx_cd 24 32 = some (o_getf 3 6) := rfl
theorem c_24_35 : jx_cd 24 35 = some (o_push (.int 1) 1) := rfl
theorem c_24_36 : jx_cd 24 36 = some (o_bin fun x y => x - y) := rfl
theorem c_24_37 : jx_cd 24 37 = some (o_goto 41) := rfl
theorem c_24_40 : jx_cd 24 40 = some (o_push (.int (-1)) 1) := rfl
theorem c_24_41 : jx_cd 24 41 = some (o_ist 4 2) := rfl
theorem c_24_43 : jx_cd 24 43 = some (o_ild 4 2) := rfl
theorem c_24_45 : jx_cd 24 45 = some (o_push (.int (-1)) 1) := rfl
theorem c_24_46 : jx_cd 24 46 = some (o_ieq 74) := rfl
theorem c_24_49 : jx_cd 24 49 = some (o_ild 1 1) := rfl
theorem c_24_50 : jx_cd 24 50 = some (o_push (.int (-1)) 1) := rfl
theorem c_24_51 : jx_cd 24 51 = some (o_ieq 65) := rfl
theorem c_24_54 : jx_cd 24 54 = some (o_ald 0 1) := rfl
theorem c_24_55 : jx_cd 24 55 = some (o_ild 1 1) := rfl
theorem c_24_56 : jx_cd 24 56 = some (o_ild 4 2) := rfl
theorem c_24_58 : jx_cd 24 58 = some (o_ild 3 1) := rfl
theorem c_24_59 : jx_cd 24 59 = some (o_callv 3 34 3) := rfl
theorem c_24_62 : jx_cd 24 62 = some (o_ifeq 74) := rfl
theorem c_24_65 : jx_cd 24 65 = some (o_ald 0 1) := rfl
theorem c_24_66 : jx_cd 24 66 = some (o_ild 4 2) := rfl
theorem c_24_68 : jx_cd 24 68 = some (o_callv 3 37 1) := rfl
theorem c_24_71 : jx_cd 24 71 = some (o_ifne 76) := rfl
theorem c_24_74 : jx_cd 24 74 = some (o_push (.int 0) 1) := rfl
theorem c_24_75 : jx_cd 24 75 = some (o_zret) := rfl
theorem c_24_76 : jx_cd 24 76 = some (o_ald 0 1) := rfl
theorem c_24_77 : jx_cd 24 77 = some (o_ild 4 2) := rfl
theorem c_24_79 : jx_cd 24 79 = some (o_callv 3 39 1) := rfl
theorem c_24_82 : jx_cd 24 82 = some (o_ist 1 1) := rfl
theorem c_24_83 : jx_cd 24 83 = some (o_ild 1 1) := rfl
theorem c_24_84 : jx_cd 24 84 = some (o_push (.int (-1)) 1) := rfl
theorem c_24_85 : jx_cd 24 85 = some (o_ine 90) := rfl
theorem c_24_88 : jx_cd 24 88 = some (o_push (.int 0) 1) := rfl
theorem c_24_89 : jx_cd 24 89 = some (o_zret) := rfl
theorem c_24_90 : jx_cd 24 90 = some (o_ald 0 1) := rfl
theorem c_24_91 : jx_cd 24 91 = some (o_getf 3 2) := rfl
theorem c_24_94 : jx_cd 24 94 = some (o_ald 0 1) := rfl
theorem c_24_95 : jx_cd 24 95 = some (o_getf 3 1) := rfl
theorem c_24_98 : jx_cd 24 98 = some (o_ilt 114) := rfl
theorem c_24_101 : jx_cd 24 101 = some (o_ald 0 1) := rfl
theorem c_24_102 : jx_cd 24 102 = some (o_getf 3 14) := rfl
theorem c_24_105 : jx_cd 24 105 = some (o_ifne 112) := rfl
theorem c_24_108 : jx_cd 24 108 = some (o_push (.int 1) 1) := rfl
theorem c_24_109 : jx_cd 24 109 = some (o_goto 113) := rfl
theorem c_24_112 : jx_cd 24 112 = some (o_push (.int 0) 1) := rfl
theorem c_24_113 : jx_cd 24 113 = some (o_zret) := rfl
theorem c_24_114 : jx_cd 24 114 = some (o_ald 0 1) := rfl
theorem c_24_115 : jx_cd 24 115 = some (o_ild 1 1) := rfl
theorem c_24_116 : jx_cd 24 116 = some (o_callv 3 40 1) := rfl
theorem c_24_119 : jx_cd 24 119 = some (o_iinc 2 1) := rfl
theorem c_24_122 : jx_cd 24 122 = some (o_goto 4) := rfl
theorem c_24_125 : jx_cd 24 125 = some (o_push (.int 0) 1) := rfl
theorem c_24_126 : jx_cd 24 126 = some (o_zret) := rfl
def sp_l1 (tx : Nat → Nat) (ln : Nat) (pt : Bool) (ow : Option Nat) (ps : Nat) : Nat := match ow with
  | none => 0
  | some _ => sp_lk (sp_here tx ln ps) pt
def sp_p1 (tx : Nat → Nat) (ln : Nat) (pt : Bool) (ow : Option Nat) (ps : Nat) : Nat := match ow with
  | none => ps
  | some _ => ps + if sp_lk (sp_here tx ln ps) pt = 0 then 0 else 1
def sp_on (cs : Nat → Nat) (B : CB) (ow : Option Nat) (a lk : Nat) : Option CB := match ow with
  | none => some B
  | some o => match sp_bind cs B.1 B.2.1 B.2.2.2.1 o a lk with
    | none => none
    | some k => some (nu B.1 B.2.2.2.1 o, nu B.2.1 B.2.2.2.1 a, nu B.2.2.1 B.2.2.2.1 k, B.2.2.2.1 + 1, B.2.2.2.2.1, B.2.2.2.2.2)
/-- the text from the next atom on: how many atoms then, their codes, their written hydrogens, the bonds -/
def sp_rd (tx : Nat → Nat) (ln : Nat) (pt : Bool) : Nat → Option Nat → Nat → Nat → (Nat → Nat) → (Nat → Option Nat) → CB → (Nat → Nat) → Nat → Option (Nat × (Nat → Nat) × (Nat → Option Nat) × CB)
  | 0, _, _, _, _, _, _, _, _ => none
  | k + 1, ow, ps, sz, cs, wr, B, br, dp => match sp_atom tx ln pt (sp_p1 tx ln pt ow ps) with
    | none => none
    | some (x, hy, p2) => match sp_on (nu cs sz x) B ow sz (sp_l1 tx ln pt ow ps) with
      | none => none
      | some B1 => match sp_clo tx ln pt (nu cs sz x) sz 40 p2 B1 with
        | none => none
        | some (p3, B2) => match sp_pe tx ln br 40 p3 dp sz with
          | none => none
          | some (o', p4, dp') => if p4 < ln then sp_rd tx ln pt k (some o') (sp_st tx ln p4 br dp' o').1 (sz + 1) (nu cs sz x) (nu wr sz hy) B2 (sp_st tx ln p4 br dp' o').2.1 (sp_st tx ln p4 br dp' o').2.2
            else if dp' = 0 then some (sz + 1, nu cs sz x, nu wr sz hy, B2) else none
theorem sp_list_le {tx : Nat → Nat} {ln : Nat} : ∀ {k ps el x : Nat} {hy : Option Nat} {p : Nat}, sp_list tx ln k ps el = some (x, hy, p) → p ≤ ln := by
  intro k
  induction k with
  | zero =>
    intro ps el x hy p h
    unfold sp_list at h
    split at h
    · rename_i h1
      cases h
      exact sp_here_ne (by rw [h1]; decide)
    · cases h
  | succ k ih =>
    intro ps el x hy p h
    unfold sp_list at h
    split at h
    · split at h
      · cases h
      · exact ih h
    · split at h
      · rename_i h1
        cases h
        exact sp_here_ne (by rw [h1]; decide)
      · cases h
theorem sp_brk_le {tx : Nat → Nat} {ln ps x p : Nat} {pt : Bool} {hy : Option Nat} (h : sp_brk tx ln pt ps = some (x, hy, p)) : p ≤ ln := by
  unfold sp_brk at h
  split at h
  · cases h
  · split at h
    · exact sp_list_le h
    · split at h
      · rename_i h1
        cases h
        exact sp_here_ne (by rw [h1]; decide)
      · cases h
theorem sp_ar_0 : sp_ar 0 = none := rfl
theorem sp_el_0 : sp_el 0 = none := rfl
theorem sp_atom_le {tx : Nat → Nat} {ln ps x p : Nat} {pt : Bool} {hy : Option Nat} (h : sp_atom tx ln pt ps = some (x, hy, p)) : p ≤ ln := by
  unfold sp_atom at h
  split at h
  · exact sp_brk_le h
  · split at h
    · rename_i h1
      cases h
      exact sp_here_ne (by rw [h1.2]; decide)
    · split at h
      · rename_i h1
        cases h
        refine sp_here_ne (tx := tx) fun q => ?_
        rw [q, sp_ar_0] at h1
        cases h1
      · split at h
        · rename_i h1
          cases h
          refine sp_here_ne (tx := tx) fun q => ?_
          rw [q, sp_el_0] at h1
          cases h1
        · cases h
theorem cbI_on {cs : Nat → Nat} {B B' : CB} {ow : Option Nat} {a lk : Nat} (h : cbI B) (ha : a < 40) (ho : ∀ k, ow = some k → k < 40) (e : sp_on cs B ow a lk = some B') : cbI B' := by
  unfold sp_on at e
  split at e
  · cases e
    exact h
  · rename_i o
    split at e
    · cases e
    · rename_i k hk
      cases e
      obtain ⟨h1, h2, h3, h4, h5⟩ := h
      have hn := sp_bind_lt hk
      have hf' := ho o rfl
      exact ⟨by show B.2.2.2.1 + 1 ≤ 40; omega, nu_lt h2 (by omega), nu_lt h3 (by omega), h4, h5⟩
theorem sp_clo_le {tx : Nat → Nat} {ln : Nat} {pt : Bool} {cs : Nat → Nat} {a : Nat} (ha : a < 40) : ∀ {k ps : Nat} {B : CB} {p : Nat} {B' : CB}, ps ≤ ln → cbI B → sp_clo tx ln pt cs a k ps B = some (p, B') → p ≤ ln ∧ cbI B' := by
  intro k
  induction k with
  | zero =>
    intro ps B p B' hp hI h
    cases h
    exact ⟨hp, hI⟩
  | succ k ih =>
    intro ps B p B' hp hI h
    rw [sp_clo] at h
    by_cases h1 : 49 ≤ sp_here tx ln (ps + if sp_lk (sp_here tx ln ps) pt = 0 then 0 else 1) ∧ sp_here tx ln (ps + if sp_lk (sp_here tx ln ps) pt = 0 then 0 else 1) ≤ 57
    · rw [if_pos h1] at h
      have hlt := sp_here_pos (tx := tx) (ln := ln) (ps := ps + if sp_lk (sp_here tx ln ps) pt = 0 then 0 else 1) (by omega)
      cases ho : sp_oc cs B (sp_here tx ln (ps + if sp_lk (sp_here tx ln ps) pt = 0 then 0 else 1) - 48) a (sp_lk (sp_here tx ln ps) pt) with
      | none => rw [ho] at h; cases h
      | some B1 =>
        rw [ho] at h
        exact ih (by omega) (cbI_oc hI ha sp_lk_lt ho) h
    · rw [if_neg h1] at h
      cases h
      exact ⟨hp, hI⟩
theorem sp_pe_le {tx : Nat → Nat} {ln : Nat} {br : Nat → Nat} (hbr : ∀ j, br j < 40) : ∀ {k ps dp o o' p dp' : Nat}, ps ≤ ln → dp ≤ 40 → o < 40 → sp_pe tx ln br k ps dp o = some (o', p, dp') → p ≤ ln ∧ dp' ≤ 40 ∧ o' < 40 := by
  intro k
  induction k with
  | zero =>
    intro ps dp o o' p dp' hp hd ho h
    cases h
    exact ⟨hp, hd, ho⟩
  | succ k ih =>
    intro ps dp o o' p dp' hp hd ho h
    rw [sp_pe] at h
    by_cases h1 : sp_here tx ln ps = 41
    · rw [if_pos h1] at h
      have hlt := sp_here_pos (tx := tx) (ln := ln) (ps := ps) (by omega)
      by_cases h2 : dp = 0
      · rw [if_pos h2] at h; cases h
      · rw [if_neg h2] at h
        exact ih (by omega) (by omega) (hbr _) h
    · rw [if_neg h1] at h
      cases h
      exact ⟨hp, hd, ho⟩
theorem sp_st_le {tx : Nat → Nat} {ln ps : Nat} {br : Nat → Nat} {dp o : Nat} (hp : ps < ln) (hd : dp ≤ 40) (hb : ∀ j, br j < 40) (ho : o < 40) : (sp_st tx ln ps br dp o).1 ≤ ln ∧ (∀ j, (sp_st tx ln ps br dp o).2.1 j < 40) ∧ (sp_st tx ln ps br dp o).2.2 ≤ 40 := by
  unfold sp_st
  split
  · rename_i h
    exact ⟨by show ps + 1 ≤ ln; omega, nu_lt hb ho, by show dp + 1 ≤ 40; omega⟩
  · exact ⟨by show ps ≤ ln; omega, hb, hd⟩
theorem jA_n {d mi pc : Nat} {L : jx_L} {st : List Value} {M M0 : jx_M} {ln : Nat} {pt : Bool} {sz bc dp : Nat} {cs : Nat → Nat} {wr : Nat → Option Nat} (h : jZ d mi pc L st M (jA M0 ln pt sz bc dp cs wr none)) : jZ d mi pc L st M (jV (some (.int (jb false))) fun M' => ∃ p', M' = jm [(18, rO ln p' pt sz bc dp)] M0) := h
theorem jA_s {d mi pc : Nat} {L : jx_L} {st : List Value} {M M0 : jx_M} {ln : Nat} {pt : Bool} {sz bc dp : Nat} {cs : Nat → Nat} {wr : Nat → Option Nat} {x : Nat} {hy : Option Nat} {p : Nat} (h : jZ d mi pc L st M (jA M0 ln pt sz bc dp cs wr (some (x, hy, p)))) : jZ d mi pc L st M (jR (some (.int (jb true))) (jm [(18, rO ln p pt (sz + 1) bc dp), (21, .inl (0, 40, .inl (jao (nu wr sz hy)))), (20, .inl (0, 40, .inl (ja (nu cs sz x))))] M0)) := h
theorem jB_n {d mi pc : Nat} {L : jx_L} {st : List Value} {M M0 : jx_M} {ln : Nat} {pt : Bool} {ps sz bc dp : Nat} {bf bs bk : Nat → Nat} {a b : Nat} (h : jZ d mi pc L st M (jB M0 ln pt ps sz bc dp bf bs bk a b none)) : jZ d mi pc L st M (jR (some (.int (jb false))) M0) := h
theorem jB_s {d mi pc : Nat} {L : jx_L} {st : List Value} {M M0 : jx_M} {ln : Nat} {pt : Bool} {ps sz bc dp : Nat} {bf bs bk : Nat → Nat} {a b k : Nat} (h : jZ d mi pc L st M (jB M0 ln pt ps sz bc dp bf bs bk a b (some k))) : jZ d mi pc L st M (jR (some (.int (jb true))) (jm [(18, rO ln ps pt sz (bc + 1) dp), (24, .inl (0, 40, .inl (ja (nu bk bc k)))), (23, .inl (0, 40, .inl (ja (nu bs bc b)))), (22, .inl (0, 40, .inl (ja (nu bf bc a))))] M0)) := h
theorem sp_list_hy {tx : Nat → Nat} {ln : Nat} : ∀ {k ps el x : Nat} {hy : Option Nat} {p : Nat}, sp_list tx ln k ps el = some (x, hy, p) → hy = none := by
  intro k
  induction k with
  | zero =>
    intro ps el x hy p h
    unfold sp_list at h
    split at h
    · cases h; rfl
    · cases h
  | succ k ih =>
    intro ps el x hy p h
    unfold sp_list at h
    split at h
    · split at h
      · cases h
      · exact ih h
    · split at h
      · cases h; rfl
      · cases h
theorem sp_hyd_lt {h h2 : Nat} : sp_hyd h h2 < 100 := by
  unfold sp_hyd
  repeat' split
  all_goals omega
theorem sp_atom_hy {tx : Nat → Nat} {ln ps x p : Nat} {pt : Bool} {hy : Option Nat} (h : sp_atom tx ln pt ps = some (x, hy, p)) : ∀ k, hy = some k → k < 100 := by
  unfold sp_atom at h
  split at h
  · unfold sp_brk at h
    split at h
    · cases h
    · split at h
      · rw [sp_list_hy h]
        intro k q
        cases q
      · split at h
        · cases h
          intro k q
          cases q
          exact sp_hyd_lt
        · cases h
  · split at h
    · cases h
      intro k q
      cases q
    · split at h
      · cases h
        intro k q
        cases q
      · split at h
        · cases h
          intro k q
          cases q
        · cases h
theorem wr_nu {wr : Nat → Option Nat} {sz : Nat} {hy : Option Nat} (h : ∀ j k, wr j = some k → k < 100) (h1 : ∀ k, hy = some k → k < 100) : ∀ j k, nu wr sz hy j = some k → k < 100 := by
  intro j k q
  unfold nu at q
  split at q
  · exact h1 k q
  · exact h j k q
def rQ (tx : Nat → Nat) (ln : Nat) (pt : Bool) (x : Nat × (Nat → Nat) × (Nat → Option Nat) × CB) (M' : jx_M) : Prop := ∃ (ps : Nat) (br : Nat → Nat) (dp : Nat), rA M' tx ln pt ps x.1 x.2.1 x.2.2.1 x.2.2.2 br dp ∧ (∀ j, br j < 40) ∧ (∀ j k, x.2.2.1 j = some k → k < 100) ∧ cbI x.2.2.2
theorem t_rd_l {d ln : Nat} {pt : Bool} {tx : Nat → Nat} (hl : ln ≤ 40) (ht : ∀ j, tx j < 128) : ∀ {k sz ps dp : Nat} {ow : Option Nat} {z3 z4 : Option Value} {cs br : Nat → Nat} {wr : Nat → Option Nat} {bf bs bk ol : Nat → Nat} {bc : Nat} {oa : Nat → Option Nat} {M : jx_M}, sz + k = 40 → ps ≤ ln → dp ≤ 40 → (∀ j, br j < 40) → (∀ j k, wr j = some k → k < 100) → (∀ k, ow = some k → k < 40) → rA M tx ln pt ps sz cs wr (bf, bs, bk, bc, oa, ol) br dp → cbI (bf, bs, bk, bc, oa, ol) → jc M → jZ (d + 7) 24 4 [some (.ref 18), some (.int (jo ow)), some (.int (jn sz)), z3, z4] [] M (jK M (rQ tx ln pt) (sp_rd tx ln pt k ow ps sz cs wr (bf, bs, bk, bc, oa, ol) br dp)) := by
  intro k
  induction k with
  | zero =>
    intro sz ps dp ow z3 z4 cs br wr bf bs bk ol bc oa M hk hp hdp hbr hwr hoo hR hI hj
    refine z_go 5 _ [.int (jn sz)] _ c_24_4 rfl ?_
    refine z_go 7 _ [.int (jn 40), .int (jn sz)] _ c_24_5 rfl ?_
    refine z_ige 125 10 c_24_7 rfl (by omega) (by omega) (fun hi => ?_) (fun hi => ?_)
    · omega
    · refine z_go 126 _ [.int (jn 0)] _ c_24_125 rfl ?_
      refine z_zret (b := false) c_24_126 ?_
      exact ⟨rfl, ⟨_, _, _, _, _, _, _, _, _, _, hR, ht, hbr, hwr, hI⟩, same_r M⟩
  | succ k ih =>
    intro sz ps dp ow z3 z4 cs br wr bf bs bk ol bc oa M hk hp hdp hbr hwr hoo hR hI hj
    obtain ⟨h18, h19, h20, h21, h22, h23, h24, h25, h26, h27⟩ := hR
    cases ow with
    | none =>
      refine z_go 5 _ [.int (jn sz)] _ c_24_4 rfl ?_
      refine z_go 7 _ [.int (jn 40), .int (jn sz)] _ c_24_5 rfl ?_
      refine z_ige 125 10 c_24_7 rfl (by omega) (by omega) (fun hi => ?_) (fun hi => ?_)
      · refine z_go 11 _ [.int (jo none)] _ c_24_10 rfl ?_
        refine z_go 12 _ [.int (jo none), .int (jo none)] _ c_24_11 rfl ?_
        refine z_ine 19 15 c_24_12 rfl Iff.rfl (fun _ => ?_) (fun h => absurd rfl h)
        refine z_go 16 _ [.int (jn 0)] _ c_24_15 rfl ?_
        refine z_go 23 _ [.int (jn 0)] _ c_24_16 rfl ?_
        refine z_go 24 [some (.ref 18), some (.int (jo none)), some (.int (jn sz)), some (.int (jn 0)), z4] [] _ c_24_23 rfl ?_
        refine z_go 25 _ [.ref 18] _ c_24_24 rfl ?_
        have hat := t_atom (d := d) (ps := ps) (M := M) h18 h19 h20 h21 hj hl ht (by omega) (by omega)
        cases ha : sp_atom tx ln pt (ps) with
        | none =>
          rw [ha] at hat
          refine z_callvV 28 3 27 0 18 c_24_25 rfl ⟨Nat.le_of_ble_eq_true rfl, Nat.le_of_ble_eq_true rfl⟩ rfl h18 [.ref 18] rfl rfl [some (.ref 18), none] rfl rfl (jA_n hat) ?_
          intro M1 ⟨p', hM1⟩
          subst hM1
          show jZ _ _ _ _ [.int (jb false)] _ _
          refine z_ifeq 40 31 c_24_28 rfl jb_t (fun _ => ?_) (fun h => absurd rfl h)
          refine z_go 41 _ [.int (jo none)] _ c_24_40 rfl ?_
          refine z_go 43 [some (.ref 18), some (.int (jo none)), some (.int (jn sz)), some (.int (jn 0)), some (.int (jo none))] [] _ c_24_41 rfl ?_
          refine z_go 45 _ [.int (jo none)] _ c_24_43 rfl ?_
          refine z_go 46 _ [.int (jo none), .int (jo none)] _ c_24_45 rfl ?_
          refine z_ieq 74 49 c_24_46 rfl Iff.rfl (fun _ => ?_) (fun h => absurd rfl h)
          refine z_go 75 _ [.int (jn 0)] _ c_24_74 rfl ?_
          refine z_zret (b := false) c_24_75 ?_
          rw [show sp_rd tx ln pt (k + 1) none ps sz cs wr (bf, bs, bk, bc, oa, ol) br dp = none by simp [sp_rd, sp_p1, sp_l1, ha]]
          exact ⟨rfl, ⟨_, _, _, _, _, _, _, _, _, _, ⟨rfl, h19, h20, h21, h22, h23, h24, h25, h26, h27⟩, ht, hbr, hwr, hI⟩, (same_r M).tr (same_jm rfl)⟩
        | some w =>
          obtain ⟨x, hy, p2⟩ := w
          rw [ha] at hat
          have hp2 := sp_atom_le ha
          have hwr1 := wr_nu (sz := sz) hwr (sp_atom_hy ha)
          refine z_callv 28 3 27 0 18 c_24_25 rfl ⟨Nat.le_of_ble_eq_true rfl, Nat.le_of_ble_eq_true rfl⟩ rfl h18 [.ref 18] rfl rfl [some (.ref 18), none] rfl rfl (jA_s hat) ?_
          show jZ _ _ _ _ [.int (jb true)] _ _
          refine z_ifeq 40 31 c_24_28 rfl jb_t (fun h => absurd h (by decide)) (fun _ => ?_)
          refine z_go 32 _ [.ref 18] _ c_24_31 rfl ?_
          refine z_getf (v := .int (jn (sz + 1))) 35 c_24_32 rfl rfl rfl ?_
          refine z_go 36 _ [.int (jn 1), .int (jn (sz + 1))] _ c_24_35 rfl ?_
          refine z_go 37 _ [.int ((jn (sz + 1)) - (jn 1))] _ c_24_36 rfl ?_
          refine z_v (jn_sub (by omega)) ?_
          refine z_v (by rw [Nat.add_sub_cancel]) ?_
          refine z_go 41 _ [.int (jn sz)] _ c_24_37 rfl ?_
          refine z_go 43 [some (.ref 18), some (.int (jo none)), some (.int (jn sz)), some (.int (jn 0)), some (.int (jn sz))] [] _ c_24_41 rfl ?_
          refine z_go 45 _ [.int (jn sz)] _ c_24_43 rfl ?_
          refine z_go 46 _ [.int (jo none), .int (jn sz)] _ c_24_45 rfl ?_
          refine z_ieq 74 49 c_24_46 rfl (jn_m1 (by omega)) (fun h => h.elim) (fun _ => ?_)
          refine z_go 50 _ [.int (jo none)] _ c_24_49 rfl ?_
          refine z_go 51 _ [.int (jo none), .int (jo none)] _ c_24_50 rfl ?_
          refine z_ieq 65 54 c_24_51 rfl Iff.rfl (fun _ => ?_) (fun h => absurd rfl h)
          refine z_go 66 _ [.ref 18] _ c_24_65 rfl ?_
          refine z_go 68 _ [.int (jn sz), .ref 18] _ c_24_66 rfl ?_
          have hR1 : rA (jm [(18, rO ln p2 pt (sz + 1) bc dp), (21, .inl (0, 40, .inl (jao (nu wr sz hy)))), (20, .inl (0, 40, .inl (ja (nu cs sz x))))] M) tx ln pt p2 (sz + 1) (nu cs sz x) (nu wr sz hy) (bf, bs, bk, bc, oa, ol) br dp := ⟨rfl, h19, rfl, rfl, h22, h23, h24, h25, h26, h27⟩
          have hI1 : cbI (bf, bs, bk, bc, oa, ol) := hI
          have hcl := t_clo (d := d + 3) (a := sz) hl ht hbr hwr1 (by omega) hp2 hR1 hI1
          cases hc : sp_clo tx ln pt (nu cs sz x) sz 40 p2 (bf, bs, bk, bc, oa, ol) with
          | none =>
            rw [hc] at hcl
            refine z_callvV 71 3 37 1 18 c_24_68 rfl ⟨Nat.le_of_ble_eq_true rfl, Nat.le_of_ble_eq_true rfl⟩ rfl rfl [.ref 18, .int (jn sz)] rfl rfl [some (.ref 18), some (.int (jn sz)), none, none, none, none] rfl rfl (hcl) ?_
            intro M1 ⟨hs1, hs2⟩
            show jZ _ _ _ _ [.int (jb false)] _ _
            refine z_ifne 76 74 c_24_71 rfl jb_t (fun _ => ?_) (fun h => absurd rfl h)
            refine z_go 75 _ [.int (jn 0)] _ c_24_74 rfl ?_
            refine z_zret (b := false) c_24_75 ?_
            rw [show sp_rd tx ln pt (k + 1) none ps sz cs wr (bf, bs, bk, bc, oa, ol) br dp = none by simp [sp_rd, sp_p1, sp_l1, ha, sp_on, hc]]
            exact ⟨rfl, hs1, (same_jm rfl).tr hs2⟩
          | some w =>
            obtain ⟨p3, bf2, bs2, bk2, bc2, oa2, ol2⟩ := w
            rw [hc] at hcl
            refine z_callvV 71 3 37 1 18 c_24_68 rfl ⟨Nat.le_of_ble_eq_true rfl, Nat.le_of_ble_eq_true rfl⟩ rfl rfl [.ref 18, .int (jn sz)] rfl rfl [some (.ref 18), some (.int (jn sz)), none, none, none, none] rfl rfl (hcl) ?_
            intro M1 ⟨hs1, hs2⟩
            obtain ⟨hp3, hI2⟩ := sp_clo_le (by omega) hp2 hI1 hc
            have hs1 : rA M1 tx ln pt p3 (sz + 1) (nu cs sz x) (nu wr sz hy) (bf2, bs2, bk2, bc2, oa2, ol2) br dp := hs1
            have hsm := (same_jm (M := M) (l := [(18, rO ln p2 pt (sz + 1) bc dp), (21, .inl (0, 40, .inl (jao (nu wr sz hy)))), (20, .inl (0, 40, .inl (ja (nu cs sz x))))]) rfl).tr hs2
            show jZ _ _ _ _ [.int (jb true)] _ _
            refine z_ifne 76 74 c_24_71 rfl jb_t (fun h => absurd h (by decide)) (fun _ => ?_)
            refine z_go 77 _ [.ref 18] _ c_24_76 rfl ?_
            refine z_go 79 _ [.int (jn sz), .ref 18] _ c_24_77 rfl ?_
            have hpe := t_pe (d := d + 5) (a := sz) hl ht hbr hwr1 hI2 hp3 hdp hs1
            cases hq : sp_pe tx ln br 40 p3 dp sz with
            | none =>
              rw [hq] at hpe
              refine z_callvV 82 3 39 1 18 c_24_79 rfl ⟨Nat.le_of_ble_eq_true rfl, Nat.le_of_ble_eq_true rfl⟩ rfl hs1.1 [.ref 18, .int (jn sz)] rfl rfl [some (.ref 18), some (.int (jn sz)), none, none] rfl rfl (hpe) ?_
              intro M2 ⟨hs3, hs4⟩
              show jZ _ _ _ _ [.int (jo none)] _ _
              refine z_go 83 [some (.ref 18), some (.int (jo none)), some (.int (jn sz)), some (.int (jn 0)), some (.int (jn sz))] [] _ c_24_82 rfl ?_
              refine z_go 84 _ [.int (jo none)] _ c_24_83 rfl ?_
              refine z_go 85 _ [.int (jo none), .int (jo none)] _ c_24_84 rfl ?_
              refine z_ine 90 88 c_24_85 rfl Iff.rfl (fun _ => ?_) (fun h => absurd rfl h)
              refine z_go 89 _ [.int (jn 0)] _ c_24_88 rfl ?_
              refine z_zret (b := false) c_24_89 ?_
              rw [show sp_rd tx ln pt (k + 1) none ps sz cs wr (bf, bs, bk, bc, oa, ol) br dp = none by simp [sp_rd, sp_p1, sp_l1, ha, sp_on, hc, hq]]
              exact ⟨rfl, hs3, hsm.tr hs4⟩
            | some w =>
              obtain ⟨o', p4, dp'⟩ := w
              rw [hq] at hpe
              refine z_callvV 82 3 39 1 18 c_24_79 rfl ⟨Nat.le_of_ble_eq_true rfl, Nat.le_of_ble_eq_true rfl⟩ rfl hs1.1 [.ref 18, .int (jn sz)] rfl rfl [some (.ref 18), some (.int (jn sz)), none, none] rfl rfl (hpe) ?_
              intro M2 ⟨hs3, hs4⟩
              obtain ⟨hp4, hd4, ho4⟩ := sp_pe_le hbr hp3 hdp (by omega) hq
              have hs3 : rA M2 tx ln pt p4 (sz + 1) (nu cs sz x) (nu wr sz hy) (bf2, bs2, bk2, bc2, oa2, ol2) br dp' := hs3
              show jZ _ _ _ _ [.int (jn o')] _ _
              refine z_go 83 [some (.ref 18), some (.int (jn o')), some (.int (jn sz)), some (.int (jn 0)), some (.int (jn sz))] [] _ c_24_82 rfl ?_
              refine z_go 84 _ [.int (jn o')] _ c_24_83 rfl ?_
              refine z_go 85 _ [.int (jo none), .int (jn o')] _ c_24_84 rfl ?_
              refine z_ine 90 88 c_24_85 rfl (jn_m1 (by omega)) (fun h => h.elim) (fun _ => ?_)
              refine z_go 91 _ [.ref 18] _ c_24_90 rfl ?_
              refine z_getf (v := .int (jn p4)) 94 c_24_91 rfl hs3.1 rfl ?_
              refine z_go 95 _ [.ref 18, .int (jn p4)] _ c_24_94 rfl ?_
              refine z_getf (v := .int (jn ln)) 98 c_24_95 rfl hs3.1 rfl ?_
              refine z_ilt 114 101 c_24_98 rfl (by omega) (by omega) (fun h5 => ?_) (fun h5 => ?_)
              · refine z_go 115 _ [.ref 18] _ c_24_114 rfl ?_
                refine z_go 116 _ [.int (jn o'), .ref 18] _ c_24_115 rfl ?_
                obtain ⟨hq1, hq2, hq3⟩ := sp_st_le (tx := tx) (o := o') h5 hd4 hbr ho4
                refine z_callvV 119 3 40 1 18 c_24_116 rfl ⟨Nat.le_of_ble_eq_true rfl, Nat.le_of_ble_eq_true rfl⟩ rfl hs3.1 [.ref 18, .int (jn o')] rfl rfl [some (.ref 18), some (.int (jn o'))] rfl rfl (t_st (d := d + 5) (o := o') hl ht (by omega) hd4 hs3) ?_
                intro M3 ⟨hs5, hs6⟩
                show jZ _ _ _ _ [] _ _
                refine z_iinc 122 [some (.ref 18), some (.int (jn o')), some (.int (jn (sz + 1))), some (.int (jn 0)), some (.int (jn sz))] c_24_119 rfl rfl (jn_add _ _) rfl ?_
                refine z_go 4 _ [] _ c_24_122 rfl ?_
                have e1 : sp_rd tx ln pt (k + 1) none ps sz cs wr (bf, bs, bk, bc, oa, ol) br dp = sp_rd tx ln pt k (some o') (sp_st tx ln p4 br dp' o').1 (sz + 1) (nu cs sz x) (nu wr sz hy) (bf2, bs2, bk2, bc2, oa2, ol2) (sp_st tx ln p4 br dp' o').2.1 (sp_st tx ln p4 br dp' o').2.2 := by simp [sp_rd, sp_p1, sp_l1, ha, sp_on, hc, hq, h5]
                rw [e1]
                exact (ih (sz := sz + 1) (ow := some o') (by omega) hq1 hq3 hq2 hwr1 (fun k q => by cases q; exact ho4) hs5 hI2 (((hsm.tr hs4).tr hs6).jc hj)).mono fun r M9 q => jK_sh ((hsm.tr hs4).tr hs6) q
              · refine z_go 102 _ [.ref 18] _ c_24_101 rfl ?_
                refine z_getf (v := .int (jn dp')) 105 c_24_102 rfl hs3.1 rfl ?_
                refine z_ifne 112 108 c_24_105 rfl (jn_z (by omega)) (fun h6 => ?_) (fun h6 => ?_)
                · refine z_go 109 _ [.int (jn 1)] _ c_24_108 rfl ?_
                  refine z_go 113 _ [.int (jn 1)] _ c_24_109 rfl ?_
                  refine z_zret (b := true) c_24_113 ?_
                  rw [show sp_rd tx ln pt (k + 1) none ps sz cs wr (bf, bs, bk, bc, oa, ol) br dp = some (sz + 1, nu cs sz x, nu wr sz hy, (bf2, bs2, bk2, bc2, oa2, ol2)) by simp [sp_rd, sp_p1, sp_l1, ha, sp_on, hc, hq, h5, h6]]
                  exact ⟨rfl, ⟨p4, br, dp', hs3, hbr, hwr1, hI2⟩, hsm.tr hs4⟩
                · refine z_go 113 _ [.int (jn 0)] _ c_24_112 rfl ?_
                  refine z_zret (b := false) c_24_113 ?_
                  rw [show sp_rd tx ln pt (k + 1) none ps sz cs wr (bf, bs, bk, bc, oa, ol) br dp = none by simp [sp_rd, sp_p1, sp_l1, ha, sp_on, hc, hq, h5, h6]]
                  exact ⟨rfl, ⟨_, _, _, _, _, _, _, _, _, _, hs3, ht, hbr, hwr1, hI2⟩, hsm.tr hs4⟩
      · omega
    | some o =>
      show jZ _ _ _ [some (.ref 18), some (.int (jn o)), some (.int (jn sz)), z3, z4] _ _ _
      have ho40 : o < 40 := hoo o rfl
      refine z_go 5 _ [.int (jn sz)] _ c_24_4 rfl ?_
      refine z_go 7 _ [.int (jn 40), .int (jn sz)] _ c_24_5 rfl ?_
      refine z_ige 125 10 c_24_7 rfl (by omega) (by omega) (fun hi => ?_) (fun hi => ?_)
      · refine z_go 11 _ [.int (jn o)] _ c_24_10 rfl ?_
        refine z_go 12 _ [.int (jo none), .int (jn o)] _ c_24_11 rfl ?_
        refine z_ine 19 15 c_24_12 rfl (jn_m1 (by omega)) (fun h => h.elim) (fun _ => ?_)
        have hlk := sp_lk_lt (h := sp_here tx ln ps) (pt := pt)
        have hp1 : (ps + if sp_lk (sp_here tx ln ps) pt = 0 then 0 else 1) ≤ 41 := by split <;> omega
        refine z_go 20 _ [.ref 18] _ c_24_19 rfl ?_
        refine z_callv 23 3 25 0 18 c_24_20 rfl ⟨Nat.le_of_ble_eq_true rfl, Nat.le_of_ble_eq_true rfl⟩ rfl h18 [.ref 18] rfl rfl [some (.ref 18)] rfl rfl (t_rlink h18 h19 hl (by omega) ht) ?_
        show jZ _ _ _ _ [.int (jn (sp_lk (sp_here tx ln ps) pt))] _ _
        refine z_go 24 [some (.ref 18), some (.int (jn o)), some (.int (jn sz)), some (.int (jn (sp_lk (sp_here tx ln ps) pt))), z4] [] _ c_24_23 rfl ?_
        refine z_go 25 _ [.ref 18] _ c_24_24 rfl ?_
        have hat := t_atom (d := d) (ps := ps + if sp_lk (sp_here tx ln ps) pt = 0 then 0 else 1) (M := jm [(18, rO ln (ps + if sp_lk (sp_here tx ln ps) pt = 0 then 0 else 1) pt sz bc dp)] M) rfl h19 h20 h21 hj hl ht (by omega) (by omega)
        cases ha : sp_atom tx ln pt (ps + if sp_lk (sp_here tx ln ps) pt = 0 then 0 else 1) with
        | none =>
          rw [ha] at hat
          refine z_callvV 28 3 27 0 18 c_24_25 rfl ⟨Nat.le_of_ble_eq_true rfl, Nat.le_of_ble_eq_true rfl⟩ rfl rfl [.ref 18] rfl rfl [some (.ref 18), none] rfl rfl (jA_n hat) ?_
          intro M1 ⟨p', hM1⟩
          subst hM1
          show jZ _ _ _ _ [.int (jb false)] _ _
          refine z_ifeq 40 31 c_24_28 rfl jb_t (fun _ => ?_) (fun h => absurd rfl h)
          refine z_go 41 _ [.int (jo none)] _ c_24_40 rfl ?_
          refine z_go 43 [some (.ref 18), some (.int (jn o)), some (.int (jn sz)), some (.int (jn (sp_lk (sp_here tx ln ps) pt))), some (.int (jo none))] [] _ c_24_41 rfl ?_
          refine z_go 45 _ [.int (jo none)] _ c_24_43 rfl ?_
          refine z_go 46 _ [.int (jo none), .int (jo none)] _ c_24_45 rfl ?_
          refine z_ieq 74 49 c_24_46 rfl Iff.rfl (fun _ => ?_) (fun h => absurd rfl h)
          refine z_go 75 _ [.int (jn 0)] _ c_24_74 rfl ?_
          refine z_zret (b := false) c_24_75 ?_
          rw [show sp_rd tx ln pt (k + 1) (some o) ps sz cs wr (bf, bs, bk, bc, oa, ol) br dp = none by simp [sp_rd, sp_p1, sp_l1, ha]]
          exact ⟨rfl, ⟨_, _, _, _, _, _, _, _, _, _, ⟨rfl, h19, h20, h21, h22, h23, h24, h25, h26, h27⟩, ht, hbr, hwr, hI⟩, ((same_jm rfl)).tr (same_jm rfl)⟩
        | some w =>
          obtain ⟨x, hy, p2⟩ := w
          rw [ha] at hat
          have hp2 := sp_atom_le ha
          have hwr1 := wr_nu (sz := sz) hwr (sp_atom_hy ha)
          refine z_callv 28 3 27 0 18 c_24_25 rfl ⟨Nat.le_of_ble_eq_true rfl, Nat.le_of_ble_eq_true rfl⟩ rfl rfl [.ref 18] rfl rfl [some (.ref 18), none] rfl rfl (jA_s hat) ?_
          show jZ _ _ _ _ [.int (jb true)] _ _
          refine z_m (M' := jm [(21, .inl (0, 40, .inl (jao (nu wr sz hy)))), (20, .inl (0, 40, .inl (ja (nu cs sz x)))), (18, rO ln p2 pt (sz + 1) bc dp)] M) (jm_jw _ _ _) ?_
          refine z_ifeq 40 31 c_24_28 rfl jb_t (fun h => absurd h (by decide)) (fun _ => ?_)
          refine z_go 32 _ [.ref 18] _ c_24_31 rfl ?_
          refine z_getf (v := .int (jn (sz + 1))) 35 c_24_32 rfl rfl rfl ?_
          refine z_go 36 _ [.int (jn 1), .int (jn (sz + 1))] _ c_24_35 rfl ?_
          refine z_go 37 _ [.int ((jn (sz + 1)) - (jn 1))] _ c_24_36 rfl ?_
          refine z_v (jn_sub (by omega)) ?_
          refine z_v (by rw [Nat.add_sub_cancel]) ?_
          refine z_go 41 _ [.int (jn sz)] _ c_24_37 rfl ?_
          refine z_go 43 [some (.ref 18), some (.int (jn o)), some (.int (jn sz)), some (.int (jn (sp_lk (sp_here tx ln ps) pt))), some (.int (jn sz))] [] _ c_24_41 rfl ?_
          refine z_go 45 _ [.int (jn sz)] _ c_24_43 rfl ?_
          refine z_go 46 _ [.int (jo none), .int (jn sz)] _ c_24_45 rfl ?_
          refine z_ieq 74 49 c_24_46 rfl (jn_m1 (by omega)) (fun h => h.elim) (fun _ => ?_)
          refine z_go 50 _ [.int (jn o)] _ c_24_49 rfl ?_
          refine z_go 51 _ [.int (jo none), .int (jn o)] _ c_24_50 rfl ?_
          refine z_ieq 65 54 c_24_51 rfl (jn_m1 (by omega)) (fun h => h.elim) (fun _ => ?_)
          refine z_go 55 _ [.ref 18] _ c_24_54 rfl ?_
          refine z_go 56 _ [.int (jn o), .ref 18] _ c_24_55 rfl ?_
          refine z_go 58 _ [.int (jn sz), .int (jn o), .ref 18] _ c_24_56 rfl ?_
          refine z_go 59 _ [.int (jn (sp_lk (sp_here tx ln ps) pt)), .int (jn sz), .int (jn o), .ref 18] _ c_24_58 rfl ?_
          have hbi := t_bind (d := d + 5) (a := o) (b := sz) (link := sp_lk (sp_here tx ln ps) pt) (M := jm [(21, .inl (0, 40, .inl (jao (nu wr sz hy)))), (20, .inl (0, 40, .inl (ja (nu cs sz x)))), (18, rO ln p2 pt (sz + 1) bc dp)] M) rfl rfl h22 h23 h24 ho40 (by omega) hlk hI.1 hI.2.1 hI.2.2.1
          cases hb : sp_bind (nu cs sz x) bf bs bc o sz (sp_lk (sp_here tx ln ps) pt) with
          | none =>
            rw [hb] at hbi
            refine z_callv 62 3 34 3 18 c_24_59 rfl ⟨Nat.le_of_ble_eq_true rfl, Nat.le_of_ble_eq_true rfl⟩ rfl rfl [.ref 18, .int (jn o), .int (jn sz), .int (jn (sp_lk (sp_here tx ln ps) pt))] rfl rfl [some (.ref 18), some (.int (jn o)), some (.int (jn sz)), some (.int (jn (sp_lk (sp_here tx ln ps) pt))), none] rfl rfl (jB_n hbi) ?_
            show jZ _ _ _ _ [.int (jb false)] _ _
            refine z_ifeq 74 65 c_24_62 rfl jb_t (fun _ => ?_) (fun h => absurd rfl h)
            refine z_go 75 _ [.int (jn 0)] _ c_24_74 rfl ?_
            refine z_zret (b := false) c_24_75 ?_
            rw [show sp_rd tx ln pt (k + 1) (some o) ps sz cs wr (bf, bs, bk, bc, oa, ol) br dp = none by simp [sp_rd, sp_p1, sp_l1, ha, sp_on, hb]]
            exact ⟨rfl, ⟨_, _, _, _, _, _, _, _, _, _, ⟨rfl, h19, rfl, rfl, h22, h23, h24, h25, h26, h27⟩, ht, hbr, hwr1, hI⟩, same_jm rfl⟩
          | some kd =>
            rw [hb] at hbi
            refine z_callv 62 3 34 3 18 c_24_59 rfl ⟨Nat.le_of_ble_eq_true rfl, Nat.le_of_ble_eq_true rfl⟩ rfl rfl [.ref 18, .int (jn o), .int (jn sz), .int (jn (sp_lk (sp_here tx ln ps) pt))] rfl rfl [some (.ref 18), some (.int (jn o)), some (.int (jn sz)), some (.int (jn (sp_lk (sp_here tx ln ps) pt))), none] rfl rfl (jB_s hbi) ?_
            show jZ _ _ _ _ [.int (jb true)] _ _
            refine z_m (M' := jm [(24, .inl (0, 40, .inl (ja (nu bk bc kd)))), (23, .inl (0, 40, .inl (ja (nu bs bc sz)))), (22, .inl (0, 40, .inl (ja (nu bf bc o)))), (21, .inl (0, 40, .inl (jao (nu wr sz hy)))), (20, .inl (0, 40, .inl (ja (nu cs sz x)))), (18, rO ln p2 pt (sz + 1) (bc + 1) dp)] M) (jm_jw _ _ _) ?_
            refine z_ifeq 74 65 c_24_62 rfl jb_t (fun h => absurd h (by decide)) (fun _ => ?_)
            refine z_go 66 _ [.ref 18] _ c_24_65 rfl ?_
            refine z_go 68 _ [.int (jn sz), .ref 18] _ c_24_66 rfl ?_
            have hR1 : rA (jm [(24, .inl (0, 40, .inl (ja (nu bk bc kd)))), (23, .inl (0, 40, .inl (ja (nu bs bc sz)))), (22, .inl (0, 40, .inl (ja (nu bf bc o)))), (21, .inl (0, 40, .inl (jao (nu wr sz hy)))), (20, .inl (0, 40, .inl (ja (nu cs sz x)))), (18, rO ln p2 pt (sz + 1) (bc + 1) dp)] M) tx ln pt p2 (sz + 1) (nu cs sz x) (nu wr sz hy) (nu bf bc o, nu bs bc sz, nu bk bc kd, bc + 1, oa, ol) br dp := ⟨rfl, h19, rfl, rfl, rfl, rfl, rfl, h25, h26, h27⟩
            have hI1 : cbI (nu bf bc o, nu bs bc sz, nu bk bc kd, bc + 1, oa, ol) := cbI_on (ow := some o) (cs := nu cs sz x) (a := sz) (lk := sp_lk (sp_here tx ln ps) pt) hI (by omega) hoo (by simp [sp_on, hb])
            have hcl := t_clo (d := d + 3) (a := sz) hl ht hbr hwr1 (by omega) hp2 hR1 hI1
            cases hc : sp_clo tx ln pt (nu cs sz x) sz 40 p2 (nu bf bc o, nu bs bc sz, nu bk bc kd, bc + 1, oa, ol) with
            | none =>
              rw [hc] at hcl
              refine z_callvV 71 3 37 1 18 c_24_68 rfl ⟨Nat.le_of_ble_eq_true rfl, Nat.le_of_ble_eq_true rfl⟩ rfl rfl [.ref 18, .int (jn sz)] rfl rfl [some (.ref 18), some (.int (jn sz)), none, none, none, none] rfl rfl (hcl) ?_
              intro M1 ⟨hs1, hs2⟩
              show jZ _ _ _ _ [.int (jb false)] _ _
              refine z_ifne 76 74 c_24_71 rfl jb_t (fun _ => ?_) (fun h => absurd rfl h)
              refine z_go 75 _ [.int (jn 0)] _ c_24_74 rfl ?_
              refine z_zret (b := false) c_24_75 ?_
              rw [show sp_rd tx ln pt (k + 1) (some o) ps sz cs wr (bf, bs, bk, bc, oa, ol) br dp = none by simp [sp_rd, sp_p1, sp_l1, ha, sp_on, hb, hc]]
              exact ⟨rfl, hs1, (same_jm rfl).tr hs2⟩
            | some w =>
              obtain ⟨p3, bf2, bs2, bk2, bc2, oa2, ol2⟩ := w
              rw [hc] at hcl
              refine z_callvV 71 3 37 1 18 c_24_68 rfl ⟨Nat.le_of_ble_eq_true rfl, Nat.le_of_ble_eq_true rfl⟩ rfl rfl [.ref 18, .int (jn sz)] rfl rfl [some (.ref 18), some (.int (jn sz)), none, none, none, none] rfl rfl (hcl) ?_
              intro M1 ⟨hs1, hs2⟩
              obtain ⟨hp3, hI2⟩ := sp_clo_le (by omega) hp2 hI1 hc
              have hs1 : rA M1 tx ln pt p3 (sz + 1) (nu cs sz x) (nu wr sz hy) (bf2, bs2, bk2, bc2, oa2, ol2) br dp := hs1
              have hsm := (same_jm (M := M) (l := [(24, .inl (0, 40, .inl (ja (nu bk bc kd)))), (23, .inl (0, 40, .inl (ja (nu bs bc sz)))), (22, .inl (0, 40, .inl (ja (nu bf bc o)))), (21, .inl (0, 40, .inl (jao (nu wr sz hy)))), (20, .inl (0, 40, .inl (ja (nu cs sz x)))), (18, rO ln p2 pt (sz + 1) (bc + 1) dp)]) rfl).tr hs2
              show jZ _ _ _ _ [.int (jb true)] _ _
              refine z_ifne 76 74 c_24_71 rfl jb_t (fun h => absurd h (by decide)) (fun _ => ?_)
              refine z_go 77 _ [.ref 18] _ c_24_76 rfl ?_
              refine z_go 79 _ [.int (jn sz), .ref 18] _ c_24_77 rfl ?_
              have hpe := t_pe (d := d + 5) (a := sz) hl ht hbr hwr1 hI2 hp3 hdp hs1
              cases hq : sp_pe tx ln br 40 p3 dp sz with
              | none =>
                rw [hq] at hpe
                refine z_callvV 82 3 39 1 18 c_24_79 rfl ⟨Nat.le_of_ble_eq_true rfl, Nat.le_of_ble_eq_true rfl⟩ rfl hs1.1 [.ref 18, .int (jn sz)] rfl rfl [some (.ref 18), some (.int (jn sz)), none, none] rfl rfl (hpe) ?_
                intro M2 ⟨hs3, hs4⟩
                show jZ _ _ _ _ [.int (jo none)] _ _
                refine z_go 83 [some (.ref 18), some (.int (jo none)), some (.int (jn sz)), some (.int (jn (sp_lk (sp_here tx ln ps) pt))), some (.int (jn sz))] [] _ c_24_82 rfl ?_
                refine z_go 84 _ [.int (jo none)] _ c_24_83 rfl ?_
                refine z_go 85 _ [.int (jo none), .int (jo none)] _ c_24_84 rfl ?_
                refine z_ine 90 88 c_24_85 rfl Iff.rfl (fun _ => ?_) (fun h => absurd rfl h)
                refine z_go 89 _ [.int (jn 0)] _ c_24_88 rfl ?_
                refine z_zret (b := false) c_24_89 ?_
                rw [show sp_rd tx ln pt (k + 1) (some o) ps sz cs wr (bf, bs, bk, bc, oa, ol) br dp = none by simp [sp_rd, sp_p1, sp_l1, ha, sp_on, hb, hc, hq]]
                exact ⟨rfl, hs3, hsm.tr hs4⟩
              | some w =>
                obtain ⟨o', p4, dp'⟩ := w
                rw [hq] at hpe
                refine z_callvV 82 3 39 1 18 c_24_79 rfl ⟨Nat.le_of_ble_eq_true rfl, Nat.le_of_ble_eq_true rfl⟩ rfl hs1.1 [.ref 18, .int (jn sz)] rfl rfl [some (.ref 18), some (.int (jn sz)), none, none] rfl rfl (hpe) ?_
                intro M2 ⟨hs3, hs4⟩
                obtain ⟨hp4, hd4, ho4⟩ := sp_pe_le hbr hp3 hdp (by omega) hq
                have hs3 : rA M2 tx ln pt p4 (sz + 1) (nu cs sz x) (nu wr sz hy) (bf2, bs2, bk2, bc2, oa2, ol2) br dp' := hs3
                show jZ _ _ _ _ [.int (jn o')] _ _
                refine z_go 83 [some (.ref 18), some (.int (jn o')), some (.int (jn sz)), some (.int (jn (sp_lk (sp_here tx ln ps) pt))), some (.int (jn sz))] [] _ c_24_82 rfl ?_
                refine z_go 84 _ [.int (jn o')] _ c_24_83 rfl ?_
                refine z_go 85 _ [.int (jo none), .int (jn o')] _ c_24_84 rfl ?_
                refine z_ine 90 88 c_24_85 rfl (jn_m1 (by omega)) (fun h => h.elim) (fun _ => ?_)
                refine z_go 91 _ [.ref 18] _ c_24_90 rfl ?_
                refine z_getf (v := .int (jn p4)) 94 c_24_91 rfl hs3.1 rfl ?_
                refine z_go 95 _ [.ref 18, .int (jn p4)] _ c_24_94 rfl ?_
                refine z_getf (v := .int (jn ln)) 98 c_24_95 rfl hs3.1 rfl ?_
                refine z_ilt 114 101 c_24_98 rfl (by omega) (by omega) (fun h5 => ?_) (fun h5 => ?_)
                · refine z_go 115 _ [.ref 18] _ c_24_114 rfl ?_
                  refine z_go 116 _ [.int (jn o'), .ref 18] _ c_24_115 rfl ?_
                  obtain ⟨hq1, hq2, hq3⟩ := sp_st_le (tx := tx) (o := o') h5 hd4 hbr ho4
                  refine z_callvV 119 3 40 1 18 c_24_116 rfl ⟨Nat.le_of_ble_eq_true rfl, Nat.le_of_ble_eq_true rfl⟩ rfl hs3.1 [.ref 18, .int (jn o')] rfl rfl [some (.ref 18), some (.int (jn o'))] rfl rfl (t_st (d := d + 5) (o := o') hl ht (by omega) hd4 hs3) ?_
                  intro M3 ⟨hs5, hs6⟩
                  show jZ _ _ _ _ [] _ _
                  refine z_iinc 122 [some (.ref 18), some (.int (jn o')), some (.int (jn (sz + 1))), some (.int (jn (sp_lk (sp_here tx ln ps) pt))), some (.int (jn sz))] c_24_119 rfl rfl (jn_add _ _) rfl ?_
                  refine z_go 4 _ [] _ c_24_122 rfl ?_
                  have e1 : sp_rd tx ln pt (k + 1) (some o) ps sz cs wr (bf, bs, bk, bc, oa, ol) br dp = sp_rd tx ln pt k (some o') (sp_st tx ln p4 br dp' o').1 (sz + 1) (nu cs sz x) (nu wr sz hy) (bf2, bs2, bk2, bc2, oa2, ol2) (sp_st tx ln p4 br dp' o').2.1 (sp_st tx ln p4 br dp' o').2.2 := by simp [sp_rd, sp_p1, sp_l1, ha, sp_on, hb, hc, hq, h5]
                  rw [e1]
                  exact (ih (sz := sz + 1) (ow := some o') (by omega) hq1 hq3 hq2 hwr1 (fun k q => by cases q; exact ho4) hs5 hI2 (((hsm.tr hs4).tr hs6).jc hj)).mono fun r M9 q => jK_sh ((hsm.tr hs4).tr hs6) q
                · refine z_go 102 _ [.ref 18] _ c_24_101 rfl ?_
                  refine z_getf (v := .int (jn dp')) 105 c_24_102 rfl hs3.1 rfl ?_
                  refine z_ifne 112 108 c_24_105 rfl (jn_z (by omega)) (fun h6 => ?_) (fun h6 => ?_)
                  · refine z_go 109 _ [.int (jn 1)] _ c_24_108 rfl ?_
                    refine z_go 113 _ [.int (jn 1)] _ c_24_109 rfl ?_
                    refine z_zret (b := true) c_24_113 ?_
                    rw [show sp_rd tx ln pt (k + 1) (some o) ps sz cs wr (bf, bs, bk, bc, oa, ol) br dp = some (sz + 1, nu cs sz x, nu wr sz hy, (bf2, bs2, bk2, bc2, oa2, ol2)) by simp [sp_rd, sp_p1, sp_l1, ha, sp_on, hb, hc, hq, h5, h6]]
                    exact ⟨rfl, ⟨p4, br, dp', hs3, hbr, hwr1, hI2⟩, hsm.tr hs4⟩
                  · refine z_go 113 _ [.int (jn 0)] _ c_24_112 rfl ?_
                    refine z_zret (b := false) c_24_113 ?_
                    rw [show sp_rd tx ln pt (k + 1) (some o) ps sz cs wr (bf, bs, bk, bc, oa, ol) br dp = none by simp [sp_rd, sp_p1, sp_l1, ha, sp_on, hb, hc, hq, h5, h6]]
                    exact ⟨rfl, ⟨_, _, _, _, _, _, _, _, _, _, hs3, ht, hbr, hwr1, hI2⟩, hsm.tr hs4⟩
      · omega
theorem t_rdall {d ln : Nat} {pt : Bool} {tx cs br : Nat → Nat} {wr : Nat → Option Nat} {M : jx_M} {bf bs bk ol : Nat → Nat} {bc : Nat} {oa : Nat → Option Nat} (hl : ln ≤ 40) (ht : ∀ j, tx j < 128) (hbr : ∀ j, br j < 40) (hwr : ∀ j k, wr j = some k → k < 100) (hR : rA M tx ln pt 0 0 cs wr (bf, bs, bk, bc, oa, ol) br 0) (hI : cbI (bf, bs, bk, bc, oa, ol)) (hj : jc M) : jZ (d + 7) 24 0 [some (.ref 18), none, none, none, none] [] M (jK M (rQ tx ln pt) (sp_rd tx ln pt 40 none 0 0 cs wr (bf, bs, bk, bc, oa, ol) br 0)) := by
  refine z_go 1 _ [.int (jo none)] _ c_24_0 rfl ?_
  refine z_go 2 [some (.ref 18), some (.int (jo none)), none, none, none] [] _ c_24_1 rfl ?_
  refine z_go 3 _ [.int (jn 0)] _ c_24_2 rfl ?_
  refine z_go 4 [some (.ref 18), some (.int (jo none)), some (.int (jn 0)), none, none] [] _ c_24_3 rfl ?_
  exact t_rd_l (ow := none) hl ht (by omega) (by omega) (by omega) hbr hwr (fun k q => by cases q) hR hI hj
