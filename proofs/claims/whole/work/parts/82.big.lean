/-! CLASS AND REFERENCE: register, lookup, search; printed by wip/whole/p82.py -/
section SB
variable {L : Nat} {xs : Nat → Int32} {M : jx_M} {q th d : Nat}
theorem ans_eq {sz li : Nat} {ids : Nat → Nat} {G : Nat → GR} {ids' szs : Nat → Nat} {E : Nat → MA} {al : Nat → Nat} (hsf : rSf sz li ids G ids' szs E al) {n : Nat} {A : Nat → MA} {bm : Nat → Nat} {X : GR} (hX : gAt X n A (fun i j => bm (40 * i + j))) : sp_first (fun s => sSame X (G s)) sz 0 = sp_first (mPM true n A bm szs E al) sz 0 := first_ext fun s hs => same_rel hX (hsf.2.2.2 s (by omega)) rfl
theorem S_loo (h : rT L xs M (q + 1) th) : hcall L xs M (d + 20) 118 [some (.ref 16), some (.ref 119), none] 101 [some (.ref 92), none, none] q := by
  obtain ⟨ty, tx, hc, hit, tf, dn, p, sz, li, ids, G, mk, rm, id, Z, lg, li2, dn2, ss, ids', szs, E, al, S, sb, fnd, ⟨hI, hJ, h0, ho, hb⟩, ht, hh, htf, hli, hsf, hlg⟩ := h
  have hbb := ids_b hsf (by omega)
  have hB : jB1 M := ⟨by have := hb.2.1; omega, by have := hb.2.2; omega⟩
  have hJ0 := hJ
  obtain ⟨⟨at_, n, gd, A, bm, bk, oa, ol, H⟩, hK, hS, hX, h118, hal, hsb⟩ := hJ0
  cases dn with
  | true => exact hcall_T (c := 7) (k := 1) (b := jn 0) (by decide) H hK hS hX h118 h0 ho hb ht hh htf hli hsf hlg (t_hT118_7 (d := d + 19) hI.1.1 (t_loo7 (d := d + 17) hI hB)) (fun M' H' hK' hS' hX' h118' => t_mlooD (d := d + 12) H' hK' hS' hX' h118' hal hsb ht.1 ht.2)
  | false =>
    cases hm : sm_rd tx ty false 40 none 0 0 A bm (sp_none oa 10) ol bk 0 with
    | none => exact hcall_T (c := 8) (k := 2) (b := jn 0) (by decide) H hK hS hX h118 h0 ho hb ht hh htf hli hsf hlg (t_hT118_8 (d := d + 19) hI.1.1 (t_loo8 (d := d + 6) hI ht.1 ht.2 hB A bm oa ol bk hm)) (fun M' H' hK' hS' hX' h118' => t_mloo1 (d := d + 12) H' hK' hS' hX' h118' hal hsb ht.1 ht.2 hm)
    | some y =>
      obtain ⟨n2, A2, bm2⟩ := y
      by_cases hn : n2 ≤ 10
      · cases hgd : sm_good n2 A2 bm2 with
        | false => exact hcall_T (c := 10) (k := 4) (b := jn 0) (by decide) H hK hS hX h118 h0 ho hb ht hh htf hli hsf hlg (t_hT118_10 (d := d + 19) hI.1.1 (t_loo10 (d := d + 6) hI ht.1 ht.2 hB A bm oa ol bk hm hn hgd)) (fun M' H' hK' hS' hX' h118' => t_mloo3 (d := d + 12) H' hK' hS' hX' h118' hal hsb ht.1 ht.2 hm hn hgd)
        | true =>
          have hcl := t_lookup (d := d + 5) hI ht.1 ht.2 hB A bm oa ol bk hm hn hgd hsf.1 (fun s hs => (gAt_ok (hsf.2.2.2 s hs)).2)
          cases hs : sp_first (mPM true n2 (sm_vl bm2 n2 n2 0 true A2).2 bm2 szs E al) sz 0 with
          | none =>
            have hcl : jZ (d + 19) 66 0 [some (.ref 16)] [] M (jV (some (.int (jn 0))) fun M1 => (∀ j, j < n2 → okM ((sm_vl bm2 n2 n2 0 true A2).2 j)) ∧ cI M1 0 tx hc hit tf false p sz li ids G mk rm id Z ∧ fX M M1) := hcl.mono fun r M1 ⟨X, ⟨hgx, hox, h4⟩, hr, hI1, hf1⟩ => ⟨hr.trans (by rw [ans_eq hsf (gAt_of hgx hox h4), hs]), hox, hI1, hf1⟩
            refine hcall_R (v := jn 0) h0 H.1 ho (fun M1 k => k.2.2) (t_hR118 (d := d + 19) hI.1.1 hcl (fun M1 k => ⟨_, (k.2.2.1 119 (by decide)).trans ho.choose_spec⟩)) (fun M1 M' k hfr h22 ho' => ?_)
            obtain ⟨hox, hI1, hf1⟩ := k
            have hw : ∀ j, 92 ≤ j → j ≤ 118 → M'.1 j = M.1 j := fun j a b => (hfr j (by omega)).trans (hf1.1 j (by omega))
            have hmd := t_mloo (d := d + 12) (mRd_fr H fun j a b => hw j (by omega) (by omega)) (mKp_fr hK fun j a b => hw j (by omega) (by omega)) (mSt_fr hS fun j a b => hw j (by omega) (by omega)) (mXs_fr hX fun j a b => hw j (by omega) (by omega)) ((hw 118 (by decide) (by decide)).trans h118) hal hsb ht.1 ht.2 hm hn hgd hsf.1 (rows_ok hsf) hox
            rw [hs] at hmd
            refine hmd.mono fun r M2 e2 => ⟨e2.1, ?_, e2.2.2.1 119 (by decide)⟩
            have hI2 := cI_fr hI1 (M1 := M2) fun j hj => (e2.2.2.1 j (by omega)).trans (hfr j (by omega))
            exact ⟨0, tx, hc, hit, tf, false, p, sz, li, ids, G, mk, rm, id, Z, lg, li2, dn2, ss, ids', szs, E, al, S, sb, fnd, ⟨hI2, e2.2.1, ⟨(((e2.2.2.1 0 (by decide)).trans (hfr 0 (by decide))).trans (hf1.1 0 (by decide))).trans h0, ho'.imp fun f hf => (e2.2.2.1 119 (by decide)).trans hf, by unfold jBud at *; rw [e2.2.2.2, h22, hf1.2]; omega⟩⟩, ⟨by decide, ht.2⟩, hh, htf, by omega, hsf, hlg⟩
          | some s0 =>
            have hs0 : s0 < sz := by have := (sp_first_lt hs).2.1; omega
            have hie := (hsf.2.1 s0 hs0).1
            have hcl : jZ (d + 19) 66 0 [some (.ref 16)] [] M (jV (some (.int (jn (ids s0)))) fun M1 => (∀ j, j < n2 → okM ((sm_vl bm2 n2 n2 0 true A2).2 j)) ∧ cI M1 0 tx hc hit tf false p sz li ids G mk rm id Z ∧ fX M M1) := hcl.mono fun r M1 ⟨X, ⟨hgx, hox, h4⟩, hr, hI1, hf1⟩ => ⟨hr.trans (by rw [ans_eq hsf (gAt_of hgx hox h4), hs]), hox, hI1, hf1⟩
            refine hcall_R (v := jn (ids s0)) h0 H.1 ho (fun M1 k => k.2.2) (t_hR118 (d := d + 19) hI.1.1 hcl (fun M1 k => ⟨_, (k.2.2.1 119 (by decide)).trans ho.choose_spec⟩)) (fun M1 M' k hfr h22 ho' => ?_)
            obtain ⟨hox, hI1, hf1⟩ := k
            have hw : ∀ j, 92 ≤ j → j ≤ 118 → M'.1 j = M.1 j := fun j a b => (hfr j (by omega)).trans (hf1.1 j (by omega))
            have hmd := t_mloo (d := d + 12) (mRd_fr H fun j a b => hw j (by omega) (by omega)) (mKp_fr hK fun j a b => hw j (by omega) (by omega)) (mSt_fr hS fun j a b => hw j (by omega) (by omega)) (mXs_fr hX fun j a b => hw j (by omega) (by omega)) ((hw 118 (by decide) (by decide)).trans h118) hal hsb ht.1 ht.2 hm hn hgd hsf.1 (rows_ok hsf) hox
            rw [hs] at hmd
            refine hmd.mono fun r M2 e2 => ⟨e2.1.trans (congrArg (fun t => (Sum.inl (some (Value.int (jn t))) : jx_R)) hie.symm), ?_, e2.2.2.1 119 (by decide)⟩
            have hI2 := cI_fr hI1 (M1 := M2) fun j hj => (e2.2.2.1 j (by omega)).trans (hfr j (by omega))
            exact ⟨0, tx, hc, hit, tf, false, p, sz, li, ids, G, mk, rm, id, Z, lg, li2, dn2, ss, ids', szs, E, al, S, sb, fnd, ⟨hI2, e2.2.1, ⟨(((e2.2.2.1 0 (by decide)).trans (hfr 0 (by decide))).trans (hf1.1 0 (by decide))).trans h0, ho'.imp fun f hf => (e2.2.2.1 119 (by decide)).trans hf, by unfold jBud at *; rw [e2.2.2.2, h22, hf1.2]; omega⟩⟩, ⟨by decide, ht.2⟩, hh, htf, by omega, hsf, hlg⟩
      · have hn : 10 < n2 := by omega
        exact hcall_T (c := 9) (k := 3) (b := jn 0) (by decide) H hK hS hX h118 h0 ho hb ht hh htf hli hsf hlg (t_hT118_9 (d := d + 19) hI.1.1 (t_loo9 (d := d + 6) hI ht.1 ht.2 hB A bm oa ol bk hm hn)) (fun M' H' hK' hS' hX' h118' => t_mloo2 (d := d + 12) H' hK' hS' hX' h118' hal hsb ht.1 ht.2 hm hn)
theorem S_sea (h : rT L xs M (q + 1) th) : hcall L xs M (d + 20) 119 [some (.ref 16), some (.ref 119), none] 102 [some (.ref 92), none] q := by
  obtain ⟨ty, tx, hc, hit, tf, dn, p, sz, li, ids, G, mk, rm, id, Z, lg, li2, dn2, ss, ids', szs, E, al, S, sb, fnd, ⟨hI, hJ, h0, ho, hb⟩, ht, hh, htf, hli, hsf, hlg⟩ := h
  have hbb := ids_b hsf (by omega)
  have hB : jB1 M := ⟨by have := hb.2.1; omega, by have := hb.2.2; omega⟩
  have hJ0 := hJ
  obtain ⟨⟨at_, n, gd, A, bm, bk, oa, ol, H⟩, hK, hS, hX, h118, hal, hsb⟩ := hJ0
  cases dn with
  | true => exact hcall_T (c := 7) (k := 1) (b := jn 0) (by decide) H hK hS hX h118 h0 ho hb ht hh htf hli hsf hlg (t_hT119_7 (d := d + 19) hI.1.1 (t_sea7 (d := d + 17) hI hB)) (fun M' H' hK' hS' hX' h118' => t_mseaD (d := d + 12) H' hK' hS' hX' h118' hal hsb ht.1 ht.2)
  | false =>
    cases hm : sm_rd tx ty true 40 none 0 0 A bm (sp_none oa 10) ol bk 0 with
    | none => exact hcall_T (c := 8) (k := 2) (b := jn 0) (by decide) H hK hS hX h118 h0 ho hb ht hh htf hli hsf hlg (t_hT119_8 (d := d + 19) hI.1.1 (t_sea8 (d := d + 6) hI ht.1 ht.2 hB A bm oa ol bk hm)) (fun M' H' hK' hS' hX' h118' => t_msea1 (d := d + 12) H' hK' hS' hX' h118' hal hsb ht.1 ht.2 hm)
    | some y =>
      obtain ⟨n2, A2, bm2⟩ := y
      by_cases hn : n2 ≤ 10
      · have hcl := t_search (d := d + 6) hI ht.1 ht.2 hB A bm oa ol bk hm hn hsf.1 (fun s hs => (gAt_ok (hsf.2.2.2 s hs)).2)
        have hcl : jZ (d + 19) 67 0 [some (.ref 16), none] [] M (jV (some (.int (jn (sp_hits (mPM false n2 A2 bm2 szs E al) ids' sz 0 (0, fnd)).1))) fun M1 => (∃ hit', (∀ j, j < (sp_hits (mPM false n2 A2 bm2 szs E al) ids' sz 0 (0, fnd)).1 → hit' j = (sp_hits (mPM false n2 A2 bm2 szs E al) ids' sz 0 (0, fnd)).2 j) ∧ cI M1 0 tx (sp_hits (mPM false n2 A2 bm2 szs E al) ids' sz 0 (0, fnd)).1 hit' tf false p sz li ids G mk rm id Z) ∧ fX M M1) := by
          refine hcl.mono fun r M1 k => ?_
          obtain ⟨X, ⟨hgx, hok⟩, hr, hI1, hf1⟩ := k
          obtain ⟨x1, x2, x3⟩ := hits_ext (p := fun s => sIn X (G s)) (q := mPM false n2 A2 bm2 szs E al) (ids := ids) (ids' := ids') (k := sz) (i := 0) (H := (0, hit)) (H' := (0, fnd)) (fun s hs => ⟨in_rel hgx hok (hsf.2.2.2 s (by omega)) rfl, (hsf.2.1 s (by omega)).1⟩) rfl (fun j hj => by exact absurd hj (Nat.not_lt_zero j)) (Nat.le_refl _)
          rw [x1] at hr hI1 x2
          exact ⟨hr, ⟨_, x2, hI1⟩, hf1⟩
        have hle : (sp_hits (mPM false n2 A2 bm2 szs E al) ids' sz 0 (0, fnd)).1 ≤ 12 := by
          have := (hits_ext (p := mPM false n2 A2 bm2 szs E al) (q := mPM false n2 A2 bm2 szs E al) (ids := ids') (ids' := ids') (k := sz) (i := 0) (H := (0, fnd)) (H' := (0, fnd)) (fun s hs => ⟨rfl, rfl⟩) rfl (fun j hj => rfl) (Nat.le_refl _)).2.2
          have := hsf.1
          omega
        refine hcall_R (v := jn (sp_hits (mPM false n2 A2 bm2 szs E al) ids' sz 0 (0, fnd)).1) h0 H.1 ho (fun M1 k => k.2) (t_hR119 (d := d + 19) hI.1.1 hcl (fun M1 k => ⟨_, (k.2.1 119 (by decide)).trans ho.choose_spec⟩)) (fun M1 M' k hfr h22 ho' => ?_)
        obtain ⟨⟨hit', hh2, hI1⟩, hf1⟩ := k
        have hw : ∀ j, 92 ≤ j → j ≤ 118 → M'.1 j = M.1 j := fun j a b => (hfr j (by omega)).trans (hf1.1 j (by omega))
        refine (t_msea0 (d := d + 12) (mRd_fr H fun j a b => hw j (by omega) (by omega)) (mKp_fr hK fun j a b => hw j (by omega) (by omega)) (mSt_fr hS fun j a b => hw j (by omega) (by omega)) (mXs_fr hX fun j a b => hw j (by omega) (by omega)) ((hw 118 (by decide) (by decide)).trans h118) hal hsb ht.1 ht.2 hm hn hsf.1 (rows_ok hsf)).mono fun r M2 e2 => ⟨e2.1, ?_, e2.2.2.1 119 (by decide)⟩
        have hI2 := cI_fr hI1 (M1 := M2) fun j hj => (e2.2.2.1 j (by omega)).trans (hfr j (by omega))
        exact ⟨0, tx, _, hit', tf, false, p, sz, li, ids, G, mk, rm, id, Z, lg, li2, dn2, ss, ids', szs, E, al, S, sb, _, ⟨hI2, e2.2.1, ⟨(((e2.2.2.1 0 (by decide)).trans (hfr 0 (by decide))).trans (hf1.1 0 (by decide))).trans h0, ho'.imp fun f hf => (e2.2.2.1 119 (by decide)).trans hf, by unfold jBud at *; rw [e2.2.2.2, h22, hf1.2]; omega⟩⟩, ⟨by decide, ht.2⟩, ⟨hle, hh2⟩, htf, by omega, hsf, hlg⟩
      · have hn : 10 < n2 := by omega
        exact hcall_T (c := 9) (k := 3) (b := jn 0) (by decide) H hK hS hX h118 h0 ho hb ht hh htf hli hsf hlg (t_hT119_9 (d := d + 19) hI.1.1 (t_sea9 (d := d + 6) hI ht.1 ht.2 hB A bm oa ol bk hm hn)) (fun M' H' hK' hS' hX' h118' => t_msea2 (d := d + 12) H' hK' hS' hX' h118' hal hsb ht.1 ht.2 hm hn)
theorem S_reg (h : rT L xs M (q + 1) th) : hcall L xs M (d + 20) 117 [some (.ref 16), some (.ref 119), none] 73 [some (.ref 92), none, none, none] q := by
  obtain ⟨ty, tx, hc, hit, tf, dn, p, sz, li, ids, G, mk, rm, id, Z, lg, li2, dn2, ss, ids', szs, E, al, S, sb, fnd, ⟨hI, hJ, h0, ho, hb⟩, ht, hh, htf, hli, hsf, hlg⟩ := h
  have hbb := ids_b hsf (by omega)
  have hB : jB1 M := ⟨by have := hb.2.1; omega, by have := hb.2.2; omega⟩
  have hJ0 := hJ
  obtain ⟨⟨at_, n, gd, A, bm, bk, oa, ol, H⟩, hK, hS, hX, h118, hal, hsb⟩ := hJ0
  cases dn with
  | true => exact hcall_T (c := 7) (k := 1) (b := jn 0) (by decide) H hK hS hX h118 h0 ho hb ht hh htf hli hsf hlg (t_hT117_7 (d := d + 19) hI.1.1 (t_reg7 (d := d + 17) hI hB)) (fun M' H' hK' hS' hX' h118' => t_mregD (d := d + 12) H' hK' hS' hX' h118' hal hsb ht.1 ht.2)
  | false =>
    cases hm : sm_rd tx ty false 40 none 0 0 A bm (sp_none oa 10) ol bk 0 with
    | none => exact hcall_T (c := 8) (k := 2) (b := jn 0) (by decide) H hK hS hX h118 h0 ho hb ht hh htf hli hsf hlg (t_hT117_8 (d := d + 19) hI.1.1 (t_reg8 (d := d + 6) hI ht.1 ht.2 hB A bm oa ol bk hm)) (fun M' H' hK' hS' hX' h118' => t_mreg1 (d := d + 12) H' hK' hS' hX' h118' hal hsb ht.1 ht.2 hm)
    | some y =>
      obtain ⟨n2, A2, bm2⟩ := y
      by_cases hn : n2 ≤ 10
      · cases hgd : sm_good n2 A2 bm2 with
        | false => exact hcall_T (c := 10) (k := 4) (b := jn 0) (by decide) H hK hS hX h118 h0 ho hb ht hh htf hli hsf hlg (t_hT117_10 (d := d + 19) hI.1.1 (t_reg10 (d := d + 6) hI ht.1 ht.2 hB A bm oa ol bk hm hn hgd)) (fun M' H' hK' hS' hX' h118' => t_mreg3 (d := d + 12) H' hK' hS' hX' h118' hal hsb ht.1 ht.2 hm hn hgd)
        | true =>
          have hmk := hlg.1
          subst hmk
          cases hs : sp_first (mPM true n2 (sm_vl bm2 n2 n2 0 true A2).2 bm2 szs E al) sz 0 with
          | some s0 =>
            have hs0 : s0 < sz := by have := (sp_first_lt hs).2.1; omega
            have hie := (hsf.2.1 s0 hs0).1
            have hi1 := (hsf.2.1 s0 hs0).2.2
            have hcl : jZ (d + 19) 61 0 [some (.ref 16), none, none] [] M (jV (some (.int (jn (ids s0)))) fun M1 => (∀ j, j < n2 → okM ((sm_vl bm2 n2 n2 0 true A2).2 j)) ∧ cI M1 0 tx hc hit tf false p sz li ids G false rm id Z ∧ fX M M1) := by
              refine t_reg_pre (d := d + 5) hI ht.1 ht.2 hB A bm oa ol bk hm hn hgd hsf.1 (fun s hs => (gAt_ok (hsf.2.2.2 s hs)).2) (fun X M2 hGA hX2 hI2 hf2 => ?_)
              rw [ans_eq hsf (gAt_of hGA.1 hGA.2.1 hGA.2.2), hs]
              exact (t_regF hI2 (by omega) (hbb s0 hs0)).mono fun r M1 k => ⟨k.1, hGA.2.1, k.2.1, hf2.tr k.2.2⟩
            refine hcall_R (v := jn (ids s0)) h0 H.1 ho (fun M1 k => k.2.2) (t_hR117 (d := d + 19) hI.1.1 hcl (fun M1 k => ⟨_, (k.2.2.1 119 (by decide)).trans ho.choose_spec⟩)) (fun M1 M' k hfr h22 ho' => ?_)
            obtain ⟨hox, hI1, hf1⟩ := k
            have hw : ∀ j, 92 ≤ j → j ≤ 118 → M'.1 j = M.1 j := fun j a b => (hfr j (by omega)).trans (hf1.1 j (by omega))
            have hmd := t_mregF (d := d + 12) (mRd_fr H fun j a b => hw j (by omega) (by omega)) (mKp_fr hK fun j a b => hw j (by omega) (by omega)) (mSt_fr hS fun j a b => hw j (by omega) (by omega)) (mXs_fr hX fun j a b => hw j (by omega) (by omega)) ((hw 118 (by decide) (by decide)).trans h118) hal hsb ht.1 ht.2 hm hn hgd hsf.1 (rows_ok hsf) hox hs
            rw [← hie] at hmd
            refine hmd.mono fun r M2 e2 => ⟨e2.1, ?_, e2.2.2.1 119 (by decide)⟩
            have hI2 := cI_fr hI1 (M1 := M2) fun j hj => (e2.2.2.1 j (by omega)).trans (hfr j (by omega))
            exact ⟨0, tx, hc, hit, tf, false, p, sz, li, ids, G, false, rm, id, Z, lg, li2, dn2, ss, ids', szs, E, al, S, sb, fnd, ⟨hI2, e2.2.1, ⟨(((e2.2.2.1 0 (by decide)).trans (hfr 0 (by decide))).trans (hf1.1 0 (by decide))).trans h0, ho'.imp fun f hf => (e2.2.2.1 119 (by decide)).trans hf, by unfold jBud at *; rw [e2.2.2.2, h22, hf1.2]; omega⟩⟩, ⟨by decide, ht.2⟩, hh, htf, by omega, hsf, hlg⟩
          | none =>
            by_cases hu : sz < 12
            · have hnew : sp_sl ids (jn (li + 1)) sz 0 = none := sl_new (by omega) fun s hs => by have := (hsf.2.1 s (by omega)).2.1; omega
              have htf5 : tf = 0 ∨ tf = 1 ∨ tf = 2 ∨ tf = 3 ∨ tf = 4 := by omega
              rcases htf5 with rfl | rfl | rfl | rfl | rfl
              · have hcl : jZ (d + 19) 61 0 [some (.ref 16), none, none] [] M (jV (some (.int (jn (li + 1)))) fun M1 => (∃ X, gAt X n2 (sm_vl bm2 n2 n2 0 true A2).2 (fun i j => bm2 (40 * i + j)) ∧ cI M1 0 tx 0 hit 0 false p (sz + 1) (li + 1) (nu ids sz (li + 1)) (nu G sz X) false false 0 X) ∧ (∀ j, j < n2 → okM ((sm_vl bm2 n2 n2 0 true A2).2 j)) ∧ fX M M1) := by
                  refine t_reg_pre (d := d + 5) hI ht.1 ht.2 hB A bm oa ol bk hm hn hgd hsf.1 (fun s hs => (gAt_ok (hsf.2.2.2 s hs)).2) (fun X M2 hGA hX2 hI2 hf2 => ?_)
                  have hgt := gAt_of hGA.1 hGA.2.1 hGA.2.2
                  rw [ans_eq hsf hgt, hs]
                  exact (t_regN0 (d := d + 15) hI2 hu (by omega) hX2 hnew).mono fun r M1 k => ⟨k.1, ⟨X, hgt, k.2.1⟩, hGA.2.1, hf2.tr k.2.2⟩
                refine hcall_R (v := (jn (li + 1))) h0 H.1 ho (fun M1 k => k.2.2) (t_hR117 (d := d + 19) hI.1.1 hcl (fun M1 k => ⟨_, (k.2.2.1 119 (by decide)).trans ho.choose_spec⟩)) (fun M1 M' k hfr h22 ho' => ?_)
                obtain ⟨⟨X, hgt, hI1⟩, hox, hf1⟩ := k
                have hw : ∀ j, 92 ≤ j → j ≤ 118 → M'.1 j = M.1 j := fun j a b => (hfr j (by omega)).trans (hf1.1 j (by omega))
                refine (t_mregN0 (d := d + 12) (mRd_fr H fun j a b => hw j (by omega) (by omega)) (mKp_fr hK fun j a b => hw j (by omega) (by omega)) (mSt_fr hS fun j a b => hw j (by omega) (by omega)) (mXs_fr hX fun j a b => hw j (by omega) (by omega)) ((hw 118 (by decide) (by decide)).trans h118) hal hsb ht.1 ht.2 hm hn hgd hsf.1 (rows_ok hsf) hox hs hu (by omega)).mono fun r M2 e2 => ⟨e2.1, ?_, e2.2.2.1 119 (by decide)⟩
                have hI2 := cI_fr hI1 (M1 := M2) fun j hj => (e2.2.2.1 j (by omega)).trans (hfr j (by omega))
                obtain ⟨S', sb', z1, z2, E', al', k1, k2, k3, k4⟩ := e2.2.1
                have hgs : gAt X n2 S' (fun i j => sb' (10 * i + j)) := gAt_ext hgt z1 z2
                exact ⟨0, tx, 0, hit, 0, false, p, (sz + 1), (li + 1), (nu ids sz (li + 1)), (nu G sz X), false, false, 0, X, 0, (li + 1), true, n2, (nu ids' sz (li + 1)), (nu szs sz n2), E', al', S', sb', fnd, ⟨hI2, k1, ⟨(((e2.2.2.1 0 (by decide)).trans (hfr 0 (by decide))).trans (hf1.1 0 (by decide))).trans h0, ho'.imp fun f hf => (e2.2.2.1 119 (by decide)).trans hf, by unfold jBud at *; rw [e2.2.2.2, h22, hf1.2]; omega⟩⟩, ⟨by decide, ht.2⟩, ⟨by decide, fun j hj => by omega⟩, by decide, by omega, rSf_put hsf hu hgs k2 k3 k4, ⟨rfl, rfl⟩⟩
              · have hcl : jZ (d + 19) 61 0 [some (.ref 16), none, none] [] M (jV (some (.int (-2))) fun M1 => (∃ X, gAt X n2 (sm_vl bm2 n2 n2 0 true A2).2 (fun i j => bm2 (40 * i + j)) ∧ cI M1 0 tx 0 hit 0 true p sz li ids G false rm id Z) ∧ (∀ j, j < n2 → okM ((sm_vl bm2 n2 n2 0 true A2).2 j)) ∧ fX M M1) := by
                  refine t_reg_pre (d := d + 5) hI ht.1 ht.2 hB A bm oa ol bk hm hn hgd hsf.1 (fun s hs => (gAt_ok (hsf.2.2.2 s hs)).2) (fun X M2 hGA hX2 hI2 hf2 => ?_)
                  have hgt := gAt_of hGA.1 hGA.2.1 hGA.2.2
                  rw [ans_eq hsf hgt, hs]
                  exact (t_regN1 (d := d + 15) hI2 hu (by omega) hX2 hnew).mono fun r M1 k => ⟨k.1, ⟨X, hgt, k.2.1⟩, hGA.2.1, hf2.tr k.2.2⟩
                refine hcall_R (v := (-2)) h0 H.1 ho (fun M1 k => k.2.2) (t_hR117 (d := d + 19) hI.1.1 hcl (fun M1 k => ⟨_, (k.2.2.1 119 (by decide)).trans ho.choose_spec⟩)) (fun M1 M' k hfr h22 ho' => ?_)
                obtain ⟨⟨X, hgt, hI1⟩, hox, hf1⟩ := k
                have hw : ∀ j, 92 ≤ j → j ≤ 118 → M'.1 j = M.1 j := fun j a b => (hfr j (by omega)).trans (hf1.1 j (by omega))
                refine (t_mregN1 (d := d + 12) (mRd_fr H fun j a b => hw j (by omega) (by omega)) (mKp_fr hK fun j a b => hw j (by omega) (by omega)) (mSt_fr hS fun j a b => hw j (by omega) (by omega)) (mXs_fr hX fun j a b => hw j (by omega) (by omega)) ((hw 118 (by decide) (by decide)).trans h118) hal hsb ht.1 ht.2 hm hn hgd hsf.1 (rows_ok hsf) hox hs hu (by omega)).mono fun r M2 e2 => ⟨e2.1, ?_, e2.2.2.1 119 (by decide)⟩
                have hI2 := cI_fr hI1 (M1 := M2) fun j hj => (e2.2.2.1 j (by omega)).trans (hfr j (by omega))
                obtain ⟨S', sb', z1, z2, k1⟩ := e2.2.1
                have hgs : gAt X n2 S' (fun i j => sb' (10 * i + j)) := gAt_ext hgt z1 z2
                exact ⟨0, tx, 0, hit, 0, true, p, sz, li, ids, G, false, rm, id, Z, 0, li2, dn2, n2, ids', szs, E, al, S', sb', fnd, ⟨hI2, k1, ⟨(((e2.2.2.1 0 (by decide)).trans (hfr 0 (by decide))).trans (hf1.1 0 (by decide))).trans h0, ho'.imp fun f hf => (e2.2.2.1 119 (by decide)).trans hf, by unfold jBud at *; rw [e2.2.2.2, h22, hf1.2]; omega⟩⟩, ⟨by decide, ht.2⟩, ⟨by decide, fun j hj => by omega⟩, by decide, by omega, hsf, ⟨rfl, Or.inl ⟨rfl, rfl⟩⟩⟩
              · have hcl : jZ (d + 19) 61 0 [some (.ref 16), none, none] [] M (jV (some (.int (-2))) fun M1 => (∃ X, gAt X n2 (sm_vl bm2 n2 n2 0 true A2).2 (fun i j => bm2 (40 * i + j)) ∧ cI M1 0 tx 0 hit 0 true p sz li ids G false false (li + 1) X) ∧ (∀ j, j < n2 → okM ((sm_vl bm2 n2 n2 0 true A2).2 j)) ∧ fX M M1) := by
                  refine t_reg_pre (d := d + 5) hI ht.1 ht.2 hB A bm oa ol bk hm hn hgd hsf.1 (fun s hs => (gAt_ok (hsf.2.2.2 s hs)).2) (fun X M2 hGA hX2 hI2 hf2 => ?_)
                  have hgt := gAt_of hGA.1 hGA.2.1 hGA.2.2
                  rw [ans_eq hsf hgt, hs]
                  exact (t_regN2 (d := d + 15) hI2 hu (by omega) hX2 hnew).mono fun r M1 k => ⟨k.1, ⟨X, hgt, k.2.1⟩, hGA.2.1, hf2.tr k.2.2⟩
                refine hcall_R (v := (-2)) h0 H.1 ho (fun M1 k => k.2.2) (t_hR117 (d := d + 19) hI.1.1 hcl (fun M1 k => ⟨_, (k.2.2.1 119 (by decide)).trans ho.choose_spec⟩)) (fun M1 M' k hfr h22 ho' => ?_)
                obtain ⟨⟨X, hgt, hI1⟩, hox, hf1⟩ := k
                have hw : ∀ j, 92 ≤ j → j ≤ 118 → M'.1 j = M.1 j := fun j a b => (hfr j (by omega)).trans (hf1.1 j (by omega))
                refine (t_mregN2 (d := d + 12) (mRd_fr H fun j a b => hw j (by omega) (by omega)) (mKp_fr hK fun j a b => hw j (by omega) (by omega)) (mSt_fr hS fun j a b => hw j (by omega) (by omega)) (mXs_fr hX fun j a b => hw j (by omega) (by omega)) ((hw 118 (by decide) (by decide)).trans h118) hal hsb ht.1 ht.2 hm hn hgd hsf.1 (rows_ok hsf) hox hs hu (by omega)).mono fun r M2 e2 => ⟨e2.1, ?_, e2.2.2.1 119 (by decide)⟩
                have hI2 := cI_fr hI1 (M1 := M2) fun j hj => (e2.2.2.1 j (by omega)).trans (hfr j (by omega))
                obtain ⟨S', sb', z1, z2, k1⟩ := e2.2.1
                have hgs : gAt X n2 S' (fun i j => sb' (10 * i + j)) := gAt_ext hgt z1 z2
                exact ⟨0, tx, 0, hit, 0, true, p, sz, li, ids, G, false, false, (li + 1), X, 0, li2, dn2, n2, ids', szs, E, al, S', sb', fnd, ⟨hI2, k1, ⟨(((e2.2.2.1 0 (by decide)).trans (hfr 0 (by decide))).trans (hf1.1 0 (by decide))).trans h0, ho'.imp fun f hf => (e2.2.2.1 119 (by decide)).trans hf, by unfold jBud at *; rw [e2.2.2.2, h22, hf1.2]; omega⟩⟩, ⟨by decide, ht.2⟩, ⟨by decide, fun j hj => by omega⟩, by decide, by omega, hsf, ⟨rfl, Or.inl ⟨rfl, rfl⟩⟩⟩
              · have hcl : jZ (d + 19) 61 0 [some (.ref 16), none, none] [] M (jV (some (.int (-2))) fun M1 => (∃ X, gAt X n2 (sm_vl bm2 n2 n2 0 true A2).2 (fun i j => bm2 (40 * i + j)) ∧ cI M1 0 tx 0 hit 0 true p sz li ids G true false (li + 1) X) ∧ (∀ j, j < n2 → okM ((sm_vl bm2 n2 n2 0 true A2).2 j)) ∧ fX M M1) := by
                  refine t_reg_pre (d := d + 5) hI ht.1 ht.2 hB A bm oa ol bk hm hn hgd hsf.1 (fun s hs => (gAt_ok (hsf.2.2.2 s hs)).2) (fun X M2 hGA hX2 hI2 hf2 => ?_)
                  have hgt := gAt_of hGA.1 hGA.2.1 hGA.2.2
                  rw [ans_eq hsf hgt, hs]
                  exact (t_regN3 (d := d + 15) hI2 hu (by omega) hX2 hnew).mono fun r M1 k => ⟨k.1, ⟨X, hgt, k.2.1⟩, hGA.2.1, hf2.tr k.2.2⟩
                refine hcall_R (v := (-2)) h0 H.1 ho (fun M1 k => k.2.2) (t_hR117 (d := d + 19) hI.1.1 hcl (fun M1 k => ⟨_, (k.2.2.1 119 (by decide)).trans ho.choose_spec⟩)) (fun M1 M' k hfr h22 ho' => ?_)
                obtain ⟨⟨X, hgt, hI1⟩, hox, hf1⟩ := k
                have hw : ∀ j, 92 ≤ j → j ≤ 118 → M'.1 j = M.1 j := fun j a b => (hfr j (by omega)).trans (hf1.1 j (by omega))
                refine (t_mregN3 (d := d + 12) (mRd_fr H fun j a b => hw j (by omega) (by omega)) (mKp_fr hK fun j a b => hw j (by omega) (by omega)) (mSt_fr hS fun j a b => hw j (by omega) (by omega)) (mXs_fr hX fun j a b => hw j (by omega) (by omega)) ((hw 118 (by decide) (by decide)).trans h118) hal hsb ht.1 ht.2 hm hn hgd hsf.1 (rows_ok hsf) hox hs hu (by omega)).mono fun r M2 e2 => ⟨e2.1, ?_, e2.2.2.1 119 (by decide)⟩
                have hI2 := cI_fr hI1 (M1 := M2) fun j hj => (e2.2.2.1 j (by omega)).trans (hfr j (by omega))
                obtain ⟨S', sb', z1, z2, k1⟩ := e2.2.1
                have hgs : gAt X n2 S' (fun i j => sb' (10 * i + j)) := gAt_ext hgt z1 z2
                exact ⟨0, tx, 0, hit, 0, true, p, sz, li, ids, G, true, false, (li + 1), X, 1, (li + 1), false, n2, ids', szs, E, al, S', sb', fnd, ⟨hI2, k1, ⟨(((e2.2.2.1 0 (by decide)).trans (hfr 0 (by decide))).trans (hf1.1 0 (by decide))).trans h0, ho'.imp fun f hf => (e2.2.2.1 119 (by decide)).trans hf, by unfold jBud at *; rw [e2.2.2.2, h22, hf1.2]; omega⟩⟩, ⟨by decide, ht.2⟩, ⟨by decide, fun j hj => by omega⟩, by decide, by omega, hsf, ⟨rfl, Or.inr (Or.inl ⟨rfl, rfl, rfl, rfl, Or.inl ⟨rfl, hu, rfl, hgs⟩⟩)⟩⟩
              · have hcl : jZ (d + 19) 61 0 [some (.ref 16), none, none] [] M (jV (some (.int (-2))) fun M1 => (∃ X, gAt X n2 (sm_vl bm2 n2 n2 0 true A2).2 (fun i j => bm2 (40 * i + j)) ∧ cI M1 0 tx 0 hit 0 true p (sz + 1) (li + 1) (nu ids sz (li + 1)) (nu G sz X) true false (li + 1) X) ∧ (∀ j, j < n2 → okM ((sm_vl bm2 n2 n2 0 true A2).2 j)) ∧ fX M M1) := by
                  refine t_reg_pre (d := d + 5) hI ht.1 ht.2 hB A bm oa ol bk hm hn hgd hsf.1 (fun s hs => (gAt_ok (hsf.2.2.2 s hs)).2) (fun X M2 hGA hX2 hI2 hf2 => ?_)
                  have hgt := gAt_of hGA.1 hGA.2.1 hGA.2.2
                  rw [ans_eq hsf hgt, hs]
                  exact (t_regN4 (d := d + 15) hI2 hu (by omega) hX2 hnew).mono fun r M1 k => ⟨k.1, ⟨X, hgt, k.2.1⟩, hGA.2.1, hf2.tr k.2.2⟩
                refine hcall_R (v := (-2)) h0 H.1 ho (fun M1 k => k.2.2) (t_hR117 (d := d + 19) hI.1.1 hcl (fun M1 k => ⟨_, (k.2.2.1 119 (by decide)).trans ho.choose_spec⟩)) (fun M1 M' k hfr h22 ho' => ?_)
                obtain ⟨⟨X, hgt, hI1⟩, hox, hf1⟩ := k
                have hw : ∀ j, 92 ≤ j → j ≤ 118 → M'.1 j = M.1 j := fun j a b => (hfr j (by omega)).trans (hf1.1 j (by omega))
                refine (t_mregN4 (d := d + 12) (mRd_fr H fun j a b => hw j (by omega) (by omega)) (mKp_fr hK fun j a b => hw j (by omega) (by omega)) (mSt_fr hS fun j a b => hw j (by omega) (by omega)) (mXs_fr hX fun j a b => hw j (by omega) (by omega)) ((hw 118 (by decide) (by decide)).trans h118) hal hsb ht.1 ht.2 hm hn hgd hsf.1 (rows_ok hsf) hox hs hu (by omega)).mono fun r M2 e2 => ⟨e2.1, ?_, e2.2.2.1 119 (by decide)⟩
                have hI2 := cI_fr hI1 (M1 := M2) fun j hj => (e2.2.2.1 j (by omega)).trans (hfr j (by omega))
                obtain ⟨S', sb', z1, z2, E', al', k1, k2, k3, k4⟩ := e2.2.1
                have hgs : gAt X n2 S' (fun i j => sb' (10 * i + j)) := gAt_ext hgt z1 z2
                exact ⟨0, tx, 0, hit, 0, true, p, (sz + 1), (li + 1), (nu ids sz (li + 1)), (nu G sz X), true, false, (li + 1), X, 1, (li + 1), true, n2, (nu ids' sz (li + 1)), (nu szs sz n2), E', al', S', sb', fnd, ⟨hI2, k1, ⟨(((e2.2.2.1 0 (by decide)).trans (hfr 0 (by decide))).trans (hf1.1 0 (by decide))).trans h0, ho'.imp fun f hf => (e2.2.2.1 119 (by decide)).trans hf, by unfold jBud at *; rw [e2.2.2.2, h22, hf1.2]; omega⟩⟩, ⟨by decide, ht.2⟩, ⟨by decide, fun j hj => by omega⟩, by decide, by omega, rSf_put hsf hu hgs k2 k3 k4, ⟨rfl, Or.inr (Or.inl ⟨rfl, rfl, rfl, rfl, Or.inr ⟨rfl, sl_put (by omega) fun s hs => by have := (hsf.2.1 s hs).2.1; omega⟩⟩)⟩⟩
            · have hu : sz = 12 := by have := hsf.1; omega
              have hcl : jZ (d + 19) 61 0 [some (.ref 16), none, none] [] M (jT 11 fun M1 => (cI M1 ty tx hc hit tf false p sz li ids G false rm id Z ∧ fX M M1) ∧ ∀ j, j < n2 → okM ((sm_vl bm2 n2 n2 0 true A2).2 j)) := by
                refine t_reg_pre (d := d + 5) hI ht.1 ht.2 hB A bm oa ol bk hm hn hgd hsf.1 (fun s hs => (gAt_ok (hsf.2.2.2 s hs)).2) (fun X M2 hGA hX2 hI2 hf2 => ?_)
                rw [ans_eq hsf (gAt_of hGA.1 hGA.2.1 hGA.2.2), hs]
                exact jT_mono (t_regU hI2 (jB1_e hB hf2.2) hsf.1 (by omega)) fun M1 k => ⟨⟨k.1, hf2.tr k.2⟩, hGA.2.1⟩
              have hox : ∀ j, j < n2 → okM ((sm_vl bm2 n2 n2 0 true A2).2 j) := by
                obtain ⟨f9, r9, M9, -, M8, -, -, -, h9⟩ := hcl
                exact h9
              exact hcall_T (c := 11) (k := 5) (b := jn 0) (by decide) H hK hS hX h118 h0 ho hb ht hh htf hli hsf hlg (t_hT117_11 (d := d + 19) hI.1.1 (jT_mono hcl fun M1 k => k.1)) (fun M' H' hK' hS' hX' h118' => t_mregU (d := d + 12) H' hK' hS' hX' h118' hal hsb ht.1 ht.2 hm hn hgd hsf.1 (rows_ok hsf) hox hs hu)
      · have hn : 10 < n2 := by omega
        exact hcall_T (c := 9) (k := 3) (b := jn 0) (by decide) H hK hS hX h118 h0 ho hb ht hh htf hli hsf hlg (t_hT117_9 (d := d + 19) hI.1.1 (t_reg9 (d := d + 6) hI ht.1 ht.2 hB A bm oa ol bk hm hn)) (fun M' H' hK' hS' hX' h118' => t_mreg2 (d := d + 12) H' hK' hS' hX' h118' hal hsb ht.1 ht.2 hm hn)
end SB
