/-! CLASS AND REFERENCE: recover, remove; printed by wip/whole/p81.py -/
section SR
variable {L : Nat} {xs : Nat → Int32} {M : jx_M} {q th d : Nat}
theorem jn_z0 : jn 0 = 0 := rfl
theorem ids_b {sz li : Nat} {ids : Nat → Nat} {G : Nat → GR} {ids' szs : Nat → Nat} {E : Nat → MA} {al : Nat → Nat} (h : rSf sz li ids G ids' szs E al) (hl : li ≤ 1000) : ∀ s, s < sz → ids s < 2 ^ 31 := fun s hs => by have := (h.2.1 s hs).2.1; omega
/-- a call of the class that changes it, then one of the reference -/
theorem two_of {v : Int32} {D m m' : Nat} {args args' : jx_L} {ty hc tf : Nat} {dn : Bool} {QC : jx_M → Prop} {R : jx_M → Prop} {w : MW} {ln at_ n : Nat} {gd : Bool} (h92 : M.1 92 = mW w ln at_ n gd) (h1 : jZ D m 0 args [] M (jV (some (.int v)) QC)) (hq : ∀ M1, QC M1 → fX M M1 ∧ (∃ ty hc tf dn, M1.1 16 = xO ty hc tf dn) ∧ jZ D m' 0 args' [] M1 (jV (some (.int v)) R)) : two v M D m args m' args' R := by
  refine h1.mono fun r M1 e => ⟨e.1, ?_⟩
  obtain ⟨a, b, c⟩ := hq M1 e.2
  exact ⟨c, b, a.1 0 (by decide), w, ln, at_, n, gd, (a.1 92 (by decide)).trans h92⟩
theorem S_rec (h : rT L xs M (q + 1) th) : ∃ v, two v M (d + 20) 54 [some (.ref 16), none] 106 [some (.ref 92)] (fun M2 => rT L xs M2 q 0) := by
  obtain ⟨ty, tx, hc, hit, tf, dn, p, sz, li, ids, G, mk, rm, id, Z, lg, li2, dn2, ss, ids', szs, E, al, S, sb, fnd, ⟨hI, hJ, h0, ho, hb⟩, ht, hh, htf, hli, hsf, hlg⟩ := h
  have hbb := ids_b hsf (by omega)
  cases dn with
  | false => exact ⟨-1, S_same hI hJ h0 ho hb ht hh htf hli hsf hlg (t_recD hI.1.1) (t_mrecD hJ)⟩
  | true =>
    have hJ0 := hJ
    obtain ⟨⟨at_, n, gd, A, bm, bk, oa, ol, H⟩, -⟩ := hJ0
    obtain ⟨hc0, hl3⟩ := hlg
    subst hc0
    have fin : ∀ {M1 : jx_M} {v : Int32} {p' : Nat → Nat} {sz' li' : Nat} {ids9 : Nat → Nat} {G' : Nat → GR} {QM : jx_M → Prop}, cS M1 ty 0 tf false p' sz' li' ids9 G' false false 0 Z → fC M M1 → (∀ M2, QM M2 → ∃ lg2 li3 dn3 ids8 szs8 E8 al8, mI M2 (0, sz', li', tf, false, 0, li3, dn3, ss, 0) tx ty ids8 szs8 E8 al8 S sb fnd ∧ rSf sz' li' ids9 G' ids8 szs8 E8 al8 ∧ li' ≤ li + 1 ∧ lg2 = 0) → (mI M1 (th, sz, li, tf, true, lg, li2, dn2, ss, 0) tx ty ids' szs E al S sb fnd → jZ (d + 20) 106 0 [some (.ref 92)] [] M1 (jV (some (.int v)) fun M2 => QM M2 ∧ sm 92 118 M1 M2)) → fX M M1 ∧ (∃ ty hc tf dn, M1.1 16 = xO ty hc tf dn) ∧ jZ (d + 20) 106 0 [some (.ref 92)] [] M1 (jV (some (.int v)) fun M2 => rT L xs M2 q 0) := by
      intro M1 v p' sz' li' ids9 G' QM hcS hfC hQ hm
      have hf1 := fX_C hfC
      have hI1 := cI_C hI hfC hcS
      refine ⟨hf1, ⟨_, _, _, _, hcS.1⟩, (hm (mI_fr hJ fun k a b => hf1.1 k (by omega))).mono fun r2 M2 e2 => ⟨e2.1, ?_⟩⟩
      obtain ⟨lg2, li3, dn3, ids8, szs8, E8, al8, k1, k2, k3, k4⟩ := hQ M2 e2.2.1
      obtain ⟨g1, g2, g3⟩ := fr_two hf1 e2.2.2 h0 ho hb
      exact ⟨ty, tx, 0, hit, tf, false, p', sz', li', ids9, G', false, false, 0, Z, 0, li3, dn3, ss, ids8, szs8, E8, al8, S, sb, fnd, ⟨cI_fr hI1 fun k hk => e2.2.2.1 k (by omega), k1, g1, g2, g3⟩, ht, hh, htf, by omega, k2, rfl, rfl⟩
    rcases hl3 with ⟨rfl, rfl⟩ | ⟨rfl, rfl, rfl, rfl, hx⟩ | ⟨rfl, rfl, rfl, rfl, hx⟩
    · exact ⟨jn 0, two_of (ty := 0) (hc := 0) (tf := 0) (dn := false) H.1 (t_rec0 (d := d + 17) hI.1 hsf.1) fun M1 e => fin e.1 e.2 (fun M2 k => ⟨0, _, _, _, _, _, _, k, hsf, by omega, rfl⟩) (fun hJ1 => t_mrec0 hJ1)⟩
    · rcases hx with ⟨rfl, hz, he, hg⟩ | ⟨rfl, go, hgo⟩
      · have hnew : sp_sl ids (jn id) sz 0 = none := sl_new (by omega) fun s hs => by have := (hsf.2.1 s (by omega)).2.1; omega
        refine ⟨jn 1, two_of (ty := 0) (hc := 0) (tf := 0) (dn := false) H.1 (t_recP (d := d + 17) hI.1 hsf.1 hnew hz) fun M1 e => fin e.1 e.2 (QM := fun M2 => ∃ E' al', mI M2 (0, sz + 1, id, tf, false, 0, id, false, ss, 0) tx ty (nu ids' sz id) (nu szs sz ss) E' al' S sb fnd ∧ (∀ t, t < ss → E' (10 * sz + t) = S t) ∧ (∀ t u, t < ss → u < ss → al' (100 * sz + 10 * t + u) = sb (10 * t + u)) ∧ ∀ s, s ≠ sz → rowE E' al' s E al s) (fun M2 k => ?_) (fun hJ1 => (t_mrecP (d := d + 18) hJ1 hg.2.1 hz).mono fun r M2 y => ⟨y.1, y.2.1, y.2.2⟩)⟩
        obtain ⟨E', al', k1, k2, k3, k4⟩ := k
        refine ⟨0, _, _, _, _, _, _, k1, ?_, by omega, rfl⟩
        subst he
        exact rSf_put hsf hz hg k2 k3 k4
      · exact ⟨jn 1, two_of (ty := 0) (hc := 0) (tf := 0) (dn := false) H.1 (t_recN2 (d := d + 17) hI.1 hsf.1 hgo) fun M1 e => fin e.1 e.2 (fun M2 k => ⟨0, _, _, _, _, _, _, k, hsf, by omega, rfl⟩) (fun hJ1 => t_mrecN1 hJ1)⟩
    · rcases hx with ⟨rfl, go, hgo⟩ | ⟨rfl, hgo⟩
      · have hgo' : sp_sl ids' (jn id) sz 0 = some go := by rw [← sl_ext (ids := ids) fun s hs => (hsf.2.1 s (by omega)).1]; exact hgo
        have hgz := (sp_sl_some hgo).2.1
        refine ⟨jn 1, two_of (ty := 0) (hc := 0) (tf := 0) (dn := false) H.1 (t_recT (d := d + 17) hI.1 hsf.1 hgo) fun M1 e => fin e.1 e.2 (QM := fun M2 => ∃ ids9 szs9 E9 al9, mI M2 (0, sz - 1, li, tf, false, 0, id, false, ss, 0) tx ty ids9 szs9 E9 al9 S sb fnd ∧ (∀ s, go ≤ s → s < sz - 1 → ids9 s = ids' (s + 1) ∧ szs9 s = szs (s + 1) ∧ rowE E9 al9 s E al (s + 1)) ∧ ∀ s, s < go → ids9 s = ids' s ∧ szs9 s = szs s ∧ rowE E9 al9 s E al s) (fun M2 k => ?_) (fun hJ1 => (t_mrecR (d := d + 18) hJ1 hsf.1 hgo').mono fun r M2 y => ⟨y.1, y.2.1, y.2.2⟩)⟩
        obtain ⟨ids9, szs9, E9, al9, k1, k2, k3⟩ := k
        exact ⟨0, _, _, _, _, _, _, k1, rSf_take hsf (by omega) k2 k3, by omega, rfl⟩
      · exact ⟨jn 1, two_of (ty := 0) (hc := 0) (tf := 0) (dn := false) H.1 (t_recN1 (d := d + 17) hI.1 hsf.1 hgo) fun M1 e => fin e.1 e.2 (fun M2 k => ⟨0, _, _, _, _, _, _, k, hsf, by omega, rfl⟩) (fun hJ1 => t_mrecN2 hJ1)⟩
/-- a call through a helper, and the reference's: a code, an answer -/
def hcall (L : Nat) (xs : Nat → Int32) (M : jx_M) (D mh : Nat) (hargs : jx_L) (mm : Nat) (margs : jx_L) (q : Nat) : Prop := ∃ (k : Nat) (v b : Int32), k < 6 ∧ (k = 0 → v = b) ∧ jZ D mh 0 hargs [] M (jV (some (.int (jn k))) fun M1 => (∃ w ln at_ n gd, M1.1 92 = mW w ln at_ n gd) ∧ M1.1 0 = M.1 0 ∧ jZ D mm 0 margs [] M1 (jV (some (.int b)) fun M2 => rT L xs M2 q k ∧ (k = 0 → ∃ f, M2.1 119 = .inl (3, 1, .inr (.inl f)) ∧ f 0 = v.toInt64)))
/-- behind a throw: the class is as it was, the reference has its code -/
theorem hcall_T {D mh : Nat} {hargs : jx_L} {mm : Nat} {margs : jx_L} {c k : Nat} {b : Int32} (hk : 0 < k ∧ k < 6) {ty : Nat} {tx : Nat → Nat} {hc : Nat} {hit : Nat → Nat} {tf : Nat} {dn : Bool} {p : Nat → Nat} {sz li : Nat} {ids : Nat → Nat} {G : Nat → GR} {mk rm : Bool} {id : Nat} {Z : GR} {lg li2 : Nat} {dn2 : Bool} {ss : Nat} {ids' szs : Nat → Nat} {E : Nat → MA} {al : Nat → Nat} {S : Nat → MA} {sb fnd : Nat → Nat} {at_ n : Nat} {gd : Bool} {A : Nat → MA} {bm bk : Nat → Nat} {oa : Nat → Option Nat} {ol : Nat → Nat}
  (H : mRd M (th, sz, li, tf, dn, lg, li2, dn2, ss, hc) tx ty at_ n gd A bm bk oa ol) (hK : mKp M ids' szs E al) (hS : mSt M S sb) (hX : mXs M) (h118 : M.1 118 = .inl (0, 12, .inl (ja fnd))) (h0 : M.1 0 = .inl (9, L, .inl xs)) (ho : ∃ f, M.1 119 = .inl (3, 1, .inr (.inl f))) (hb : jBud M (q + 1)) (ht : ty ≤ 40 ∧ ∀ j, tx j < 127) (hh : hc ≤ 12 ∧ ∀ j, j < hc → hit j = fnd j) (htf : tf ≤ 4) (hli : li + (q + 1) ≤ 1000) (hsf : rSf sz li ids G ids' szs E al) (hlg : rLg dn hc sz li ids mk rm id Z lg li2 dn2 ss S sb)
  (h1 : jZ D mh 0 hargs [] M (jV (some (.int (jn k))) fun M' => ∃ M1, (cI M1 ty tx hc hit tf dn p sz li ids G mk rm id Z ∧ fX M M1) ∧ M' = jth c M1))
  (h2 : ∀ M', mRd M' (th, sz, li, tf, dn, lg, li2, dn2, ss, hc) tx ty at_ n gd A bm bk oa ol → mKp M' ids' szs E al → mSt M' S sb → mXs M' → M'.1 118 = .inl (0, 12, .inl (ja fnd)) → jZ D mm 0 margs [] M' (jV (some (.int b)) fun M2 => mI M2 (k, sz, li, tf, dn, lg, li2, dn2, ss, hc) tx ty ids' szs E al S sb fnd ∧ sm 92 118 M' M2)) : hcall L xs M D mh hargs mm margs q := by
  refine ⟨k, 0, b, hk.2, fun e => by omega, h1.mono fun r M' e => ⟨e.1, ?_⟩⟩
  obtain ⟨M1, ⟨hI1, hf1⟩, rfl⟩ := e.2
  obtain ⟨hb1, hb2, hb3⟩ := hb
  have h120 : 120 ≤ M1.2.1 := by rw [hf1.2]; exact hb1
  have hfr : ∀ j, j < 120 → j < 16 ∨ 91 < j → (jth c M1).1 j = M.1 j := fun j hj a => (jth_fr (by omega)).trans (hf1.1 j a)
  refine ⟨⟨_, _, _, _, _, (hfr 92 (by decide) (by decide)).trans H.1⟩, hfr 0 (by decide) (by decide), ?_⟩
  refine (h2 _ (mRd_fr H fun j a b => hfr j (by omega) (by omega)) (mKp_fr hK fun j a b => hfr j (by omega) (by omega)) (mSt_fr hS fun j a b => hfr j (by omega) (by omega)) (mXs_fr hX fun j a b => hfr j (by omega) (by omega)) ((hfr 118 (by decide) (by decide)).trans h118)).mono fun r2 M2 e2 => ⟨e2.1, ?_, fun e => by omega⟩
  obtain ⟨f, hf⟩ := ho
  have hbud : jBud (jth c M1) q := jth_bud (by unfold jBud; rw [hf1.2]; exact ⟨hb1, hb2, hb3⟩)
  exact ⟨ty, tx, hc, hit, tf, dn, p, sz, li, ids, G, mk, rm, id, Z, lg, li2, dn2, ss, ids', szs, E, al, S, sb, fnd, ⟨cI_fr hI1 fun j hj => (e2.2.2.1 j (by omega)).trans (jth_fr (by omega)), e2.2.1, ((e2.2.2.1 0 (by decide)).trans (hfr 0 (by decide) (by decide))).trans h0, ⟨f, ((e2.2.2.1 119 (by decide)).trans (hfr 119 (by decide) (by decide))).trans hf⟩, by unfold jBud; rw [e2.2.2.2]; exact hbud⟩, ht, hh, htf, by omega, hsf, hlg⟩
/-- behind an answer -/
theorem hcall_R {D mh : Nat} {hargs : jx_L} {mm : Nat} {margs : jx_L} {v : Int32} {QC : jx_M → Prop} (h0 : M.1 0 = .inl (9, L, .inl xs)) {w : MW} {ln at_ n : Nat} {gd : Bool} (h92 : M.1 92 = mW w ln at_ n gd) (ho : ∃ f, M.1 119 = .inl (3, 1, .inr (.inl f))) (hQf : ∀ M1, QC M1 → fX M M1)
  (h1 : jZ D mh 0 hargs [] M (jV (some (.int (jn 0))) fun M' => ∃ M1, QC M1 ∧ (∃ g, M'.1 119 = .inl (3, 1, .inr (.inl g)) ∧ g 0 = v.toInt64) ∧ (∀ k, k ≠ 119 → M'.1 k = M1.1 k) ∧ M'.2 = M1.2))
  (h2 : ∀ M1 M', QC M1 → (∀ k, k ≠ 119 → M'.1 k = M1.1 k) → M'.2 = M1.2 → (∃ f, M'.1 119 = .inl (3, 1, .inr (.inl f))) → jZ D mm 0 margs [] M' (jV (some (.int v)) fun M2 => rT L xs M2 q 0 ∧ M2.1 119 = M'.1 119)) : hcall L xs M D mh hargs mm margs q := by
  refine ⟨0, v, v, by decide, fun _ => rfl, h1.mono fun r M' e => ⟨e.1, ?_⟩⟩
  obtain ⟨M1, hQ, ⟨g, hg1, hg2⟩, hfr, h22⟩ := e.2
  have hf := hQf M1 hQ
  refine ⟨⟨_, _, _, _, _, ((hfr 92 (by decide)).trans (hf.1 92 (by decide))).trans h92⟩, (hfr 0 (by decide)).trans (hf.1 0 (by decide)), (h2 M1 M' hQ hfr h22 ⟨g, hg1⟩).mono fun r2 M2 e2 => ⟨e2.1, e2.2.1, fun _ => ⟨g, e2.2.2.trans hg1, hg2⟩⟩⟩
theorem S_rem (h : rT L xs M (q + 1) th) {x : Int32} : hcall L xs M (d + 20) 120 [some (.ref 16), some (.int x), some (.ref 119), none] 104 [some (.ref 92), some (.int x)] q := by
  obtain ⟨ty, tx, hc, hit, tf, dn, p, sz, li, ids, G, mk, rm, id, Z, lg, li2, dn2, ss, ids', szs, E, al, S, sb, fnd, ⟨hI, hJ, h0, ho, hb⟩, ht, hh, htf, hli, hsf, hlg⟩ := h
  have hbb := ids_b hsf (by omega)
  have hB : jB1 M := ⟨by have := hb.2.1; omega, by have := hb.2.2; omega⟩
  have hJ0 := hJ
  obtain ⟨⟨at_, n, gd, A, bm, bk, oa, ol, H⟩, hK, hS, hX, h118, hal, hsb⟩ := hJ0
  cases dn with
  | true => exact hcall_T (c := 7) (k := 1) (b := jn 0) (by decide) H hK hS hX h118 h0 ho hb ht hh htf hli hsf hlg (t_hT120_7 (d := d + 19) hI.1.1 (t_rem7 (d := d + 18) hI hB)) (fun M' H' hK' hS' hX' h118' => t_mremD (d := d + 19) ⟨mSh_of H', hK', hS', hX', h118', hal, hsb⟩)
  | false =>
    have hmk := hlg.1
    subst hmk
    cases hgo : sp_sl ids x sz 0 with
    | none =>
      have hgo' : sp_sl ids' x sz 0 = none := by rw [← sl_ext (ids := ids) fun s hs => (hsf.2.1 s (by omega)).1]; exact hgo
      refine hcall_R (v := jn 0) h0 H.1 ho (fun M1 k => k.2) (t_hR120 (d := d + 19) hI.1.1 (t_rem0 (d := d + 18) hI hsf.1 hgo) (fun M1 k => ⟨_, (k.2.1 119 (by decide)).trans ho.choose_spec⟩)) (fun M1 M' k hfr h22 ho' => ?_)
      have hJ1 := mI_fr hJ (M1 := M') fun j a b => (hfr j (by omega)).trans (k.2.1 j (by omega))
      refine (t_mrem0 (d := d + 19) hJ1 hsf.1 hgo').mono fun r M2 e2 => ⟨e2.1, ?_, e2.2.2.1 119 (by decide)⟩
      have hI2 := cI_fr k.1 (M1 := M2) fun j hj => (e2.2.2.1 j (by omega)).trans (hfr j (by omega))
      exact ⟨ty, tx, hc, hit, tf, false, p, sz, li, ids, G, false, rm, id, Z, lg, li2, dn2, ss, ids', szs, E, al, S, sb, fnd, ⟨hI2, e2.2.1, (((e2.2.2.1 0 (by decide)).trans (hfr 0 (by decide))).trans (k.2.1 0 (by decide))).trans h0, ho'.imp fun f hf => (e2.2.2.1 119 (by decide)).trans hf, by unfold jBud at *; rw [e2.2.2.2, h22, k.2.2]; omega⟩, ht, hh, htf, by omega, hsf, hlg⟩
    | some go =>
      obtain ⟨-, hgz, hgx⟩ := sp_sl_some hgo
      subst hgx
      have hie : ids go = ids' go := (hsf.2.1 go (by omega)).1
      have hgo' : sp_sl ids' (jn (ids' go)) sz 0 = some go := by rw [← hie, ← sl_ext (ids := ids) fun s hs => (hsf.2.1 s (by omega)).1]; exact hgo
      have htf5 : tf = 0 ∨ tf = 1 ∨ tf = 2 ∨ tf = 3 ∨ tf = 4 := by omega
      rcases htf5 with rfl | rfl | rfl | rfl | rfl
      · refine hcall_R (v := (jn 1)) h0 H.1 ho (fun M1 k => k.2) (t_hR120 (d := d + 19) hI.1.1 (t_remN0 (d := d + 15) hI hsf.1 hgo) (fun M1 k => ⟨_, (k.2.1 119 (by decide)).trans ho.choose_spec⟩)) (fun M1 M' k hfr h22 ho' => ?_)
        have hJ1 := mI_fr hJ (M1 := M') fun j a b => (hfr j (by omega)).trans (k.2.1 j (by omega))
        have hm := t_mremN0 (d := d + 17) (go := go) hJ1 hsf.1 hgo'
        rw [← hie] at hm
        refine hm.mono fun r M2 e2 => ⟨e2.1, ?_, e2.2.2.1 119 (by decide)⟩
        have hI2 := cI_fr k.1 (M1 := M2) fun j hj => (e2.2.2.1 j (by omega)).trans (hfr j (by omega))
        have hcl : M2.1 0 = .inl (9, L, .inl xs) ∧ (∃ f, M2.1 119 = .inl (3, 1, .inr (.inl f))) ∧ jBud M2 q := ⟨(((e2.2.2.1 0 (by decide)).trans (hfr 0 (by decide))).trans (k.2.1 0 (by decide))).trans h0, ho'.imp fun f hf => (e2.2.2.1 119 (by decide)).trans hf, by unfold jBud at *; rw [e2.2.2.2, h22, k.2.2]; omega⟩
        obtain ⟨ids9, szs9, E9, al9, k1, k2, k3⟩ := e2.2.1
        exact ⟨ty, tx, 0, hit, 0, false, (sp_tk p go sz), (sz - 1), li, (sp_sh ids go (sz - 1)), (sp_tk G go sz), false, false, 0, Z, 0, (ids go), true, ss, ids9, szs9, E9, al9, S, sb, fnd, ⟨hI2, k1, hcl⟩, ht, ⟨by decide, fun j hj => by omega⟩, by decide, by omega, rSf_take hsf (by omega) k2 k3, ⟨rfl, rfl⟩⟩
      · refine hcall_R (v := (-2)) h0 H.1 ho (fun M1 k => k.2) (t_hR120 (d := d + 19) hI.1.1 (t_remN1 (d := d + 15) hI hsf.1 hgo) (fun M1 k => ⟨_, (k.2.1 119 (by decide)).trans ho.choose_spec⟩)) (fun M1 M' k hfr h22 ho' => ?_)
        have hJ1 := mI_fr hJ (M1 := M') fun j a b => (hfr j (by omega)).trans (k.2.1 j (by omega))
        have hm := t_mremN1 (d := d + 17) (go := go) hJ1 hsf.1 hgo'
        rw [← hie] at hm
        refine hm.mono fun r M2 e2 => ⟨e2.1, ?_, e2.2.2.1 119 (by decide)⟩
        have hI2 := cI_fr k.1 (M1 := M2) fun j hj => (e2.2.2.1 j (by omega)).trans (hfr j (by omega))
        have hcl : M2.1 0 = .inl (9, L, .inl xs) ∧ (∃ f, M2.1 119 = .inl (3, 1, .inr (.inl f))) ∧ jBud M2 q := ⟨(((e2.2.2.1 0 (by decide)).trans (hfr 0 (by decide))).trans (k.2.1 0 (by decide))).trans h0, ho'.imp fun f hf => (e2.2.2.1 119 (by decide)).trans hf, by unfold jBud at *; rw [e2.2.2.2, h22, k.2.2]; omega⟩
        exact ⟨ty, tx, 0, hit, 0, true, p, sz, li, ids, G, false, rm, id, Z, 0, li2, dn2, ss, ids', szs, E, al, S, sb, fnd, ⟨hI2, e2.2.1, hcl⟩, ht, ⟨by decide, fun j hj => by omega⟩, by decide, by omega, hsf, ⟨rfl, Or.inl ⟨rfl, rfl⟩⟩⟩
      · refine hcall_R (v := (-2)) h0 H.1 ho (fun M1 k => k.2) (t_hR120 (d := d + 19) hI.1.1 (t_remN2 (d := d + 15) hI hsf.1 hgo) (fun M1 k => ⟨_, (k.2.1 119 (by decide)).trans ho.choose_spec⟩)) (fun M1 M' k hfr h22 ho' => ?_)
        have hJ1 := mI_fr hJ (M1 := M') fun j a b => (hfr j (by omega)).trans (k.2.1 j (by omega))
        have hm := t_mremN2 (d := d + 17) (go := go) hJ1 hsf.1 hgo'
        rw [← hie] at hm
        refine hm.mono fun r M2 e2 => ⟨e2.1, ?_, e2.2.2.1 119 (by decide)⟩
        have hI2 := cI_fr k.1 (M1 := M2) fun j hj => (e2.2.2.1 j (by omega)).trans (hfr j (by omega))
        have hcl : M2.1 0 = .inl (9, L, .inl xs) ∧ (∃ f, M2.1 119 = .inl (3, 1, .inr (.inl f))) ∧ jBud M2 q := ⟨(((e2.2.2.1 0 (by decide)).trans (hfr 0 (by decide))).trans (k.2.1 0 (by decide))).trans h0, ho'.imp fun f hf => (e2.2.2.1 119 (by decide)).trans hf, by unfold jBud at *; rw [e2.2.2.2, h22, k.2.2]; omega⟩
        exact ⟨ty, tx, 0, hit, 0, true, p, sz, li, ids, G, false, true, (ids go), Z, 0, li2, dn2, ss, ids', szs, E, al, S, sb, fnd, ⟨hI2, e2.2.1, hcl⟩, ht, ⟨by decide, fun j hj => by omega⟩, by decide, by omega, hsf, ⟨rfl, Or.inl ⟨rfl, rfl⟩⟩⟩
      · refine hcall_R (v := (-2)) h0 H.1 ho (fun M1 k => k.2) (t_hR120 (d := d + 19) hI.1.1 (t_remN3 (d := d + 15) hI hsf.1 hgo) (fun M1 k => ⟨_, (k.2.1 119 (by decide)).trans ho.choose_spec⟩)) (fun M1 M' k hfr h22 ho' => ?_)
        have hJ1 := mI_fr hJ (M1 := M') fun j a b => (hfr j (by omega)).trans (k.2.1 j (by omega))
        have hm := t_mremN3 (d := d + 17) (go := go) hJ1 hsf.1 hgo'
        rw [← hie] at hm
        refine hm.mono fun r M2 e2 => ⟨e2.1, ?_, e2.2.2.1 119 (by decide)⟩
        have hI2 := cI_fr k.1 (M1 := M2) fun j hj => (e2.2.2.1 j (by omega)).trans (hfr j (by omega))
        have hcl : M2.1 0 = .inl (9, L, .inl xs) ∧ (∃ f, M2.1 119 = .inl (3, 1, .inr (.inl f))) ∧ jBud M2 q := ⟨(((e2.2.2.1 0 (by decide)).trans (hfr 0 (by decide))).trans (k.2.1 0 (by decide))).trans h0, ho'.imp fun f hf => (e2.2.2.1 119 (by decide)).trans hf, by unfold jBud at *; rw [e2.2.2.2, h22, k.2.2]; omega⟩
        exact ⟨ty, tx, 0, hit, 0, true, p, sz, li, ids, G, true, true, (ids go), Z, 2, (ids go), false, ss, ids', szs, E, al, S, sb, fnd, ⟨hI2, e2.2.1, hcl⟩, ht, ⟨by decide, fun j hj => by omega⟩, by decide, by omega, hsf, ⟨rfl, Or.inr (Or.inr ⟨rfl, rfl, rfl, rfl, Or.inl ⟨rfl, go, hgo⟩⟩)⟩⟩
      · refine hcall_R (v := (-2)) h0 H.1 ho (fun M1 k => k.2) (t_hR120 (d := d + 19) hI.1.1 (t_remN4 (d := d + 15) hI hsf.1 hgo) (fun M1 k => ⟨_, (k.2.1 119 (by decide)).trans ho.choose_spec⟩)) (fun M1 M' k hfr h22 ho' => ?_)
        have hJ1 := mI_fr hJ (M1 := M') fun j a b => (hfr j (by omega)).trans (k.2.1 j (by omega))
        have hm := t_mremN4 (d := d + 17) (go := go) hJ1 hsf.1 hgo'
        rw [← hie] at hm
        refine hm.mono fun r M2 e2 => ⟨e2.1, ?_, e2.2.2.1 119 (by decide)⟩
        have hI2 := cI_fr k.1 (M1 := M2) fun j hj => (e2.2.2.1 j (by omega)).trans (hfr j (by omega))
        have hcl : M2.1 0 = .inl (9, L, .inl xs) ∧ (∃ f, M2.1 119 = .inl (3, 1, .inr (.inl f))) ∧ jBud M2 q := ⟨(((e2.2.2.1 0 (by decide)).trans (hfr 0 (by decide))).trans (k.2.1 0 (by decide))).trans h0, ho'.imp fun f hf => (e2.2.2.1 119 (by decide)).trans hf, by unfold jBud at *; rw [e2.2.2.2, h22, k.2.2]; omega⟩
        obtain ⟨ids9, szs9, E9, al9, k1, k2, k3⟩ := e2.2.1
        exact ⟨ty, tx, 0, hit, 0, true, (sp_tk p go sz), (sz - 1), li, (sp_sh ids go (sz - 1)), (sp_tk G go sz), true, true, (ids go), Z, 2, (ids go), true, ss, ids9, szs9, E9, al9, S, sb, fnd, ⟨hI2, k1, hcl⟩, ht, ⟨by decide, fun j hj => by omega⟩, by decide, by omega, rSf_take hsf (by omega) k2 k3, ⟨rfl, Or.inr (Or.inr ⟨rfl, rfl, rfl, rfl, Or.inr ⟨rfl, sl_gone hsf.2.2.1 hbb (by omega)⟩⟩)⟩⟩
end SR
