/-! CLASS AND REFERENCE: the calls without a text, one after the other -/
section ST
variable {L : Nat} {xs : Nat → Int32} {M : jx_M} {q th d : Nat}
/-- after a call of the class and one of the reference -/
theorem fr_two {M1 M2 : jx_M} (h1 : fX M M1) (h2 : sm 92 118 M1 M2) (h0 : M.1 0 = .inl (9, L, .inl xs)) (ho : ∃ f, M.1 119 = .inl (3, 1, .inr (.inl f))) (hb : jBud M (q + 1)) : M2.1 0 = .inl (9, L, .inl xs) ∧ (∃ f, M2.1 119 = .inl (3, 1, .inr (.inl f))) ∧ jBud M2 q := by
  obtain ⟨f, hf⟩ := ho
  refine ⟨((h2.1 0 (by decide)).trans (h1.1 0 (by decide))).trans h0, ⟨f, ((h2.1 119 (by decide)).trans (h1.1 119 (by decide))).trans hf⟩, ?_⟩
  unfold jBud at *
  rw [h2.2, h1.2]
  omega
/-- the two calls, with one answer -/
def two (v : Int32) (M : jx_M) (D m : Nat) (args : jx_L) (m' : Nat) (args' : jx_L) (Q : jx_M → Prop) : Prop := jZ D m 0 args [] M (jV (some (.int v)) fun M1 => jZ D m' 0 args' [] M1 (jV (some (.int v)) Q) ∧ (∃ ty hc tf dn, M1.1 16 = xO ty hc tf dn) ∧ M1.1 0 = M.1 0 ∧ ∃ w ln at_ n gd, M1.1 92 = mW w ln at_ n gd)
theorem sp_ap_ok {e : Int64} : ∀ {k : Nat} {T : Nat × (Nat → Nat)}, sp_tok e k = true → (∀ j, T.2 j < 127) → (sp_ap e k T).1 = T.1 + sp_tn e k ∧ ∀ j, (sp_ap e k T).2 j < 127 := by
  intro k
  induction k with
  | zero => intro T _ h; exact ⟨rfl, h⟩
  | succ k ih =>
    intro T h1 h2
    rw [sp_tok, Bool.and_eq_true, decide_eq_true_iff] at h1
    rw [sp_ap, sp_tn]
    by_cases h : bt e (k + 1) = 0
    · rw [if_pos h, if_pos h, Nat.zero_add]
      exact ih h1.2 h2
    · rw [if_neg h, if_neg h]
      have hb : bt e (k + 1) < 127 := by omega
      obtain ⟨a, b⟩ := ih (T := (T.1 + 1, nu T.2 T.1 (bt e (k + 1)))) h1.2 (nu_lt h2 hb)
      exact ⟨by rw [a]; dsimp only; omega, b⟩
theorem sp_ty_ok {e : Int64} {T : Nat × (Nat → Nat)} (h1 : T.1 ≤ 40) (h2 : ∀ j, T.2 j < 127) : (sp_ty e T).2.1 ≤ 40 ∧ ∀ j, (sp_ty e T).2.2 j < 127 := by
  unfold sp_ty
  split
  · rename_i q
    obtain ⟨a, b⟩ := sp_ap_ok (T := T) q.1 h2
    exact ⟨by dsimp only; rw [a]; exact q.2, b⟩
  · exact ⟨h1, h2⟩
theorem cI_17 {M1 : jx_M} {ty ty' : Nat} {tx tx' : Nat → Nat} {hc : Nat} {hit : Nat → Nat} {tf : Nat} {dn : Bool} {p : Nat → Nat} {sz li : Nat} {ids : Nat → Nat} {G : Nat → GR} {mk rm : Bool} {id : Nat} {Z : GR} (h : cI M ty tx hc hit tf dn p sz li ids G mk rm id Z) (hs : sm 16 17 M M1) (h16 : M1.1 16 = xO ty' hc tf dn) (h17 : M1.1 17 = .inl (1, 40, .inl (ja tx'))) : cI M1 ty' tx' hc hit tf dn p sz li ids G mk rm id Z := by
  obtain ⟨⟨h1, h2, h3, h4⟩, h5, h6, ⟨Y, h7⟩, h8, h9, h10, h11⟩ := h
  exact ⟨⟨h16, jsh_fr h2 fun k a b => hs.1 k (by omega), (hs.1 86 (by decide)).trans h3, jgr_fr h4 fun k a b => hs.1 k (by omega)⟩, h17, rSh_fr h6 fun k a b => hs.1 k (by omega), ⟨Y, jgr_fr h7 fun k a b => hs.1 k (by omega)⟩, mt_fr h8 fun k a b => hs.1 k (by omega), (hs.1 91 (by decide)).trans h9, jc_fr h10 fun k a => hs.1 k (by omega), (hs.1 1 (by decide)).trans h11⟩
theorem rLg_same {dn : Bool} {hc sz li : Nat} {ids : Nat → Nat} {mk rm : Bool} {id : Nat} {Z : GR} {lg li2 : Nat} {dn2 : Bool} {ss : Nat} {S : Nat → MA} {sb : Nat → Nat} (h : rLg dn hc sz li ids mk rm id Z lg li2 dn2 ss S sb) (hd : dn = true) : hc = 0 := by
  subst hd
  exact h.1
/-- a call that leaves class and reference as they are, but for the code -/
theorem S_same {v : Int32} {D m m' : Nat} {args args' : jx_L} {ty : Nat} {tx : Nat → Nat} {hc : Nat} {hit : Nat → Nat} {tf : Nat} {dn : Bool} {p : Nat → Nat} {sz li : Nat} {ids : Nat → Nat} {G : Nat → GR} {mk rm : Bool} {id : Nat} {Z : GR} {lg li2 : Nat} {dn2 : Bool} {ss : Nat} {ids' szs : Nat → Nat} {E : Nat → MA} {al : Nat → Nat} {S : Nat → MA} {sb fnd : Nat → Nat}
  (hI : cI M ty tx hc hit tf dn p sz li ids G mk rm id Z) (hJ : mI M (th, sz, li, tf, dn, lg, li2, dn2, ss, hc) tx ty ids' szs E al S sb fnd) (h0 : M.1 0 = .inl (9, L, .inl xs)) (ho : ∃ f, M.1 119 = .inl (3, 1, .inr (.inl f))) (hb : jBud M (q + 1)) (ht : ty ≤ 40 ∧ ∀ j, tx j < 127) (hh : hc ≤ 12 ∧ ∀ j, j < hc → hit j = fnd j) (htf : tf ≤ 4) (hli : li + (q + 1) ≤ 1000) (hsf : rSf sz li ids G ids' szs E al) (hlg : rLg dn hc sz li ids mk rm id Z lg li2 dn2 ss S sb)
  (h1 : jZ D m 0 args [] M (jR (some (.int v)) M)) (h2 : jZ D m' 0 args' [] M (jV (some (.int v)) fun M' => mI M' (0, sz, li, tf, dn, lg, li2, dn2, ss, hc) tx ty ids' szs E al S sb fnd ∧ sm 92 118 M M')) : two v M D m args m' args' (fun M2 => rT L xs M2 q 0) := by
  refine h1.mono fun r M1 e => ⟨e.1, ?_, ?_⟩
  · rw [e.2]
    refine h2.mono fun r2 M2 e2 => ⟨e2.1, ?_⟩
    obtain ⟨g1, g2, g3⟩ := fr_two (fX_r M) e2.2.2 h0 ho hb
    exact ⟨ty, tx, hc, hit, tf, dn, p, sz, li, ids, G, mk, rm, id, Z, lg, li2, dn2, ss, ids', szs, E, al, S, sb, fnd, ⟨cI_fr hI fun k hk => e2.2.2.1 k (by omega), e2.2.1, g1, g2, g3⟩, ht, hh, htf, by omega, hsf, hlg⟩
  · rw [e.2]
    obtain ⟨⟨at_, n, gd, A, bm, bk, oa, ol, H⟩, -⟩ := hJ
    exact ⟨⟨_, _, _, _, hI.1.1⟩, rfl, _, _, _, _, _, H.1⟩
theorem S_type (h : rT L xs M (q + 1) th) {e : Int64} : ∃ v, two v M (d + 20) 48 [some (.ref 16), some (.long e), none, none, none, none] 71 [some (.ref 92), some (.long e), none, none, none, none, none] (fun M2 => rT L xs M2 q 0) := by
  obtain ⟨ty, tx, hc, hit, tf, dn, p, sz, li, ids, G, mk, rm, id, Z, lg, li2, dn2, ss, ids', szs, E, al, S, sb, fnd, ⟨hI, hJ, h0, ho, hb⟩, ht, hh, htf, hli, hsf, hlg⟩ := h
  refine ⟨jb (sp_ty e (ty, tx)).1, (t_type (d := d + 18) hI.1.1 hI.2.1 ht.1).mono fun r M1 e1 => ⟨e1.1, ?_, ?_⟩⟩
  · have hf1 : fX M M1 := fX_m e1.2.2.2 (by decide) (by decide)
    have hI1 := cI_17 hI e1.2.2.2 e1.2.1 e1.2.2.1
    have hJ1 := mI_fr hJ (M1 := M1) fun k a b => hf1.1 k (by omega)
    refine (t_mtype (d := d + 20) (e := e) hJ1 ht.1).mono fun r2 M2 e2 => ⟨e2.1, ?_⟩
    obtain ⟨g1, g2, g3⟩ := fr_two hf1 e2.2.2 h0 ho hb
    exact ⟨_, _, hc, hit, tf, dn, p, sz, li, ids, G, mk, rm, id, Z, lg, li2, dn2, ss, ids', szs, E, al, S, sb, fnd, ⟨cI_fr hI1 fun k hk => e2.2.2.1 k (by omega), e2.2.1, g1, g2, g3⟩, sp_ty_ok (T := (ty, tx)) ht.1 ht.2, hh, htf, by omega, hsf, hlg⟩
  · obtain ⟨⟨at_, n, gd, A, bm, bk, oa, ol, H⟩, -⟩ := hJ
    exact ⟨⟨_, _, _, _, e1.2.1⟩, e1.2.2.2.1 0 (by decide), _, _, _, _, _, (e1.2.2.2.1 92 (by decide)).trans H.1⟩
theorem sp_fd_ext {hc : Nat} {f g : Nat → Nat} {x : Int32} (h : ∀ j, j < hc → f j = g j) (hh : hc ≤ 12) : sp_fd hc f x = sp_fd hc g x := by
  unfold sp_fd
  split
  · rename_i q
    obtain ⟨k, hk, rfl⟩ := jn_nn q.1
    have := (jn_lt hk (by omega)).mp q.2
    rw [jn_cl hk, h k this]
  · rfl
theorem sp_fd_0 {f : Nat → Nat} {x : Int32} : sp_fd 0 f x = 0 := by
  unfold sp_fd
  rw [if_neg (fun q => q.1 q.2)]
theorem S_found (h : rT L xs M (q + 1) th) {x : Int32} : ∃ v, two v M (d + 20) 52 [some (.ref 16), some (.int x)] 103 [some (.ref 92), some (.int x)] (fun M2 => rT L xs M2 q 0) := by
  obtain ⟨ty, tx, hc, hit, tf, dn, p, sz, li, ids, G, mk, rm, id, Z, lg, li2, dn2, ss, ids', szs, E, al, S, sb, fnd, ⟨hI, hJ, h0, ho, hb⟩, ht, hh, htf, hli, hsf, hlg⟩ := h
  refine ⟨sp_fd hc hit x, S_same hI hJ h0 ho hb ht hh htf hli hsf hlg (t_found hI.1.1 hI.2.2.2.2.2.1 hh.1) ?_⟩
  have e : sp_fd hc hit x = if dn = true then 0 else sp_fd hc fnd x := by
    by_cases hd : dn = true
    · rw [if_pos hd, rLg_same hlg hd, sp_fd_0]
    · rw [if_neg hd, sp_fd_ext hh.2 hh.1]
  rw [e]
  exact t_mfound hJ hh.1
theorem S_count (h : rT L xs M (q + 1) th) : ∃ v, two v M (d + 20) 56 [some (.ref 16)] 107 [some (.ref 92)] (fun M2 => rT L xs M2 q 0) := by
  obtain ⟨ty, tx, hc, hit, tf, dn, p, sz, li, ids, G, mk, rm, id, Z, lg, li2, dn2, ss, ids', szs, E, al, S, sb, fnd, ⟨hI, hJ, h0, ho, hb⟩, ht, hh, htf, hli, hsf, hlg⟩ := h
  exact ⟨_, S_same hI hJ h0 ho hb ht hh htf hli hsf hlg (t_count hI.1.1 hI.1.2.1.1) (t_mcount hJ)⟩
theorem vis_ext {dn : Bool} {sz li : Nat} {ids : Nat → Nat} {G : Nat → GR} {ids' szs : Nat → Nat} {E : Nat → MA} {al : Nat → Nat} {x : Int32} (h : rSf sz li ids G ids' szs E al) : sp_vis dn ids x sz = sp_vis dn ids' x sz := by
  unfold sp_vis
  split
  · rfl
  · exact sl_ext fun s hs => (h.2.1 s (by omega)).1
theorem rows_ok {sz li : Nat} {ids : Nat → Nat} {G : Nat → GR} {ids' szs : Nat → Nat} {E : Nat → MA} {al : Nat → Nat} (h : rSf sz li ids G ids' szs E al) : ∀ g, g < sz → szs g ≤ 10 ∧ ∀ k, k < szs g → okM (E (10 * g + k)) := fun g hg => ⟨(h.2.2.2 g hg).2.1, fun k hk => ((h.2.2.2 g hg).2.2.1 k hk).2⟩
theorem S_atoms (h : rT L xs M (q + 1) th) {x : Int32} : ∃ v, two v M (d + 20) 57 [some (.ref 16), some (.int x), none] 108 [some (.ref 92), some (.int x), none] (fun M2 => rT L xs M2 q 0) := by
  obtain ⟨ty, tx, hc, hit, tf, dn, p, sz, li, ids, G, mk, rm, id, Z, lg, li2, dn2, ss, ids', szs, E, al, S, sb, fnd, ⟨hI, hJ, h0, ho, hb⟩, ht, hh, htf, hli, hsf, hlg⟩ := h
  refine ⟨_, S_same hI hJ h0 ho hb ht hh htf hli hsf hlg (t_atoms (d := d + 18) hI.1.1 hI.1.2.1 hsf.1) ?_⟩
  have h2 := t_matoms (d := d + 19) (x := x) hJ hsf.1
  rw [← vis_ext hsf] at h2
  cases hv : sp_vis dn ids x sz with
  | none => rw [hv] at h2; exact h2
  | some g =>
    rw [hv] at h2
    dsimp only at h2 ⊢
    rw [(hsf.2.2.2 g (sp_vis_lt hv)).1]
    exact h2
theorem S_atom (h : rT L xs M (q + 1) th) {x y : Int32} : ∃ v, two v M (d + 20) 59 [some (.ref 16), some (.int x), some (.int y), none] 109 [some (.ref 92), some (.int x), some (.int y), none, none] (fun M2 => rT L xs M2 q 0) := by
  obtain ⟨ty, tx, hc, hit, tf, dn, p, sz, li, ids, G, mk, rm, id, Z, lg, li2, dn2, ss, ids', szs, E, al, S, sb, fnd, ⟨hI, hJ, h0, ho, hb⟩, ht, hh, htf, hli, hsf, hlg⟩ := h
  have hG : ∀ g, g < sz → (G g).1 ≤ 10 := fun g hg => by rw [(hsf.2.2.2 g hg).1]; exact (hsf.2.2.2 g hg).2.1
  refine ⟨_, S_same hI hJ h0 ho hb ht hh htf hli hsf hlg (t_atom_ (d := d + 18) hI.1.1 hI.1.2.1 hsf.1 hG) ?_⟩
  have h2 := t_matom (d := d + 19) (x := x) (y := y) hJ hsf.1 (rows_ok hsf)
  rw [← vis_ext hsf] at h2
  cases hv : sp_vis dn ids x sz with
  | none => rw [hv] at h2; exact h2
  | some g =>
    rw [hv] at h2
    dsimp only at h2 ⊢
    have hg := hsf.2.2.2 g (sp_vis_lt hv)
    rw [hg.1]
    by_cases hy : sp_has y (szs g) = true
    · rw [if_pos hy] at h2 ⊢
      obtain ⟨k, hk, rfl⟩ := sp_has_k (by have := hg.2.1; omega) hy
      have := hg.2.1
      rw [jn_cl (by omega)] at h2 ⊢
      rw [(hg.2.2.1 k hk).1]
      exact h2
    · rw [if_neg hy] at h2 ⊢
      exact h2
theorem S_bond (h : rT L xs M (q + 1) th) {x y z : Int32} : ∃ v, two v M (d + 20) 60 [some (.ref 16), some (.int x), some (.int y), some (.int z), none] 110 [some (.ref 92), some (.int x), some (.int y), some (.int z), none] (fun M2 => rT L xs M2 q 0) := by
  obtain ⟨ty, tx, hc, hit, tf, dn, p, sz, li, ids, G, mk, rm, id, Z, lg, li2, dn2, ss, ids', szs, E, al, S, sb, fnd, ⟨hI, hJ, h0, ho, hb⟩, ht, hh, htf, hli, hsf, hlg⟩ := h
  have hG : ∀ g, g < sz → (G g).1 ≤ 10 := fun g hg => by rw [(hsf.2.2.2 g hg).1]; exact (hsf.2.2.2 g hg).2.1
  refine ⟨_, S_same hI hJ h0 ho hb ht hh htf hli hsf hlg (t_bond_ (d := d + 18) hI.1.1 hI.1.2.1 hsf.1 hG) ?_⟩
  have h2 := t_mbond (d := d + 19) (x := x) (y := y) (z := z) hJ hsf.1 (rows_ok hsf)
  rw [← vis_ext hsf] at h2
  cases hv : sp_vis dn ids x sz with
  | none => rw [hv] at h2; exact h2
  | some g =>
    rw [hv] at h2
    dsimp only at h2 ⊢
    have hg := hsf.2.2.2 g (sp_vis_lt hv)
    rw [hg.1]
    by_cases hy : sp_has y (szs g) = true ∧ sp_has z (szs g) = true
    · rw [if_pos hy] at h2 ⊢
      have h10 := hg.2.1
      obtain ⟨k, hk, rfl⟩ := sp_has_k (by omega) hy.1
      obtain ⟨l, hl, rfl⟩ := sp_has_k (by omega) hy.2
      rw [jn_cl (by omega), jn_cl (by omega)] at h2 ⊢
      rw [(hg.2.2.2.2.1 k l hk hl).1]
      exact h2
    · rw [if_neg hy] at h2 ⊢
      exact h2
/-- wipe: no answers -/
theorem S_wipe (h : rT L xs M (q + 1) th) : jZ (d + 20) 51 0 [some (.ref 16)] [] M (jV none fun M1 => jZ (d + 20) 72 0 [some (.ref 92)] [] M1 (jV none fun M2 => rT L xs M2 q 0) ∧ (∃ w ln at_ n gd, M1.1 92 = mW w ln at_ n gd)) := by
  obtain ⟨ty, tx, hc, hit, tf, dn, p, sz, li, ids, G, mk, rm, id, Z, lg, li2, dn2, ss, ids', szs, E, al, S, sb, fnd, ⟨hI, hJ, h0, ho, hb⟩, ht, hh, htf, hli, hsf, hlg⟩ := h
  refine (t_wipe hI.1.1).mono fun r M1 e1 => ⟨e1.1, ?_, ?_⟩
  · have hs1 : sm 16 16 M M1 := by rw [e1.2]; exact sm_jm rfl
    have h16 : M1.1 16 = xO 0 hc tf dn := by rw [e1.2]; rfl
    have hf1 : fX M M1 := fX_m hs1 (by decide) (by decide)
    have hI1 := cI_16 hI hs1 h16
    have hJ1 := mI_fr hJ (M1 := M1) fun k a b => hf1.1 k (by omega)
    refine (t_mwipe hJ1).mono fun r2 M2 e2 => ⟨e2.1, ?_⟩
    obtain ⟨g1, g2, g3⟩ := fr_two hf1 e2.2.2 h0 ho hb
    exact ⟨0, tx, hc, hit, tf, dn, p, sz, li, ids, G, mk, rm, id, Z, lg, li2, dn2, ss, ids', szs, E, al, S, sb, fnd, ⟨cI_fr hI1 fun k hk => e2.2.2.1 k (by omega), e2.2.1, g1, g2, g3⟩, ⟨by decide, ht.2⟩, hh, htf, by omega, hsf, hlg⟩
  · obtain ⟨⟨at_, n, gd, A, bm, bk, oa, ol, H⟩, -⟩ := hJ
    rw [e1.2]
    exact ⟨_, _, _, _, _, H.1⟩
theorem S_fail (h : rT L xs M (q + 1) th) {x : Int32} : ∃ v, two v M (d + 20) 53 [some (.ref 16), some (.int x)] 105 [some (.ref 92), some (.int x)] (fun M2 => rT L xs M2 q 0) := by
  obtain ⟨ty, tx, hc, hit, tf, dn, p, sz, li, ids, G, mk, rm, id, Z, lg, li2, dn2, ss, ids', szs, E, al, S, sb, fnd, ⟨hI, hJ, h0, ho, hb⟩, ht, hh, htf, hli, hsf, hlg⟩ := h
  refine ⟨jb (sp_fl dn x), (t_fail (x := x) hI.1.1).mono fun r M1 e1 => ⟨e1.1, ?_, ?_⟩⟩
  · have hf1 : fX M M1 := fX_m e1.2.2 (by decide) (by decide)
    have hI1 := cI_16 hI e1.2.2 e1.2.1
    have hJ1 := mI_fr hJ (M1 := M1) fun k a b => hf1.1 k (by omega)
    refine (t_mfail (x := x) hJ1).mono fun r2 M2 e2 => ⟨e2.1, ?_⟩
    obtain ⟨g1, g2, g3⟩ := fr_two hf1 e2.2.2 h0 ho hb
    refine ⟨ty, tx, hc, hit, _, dn, p, sz, li, ids, G, mk, rm, id, Z, lg, li2, dn2, ss, ids', szs, E, al, S, sb, fnd, ⟨cI_fr hI1 fun k hk => e2.2.2.1 k (by omega), e2.2.1, g1, g2, g3⟩, ht, hh, ?_, by omega, hsf, hlg⟩
    split
    · rename_i hx
      have hx := of_decide_eq_true hx
      obtain ⟨k, hk, rfl⟩ := jn_nn hx.2.1
      rw [jn_cl hk]
      have h4 : ¬ 4 < k := fun q => hx.2.2 ((jn_lt (by decide) hk).mpr q)
      omega
    · exact htf
  · obtain ⟨⟨at_, n, gd, A, bm, bk, oa, ol, H⟩, -⟩ := hJ
    exact ⟨⟨_, _, _, _, e1.2.1⟩, e1.2.2.1 0 (by decide), _, _, _, _, _, (e1.2.2.1 92 (by decide)).trans H.1⟩
end ST
