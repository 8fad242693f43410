/-! CLASS AND REFERENCE: what they have in common -/
/-- a graph of the class and atoms and bonds of the reference -/
def gAt (Y : GR) (n : Nat) (F : Nat → MA) (B : Nat → Nat → Nat) : Prop := Y.1 = n ∧ n ≤ 10 ∧ (∀ k, k < n → Y.2.2.1 k = encH (F k) ∧ okM (F k)) ∧ (∀ j, n ≤ j → Y.2.2.1 j = 0) ∧ (∀ i j, i < n → j < n → Y.2.2.2.1 (i * 10 + j) = B i j ∧ B i j ≤ 4) ∧ gN n Y.2.2.2.1 Y.2.2.2.2 ∧ (gEs n Y.2.2.2.1).length = 2 * Y.2.1 ∧ (∀ j, Y.2.2.2.2 j < 1024) ∧ ∀ j, Y.2.2.2.1 j < 6
theorem gAt_ext {Y : GR} {n : Nat} {F F' : Nat → MA} {B B' : Nat → Nat → Nat} (h : gAt Y n F B) (h1 : ∀ k, k < n → F' k = F k) (h2 : ∀ i j, i < n → j < n → B' i j = B i j) : gAt Y n F' B' := by
  obtain ⟨a, b, c, d, e, f⟩ := h
  exact ⟨a, b, fun k hk => by rw [h1 k hk]; exact c k hk, d, fun i j hi hj => by rw [h2 i j hi hj]; exact e i j hi hj, f⟩
theorem gAt_of {X : GR} {n : Nat} {A : Nat → MA} {bm : Nat → Nat} (h : gA encH X n A bm) (ho : ∀ j, j < n → okM (A j)) (h4 : ∀ i j, i < n → j < n → bm (40 * i + j) ≤ 4) : gAt X n A (fun i j => bm (40 * i + j)) := by
  obtain ⟨a, b, c, d, e, f, g, i, j⟩ := h
  exact ⟨a, b, fun k hk => ⟨c k hk, ho k hk⟩, j, fun p q hp hq => ⟨d p q hp hq, h4 p q hp hq⟩, e, f, g, i⟩
theorem gAt_ok {Y : GR} {n : Nat} {F : Nat → MA} {B : Nat → Nat → Nat} (h : gAt Y n F B) : xOk Y ∧ yOk Y := by
  obtain ⟨g1, g2, g3, g9, g4, g5, g6, g7, g8⟩ := h
  have hb := gEs_le (n := n) (ks := Y.2.2.2.1)
  have hc : ∀ j, Y.2.2.1 j < 16384 := fun j => by
    by_cases hj : j < n
    · rw [(g3 j hj).1]; exact (encH_bits (g3 j hj).2).2.2.1
    · rw [g9 j (by omega)]; decide
  exact ⟨⟨by omega, g8, g7, fun j => Nat.lt_trans (hc j) (by decide), fun j => Or.inl (hc j), by omega⟩, by omega, hc, g7, by omega⟩
theorem gIso_c {fit fit' : Nat → Nat → Bool} {n : Nat} {ks ks' : Nat → Nat} (h : ∀ a b, a < n → b < n → fit a b = fit' a b) : gIso fit n ks ks' ↔ gIso fit' n ks ks' := by
  constructor
  · rintro ⟨g, q⟩
    exact ⟨g, fun j hj => ⟨(q j hj).1, by rw [← h j (g j) hj (q j hj).1]; exact (q j hj).2.1, (q j hj).2.2⟩⟩
  · rintro ⟨g, q⟩
    exact ⟨g, fun j hj => ⟨(q j hj).1, by rw [h j (g j) hj (q j hj).1]; exact (q j hj).2.1, (q j hj).2.2⟩⟩
theorem gEmb_c {fit fit' : Nat → Nat → Bool} {n : Nat} {ks : Nat → Nat} {n' : Nat} {ks' : Nat → Nat} (h : ∀ a b, a < n → b < n' → fit a b = fit' a b) : gEmb fit n ks n' ks' ↔ gEmb fit' n ks n' ks' := by
  constructor
  · rintro ⟨g, q⟩
    exact ⟨g, fun j hj => ⟨(q j hj).1, by rw [← h j (g j) hj (q j hj).1]; exact (q j hj).2.1, (q j hj).2.2⟩⟩
  · rintro ⟨g, q⟩
    exact ⟨g, fun j hj => ⟨(q j hj).1, by rw [h j (g j) hj (q j hj).1]; exact (q j hj).2.1, (q j hj).2.2⟩⟩
theorem beq_iff {a b : Bool} (h : a = true ↔ b = true) : a = b := by
  cases a <;> cases b <;> simp_all
/-- both compare alike: the same molecule -/
theorem same_rel {X Y : GR} {n n' : Nat} {A E : Nat → MA} {bm al szs : Nat → Nat} {m : Nat} (hX : gAt X n A (fun i j => bm (40 * i + j))) (hY : gAt Y n' (fun k => E (10 * m + k)) (fun i j => al (100 * m + 10 * i + j))) (hs : szs m = n') : sSame X Y = mPM true n A bm szs E al m := by
  obtain ⟨x1, x2, x3, x9, x4, x5, x6, x7, x8⟩ := hX
  obtain ⟨y1, y2, y3, y9, y4, y5, y6, y7, y8⟩ := hY
  unfold sSame mPM
  rw [hs]
  by_cases hn : n = n'
  · subst hn
    rw [decide_eq_true (show n ≤ n ∧ (true = true → n = n) from ⟨Nat.le_refl _, fun _ => rfl⟩), Bool.true_and]
    refine beq_iff ?_
    rw [Bool.and_eq_true, decide_eq_true_iff, x1, y1, sp_sub_iff x2 y2 x5 y5]
    rw [bt_iso x2 (fun i j hi hj => (x4 i j hi hj).1) (fun i j hi hj => (x4 i j hi hj).2) (fun i j hi hj => (y4 i j hi hj).1)]
    have hf : ∀ a b, a < n → b < n → sp_fits (X.2.2.1 a) (sp_ign 0 (Y.2.2.1 b)) = mfit true A E m a b := by
      intro a b ha hb
      rw [(x3 a ha).1, (y3 b hb).1]
      exact ft_ex (x3 a ha).2 (y3 b hb).2
    have hi := gIso_iff (fit := fun a b => sp_fits (X.2.2.1 a) (sp_ign 0 (Y.2.2.1 b))) x2 x5 y5 (fun a b ha hb => by have := (x4 a b ha hb).2; rw [(x4 a b ha hb).1]; omega) x6 y6
    rw [← gIso_c (fit := fun a b => sp_fits (X.2.2.1 a) (sp_ign 0 (Y.2.2.1 b))) (fit' := mfit true A E m) hf, ← hi]
    constructor
    · rintro ⟨⟨-, q1⟩, q2⟩; exact ⟨q1, q2⟩
    · rintro ⟨q1, q2⟩; exact ⟨⟨rfl, q1⟩, q2⟩
  · rw [decide_eq_false (fun q => hn (x1 ▸ y1 ▸ q.1)), decide_eq_false (fun q => hn (q.2 rfl))]
    rfl
/-- both compare alike: a pattern in a molecule -/
theorem in_rel {X Y : GR} {n n' : Nat} {A E : Nat → MA} {bm al szs : Nat → Nat} {m : Nat} (hX : gA encC X n A bm) (hA : ∀ j, j < n → okA true (A j)) (hY : gAt Y n' (fun k => E (10 * m + k)) (fun i j => al (100 * m + 10 * i + j))) (hs : szs m = n') : sIn X Y = mPM false n A bm szs E al m := by
  obtain ⟨x1, x2, x3, x4, x5, x6, x7, x8, x9⟩ := hX
  obtain ⟨y1, y2, y3, y9, y4, y5, y6, y7, y8⟩ := hY
  unfold sIn mPM
  rw [hs, x1, y1, show decide (n ≤ n' ∧ (false = true → n = n')) = decide (n ≤ n') from decide_eq_decide.mpr ⟨fun q => q.1, fun q => ⟨q, fun r => by cases r⟩⟩]
  refine congrArg (fun t => decide (n ≤ n') && t) (beq_iff ?_)
  rw [sp_sub_iff x2 y2 x5 y5, bt_emb x2 y2 x4 (fun i j hi hj => (y4 i j hi hj).1)]
  exact gEmb_c fun a b ha hb => by
    rw [x3 a ha, (y3 b hb).1]
    exact ft_pt (hA a ha) (y3 b hb).2
theorem first_ext {p q : Nat → Bool} : ∀ {k i : Nat}, (∀ s, s < i + k → p s = q s) → sp_first p k i = sp_first q k i := by
  intro k
  induction k with
  | zero => intro i _; rfl
  | succ k ih =>
    intro i h
    rw [sp_first, sp_first, h i (by omega), ih fun s hs => h s (by omega)]
theorem hits_ext {p q : Nat → Bool} {ids ids' : Nat → Nat} : ∀ {k i : Nat} {H H' : Nat × (Nat → Nat)}, (∀ s, s < i + k → p s = q s ∧ ids s = ids' s) → H.1 = H'.1 → (∀ j, j < H.1 → H.2 j = H'.2 j) → H.1 ≤ i → (sp_hits p ids k i H).1 = (sp_hits q ids' k i H').1 ∧ (∀ j, j < (sp_hits p ids k i H).1 → (sp_hits p ids k i H).2 j = (sp_hits q ids' k i H').2 j) ∧ (sp_hits p ids k i H).1 ≤ i + k := by
  intro k
  induction k with
  | zero => intro i H H' _ h1 h2 h3; exact ⟨h1, h2, h3⟩
  | succ k ih =>
    intro i H H' h h1 h2 h3
    rw [sp_hits, sp_hits, (h i (by omega)).1]
    have key : ∀ {G G' : Nat × (Nat → Nat)}, G.1 = G'.1 → (∀ j, j < G.1 → G.2 j = G'.2 j) → G.1 ≤ i + 1 → (sp_hits p ids k (i + 1) G).1 = (sp_hits q ids' k (i + 1) G').1 ∧ (∀ j, j < (sp_hits p ids k (i + 1) G).1 → (sp_hits p ids k (i + 1) G).2 j = (sp_hits q ids' k (i + 1) G').2 j) ∧ (sp_hits p ids k (i + 1) G).1 ≤ i + (k + 1) := by
      intro G G' a b c
      have := ih (i := i + 1) (H := G) (H' := G') (fun s hs => h s (by omega)) a b c
      exact ⟨this.1, this.2.1, by omega⟩
    by_cases hq : q i = true
    · rw [if_pos hq, if_pos hq]
      refine key (by dsimp only; rw [h1]) (fun j hj => ?_) (by dsimp only; omega)
      dsimp only at hj ⊢
      rw [h1, (h i (by omega)).2]
      by_cases e : j = H'.1
      · subst e; rw [nu_at', nu_at']
      · rw [nu_ne e, nu_ne e]; exact h2 j (by omega)
    · rw [if_neg hq, if_neg hq]
      exact key h1 h2 (by omega)
/-- what class and reference have in common: shelf -/
def rSf (sz li : Nat) (ids : Nat → Nat) (G : Nat → GR) (ids' szs : Nat → Nat) (E : Nat → MA) (al : Nat → Nat) : Prop := sz ≤ 12 ∧ (∀ s, s < sz → ids s = ids' s ∧ ids s ≤ li ∧ 1 ≤ ids s) ∧ (∀ s t, s < t → t < sz → ids s < ids t) ∧ ∀ s, s < sz → gAt (G s) (szs s) (fun k => E (10 * s + k)) (fun i j => al (100 * s + 10 * i + j))
/-- the log: what is to be done, and whether it was done -/
def rLg (dn : Bool) (hc : Nat) (sz li : Nat) (ids : Nat → Nat) (mk rm : Bool) (id : Nat) (Z : GR) (lg li2 : Nat) (dn2 : Bool) (ss : Nat) (S : Nat → MA) (sb : Nat → Nat) : Prop := match dn with
  | false => mk = false ∧ lg = 0
  | true => hc = 0 ∧ (mk = false ∧ lg = 0 ∨ mk = true ∧ rm = false ∧ lg = 1 ∧ id = li2 ∧ (dn2 = false ∧ sz < 12 ∧ id = li + 1 ∧ gAt Z ss S (fun i j => sb (10 * i + j)) ∨ dn2 = true ∧ ∃ go, sp_sl ids (jn id) sz 0 = some go) ∨ mk = true ∧ rm = true ∧ lg = 2 ∧ id = li2 ∧ (dn2 = false ∧ (∃ go, sp_sl ids (jn id) sz 0 = some go) ∨ dn2 = true ∧ sp_sl ids (jn id) sz 0 = none))
/-- room for exceptions of q calls -/
def jBud (M : jx_M) (q : Nat) : Prop := 120 ≤ M.2.1 ∧ q ≤ M.2.2.1 ∧ 6 * q ≤ M.2.2.2
/-- all: the script, the class, the reference; q calls may come; the reference's last code is th -/
def rT (L : Nat) (xs : Nat → Int32) (M : jx_M) (q th : Nat) : Prop := ∃ (ty : Nat) (tx : Nat → Nat) (hc : Nat) (hit : Nat → Nat) (tf : Nat) (dn : Bool) (p : Nat → Nat) (sz li : Nat) (ids : Nat → Nat) (G : Nat → GR) (mk rm : Bool) (id : Nat) (Z : GR) (lg li2 : Nat) (dn2 : Bool) (ss : Nat) (ids' szs : Nat → Nat) (E : Nat → MA) (al : Nat → Nat) (S : Nat → MA) (sb fnd : Nat → Nat),
  (cI M ty tx hc hit tf dn p sz li ids G mk rm id Z ∧ mI M (th, sz, li, tf, dn, lg, li2, dn2, ss, hc) tx ty ids' szs E al S sb fnd ∧ M.1 0 = .inl (9, L, .inl xs) ∧ (∃ f, M.1 119 = .inl (3, 1, .inr (.inl f))) ∧ jBud M q) ∧ (ty ≤ 40 ∧ (∀ j, tx j < 127)) ∧ (hc ≤ 12 ∧ (∀ j, j < hc → hit j = fnd j)) ∧ tf ≤ 4 ∧ li + q ≤ 1000 ∧ rSf sz li ids G ids' szs E al ∧ rLg dn hc sz li ids mk rm id Z lg li2 dn2 ss S sb
theorem cI_fr {M M1 : jx_M} {ty : Nat} {tx : Nat → Nat} {hc : Nat} {hit : Nat → Nat} {tf : Nat} {dn : Bool} {p : Nat → Nat} {sz li : Nat} {ids : Nat → Nat} {G : Nat → GR} {mk rm : Bool} {id : Nat} {Z : GR} (h : cI M ty tx hc hit tf dn p sz li ids G mk rm id Z) (hs : ∀ k, k < 92 → M1.1 k = M.1 k) : cI M1 ty tx hc hit tf dn p sz li ids G mk rm id Z := by
  obtain ⟨⟨h1, h2, h3, h4⟩, h5, h6, ⟨Y, h7⟩, h8, h9, h10, h11⟩ := h
  exact ⟨⟨(hs 16 (by decide)).trans h1, jsh_fr h2 fun k a b => hs k (by omega), (hs 86 (by decide)).trans h3, jgr_fr h4 fun k a b => hs k (by omega)⟩, (hs 17 (by decide)).trans h5, rSh_fr h6 fun k a b => hs k (by omega), ⟨Y, jgr_fr h7 fun k a b => hs k (by omega)⟩, mt_fr h8 fun k a b => hs k (by omega), (hs 91 (by decide)).trans h9, jc_fr h10 fun k a => hs k (by omega), (hs 1 (by decide)).trans h11⟩
theorem mI_fr {M M1 : jx_M} {w : MW} {tx : Nat → Nat} {ln : Nat} {ids szs : Nat → Nat} {E : Nat → MA} {al : Nat → Nat} {S : Nat → MA} {sb fnd : Nat → Nat} (h : mI M w tx ln ids szs E al S sb fnd) (hs : ∀ k, 92 ≤ k → k ≤ 118 → M1.1 k = M.1 k) : mI M1 w tx ln ids szs E al S sb fnd := by
  obtain ⟨⟨at_, n, gd, A, bm, bk, oa, ol, H⟩, hK, hS, hX, h118, hal, hsb⟩ := h
  exact ⟨⟨at_, n, gd, A, bm, bk, oa, ol, mRd_fr H fun k a b => hs k (by omega) (by omega)⟩, mKp_fr hK fun k a b => hs k (by omega) (by omega), mSt_fr hS fun k a b => hs k (by omega) (by omega), mXs_fr hX fun k a b => hs k (by omega) (by omega), (hs 118 (by decide) (by decide)).trans h118, hal, hsb⟩
theorem sl_ext {ids ids' : Nat → Nat} {x : Int32} : ∀ {k i : Nat}, (∀ s, s < i + k → ids s = ids' s) → sp_sl ids x k i = sp_sl ids' x k i := by
  intro k
  induction k with
  | zero => intro i _; rfl
  | succ k ih =>
    intro i h
    rw [sp_sl, sp_sl, h i (by omega), ih fun s hs => h s (by omega)]
/-- an ID above all is not there -/
theorem sl_new {ids : Nat → Nat} {a : Nat} (ha : a < 2 ^ 31) : ∀ {k i : Nat}, (∀ s, s < i + k → ids s < a) → sp_sl ids (jn a) k i = none := by
  intro k
  induction k with
  | zero => intro i _; rfl
  | succ k ih =>
    intro i h
    have := h i (by omega)
    rw [sp_sl, if_neg (fun q => by have := (jn_inj (by omega) ha).mp q; omega)]
    exact ih fun s hs => h s (by omega)
/-- an ID that is there is found at its place -/
theorem sl_at {ids : Nat → Nat} {sz g : Nat} (h1 : ∀ s t, s < t → t < sz → ids s < ids t) (h2 : ∀ s, s < sz → ids s < 2 ^ 31) (hg : g < sz) : ∀ {k i : Nat}, i ≤ g → i + k = sz → sp_sl ids (jn (ids g)) k i = some g := by
  intro k
  induction k with
  | zero => intro i a b; omega
  | succ k ih =>
    intro i a b
    rw [sp_sl]
    by_cases e : i = g
    · subst e; rw [if_pos rfl]
    · have q := h1 i g (by omega) hg
      rw [if_neg (fun r => by have := (jn_inj (h2 i (by omega)) (h2 g hg)).mp r; omega)]
      exact ih (by omega) (by omega)
/-- after putting -/
theorem rSf_put {sz li : Nat} {ids : Nat → Nat} {G : Nat → GR} {ids' szs : Nat → Nat} {E E' : Nat → MA} {al al' : Nat → Nat} {X : GR} {ss : Nat} {S : Nat → MA} {sb : Nat → Nat} (h : rSf sz li ids G ids' szs E al) (hz : sz < 12) (hX : gAt X ss S (fun i j => sb (10 * i + j))) (h1 : ∀ t, t < ss → E' (10 * sz + t) = S t) (h2 : ∀ t u, t < ss → u < ss → al' (100 * sz + 10 * t + u) = sb (10 * t + u)) (h3 : ∀ s, s ≠ sz → rowE E' al' s E al s) : rSf (sz + 1) (li + 1) (nu ids sz (li + 1)) (nu G sz X) (nu ids' sz (li + 1)) (nu szs sz ss) E' al' := by
  obtain ⟨a, b, c, d⟩ := h
  refine ⟨by omega, fun s hs => ?_, fun s t hst ht => ?_, fun s hs => ?_⟩
  · by_cases e : s = sz
    · subst e; rw [nu_at', nu_at']; exact ⟨rfl, Nat.le_refl _, by omega⟩
    · rw [nu_ne e, nu_ne e]
      obtain ⟨b1, b2, b3⟩ := b s (by omega)
      exact ⟨b1, by omega, b3⟩
  · by_cases e : t = sz
    · subst e
      rw [nu_at', nu_ne (by omega)]
      have := (b s (by omega)).2.1
      omega
    · rw [nu_ne e, nu_ne (by omega)]
      exact c s t hst (by omega)
  · by_cases e : s = sz
    · subst e
      rw [nu_at', nu_at']
      exact gAt_ext hX h1 h2
    · rw [nu_ne e, nu_ne e]
      have hr := h3 s e
      have hg := d s (by omega)
      have hn := hg.2.1
      exact gAt_ext hg (fun k hk => hr.1 k (by omega)) (fun i j hi hj => by
        have := hr.2 (10 * i + j) (by omega)
        rw [show 100 * s + (10 * i + j) = 100 * s + 10 * i + j by omega] at this
        exact this)
/-- after taking away -/
theorem rSf_take {sz li : Nat} {ids : Nat → Nat} {G : Nat → GR} {ids' szs : Nat → Nat} {E : Nat → MA} {al : Nat → Nat} {go : Nat} {ids9 szs9 : Nat → Nat} {E9 : Nat → MA} {al9 : Nat → Nat} (h : rSf sz li ids G ids' szs E al) (hg : go < sz) (h1 : ∀ s, go ≤ s → s < sz - 1 → ids9 s = ids' (s + 1) ∧ szs9 s = szs (s + 1) ∧ rowE E9 al9 s E al (s + 1)) (h2 : ∀ s, s < go → ids9 s = ids' s ∧ szs9 s = szs s ∧ rowE E9 al9 s E al s) : rSf (sz - 1) li (sp_sh ids go (sz - 1)) (sp_tk G go sz) ids9 szs9 E9 al9 := by
  obtain ⟨a, b, c, d⟩ := h
  have row : ∀ {s r : Nat} {Y : GR}, r < sz → rowE E9 al9 s E al r → szs9 s = szs r → gAt Y (szs r) (fun k => E (10 * r + k)) (fun i j => al (100 * r + 10 * i + j)) → gAt Y (szs9 s) (fun k => E9 (10 * s + k)) (fun i j => al9 (100 * s + 10 * i + j)) := by
    intro s r Y hr hrow hs hg
    have hn := hg.2.1
    rw [hs]
    exact gAt_ext hg (fun k hk => hrow.1 k (by omega)) (fun i j hi hj => by
      have := hrow.2 (10 * i + j) (by omega)
      rw [show 100 * s + (10 * i + j) = 100 * s + 10 * i + j by omega, show 100 * r + (10 * i + j) = 100 * r + 10 * i + j by omega] at this
      exact this)
  refine ⟨by omega, fun s hs => ?_, fun s t hst ht => ?_, fun s hs => ?_⟩
  · unfold sp_sh
    by_cases e : go ≤ s ∧ s < sz - 1
    · rw [if_pos e, (h1 s e.1 e.2).1]
      exact b (s + 1) (by omega)
    · rw [if_neg e, (h2 s (by omega)).1]
      exact b s (by omega)
  · unfold sp_sh
    by_cases e : go ≤ s ∧ s < sz - 1
    · rw [if_pos e, if_pos (by omega)]
      exact c _ _ (by omega) (by omega)
    · rw [if_neg e]
      by_cases e2 : go ≤ t ∧ t < sz - 1
      · rw [if_pos e2]; exact c _ _ (by omega) (by omega)
      · rw [if_neg e2]; exact c _ _ hst (by omega)
  · by_cases e : go ≤ s ∧ s < sz - 1
    · obtain ⟨y1, y2, y3⟩ := h1 s e.1 e.2
      rw [show sp_tk G go sz s = G (s + 1) by unfold sp_tk; rw [nu_ne (by omega)]; unfold sp_sh; rw [if_pos e]]
      exact row (by omega) y3 y2 (d (s + 1) (by omega))
    · obtain ⟨y1, y2, y3⟩ := h2 s (by omega)
      rw [show sp_tk G go sz s = G s by unfold sp_tk; rw [nu_ne (by omega)]; unfold sp_sh; rw [if_neg e]]
      exact row (by omega) y3 y2 (d s (by omega))
/-- what was taken away is there no more -/
theorem sl_gone {ids : Nat → Nat} {sz g : Nat} (h1 : ∀ s t, s < t → t < sz → ids s < ids t) (h2 : ∀ s, s < sz → ids s < 2 ^ 31) (hg : g < sz) : sp_sl (sp_sh ids g (sz - 1)) (jn (ids g)) (sz - 1) 0 = none := by
  have key : ∀ {k i : Nat}, i + k = sz - 1 → sp_sl (sp_sh ids g (sz - 1)) (jn (ids g)) k i = none := by
    intro k
    induction k with
    | zero => intro i _; rfl
    | succ k ih =>
      intro i hi
      have hne : sp_sh ids g (sz - 1) i ≠ ids g ∧ sp_sh ids g (sz - 1) i < 2 ^ 31 := by
        unfold sp_sh
        by_cases e : g ≤ i ∧ i < sz - 1
        · rw [if_pos e]
          have := h1 g (i + 1) (by omega) (by omega)
          exact ⟨by omega, h2 _ (by omega)⟩
        · rw [if_neg e]
          have := h1 i g (by omega) hg
          exact ⟨by omega, h2 _ (by omega)⟩
      rw [sp_sl, if_neg (fun q => hne.1 ((jn_inj hne.2 (h2 g hg)).mp q))]
      exact ih (by omega)
  exact key (by omega)
/-- what was put is there -/
theorem sl_put {ids : Nat → Nat} {sz a : Nat} (ha : a < 2 ^ 31) (h : ∀ s, s < sz → ids s < a) : ∃ go, sp_sl (nu ids sz a) (jn a) (sz + 1) 0 = some go := by
  have key : ∀ {k i : Nat}, i + k = sz → sp_sl (nu ids sz a) (jn a) (k + 1) i = some sz := by
    intro k
    induction k with
    | zero =>
      intro i hi
      have e : i = sz := by omega
      subst e
      rw [sp_sl, nu_at', if_pos rfl]
    | succ k ih =>
      intro i hi
      have := h i (by omega)
      rw [sp_sl, nu_ne (by omega), if_neg (fun q => by have := (jn_inj (by omega) ha).mp q; omega)]
      exact ih (by omega)
  exact ⟨sz, key (by omega)⟩
