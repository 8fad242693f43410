/-! MATHEMATICS: 61f.read -/
/-- where the reference's reading of digits stands: place, good, bonds, open atoms, open links -/
abbrev SC : Type := Nat × Bool × (Nat → Nat) × (Nat → Option Nat) × (Nat → Nat)
def sm_q (tx : Nat → Nat) (ln : Nat) (pt : Bool) (p : Nat) : Nat := p + if sp_lk (sp_here tx ln p) pt = 0 then 0 else 1
def sm_clo (tx : Nat → Nat) (ln : Nat) (pt : Bool) (A : Nat → MA) (a : Nat) : Nat → SC → SC
  | 0, s => s
  | k + 1, (p, g, bm, oa, ol) => if 49 ≤ sp_here tx ln (sm_q tx ln pt p) ∧ sp_here tx ln (sm_q tx ln pt p) ≤ 57 then
      (match oa (sp_here tx ln (sm_q tx ln pt p) - 48) with
      | none => sm_clo tx ln pt A a k (sm_q tx ln pt p + 1, g, bm, nu oa (sp_here tx ln (sm_q tx ln pt p) - 48) (some a), nu ol (sp_here tx ln (sm_q tx ln pt p) - 48) (sp_lk (sp_here tx ln p) pt))
      | some f => sm_clo tx ln pt A a k (sm_q tx ln pt p + 1, (g && decide (sp_lk (sp_here tx ln p) pt = 0 ∨ ol (sp_here tx ln (sm_q tx ln pt p) - 48) = 0 ∨ sp_lk (sp_here tx ln p) pt = ol (sp_here tx ln (sm_q tx ln pt p) - 48))) && sm_ok A bm f a (if sp_lk (sp_here tx ln p) pt ≠ 0 then sp_lk (sp_here tx ln p) pt else ol (sp_here tx ln (sm_q tx ln pt p) - 48)),
          sm_put bm f a (sm_k (A f) (A a) (if sp_lk (sp_here tx ln p) pt ≠ 0 then sp_lk (sp_here tx ln p) pt else ol (sp_here tx ln (sm_q tx ln pt p) - 48))), nu oa (sp_here tx ln (sm_q tx ln pt p) - 48) none, ol))
      else (p, g, bm, oa, ol)
theorem sm_clo_bad {tx : Nat → Nat} {ln : Nat} {pt : Bool} {A : Nat → MA} {a : Nat} : ∀ {k : Nat} {s : SC}, s.2.1 = false → (sm_clo tx ln pt A a k s).2.1 = false := by
  intro k
  induction k with
  | zero => intro s h; exact h
  | succ k ih =>
    intro s h
    obtain ⟨p, g, bm, oa, ol⟩ := s
    dsimp only at h
    subst h
    unfold sm_clo
    split
    · split
      · exact ih rfl
      · exact ih rfl
    · rfl
/-- the open digits -/
def RO (kk n : Nat) (oa : Nat → Option Nat) (ol : Nat → Nat) (oa' : Nat → Option Nat) (ol' : Nat → Nat) : Prop := ∀ d, d < 10 → oa d = oa' d ∧ ∀ k, oa d = some k → k < n ∧ ol d = ol' d ∧ ol d < kk
def RAt (pt : Bool) (n : Nat) (cs : Nat → Nat) (wr : Nat → Option Nat) (A : Nat → MA) : Prop := ∀ j, j < n → cs j = encC (A j) ∧ wr j = encW (A j) ∧ okA pt (A j)
def kOf (pt : Bool) : Nat := if pt = true then 6 else 5
theorem kOf_56 (pt : Bool) : 5 ≤ kOf pt ∧ kOf pt ≤ 6 := by cases pt <;> decide
theorem sp_lk_6 {h : Nat} {pt : Bool} : sp_lk h pt < kOf pt := by
  unfold sp_lk
  have h1 := kOf_56 pt
  repeat' split
  all_goals first | omega | skip
  rename_i q
  rw [q.2]
  decide
theorem here_pos {tx : Nat → Nat} {ln p : Nat} (h : 0 < sp_here tx ln p) : p < ln := by
  unfold sp_here at h
  split at h
  · assumption
  · omega
theorem clo_rel {tx : Nat → Nat} {ln : Nat} (hl : ln ≤ 40) {pt : Bool} {n : Nat} {cs : Nat → Nat} {A : Nat → MA} {a : Nat} (hn : n ≤ 40) (ha : a < n) (hA : ∀ j, j < n → cs j = encC (A j) ∧ okA pt (A j)) : ∀ {k ps : Nat} {B : CB} {bm : Nat → Nat} {oa' : Nat → Option Nat} {ol' : Nat → Nat}, RB (kOf pt) n bm B.1 B.2.1 B.2.2.1 B.2.2.2.1 → RO (kOf pt) n B.2.2.2.2.1 B.2.2.2.2.2 oa' ol' → B.2.2.2.1 ≤ ps → ps ≤ ln →
    match sp_clo tx ln pt cs a k ps B with
    | none => (sm_clo tx ln pt A a k (ps, true, bm, oa', ol')).2.1 = false
    | some (p, B') => ∃ bm2 oa2 ol2, sm_clo tx ln pt A a k (ps, true, bm, oa', ol') = (p, true, bm2, oa2, ol2) ∧ RB (kOf pt) n bm2 B'.1 B'.2.1 B'.2.2.1 B'.2.2.2.1 ∧ RO (kOf pt) n B'.2.2.2.2.1 B'.2.2.2.2.2 oa2 ol2 ∧ B'.2.2.2.1 ≤ p ∧ ps ≤ p ∧ p ≤ ln := by
  intro k
  induction k with
  | zero =>
    intro ps B bm oa' ol' h1 h2 h3 h4
    exact ⟨bm, oa', ol', rfl, h1, h2, h3, Nat.le_refl _, h4⟩
  | succ k ih =>
    intro ps B bm oa' ol' h1 h2 h3 h4
    have hq : ps + (if sp_lk (sp_here tx ln ps) pt = 0 then 0 else 1) = sm_q tx ln pt ps := rfl
    have hqge : ps ≤ sm_q tx ln pt ps := by unfold sm_q; omega
    rw [sp_clo, sm_clo, hq]
    by_cases hd : 49 ≤ sp_here tx ln (sm_q tx ln pt ps) ∧ sp_here tx ln (sm_q tx ln pt ps) ≤ 57
    · rw [if_pos hd, if_pos hd]
      have hlt := here_pos (tx := tx) (ln := ln) (p := sm_q tx ln pt ps) (by omega)
      have hd10 : sp_here tx ln (sm_q tx ln pt ps) - 48 < 10 := by omega
      generalize hD : sp_here tx ln (sm_q tx ln pt ps) - 48 = D at *
      generalize hQ : sm_q tx ln pt ps = Q at *
      have hL : sp_lk (sp_here tx ln ps) pt < kOf pt := sp_lk_6
      generalize hLk : sp_lk (sp_here tx ln ps) pt = L at *
      obtain ⟨r1, r2⟩ := h2 D hd10
      rw [← r1]
      unfold sp_oc
      cases ho : B.2.2.2.2.1 D with
      | none =>
        dsimp only
        have := ih (ps := Q + 1) (B := (B.1, B.2.1, B.2.2.1, B.2.2.2.1, nu B.2.2.2.2.1 D (some a), nu B.2.2.2.2.2 D L)) (bm := bm) (oa' := nu oa' D (some a)) (ol' := nu ol' D L) h1 (fun d hd' => ?_) (by dsimp only; omega) (by omega)
        · revert this
          cases hc : sp_clo tx ln pt cs a k (Q + 1) (B.1, B.2.1, B.2.2.1, B.2.2.2.1, nu B.2.2.2.2.1 D (some a), nu B.2.2.2.2.2 D L) with
          | none => exact id
          | some x =>
            rintro ⟨b2, o2, l2, e1, e2, e3, e4, e5, e6⟩
            exact ⟨b2, o2, l2, e1, e2, e3, e4, by omega, e6⟩
        · dsimp only
          by_cases e : d = D
          · subst e
            rw [nu_at', nu_at', nu_at', nu_at']
            exact ⟨rfl, fun k hk => by cases hk; exact ⟨ha, rfl, hL⟩⟩
          · rw [nu_ne e, nu_ne e, nu_ne e, nu_ne e]
            exact h2 d hd'
      | some f =>
        dsimp only
        obtain ⟨f1, f2, f3⟩ := r2 f ho
        rw [f2] at f3 ⊢
        generalize hO : ol' D = O at *
        by_cases hm : O ≠ 0 ∧ L ≠ 0 ∧ O ≠ L
        · rw [if_pos hm]
          dsimp only
          refine sm_clo_bad ?_
          dsimp only
          rw [decide_eq_false (by omega)]
          rfl
        · rw [if_neg hm]
          have el : (if O = 0 then L else O) = (if L ≠ 0 then L else O) := by
            by_cases q : O = 0
            · rw [if_pos q]
              by_cases q2 : L ≠ 0
              · rw [if_pos q2]
              · rw [if_neg q2]; omega
            · rw [if_neg q]
              by_cases q2 : L ≠ 0
              · rw [if_pos q2]; omega
              · rw [if_neg q2]
          rw [el]
          have hlk : (if L ≠ 0 then L else O) < kOf pt := by split <;> omega
          generalize hLL : (if L ≠ 0 then L else O) = LL at *
          have hbr := bind_rel (kOf_56 pt).1 (kOf_56 pt).2 (link := LL) h1 hn f1 ha (by omega) (hA f f1).1 (hA a ha).1 (hA f f1).2 (hA a ha).2 hlk
          rw [decide_eq_true (by omega)]
          cases hok : sm_ok A bm f a LL with
          | false =>
            rw [hbr.2 hok]
            dsimp only
            exact sm_clo_bad rfl
          | true =>
            obtain ⟨g1, g2⟩ := hbr.1 hok
            rw [g1]
            dsimp only
            have := ih (ps := Q + 1) (B := (nu B.1 B.2.2.2.1 f, nu B.2.1 B.2.2.2.1 a, nu B.2.2.1 B.2.2.2.1 (sm_k (A f) (A a) LL), B.2.2.2.1 + 1, nu B.2.2.2.2.1 D none, B.2.2.2.2.2)) (bm := sm_put bm f a (sm_k (A f) (A a) LL)) (oa' := nu oa' D none) (ol' := ol') g2 (fun d hd' => ?_) (by dsimp only; omega) (by omega)
            · revert this
              cases hc : sp_clo tx ln pt cs a k (Q + 1) (nu B.1 B.2.2.2.1 f, nu B.2.1 B.2.2.2.1 a, nu B.2.2.1 B.2.2.2.1 (sm_k (A f) (A a) LL), B.2.2.2.1 + 1, nu B.2.2.2.2.1 D none, B.2.2.2.2.2) with
              | none => exact id
              | some x =>
                rintro ⟨b2, o2, l2, e1, e2, e3, e4, e5, e6⟩
                exact ⟨b2, o2, l2, e1, e2, e3, e4, by omega, e6⟩
            · dsimp only
              by_cases e : d = D
              · subst e
                rw [nu_at', nu_at']
                exact ⟨rfl, fun k hk => by cases hk⟩
              · rw [nu_ne e, nu_ne e]
                exact h2 d hd'
    · rw [if_neg hd, if_neg hd]
      exact ⟨bm, oa', ol', rfl, h1, h2, h3, Nat.le_refl _, h4⟩
/-- the bond of a new atom -/
def sm_on (A : Nat → MA) (bm : Nat → Nat) (ow : Option Nat) (n link : Nat) : Bool × (Nat → Nat) := match ow with
  | none => (true, bm)
  | some o => (sm_ok A bm o n link, sm_put bm o n (sm_k (A o) (A n) link))
/-- the reference's reading from the next atom on -/
def sm_rd (tx : Nat → Nat) (ln : Nat) (pt : Bool) : Nat → Option Nat → Nat → Nat → (Nat → MA) → (Nat → Nat) → (Nat → Option Nat) → (Nat → Nat) → (Nat → Nat) → Nat → Option (Nat × (Nat → MA) × (Nat → Nat))
  | 0, _, _, _, _, _, _, _, _, _ => none
  | k + 1, ow, p, n, A, bm, oa, ol, bk, dp => match sm_at tx ln pt (sp_p1 tx ln pt ow p) with
    | none => none
    | some (m, p2) => match sm_clo tx ln pt (nu A n m) n 40 (p2, (sm_on (nu A n m) (sm_zb bm n) ow n (sp_l1 tx ln pt ow p)).1, (sm_on (nu A n m) (sm_zb bm n) ow n (sp_l1 tx ln pt ow p)).2, oa, ol) with
      | (p3, g, bm2, oa2, ol2) => match sp_pe tx ln bk 40 p3 dp n with
        | none => none
        | some (o', p4, dp') => if g = true then (if sp_here tx ln p4 = 40 then sm_rd tx ln pt k (some o') (p4 + 1) (n + 1) (nu A n m) bm2 oa2 ol2 (nu bk dp' o') (dp' + 1)
            else if p4 < ln then sm_rd tx ln pt k (some o') p4 (n + 1) (nu A n m) bm2 oa2 ol2 bk dp'
            else if dp' = 0 ∧ sp_op oa2 9 1 = false then some (n + 1, nu A n m, bm2) else none) else none
theorem pe_rel {tx : Nat → Nat} {ln : Nat} {br bk : Nat → Nat} {n : Nat} : ∀ {k ps dp o : Nat}, (∀ j, j < dp → br j = bk j ∧ br j < n) → o < n → ps ≤ ln → sp_pe tx ln br k ps dp o = sp_pe tx ln bk k ps dp o ∧ ∀ o' p' dp', sp_pe tx ln br k ps dp o = some (o', p', dp') → o' < n ∧ ps ≤ p' ∧ p' ≤ ln ∧ dp' ≤ dp := by
  intro k
  induction k with
  | zero =>
    intro ps dp o h1 h2 h3
    refine ⟨rfl, fun o' p' dp' h => ?_⟩
    cases h
    exact ⟨h2, Nat.le_refl _, h3, Nat.le_refl _⟩
  | succ k ih =>
    intro ps dp o h1 h2 h3
    rw [sp_pe, sp_pe]
    by_cases h41 : sp_here tx ln ps = 41
    · rw [if_pos h41, if_pos h41]
      have hlt := here_pos (tx := tx) (ln := ln) (p := ps) (by omega)
      by_cases h0 : dp = 0
      · rw [if_pos h0, if_pos h0]
        exact ⟨rfl, fun _ _ _ h => by cases h⟩
      · rw [if_neg h0, if_neg h0]
        have h4 := h1 (dp - 1) (by omega)
        obtain ⟨i1, i2⟩ := ih (ps := ps + 1) (dp := dp - 1) (o := br (dp - 1)) (fun j hj => h1 j (by omega)) h4.2 (by omega)
        refine ⟨by rw [i1, h4.1], fun o' p' dp' h => ?_⟩
        obtain ⟨a1, a2, a3, a4⟩ := i2 o' p' dp' h
        exact ⟨a1, by omega, a3, by omega⟩
    · rw [if_neg h41, if_neg h41]
      refine ⟨rfl, fun o' p' dp' h => ?_⟩
      cases h
      exact ⟨h2, Nat.le_refl _, h3, Nat.le_refl _⟩
theorem op_rel {oa oa' : Nat → Option Nat} : ∀ {k i : Nat}, (∀ d, d < i + k → oa d = oa' d) → sp_op oa k i = sp_op oa' k i := by
  intro k
  induction k with
  | zero => intro i _; rfl
  | succ k ih =>
    intro i h
    rw [sp_op, sp_op, h i (by omega), ih (fun d hd => h d (by omega))]
theorem sm_at_le {tx : Nat → Nat} {ln : Nat} (hl : ln ≤ 40) {pt : Bool} {p : Nat} {m : MA} {q : Nat} (hle : ∀ {x : Nat} {hy : Option Nat} {r : Nat}, sp_atom tx ln pt p = some (x, hy, r) → r ≤ ln) (h : sm_at tx ln pt p = some (m, q)) : q ≤ ln := by
  have := at_rel (tx := tx) hl (pt := pt) (p := p)
  rw [h] at this
  exact hle this
/-- both readers read the same -/
theorem rd_rel {tx : Nat → Nat} {ln : Nat} (hl : ln ≤ 40) {pt : Bool} (hle : ∀ {p x : Nat} {hy : Option Nat} {r : Nat}, sp_atom tx ln pt p = some (x, hy, r) → r ≤ ln) : ∀ {k k' ps sz dp : Nat} {ow : Option Nat} {cs : Nat → Nat} {wr : Nat → Option Nat} {B : CB} {br bk : Nat → Nat} {A : Nat → MA} {bm : Nat → Nat} {oa' : Nat → Option Nat} {ol' : Nat → Nat}, sz + k = 40 → ln ≤ ps + k' → ps ≤ ln → sz ≤ ps → B.2.2.2.1 ≤ ps → dp ≤ ps → (∀ o, ow = some o → o < sz) → (∀ j, j < dp → br j = bk j ∧ br j < sz) → RAt pt sz cs wr A → RB (kOf pt) sz bm B.1 B.2.1 B.2.2.1 B.2.2.2.1 → RO (kOf pt) sz B.2.2.2.2.1 B.2.2.2.2.2 oa' ol' →
    match sm_rd tx ln pt k' ow ps sz A bm oa' ol' bk dp with
    | some (n, A2, bm2) => ∃ cs2 wr2 B2, sp_rd tx ln pt k ow ps sz cs wr B br dp = some (n, cs2, wr2, B2) ∧ sp_op B2.2.2.2.2.1 9 1 = false ∧ RAt pt n cs2 wr2 A2 ∧ RB (kOf pt) n bm2 B2.1 B2.2.1 B2.2.2.1 B2.2.2.2.1 ∧ n ≤ 40
    | none => sp_rd tx ln pt k ow ps sz cs wr B br dp = none ∨ ∃ x, sp_rd tx ln pt k ow ps sz cs wr B br dp = some x ∧ sp_op x.2.2.2.2.2.2.2.1 9 1 = true := by
  intro k
  have hend : ∀ {ow : Option Nat} {ps : Nat}, ln ≤ ps → sm_at tx ln pt (sp_p1 tx ln pt ow ps) = none := by
    intro ow ps h
    have h0 : sp_here tx ln (sp_p1 tx ln pt ow ps) = 0 := by
      refine here_ge ?_
      unfold sp_p1
      split
      · exact h
      · omega
    unfold sm_at
    rw [h0]
    rfl
  induction k with
  | zero =>
    intro k' ps sz dp ow cs wr B br bk A bm oa' ol' h1 h2 h3 h4 h5 h6 h7 h8 hA hB hO
    have e1 : sm_rd tx ln pt k' ow ps sz A bm oa' ol' bk dp = none := by
      cases k' with
      | zero => rfl
      | succ k' => rw [sm_rd, hend (by omega)]
    rw [e1]
    exact Or.inl rfl
  | succ k ih =>
    intro k' ps sz dp ow cs wr B br bk A bm oa' ol' h1 h2 h3 h4 h5 h6 h7 h8 hA hB hO
    rw [sp_rd, at_rel hl]
    cases k' with
    | zero =>
      rw [hend (by omega)]
      exact Or.inl rfl
    | succ k' =>
      rw [sm_rd]
      cases hat : sm_at tx ln pt (sp_p1 tx ln pt ow ps) with
      | none => exact Or.inl rfl
      | some mp =>
        obtain ⟨m, p2⟩ := mp
        obtain ⟨okm, hp2⟩ := sm_at_ok hat
        have hp2l := sm_at_le hl hle hat
        have hp1 : ps ≤ sp_p1 tx ln pt ow ps := by
          unfold sp_p1
          split <;> omega
        rw [Option.map_some]
        dsimp only
        have hA1 : RAt pt (sz + 1) (nu cs sz (encC m)) (nu wr sz (encW m)) (nu A sz m) := by
          intro j hj
          by_cases e : j = sz
          · subst e
            rw [nu_at', nu_at', nu_at']
            exact ⟨rfl, rfl, okm⟩
          · rw [nu_ne e, nu_ne e, nu_ne e]
            exact hA j (by omega)
        have hB0 := zb_rel (by omega) hB
        have hlk : sp_l1 tx ln pt ow ps < kOf pt := by
          unfold sp_l1
          split
          · have := kOf_56 pt; omega
          · exact sp_lk_6
        generalize hlkk : sp_l1 tx ln pt ow ps = lk at *
        -- the bond to the owner
        have hon : (sp_on (nu cs sz (encC m)) B ow sz lk = none ∧ (sm_on (nu A sz m) (sm_zb bm sz) ow sz lk).1 = false) ∨ ∃ B1, sp_on (nu cs sz (encC m)) B ow sz lk = some B1 ∧ (sm_on (nu A sz m) (sm_zb bm sz) ow sz lk).1 = true ∧ RB (kOf pt) (sz + 1) (sm_on (nu A sz m) (sm_zb bm sz) ow sz lk).2 B1.1 B1.2.1 B1.2.2.1 B1.2.2.2.1 ∧ B1.2.2.2.1 ≤ p2 ∧ B1.2.2.2.2 = B.2.2.2.2 := by
          cases ow with
          | none => exact Or.inr ⟨B, rfl, rfl, hB0, by omega, rfl⟩
          | some o =>
            have ho := h7 o rfl
            have hbr := bind_rel (kOf_56 pt).1 (kOf_56 pt).2 (link := lk) hB0 (by omega) (show o < sz + 1 by omega) (show sz < sz + 1 by omega) (by omega) (hA1 o (by omega)).1 (hA1 sz (by omega)).1 (hA1 o (by omega)).2.2 (hA1 sz (by omega)).2.2 hlk
            unfold sp_on sm_on
            dsimp only
            cases hok : sm_ok (nu A sz m) (sm_zb bm sz) o sz lk with
            | false =>
              rw [hbr.2 hok]
              exact Or.inl ⟨rfl, rfl⟩
            | true =>
              obtain ⟨g1, g2⟩ := hbr.1 hok
              rw [g1]
              exact Or.inr ⟨_, rfl, rfl, g2, by dsimp only; omega, rfl⟩
        have hO1 : RO (kOf pt) (sz + 1) B.2.2.2.2.1 B.2.2.2.2.2 oa' ol' := fun d hd => ⟨(hO d hd).1, fun k hk => ⟨by have := ((hO d hd).2 k hk).1; omega, ((hO d hd).2 k hk).2⟩⟩
        have hb1 : ∀ j, j < dp → br j = bk j ∧ br j < sz + 1 := fun j hj => ⟨(h8 j hj).1, by have := (h8 j hj).2; omega⟩
        rcases hon with ⟨e1, e2⟩ | ⟨B1, e1, e2, e3, e4, e5⟩
        · rw [e1]
          dsimp only
          have hbad := sm_clo_bad (tx := tx) (ln := ln) (pt := pt) (A := nu A sz m) (a := sz) (k := 40) (s := (p2, (sm_on (nu A sz m) (sm_zb bm sz) ow sz lk).1, (sm_on (nu A sz m) (sm_zb bm sz) ow sz lk).2, oa', ol')) e2
          generalize sm_clo tx ln pt (nu A sz m) sz 40 (p2, (sm_on (nu A sz m) (sm_zb bm sz) ow sz lk).1, (sm_on (nu A sz m) (sm_zb bm sz) ow sz lk).2, oa', ol') = S at *
          obtain ⟨p3, g, bm2, oa2, ol2⟩ := S
          dsimp only at hbad ⊢
          subst hbad
          cases hpe : sp_pe tx ln bk 40 p3 dp sz with
          | none => exact Or.inl rfl
          | some x =>
            obtain ⟨o', p4, dp'⟩ := x
            dsimp only
            rw [if_neg (by decide)]
            exact Or.inl rfl
        · rw [e1]
          dsimp only
          rw [e2]
          have hc := clo_rel (tx := tx) hl (pt := pt) (n := sz + 1) (cs := nu cs sz (encC m)) (A := nu A sz m) (a := sz) (by omega) (by omega) (fun j hj => ⟨(hA1 j hj).1, (hA1 j hj).2.2⟩) (k := 40) (ps := p2) (B := B1) e3 (by rw [e5]; exact hO1) e4 hp2l
          revert hc
          cases hcl : sp_clo tx ln pt (nu cs sz (encC m)) sz 40 p2 B1 with
          | none =>
            dsimp only
            intro hbad
            generalize sm_clo tx ln pt (nu A sz m) sz 40 (p2, true, (sm_on (nu A sz m) (sm_zb bm sz) ow sz lk).2, oa', ol') = S at *
            obtain ⟨p3, g, bm2, oa2, ol2⟩ := S
            dsimp only at hbad ⊢
            subst hbad
            cases hpe : sp_pe tx ln bk 40 p3 dp sz with
            | none => exact Or.inl rfl
            | some x =>
              obtain ⟨o', p4, dp'⟩ := x
              dsimp only
              rw [if_neg (by decide)]
              exact Or.inl rfl
          | some y =>
            obtain ⟨p3, B2⟩ := y
            rintro ⟨bm2, oa2, ol2, f1, f2, f3, f4, f5, hp3l⟩
            rw [f1]
            dsimp only
            obtain ⟨g1, g2⟩ := pe_rel (tx := tx) (ln := ln) (k := 40) (ps := p3) (o := sz) hb1 (by omega) hp3l
            rw [g1] at g2
            rw [g1]
            cases hpe : sp_pe tx ln bk 40 p3 dp sz with
            | none => exact Or.inl rfl
            | some x =>
              obtain ⟨o', p4, dp'⟩ := x
              obtain ⟨q1, q2, q3, q4⟩ := g2 o' p4 dp' hpe
              dsimp only
              rw [if_pos rfl]
              have hb2 : ∀ j, j < dp' → br j = bk j ∧ br j < sz + 1 := fun j hj => hb1 j (by omega)
              by_cases h40 : sp_here tx ln p4 = 40
              · have hlt := here_pos (tx := tx) (ln := ln) (p := p4) (by omega)
                rw [if_pos h40, if_pos hlt]
                have est : sp_st tx ln p4 br dp' o' = (p4 + 1, nu br dp' o', dp' + 1) := if_pos ⟨h40, by omega⟩
                rw [est]
                dsimp only
                refine ih (ow := some o') (by omega) (by omega) (by omega) (by omega) (by omega) (by omega) (fun o ho => by cases ho; exact q1) (fun j hj => ?_) hA1 f2 f3
                by_cases e : j = dp'
                · subst e
                  rw [nu_at', nu_at']
                  exact ⟨rfl, q1⟩
                · rw [nu_ne e, nu_ne e]
                  exact hb2 j (by omega)
              · rw [if_neg h40]
                by_cases hlt : p4 < ln
                · rw [if_pos hlt, if_pos hlt]
                  have est : sp_st tx ln p4 br dp' o' = (p4, br, dp') := if_neg fun q => h40 q.1
                  rw [est]
                  dsimp only
                  exact ih (ow := some o') (by omega) (by omega) (by omega) (by omega) (by omega) (by omega) (fun o ho => by cases ho; exact q1) hb2 hA1 f2 f3
                · rw [if_neg hlt, if_neg hlt]
                  by_cases hd0 : dp' = 0
                  · rw [if_pos hd0]
                    have eop := op_rel (oa := B2.2.2.2.2.1) (oa' := oa2) (k := 9) (i := 1) (fun d hd => (f3 d (by omega)).1)
                    cases hop : sp_op oa2 9 1 with
                    | false =>
                      rw [if_pos ⟨hd0, rfl⟩]
                      exact ⟨_, _, _, rfl, by rw [eop, hop], hA1, f2, by omega⟩
                    | true =>
                      rw [if_neg (fun q => by cases q.2)]
                      exact Or.inr ⟨_, rfl, by dsimp only; rw [eop, hop]⟩
                  · rw [if_neg hd0, if_neg (fun q => hd0 q.1)]
                    exact Or.inl rfl
