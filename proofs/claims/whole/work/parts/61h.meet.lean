/-! MATHEMATICS: 61h.meet -/
/-- the reference's valences, all of them -/
def sm_vl (bm : Nat → Nat) (n : Nat) : Nat → Nat → Bool → (Nat → MA) → Bool × (Nat → MA)
  | 0, _, r, A => (r, A)
  | k + 1, i, r, A => sm_vl bm n k (i + 1) (r && sm_v1 (A i) (sm_o1 (A i) (fun j => bm (40 * i + j)) n)) (nu A i (sm_h1 (A i) (sm_o1 (A i) (fun j => bm (40 * i + j)) n)))
theorem sm_vl_bad {bm : Nat → Nat} {n : Nat} : ∀ {k i : Nat} {A : Nat → MA}, (sm_vl bm n k i false A).1 = false := by
  intro k
  induction k with
  | zero => intro i A; rfl
  | succ k ih => intro i A; rw [sm_vl, Bool.false_and]; exact ih
theorem stl_rel {n : Nat} {ks nr bm : Nat → Nat} {wr : Nat → Option Nat} (hn : n ≤ 10) (N : gN n ks nr) (hk : ∀ i j, i < n → j < n → ks (i * 10 + j) = bm (40 * i + j)) (h4 : ∀ i j, i < n → j < n → bm (40 * i + j) ≤ 4) : ∀ {k i : Nat} {cs : Nat → Nat} {A : Nat → MA}, i + k = n → (∀ j, j < i → cs j = encH (A j) ∧ okM (A j)) → (∀ j, i ≤ j → j < n → cs j = encC (A j) ∧ wr j = encW (A j) ∧ okA false (A j)) →
    ((sm_vl bm n k i true A).1 = false → sp_stl nr wr k i cs = none) ∧ ((sm_vl bm n k i true A).1 = true → ∃ c', sp_stl nr wr k i cs = some c' ∧ (∀ j, j < n → c' j = encH ((sm_vl bm n k i true A).2 j) ∧ okM ((sm_vl bm n k i true A).2 j)) ∧ ∀ j, n ≤ j → c' j = cs j) := by
  intro k
  induction k with
  | zero =>
    intro i cs A hi h1 h2
    refine ⟨fun h => (by cases h), fun _ => ⟨cs, rfl, fun j hj => h1 j (by omega), fun _ _ => rfl⟩⟩
  | succ k ih =>
    intro i cs A hi h1 h2
    obtain ⟨c1, c2, c3⟩ := h2 i (Nat.le_refl _) (by omega)
    obtain ⟨x, x1, x2, x3, x4⟩ := cap_rel (okA_M c3)
    have ho := ord_rel (cs := cs) (b := fun j => bm (40 * i + j)) hn N (show i < n by omega) (fun j hj => hk i j (by omega) hj) (fun j hj => h4 i j (by omega) hj)
    rw [c1, x3] at ho
    have ho : sp_ord cs nr i = sm_o1 (A i) (fun j => bm (40 * i + j)) n := ho
    rw [sp_stl, c1, x1]
    dsimp only
    rw [x2, ho, c2, sm_vl, Bool.true_and]
    generalize sm_o1 (A i) (fun j => bm (40 * i + j)) n = o at *
    obtain ⟨s1, s2⟩ := stl1 (o := o) c3
    cases hv : sm_v1 (A i) o with
    | false =>
      have hno : ¬ (o ≤ sm_due (A i) ∧ (encW (A i) = none ∨ encW (A i) = some (sm_due (A i) - o))) := fun q => by rw [s1.mp q] at hv; cases hv
      rw [if_neg hno]
      exact ⟨fun _ => rfl, fun h => by rw [sm_vl_bad] at h; cases h⟩
    | true =>
      rw [if_pos (s1.mpr hv)]
      obtain ⟨t1, t2, t3, t4⟩ := s2 hv
      rw [t1]
      have k1 : ∀ j, j < i + 1 → nu cs i (encH (sm_h1 (A i) o)) j = encH (nu A i (sm_h1 (A i) o) j) ∧ okM (nu A i (sm_h1 (A i) o) j) := by
        intro j hj
        by_cases e : j = i
        · subst e; rw [nu_at', nu_at']; exact ⟨rfl, t2⟩
        · rw [nu_ne e, nu_ne e]; exact h1 j (by omega)
      have k2 : ∀ j, i + 1 ≤ j → j < n → nu cs i (encH (sm_h1 (A i) o)) j = encC (nu A i (sm_h1 (A i) o) j) ∧ wr j = encW (nu A i (sm_h1 (A i) o) j) ∧ okA false (nu A i (sm_h1 (A i) o) j) := by
        intro j hj1 hj2
        rw [nu_ne (by omega), nu_ne (by omega)]
        exact h2 j (by omega) hj2
      obtain ⟨i1, i2⟩ := ih (i := i + 1) (by omega) k1 k2
      refine ⟨i1, fun h => ?_⟩
      obtain ⟨c', e1, e2, e3⟩ := i2 h
      exact ⟨c', e1, e2, fun j hj => by rw [e3 j hj, nu_ne (by omega)]⟩
/-- valences keep all but hydrogens -/
theorem sm_vl_k {bm : Nat → Nat} {n : Nat} : ∀ {k i : Nat} {r : Bool} {A : Nat → MA} (j : Nat), ((sm_vl bm n k i r A).2 j).1 = (A j).1 ∧ ((sm_vl bm n k i r A).2 j).2.1 = (A j).2.1 ∧ ((sm_vl bm n k i r A).2 j).2.2.2 = (A j).2.2.2 := by
  intro k
  induction k with
  | zero => intro i r A j; exact ⟨rfl, rfl, rfl⟩
  | succ k ih =>
    intro i r A j
    rw [sm_vl]
    obtain ⟨a, b, c⟩ := ih (i := i + 1) (r := r && sm_v1 (A i) (sm_o1 (A i) (fun j => bm (40 * i + j)) n)) (A := nu A i (sm_h1 (A i) (sm_o1 (A i) (fun j => bm (40 * i + j)) n))) j
    have key : (nu A i (sm_h1 (A i) (sm_o1 (A i) (fun j => bm (40 * i + j)) n)) j).1 = (A j).1 ∧ (nu A i (sm_h1 (A i) (sm_o1 (A i) (fun j => bm (40 * i + j)) n)) j).2.1 = (A j).2.1 ∧ (nu A i (sm_h1 (A i) (sm_o1 (A i) (fun j => bm (40 * i + j)) n)) j).2.2.2 = (A j).2.2.2 := by
      by_cases e : j = i
      · subst e
        rw [nu_at']
        unfold sm_h1
        split <;> exact ⟨rfl, rfl, rfl⟩
      · rw [nu_ne e]; exact ⟨rfl, rfl, rfl⟩
    exact ⟨a.trans key.1, b.trans key.2.1, c.trans key.2.2⟩
/-- the lowest atom that is not taken -/
def sm_fr (tk : Nat → Bool) : Nat → Nat → Option Nat
  | 0, _ => none
  | k + 1, i => if tk i = false then some i else sm_fr tk k (i + 1)
/-- the reference's matching -/
def sm_mt (bm : Nat → Nat) (n : Nat) : Nat → (Nat → Bool) → Bool
  | 0, _ => true
  | f + 1, tk => match sm_fr tk n 0 with
    | none => true
    | some i => sp_any (fun j => decide (tk j = false ∧ j ≠ i ∧ bm (40 * i + j) = 4) && sm_mt bm n f (nu (nu tk i true) j true)) n 0
theorem sm_fr_some {tk : Nat → Bool} : ∀ {k i a : Nat}, i ≤ a → a < i + k → tk a = false → (∀ j, i ≤ j → j < a → tk j = true) → sm_fr tk k i = some a := by
  intro k
  induction k with
  | zero => intro i a h1 h2; omega
  | succ k ih =>
    intro i a h1 h2 h3 h4
    rw [sm_fr]
    by_cases e : i = a
    · subst e; rw [if_pos h3]
    · rw [if_neg (by rw [h4 i (Nat.le_refl _) (by omega)]; decide)]
      exact ih (by omega) (by omega) h3 fun j q1 q2 => h4 j (by omega) q2
theorem sm_fr_none {tk : Nat → Bool} : ∀ {k i : Nat}, (∀ j, i ≤ j → j < i + k → tk j = true) → sm_fr tk k i = none := by
  intro k
  induction k with
  | zero => intro i _; rfl
  | succ k ih =>
    intro i h
    rw [sm_fr, if_neg (by rw [h i (Nat.le_refl _) (by omega)]; decide)]
    exact ih fun j q1 q2 => h j (by omega) (by omega)
theorem sp_any_ext {p q : Nat → Bool} {k b k' b' : Nat} (h : (∃ j, b ≤ j ∧ j < b + k ∧ p j = true) ↔ ∃ j, b' ≤ j ∧ j < b' + k' ∧ q j = true) : sp_any p k b = sp_any q k' b' := by
  have h1 := sp_any_iff (p := p) (k := k) (b := b)
  have h2 := sp_any_iff (p := q) (k := k') (b := b')
  rw [h] at h1
  cases e1 : sp_any p k b with
  | true => rw [h2.mpr (h1.mp e1)]
  | false =>
    cases e2 : sp_any q k' b' with
    | false => rfl
    | true => rw [h1.mpr (h2.mp e2)] at e1; cases e1
theorem mt_rel {n : Nat} {ks nr bm : Nat → Nat} (hn : n ≤ 10) (N : gN n ks nr) (hk : ∀ i j, i < n → j < n → ks (i * 10 + j) = bm (40 * i + j)) : ∀ {f a s g : Nat} {tk : Nat → Bool}, n ≤ a + f → n ≤ a + g → (∀ j, j < n → (s.testBit j = true ↔ tk j = false)) → (∀ j, j < a → j < n → tk j = true) → sp_cp nr n f a s = sm_mt bm n g tk := by
  intro f
  induction f with
  | zero =>
    intro a s g tk h1 h2 h3 h4
    have e1 : sm_mt bm n g tk = true := by
      cases g with
      | zero => rfl
      | succ g => rw [sm_mt, sm_fr_none fun j q1 q2 => h4 j (by omega) (by omega)]
    rw [e1]
    rfl
  | succ f ih =>
    intro a s g tk h1 h2 h3 h4
    rw [sp_cp]
    by_cases ha : a < n
    · rw [if_pos ha]
      cases hb : s.testBit a with
      | false =>
        rw [if_neg (by decide)]
        refine ih (by omega) (by omega) h3 fun j q1 q2 => ?_
        by_cases e : j = a
        · subst e
          cases ht : tk j with
          | true => rfl
          | false => rw [(h3 j q2).mpr ht] at hb; cases hb
        · exact h4 j (by omega) q2
      | true =>
        rw [if_pos rfl]
        cases g with
        | zero => omega
        | succ g =>
          have hta := (h3 a ha).mp hb
          rw [sm_mt, sm_fr_some (Nat.zero_le a) (by omega) hta fun j _ q => h4 j q (by omega)]
          dsimp only
          have hbit : ∀ b, b < n → ((sp_del s a &&& nr (4 * 10 + a)).testBit b = true ↔ tk b = false ∧ b ≠ a ∧ bm (40 * a + b) = 4) := by
            intro b hbn
            rw [Nat.testBit_and, Bool.and_eq_true, sp_del_bit, h3 b hbn, N.2.2.2 4 a b (by decide) (by decide) ha, hk a b ha hbn]
            constructor
            · rintro ⟨⟨q1, q2⟩, q3, q4 | q4⟩
              · exact ⟨q1, q2, q4⟩
              · omega
            · rintro ⟨q1, q2, q3⟩
              exact ⟨⟨q1, q2⟩, hbn, Or.inl q3⟩
          have hrec : ∀ b, b < n → tk b = false → b ≠ a → sp_cp nr n f (a + 1) (sp_del (sp_del s a) b) = sm_mt bm n g (nu (nu tk a true) b true) := by
            intro b hbn htb hba
            refine ih (by omega) (by omega) (fun j hj => ?_) (fun j q1 q2 => ?_)
            · rw [sp_del_bit, sp_del_bit, h3 j hj]
              by_cases e1 : j = b
              · subst e1; rw [nu_at']; simp
              · rw [nu_ne e1]
                by_cases e2 : j = a
                · subst e2; rw [nu_at']; simp
                · rw [nu_ne e2]
                  exact ⟨fun q => q.1.1, fun q => ⟨⟨q, e2⟩, e1⟩⟩
            · by_cases e1 : j = b
              · subst e1; rw [nu_at']
              · rw [nu_ne e1]
                by_cases e2 : j = a
                · subst e2; rw [nu_at']
                · rw [nu_ne e2]; exact h4 j (by omega) q2
          refine sp_any_ext ⟨?_, ?_⟩
          · rintro ⟨b, b1, b2, b3⟩
            rw [Bool.and_eq_true] at b3
            have hbn : b < n := by omega
            have q := (hbit b hbn).mp b3.1
            refine ⟨b, by omega, by omega, ?_⟩
            rw [Bool.and_eq_true, decide_eq_true_iff, ← hrec b hbn q.1 q.2.1]
            exact ⟨q, b3.2⟩
          · rintro ⟨b, b1, b2, b3⟩
            have hbn : b < n := by omega
            rw [Bool.and_eq_true, decide_eq_true_iff] at b3
            have q := b3.1
            have hgt : a < b := by
              rcases Nat.lt_trichotomy a b with r | r | r
              · exact r
              · exact absurd r.symm q.2.1
              · rw [h4 b r hbn] at q; cases q.1
            refine ⟨b, by omega, by omega, ?_⟩
            rw [Bool.and_eq_true, hrec b hbn q.1 q.2.1]
            exact ⟨(hbit b hbn).mpr q, b3.2⟩
    · rw [if_neg ha]
      cases g with
      | zero => rfl
      | succ g => rw [sm_mt, sm_fr_none fun j q1 q2 => h4 j (by omega) (by omega)]
theorem sp_pg_bit {cs : Nat → Nat} : ∀ {k i s j : Nat}, (sp_pg cs k i s).testBit j = true ↔ s.testBit j = true ∨ i ≤ j ∧ j < i + k ∧ sp_pairs (cs j) = true := by
  intro k
  induction k with
  | zero => intro i s j; exact ⟨Or.inl, fun h => h.elim id fun h => by omega⟩
  | succ k ih =>
    intro i s j
    rw [sp_pg, ih]
    by_cases h : sp_pairs (cs i) = true
    · rw [if_pos h, Nat.testBit_or, Nat.testBit_two_pow, Bool.or_eq_true, decide_eq_true_iff]
      constructor
      · rintro ((h1 | h1) | h1)
        · exact Or.inl h1
        · subst h1; exact Or.inr ⟨Nat.le_refl _, by omega, h⟩
        · exact Or.inr ⟨by omega, by omega, h1.2.2⟩
      · rintro (h1 | h1)
        · exact Or.inl (Or.inl h1)
        · by_cases e : i = j
          · exact Or.inl (Or.inr e)
          · exact Or.inr ⟨by omega, by omega, h1.2.2⟩
    · rw [if_neg h]
      constructor
      · rintro (h1 | h1)
        · exact Or.inl h1
        · exact Or.inr ⟨by omega, by omega, h1.2.2⟩
      · rintro (h1 | h1)
        · exact Or.inl h1
        · by_cases e : i = j
          · subst e; exact absurd h1.2.2 h
          · exact Or.inr ⟨by omega, by omega, h1.2.2⟩
/-- the reference puts atom after atom -/
def sm_bt (n n' : Nat) (ag : Nat → Nat → (Nat → Nat) → Bool) : Nat → Nat → (Nat → Nat) → Bool
  | 0, _, _ => true
  | f + 1, i, pu => if i < n then sp_any (fun k => ag i k pu && sm_bt n n' ag f (i + 1) (nu pu i k)) n' 0 else true
theorem sm_bt_iff {n n' : Nat} {ag : Nat → Nat → (Nat → Nat) → Bool} (hag : ∀ i k pu pu', (∀ j, j < i → pu j = pu' j) → ag i k pu = ag i k pu') : ∀ {f i : Nat} {pu : Nat → Nat}, n ≤ i + f → (sm_bt n n' ag f i pu = true ↔ ∃ g : Nat → Nat, (∀ j, j < i → g j = pu j) ∧ ∀ j, i ≤ j → j < n → g j < n' ∧ ag j (g j) g = true) := by
  intro f
  induction f with
  | zero =>
    intro i pu h
    exact ⟨fun _ => ⟨pu, fun _ _ => rfl, fun j h1 h2 => by omega⟩, fun _ => rfl⟩
  | succ f ih =>
    intro i pu h
    rw [sm_bt]
    by_cases hi : i < n
    · rw [if_pos hi, sp_any_iff]
      constructor
      · rintro ⟨k, -, hk, hq⟩
        rw [Bool.and_eq_true, ih (by omega)] at hq
        obtain ⟨q1, g, q2, q3⟩ := hq
        have hgi : g i = k := by rw [q2 i (by omega), nu_at']
        have hgl : ∀ j, j < i → g j = pu j := fun j hj => by rw [q2 j (by omega), nu_ne (by omega)]
        refine ⟨g, hgl, fun j h1 h2 => ?_⟩
        by_cases e : j = i
        · subst e
          rw [hgi, hag j k g pu hgl]
          exact ⟨by omega, q1⟩
        · exact q3 j (by omega) h2
      · rintro ⟨g, q1, q2⟩
        obtain ⟨r1, r2⟩ := q2 i (Nat.le_refl _) hi
        refine ⟨g i, by omega, by omega, ?_⟩
        rw [Bool.and_eq_true, ih (by omega)]
        refine ⟨by rw [← hag i (g i) g pu q1]; exact r2, g, fun j hj => ?_, fun j h1 h2 => q2 j (by omega) h2⟩
        by_cases e : j = i
        · subst e; rw [nu_at']
        · rw [nu_ne e]; exact q1 j (by omega)
    · rw [if_neg hi]
      exact ⟨fun _ => ⟨pu, fun _ _ => rfl, fun j h1 h2 => by omega⟩, fun _ => rfl⟩
/-- the kinds of a bond read and of one kept -/
def sm_kk (ex : Bool) (b c : Nat) : Bool := decide (b = c ∨ b = 5 ∧ c ≠ 0 ∨ b = 0 ∧ ex = false)
/-- an atom against those that are put already -/
def sm_ags (ex : Bool) (bm al : Nat → Nat) (m i k : Nat) (pu : Nat → Nat) : Nat → Nat → Bool
  | 0, _ => true
  | q + 1, j => if pu j ≠ k ∧ sm_kk ex (bm (40 * i + j)) (al (100 * m + 10 * k + pu j)) = true then sm_ags ex bm al m i k pu q (j + 1) else false
theorem sm_ags_iff {ex : Bool} {bm al : Nat → Nat} {m i k : Nat} {pu : Nat → Nat} : ∀ {q j : Nat}, sm_ags ex bm al m i k pu q j = true ↔ ∀ t, j ≤ t → t < j + q → pu t ≠ k ∧ sm_kk ex (bm (40 * i + t)) (al (100 * m + 10 * k + pu t)) = true := by
  intro q
  induction q with
  | zero => intro j; exact ⟨fun _ t h1 h2 => by omega, fun _ => rfl⟩
  | succ q ih =>
    intro j
    rw [sm_ags]
    by_cases h : pu j ≠ k ∧ sm_kk ex (bm (40 * i + j)) (al (100 * m + 10 * k + pu j)) = true
    · rw [if_pos h, ih]
      constructor
      · intro h1 t q1 q2
        by_cases e : t = j
        · subst e; exact h
        · exact h1 t (by omega) (by omega)
      · exact fun h1 t q1 q2 => h1 t (by omega) (by omega)
    · rw [if_neg h]
      exact ⟨fun q => (by cases q), fun q => absurd (q j (Nat.le_refl _) (by omega)) h⟩
def sm_ag (fit : Nat → Nat → Bool) (ex : Bool) (bm al : Nat → Nat) (m : Nat) (i k : Nat) (pu : Nat → Nat) : Bool := fit i k && sm_ags ex bm al m i k pu i 0
theorem sm_ag_c {fit : Nat → Nat → Bool} {ex : Bool} {bm al : Nat → Nat} {m : Nat} (i k : Nat) (pu pu' : Nat → Nat) (h : ∀ j, j < i → pu j = pu' j) : sm_ag fit ex bm al m i k pu = sm_ag fit ex bm al m i k pu' := by
  have key : ∀ {q j : Nat}, j + q = i → sm_ags ex bm al m i k pu q j = sm_ags ex bm al m i k pu' q j := by
    intro q
    induction q with
    | zero => intro j _; rfl
    | succ q ih => intro j hj; rw [sm_ags, sm_ags, h j (by omega), ih (by omega)]
  unfold sm_ag
  rw [key (by omega)]
theorem bt_emb {fit : Nat → Nat → Bool} {bm al ks ks' pu : Nat → Nat} {m n n' : Nat} (hn : n ≤ 10) (hn' : n' ≤ 10) (hk : ∀ i j, i < n → j < n → ks (i * 10 + j) = bm (40 * i + j)) (hk' : ∀ i j, i < n' → j < n' → ks' (i * 10 + j) = al (100 * m + 10 * i + j)) : sm_bt n n' (sm_ag fit false bm al m) 10 0 pu = true ↔ gEmb fit n ks n' ks' := by
  rw [sm_bt_iff sm_ag_c (by omega)]
  constructor
  · rintro ⟨g, -, h⟩
    refine ⟨g, fun j hj => ?_⟩
    obtain ⟨h1, h2⟩ := h j (Nat.zero_le _) hj
    unfold sm_ag at h2
    rw [Bool.and_eq_true, sm_ags_iff] at h2
    refine ⟨h1, h2.1, fun i hi => ?_⟩
    obtain ⟨q1, q2⟩ := h2.2 i (Nat.zero_le _) (by omega)
    refine ⟨q1, ?_⟩
    unfold sm_kk at q2
    rw [decide_eq_true_iff] at q2
    rw [hk j i hj (by omega), hk' _ _ h1 (h i (Nat.zero_le _) (by omega)).1]
    rcases q2 with q2 | q2 | q2
    · exact Or.inr (Or.inl q2)
    · exact Or.inr (Or.inr q2)
    · exact Or.inl q2.1
  · rintro ⟨g, h⟩
    refine ⟨g, fun j hj => by omega, fun j _ hj => ?_⟩
    obtain ⟨h1, h2, h3⟩ := h j hj
    refine ⟨h1, ?_⟩
    unfold sm_ag
    rw [Bool.and_eq_true, sm_ags_iff]
    refine ⟨h2, fun i _ hi => ?_⟩
    obtain ⟨q1, q2⟩ := h3 i (by omega)
    refine ⟨q1, ?_⟩
    unfold sm_kk
    rw [decide_eq_true_iff]
    rw [hk j i hj (by omega), hk' _ _ h1 (h i (by omega)).1] at q2
    rcases q2 with q2 | q2 | q2
    · exact Or.inr (Or.inr ⟨q2, rfl⟩)
    · exact Or.inl q2
    · exact Or.inr (Or.inl q2)
theorem bt_iso {fit : Nat → Nat → Bool} {bm al ks ks' pu : Nat → Nat} {m n : Nat} (hn : n ≤ 10) (hk : ∀ i j, i < n → j < n → ks (i * 10 + j) = bm (40 * i + j)) (h5 : ∀ i j, i < n → j < n → bm (40 * i + j) ≤ 4) (hk' : ∀ i j, i < n → j < n → ks' (i * 10 + j) = al (100 * m + 10 * i + j)) : sm_bt n n (sm_ag fit true bm al m) 10 0 pu = true ↔ gIso fit n ks ks' := by
  rw [sm_bt_iff sm_ag_c (by omega)]
  constructor
  · rintro ⟨g, -, h⟩
    refine ⟨g, fun j hj => ?_⟩
    obtain ⟨h1, h2⟩ := h j (Nat.zero_le _) hj
    unfold sm_ag at h2
    rw [Bool.and_eq_true, sm_ags_iff] at h2
    refine ⟨h1, h2.1, fun i hi => ?_⟩
    obtain ⟨q1, q2⟩ := h2.2 i (Nat.zero_le _) (by omega)
    refine ⟨q1, ?_⟩
    unfold sm_kk at q2
    rw [decide_eq_true_iff] at q2
    have := h5 j i hj (by omega)
    rw [hk j i hj (by omega), hk' _ _ h1 (h i (Nat.zero_le _) (by omega)).1]
    rcases q2 with q2 | q2 | q2
    · exact q2
    · omega
    · cases q2.2
  · rintro ⟨g, h⟩
    refine ⟨g, fun j hj => by omega, fun j _ hj => ?_⟩
    obtain ⟨h1, h2, h3⟩ := h j hj
    refine ⟨h1, ?_⟩
    unfold sm_ag
    rw [Bool.and_eq_true, sm_ags_iff]
    refine ⟨h2, fun i _ hi => ?_⟩
    obtain ⟨q1, q2⟩ := h3 i (by omega)
    refine ⟨q1, ?_⟩
    unfold sm_kk
    rw [decide_eq_true_iff]
    rw [hk j i hj (by omega), hk' _ _ h1 (h i (by omega)).1] at q2
    exact Or.inl q2
/-- the reference's comparison of an atom read and one kept: element, aromatic, hydrogens, charge of the kept one -/
def sm_ft (ex : Bool) (m : MA) (e : Nat) (ar : Bool) (hy : Nat) (c : Option Nat) : Bool := if m.2.2.2.2.2 ≠ 0 then decide (m.2.2.2.2.2 = 63) || (match sp_el e with
  | none => false
  | some x => m.2.2.2.2.2.testBit x) else decide (m.1 = e ∧ m.2.1 = ar ∧ m.2.2.2.1 = c ∧ (ex = false ∨ m.2.2.1 = hy))
theorem ft_ex {m m' : MA} (h : okM m) (h' : okM m') : sp_fits (encH m) (sp_ign 0 (encH m')) = sm_ft true m m'.1 m'.2.1 m'.2.2.1 m'.2.2.2.1 := by
  unfold sp_fits sp_ign sm_ft
  rw [if_pos (encH_bits h).2.2.1, if_pos rfl, if_neg (fun q => q h.2.2.1)]
  refine decide_eq_decide.mpr ?_
  rw [encH_inj h h']
  constructor
  · rintro ⟨a, b, c, d⟩; exact ⟨a, b, d, Or.inr c⟩
  · rintro ⟨a, b, d, c | c⟩
    · cases c
    · exact ⟨a, b, c, d⟩
theorem ft_pt {m m' : MA} (h : okA true m) (h' : okM m') : sp_fits (encC m) (sp_ign 1792 (encH m')) = sm_ft false m m'.1 m'.2.1 m'.2.2.1 m'.2.2.2.1 := by
  have hb := encH_bits h'
  unfold sp_fits sp_ign sm_ft
  rw [if_neg (show ¬ (1792 = 0) by decide), hb.2.2.2.1]
  obtain ⟨h1, h2, h3, h4⟩ := h
  by_cases hls : m.2.2.2.2.2 = 0
  · have hM : okM m := ⟨h1, h3, hls, by rcases h4 with h4 | h4; exact h4.2.1; omega⟩
    have hlt : encC m < 16384 := by
      have := (encH_bits hM).2.2.1
      unfold encH at this
      omega
    rw [if_pos hlt, if_neg (fun q => q hls)]
    refine decide_eq_decide.mpr ?_
    rw [encC_inj hM h']
    simp
  · have h5 : m.2.2.2.2.2 = 63 ∨ 0 < m.2.2.2.2.2 ∧ m.2.2.2.2.2 < 32 := by
      rcases h4 with h4 | h4
      · exact absurd h4.1 hls
      · exact h4.2.2.2.2
    have he : encC m = 16384 + m.2.2.2.2.2 % 32 := by
      unfold encC
      rw [if_neg hls]
    rw [if_neg (by omega), if_pos hls, he, hb.2.2.2.2]
    obtain ⟨x, x1⟩ : ∃ x, sp_el m'.1 = some x := by
      obtain ⟨x, x1, -⟩ := cap_rel h'
      exact ⟨x, by rw [← x1, hb.2.2.2.2]⟩
    rw [x1]
    dsimp only
    rw [show 16384 + m.2.2.2.2.2 % 32 - 16384 = m.2.2.2.2.2 % 32 by omega]
    have hx := (sp_el_lt5 x1).1
    rcases h5 with h5 | h5
    · rw [h5]
      exact (by decide : ∀ x, x < 5 → (63 % 32).testBit x = (decide (63 = 63) || (63 : Nat).testBit x)) x hx
    · rw [Nat.mod_eq_of_lt h5.2, decide_eq_false (by omega), Bool.false_or]
