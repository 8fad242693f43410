/-! MATHEMATICS: 61d.atom -/
def encQ (c : Option Nat) : Nat := match c with
  | none => 0
  | some q => 4096 * (q + 1)
/-- an atom of the reference: element, aromatic, hydrogens, charge, in brackets, list -/
abbrev MA : Type := Nat × Bool × Nat × Option Nat × Bool × Nat
/-- the class's code of it, and what was written -/
def encC (m : MA) : Nat := if m.2.2.2.2.2 = 0 then m.1 + (if m.2.1 = true then 128 else 0) + encQ m.2.2.2.1 else 16384 + m.2.2.2.2.2 % 32
def encW (m : MA) : Option Nat := if m.2.2.2.2.1 = true then some m.2.2.1 else none
def sm_sl (tx : Nat → Nat) (ln : Nat) : Nat → Nat → Nat → Nat → Nat × Nat × Nat
  | 0, p, s, n => (p, s, n)
  | k + 1, p, s, n => if sp_here tx ln p = 44 then (match sp_el (sp_here tx ln (p + 1)) with
    | none => (p, s, n)
    | some e => sm_sl tx ln k (p + 2) (s ||| 2 ^ e) (n + 1)) else (p, s, n)
def sm_sev (tx : Nat → Nat) (ln at_ x : Nat) : Option (MA × Nat) := if sp_here tx ln (sm_sl tx ln 40 (at_ + 2) (2 ^ x) 1).1 = 93 ∧ (sm_sl tx ln 40 (at_ + 2) (2 ^ x) 1).2.2 ≤ 4 then some ((42, false, 0, some 0, false, (sm_sl tx ln 40 (at_ + 2) (2 ^ x) 1).2.1), (sm_sl tx ln 40 (at_ + 2) (2 ^ x) 1).1 + 1) else none
def sm_chg (h : Nat) : Option Nat := if h = 43 then some 1 else if h = 45 then none else some 0
def sm_p1 (tx : Nat → Nat) (ln at_ : Nat) : Nat := at_ + 2 + sp_hyp (sp_here tx ln (at_ + 2)) (sp_here tx ln (at_ + 3))
def sm_p2 (tx : Nat → Nat) (ln at_ : Nat) : Nat := sm_p1 tx ln at_ + sp_chp (sp_here tx ln (sm_p1 tx ln at_))
def sm_one (tx : Nat → Nat) (ln at_ : Nat) : Option (MA × Nat) := if sp_here tx ln (sm_p2 tx ln at_) = 93 then some ((sp_here tx ln (at_ + 1), false, sp_hyd (sp_here tx ln (at_ + 2)) (sp_here tx ln (at_ + 3)), sm_chg (sp_here tx ln (sm_p1 tx ln at_)), true, 0), sm_p2 tx ln at_ + 1) else none
def sm_at (tx : Nat → Nat) (ln : Nat) (pt : Bool) (at_ : Nat) : Option (MA × Nat) := match sp_el (sp_here tx ln at_) with
  | some _ => some ((sp_here tx ln at_, false, 0, some 0, false, 0), at_ + 1)
  | none => if sp_here tx ln at_ = 99 ∨ sp_here tx ln at_ = 110 ∨ sp_here tx ln at_ = 111 ∨ sp_here tx ln at_ = 115 then some ((sp_here tx ln at_ - 32, true, 0, some 0, false, 0), at_ + 1) else
    if sp_here tx ln at_ = 42 ∧ pt = true then some ((42, false, 0, some 0, false, 63), at_ + 1) else
    if sp_here tx ln at_ = 91 then match sp_el (sp_here tx ln (at_ + 1)) with
      | none => none
      | some x => if pt = true ∧ sp_here tx ln (at_ + 2) = 44 then sm_sev tx ln at_ x else sm_one tx ln at_
    else none
theorem sm_sl_n {tx : Nat → Nat} {ln : Nat} : ∀ {k p s n : Nat}, n ≤ (sm_sl tx ln k p s n).2.2 := by
  intro k
  induction k with
  | zero => intro p s n; exact Nat.le_refl _
  | succ k ih =>
    intro p s n
    unfold sm_sl
    split
    · split
      · exact Nat.le_refl _
      · exact Nat.le_of_succ_le ih
    · exact Nat.le_refl _
theorem sm_sl_ok {tx : Nat → Nat} {ln : Nat} : ∀ {k p s n : Nat}, 0 < s → s < 32 → 0 < (sm_sl tx ln k p s n).2.1 ∧ (sm_sl tx ln k p s n).2.1 < 32 := by
  intro k
  induction k with
  | zero => intro p s n h1 h2; exact ⟨h1, h2⟩
  | succ k ih =>
    intro p s n h1 h2
    unfold sm_sl
    split
    · split
      · exact ⟨h1, h2⟩
      · rename_i e he
        have h5 : e < 5 := by
          unfold sp_el at he
          repeat' split at he
          all_goals first | cases he; decide | cases he
        have h6 : (2 : Nat) ^ e < 32 := Nat.lt_of_lt_of_le (Nat.pow_lt_pow_right (by decide) h5) (by decide : (2 : Nat) ^ 5 ≤ 32)
        refine ih (Nat.lt_of_lt_of_le h1 Nat.left_le_or) (Nat.or_lt_two_pow (n := 5) h2 h6)
    · exact ⟨h1, h2⟩
theorem here_ge {tx : Nat → Nat} {ln p : Nat} (h : ln ≤ p) : sp_here tx ln p = 0 := by
  unfold sp_here
  rw [if_neg (by omega)]
theorem sl_rel {tx : Nat → Nat} {ln : Nat} : ∀ {f k p s n : Nat}, n + k = 4 → ln ≤ p + f → sp_list tx ln k p s = if sp_here tx ln (sm_sl tx ln f p s n).1 = 93 ∧ (sm_sl tx ln f p s n).2.2 ≤ 4 then some (16384 + (sm_sl tx ln f p s n).2.1, none, (sm_sl tx ln f p s n).1 + 1) else none := by
  intro f
  induction f with
  | zero =>
    intro k p s n hk hp
    have h0 := here_ge (tx := tx) (ln := ln) (p := p) (by omega)
    have e1 : sm_sl tx ln 0 p s n = (p, s, n) := rfl
    rw [e1]
    dsimp only
    rw [h0, if_neg (by omega)]
    cases k with
    | zero => rw [sp_list, h0, if_neg (by decide)]
    | succ k => rw [sp_list, h0, if_neg (by decide), if_neg (by decide)]
  | succ f ih =>
    intro k p s n hk hp
    by_cases h44 : sp_here tx ln p = 44
    · cases he : sp_el (sp_here tx ln (p + 1)) with
      | none =>
        have e1 : sm_sl tx ln (f + 1) p s n = (p, s, n) := by rw [sm_sl, if_pos h44, he]
        rw [e1]
        dsimp only
        rw [h44, if_neg (by omega)]
        cases k with
        | zero => rw [sp_list, h44, if_neg (by decide)]
        | succ k => rw [sp_list, if_pos h44, he]
      | some e =>
        have e1 : sm_sl tx ln (f + 1) p s n = sm_sl tx ln f (p + 2) (s ||| 2 ^ e) (n + 1) := by rw [sm_sl, if_pos h44, he]
        rw [e1]
        cases k with
        | zero =>
          have := sm_sl_n (tx := tx) (ln := ln) (k := f) (p := p + 2) (s := s ||| 2 ^ e) (n := n + 1)
          rw [sp_list, h44, if_neg (by decide), if_neg (by omega)]
        | succ k =>
          rw [sp_list, if_pos h44, he]
          exact ih (by omega) (by omega)
    · have e1 : sm_sl tx ln (f + 1) p s n = (p, s, n) := by rw [sm_sl, if_neg h44]
      rw [e1]
      dsimp only
      have hn : n ≤ 4 := by omega
      cases k with
      | zero =>
        rw [sp_list]
        by_cases h93 : sp_here tx ln p = 93
        · rw [if_pos h93, if_pos ⟨h93, hn⟩]
        · rw [if_neg h93, if_neg (fun q => h93 q.1)]
      | succ k =>
        rw [sp_list, if_neg h44]
        by_cases h93 : sp_here tx ln p = 93
        · rw [if_pos h93, if_pos ⟨h93, hn⟩]
        · rw [if_neg h93, if_neg (fun q => h93 q.1)]
theorem sp_el_lt5 {c e : Nat} (h : sp_el c = some e) : e < 5 ∧ (c = 67 ∨ c = 78 ∨ c = 79 ∨ c = 83 ∨ c = 70) := by
  unfold sp_el at h
  repeat' split at h
  all_goals first | (cases h; omega) | cases h
theorem sm_chg_enc {h : Nat} : encQ (sm_chg h) = sp_chg h := by
  unfold sm_chg sp_chg
  split
  · rfl
  · split
    · rfl
    · rfl
/-- both read the same atom -/
theorem at_rel {tx : Nat → Nat} {ln : Nat} (hl : ln ≤ 40) {pt : Bool} {p : Nat} : sp_atom tx ln pt p = (sm_at tx ln pt p).map fun m => (encC m.1, encW m.1, m.2) := by
  unfold sp_atom sm_at
  generalize hc : sp_here tx ln p = c
  by_cases h91 : c = 91
  · subst h91
    rw [if_pos rfl]
    have e1 : sp_el 91 = none := rfl
    rw [e1]
    dsimp only
    rw [if_neg (by decide), if_neg (fun q => absurd q.1 (by decide)), if_pos rfl]
    unfold sp_brk
    cases he : sp_el (sp_here tx ln (p + 1)) with
    | none => rfl
    | some x =>
      dsimp only
      have h5 := (sp_el_lt5 he).1
      by_cases hp : pt = true ∧ sp_here tx ln (p + 2) = 44
      · rw [if_pos hp, if_pos hp]
        unfold sm_sev
        rw [sl_rel (f := 40) (n := 1) (by decide) (by omega)]
        have h6 : (2 : Nat) ^ x < 32 := Nat.lt_of_lt_of_le (Nat.pow_lt_pow_right (by decide) h5) (by decide : (2 : Nat) ^ 5 ≤ 32)
        have h7 := sm_sl_ok (tx := tx) (ln := ln) (k := 40) (p := p + 2) (n := 1) (Nat.two_pow_pos x) h6
        by_cases q : sp_here tx ln (sm_sl tx ln 40 (p + 2) (2 ^ x) 1).1 = 93 ∧ (sm_sl tx ln 40 (p + 2) (2 ^ x) 1).2.2 ≤ 4
        · rw [if_pos q, if_pos q]
          simp only [Option.map_some, encC, encW]
          rw [if_neg (by omega), if_neg (by decide), Nat.mod_eq_of_lt h7.2]
        · rw [if_neg q, if_neg q]
          rfl
      · rw [if_neg hp, if_neg hp]
        unfold sm_one
        show (if sp_here tx ln (sm_p2 tx ln p) = 93 then some (sp_here tx ln (p + 1) + sp_chg (sp_here tx ln (sm_p1 tx ln p)), some (sp_hyd (sp_here tx ln (p + 2)) (sp_here tx ln (p + 3))), sm_p2 tx ln p + 1) else none) = _
        by_cases q : sp_here tx ln (sm_p2 tx ln p) = 93
        · rw [if_pos q, if_pos q]
          simp only [Option.map_some, encC, encW, if_true]
          rw [sm_chg_enc]
          rfl
        · rw [if_neg q, if_neg q]
          rfl
  · rw [if_neg h91]
    cases he : sp_el c with
    | some x =>
      have h1 := (sp_el_lt5 he).2
      have e2 : sp_ar c = none := by
        rcases h1 with h | h | h | h | h <;> subst h <;> rfl
      rw [if_neg (by omega), e2]
      rfl
    | none =>
      dsimp only
      by_cases ha : c = 99 ∨ c = 110 ∨ c = 111 ∨ c = 115
      · have e2 : ∃ y, sp_ar c = some y := by
          rcases ha with h | h | h | h <;> subst h <;> exact ⟨_, rfl⟩
        obtain ⟨y, e2⟩ := e2
        rw [if_neg (by omega), e2, if_pos ha]
        simp only [Option.map_some, encC, encW, if_true, encQ]
        rw [show c - 97 + 65 + 128 + 4096 = c - 32 + 128 + 4096 * (0 + 1) by omega]
        rfl
      · have e2 : sp_ar c = none := by
          unfold sp_ar
          rw [if_neg (by omega), if_neg (by omega), if_neg (by omega), if_neg (by omega)]
        rw [if_neg ha]
        by_cases h42 : pt = true ∧ c = 42
        · rw [if_pos h42, if_pos ⟨h42.2, h42.1⟩]
          simp [encC, encW]
        · rw [if_neg h42, if_neg (fun q => h42 ⟨q.2, q.1⟩), e2, if_neg h91]
          rfl
/-- what an atom of the reference may be -/
def okA (pt : Bool) (m : MA) : Prop := m.2.2.1 ≤ 4 ∧ (m.2.2.2.2.1 = true → m.2.1 = false) ∧ (m.2.2.2.1 = none ∨ m.2.2.2.1 = some 0 ∨ m.2.2.2.1 = some 1) ∧ (m.2.2.2.2.2 = 0 ∧ (m.1 = 67 ∨ m.1 = 78 ∨ m.1 = 79 ∨ m.1 = 83 ∨ m.1 = 70) ∧ (m.2.1 = true → m.1 ≠ 70) ∧ (m.2.2.2.2.1 = false → m.2.2.2.1 = some 0 ∧ m.2.2.1 = 0) ∨ pt = true ∧ m.1 = 42 ∧ m.2.1 = false ∧ m.2.2.2.2.1 = false ∧ (m.2.2.2.2.2 = 63 ∨ 0 < m.2.2.2.2.2 ∧ m.2.2.2.2.2 < 32))
theorem sm_at_ok {tx : Nat → Nat} {ln : Nat} {pt : Bool} {p : Nat} {m : MA} {q : Nat} (h : sm_at tx ln pt p = some (m, q)) : okA pt m ∧ p < q := by
  unfold sm_at at h
  split at h
  · rename_i x hx
    cases h
    have := (sp_el_lt5 hx).2
    refine ⟨⟨Nat.zero_le 4, fun q => (by cases q), Or.inr (Or.inl rfl), Or.inl ⟨rfl, this, fun q => (by cases q), fun _ => ⟨rfl, rfl⟩⟩⟩, by omega⟩
  · split at h
    · rename_i h1
      cases h
      refine ⟨⟨by dsimp only; decide, fun q => (by cases q), Or.inr (Or.inl rfl), Or.inl ⟨rfl, by dsimp only; omega, fun _ => by dsimp only; omega, fun _ => ⟨rfl, rfl⟩⟩⟩, by omega⟩
    · split at h
      · rename_i h1
        cases h
        exact ⟨⟨by dsimp only; decide, fun q => (by cases q), Or.inr (Or.inl rfl), Or.inr ⟨h1.2, rfl, rfl, rfl, Or.inl rfl⟩⟩, by omega⟩
      · split at h
        · split at h
          · cases h
          · rename_i x hx
            have h5 := sp_el_lt5 hx
            split at h
            · rename_i hpt
              unfold sm_sev at h
              have h6 : (2 : Nat) ^ x < 32 := Nat.lt_of_lt_of_le (Nat.pow_lt_pow_right (by decide) h5.1) (by decide : (2 : Nat) ^ 5 ≤ 32)
              have h7 := sm_sl_ok (tx := tx) (ln := ln) (k := 40) (p := p + 2) (n := 1) (Nat.two_pow_pos x) h6
              have h8 : ∀ {k a s n : Nat}, a ≤ (sm_sl tx ln k a s n).1 := by
                intro k
                induction k with
                | zero => intro a s n; exact Nat.le_refl _
                | succ k ih =>
                  intro a s n
                  unfold sm_sl
                  split
                  · split
                    · exact Nat.le_refl _
                    · exact Nat.le_trans (by omega) ih
                  · exact Nat.le_refl _
              have h9 := h8 (k := 40) (a := p + 2) (s := 2 ^ x) (n := 1)
              split at h
              · cases h
                exact ⟨⟨by dsimp only; decide, fun q => (by cases q), Or.inr (Or.inl rfl), Or.inr ⟨hpt.1, rfl, rfl, rfl, Or.inr h7⟩⟩, by omega⟩
              · cases h
            · unfold sm_one at h
              split at h
              · cases h
                refine ⟨⟨?_, fun _ => rfl, ?_, Or.inl ⟨rfl, h5.2, fun q => (by cases q), fun q => (by cases q)⟩⟩, ?_⟩
                · dsimp only
                  unfold sp_hyd
                  repeat' split
                  all_goals omega
                · dsimp only
                  unfold sm_chg
                  repeat' split
                  · exact Or.inr (Or.inr rfl)
                  · exact Or.inl rfl
                  · exact Or.inr (Or.inl rfl)
                · unfold sm_p2 sm_p1
                  omega
              · cases h
        · cases h
