/-! RUNS OF THE ABSTRACT MACHINE, GOAL FIRST -/
abbrev jx_P : Type := (Nat → Nat) × (Nat → List (Nat × Nat × Nat × Nat)) × (Nat → Nat → Option jx_O)
theorem jx_mf {ml : Nat → Nat} {hs : Nat → List (Nat × Nat × Nat × Nat)} {cd : Nat → Nat → Option jx_O} : ∀ (f d mi pc : Nat) (L : jx_L) (st : List Value) (M : jx_M) (x : jx_R × jx_M), jx_run ml hs cd f d mi pc L st M = some x → jx_run ml hs cd (f + 1) d mi pc L st M = some x := by
  intro f
  induction f with
  | zero => intro d mi pc L st M x h; cases h
  | succ f ih =>
    intro d mi pc L st M x h
    rw [jx_run] at h
    rw [jx_run]
    cases hc : cd mi pc with
    | none => rw [hc] at h; cases h
    | some op =>
      rw [hc] at h
      dsimp only at h ⊢
      cases ho : op pc L st M with
      | none => rw [ho] at h; cases h
      | some N =>
        rw [ho] at h
        rcases N with ⟨pc', L', st', M1⟩ | ⟨r, M1⟩ | ⟨ce, as, rest, pc'⟩
        · exact ih _ _ _ _ _ _ _ h
        · exact h
        · cases d with
          | zero => cases h
          | succ d' =>
            dsimp only at h ⊢
            by_cases hen : (jx_en as (ml ce)).length = ml ce
            · rw [if_pos hen] at h ⊢
              cases hr : jx_run ml hs cd f d' ce 0 (jx_en as (ml ce)) [] M with
              | none => rw [hr] at h; cases h
              | some y =>
                rw [hr] at h
                rw [ih _ _ _ _ _ _ _ hr]
                rcases y with ⟨v | k, M1⟩
                · exact ih _ _ _ _ _ _ _ h
                · dsimp only at h ⊢
                  cases hh : jx_hd pc (jx_cl (M1.1 k)) (hs mi) with
                  | none => rw [hh] at h; cases h
                  | some z =>
                    rw [hh] at h
                    cases z with
                    | none => exact h
                    | some hp => exact ih _ _ _ _ _ _ _ h
            · rw [if_neg hen] at h; cases h
theorem jx_mfs {ml : Nat → Nat} {hs : Nat → List (Nat × Nat × Nat × Nat)} {cd : Nat → Nat → Option jx_O} {f d mi pc : Nat} {L : jx_L} {st : List Value} {M : jx_M} {x : jx_R × jx_M} (g : Nat) (h : jx_run ml hs cd f d mi pc L st M = some x) : jx_run ml hs cd (f + g) d mi pc L st M = some x := by
  induction g with
  | zero => exact h
  | succ g ih => exact jx_mf _ _ _ _ _ _ _ _ ih
/-- the machine, at this place, comes to an end with 'post' -/
def jx_Z (P : jx_P) (d mi pc : Nat) (L : jx_L) (st : List Value) (M : jx_M) (post : jx_R → jx_M → Prop) : Prop := ∃ (f : Nat) (r : jx_R) (M' : jx_M), jx_run P.1 P.2.1 P.2.2 f d mi pc L st M = some (r, M') ∧ post r M'
section JZ
variable {P : jx_P} {d mi pc : Nat} {L : jx_L} {st : List Value} {M : jx_M} {post : jx_R → jx_M → Prop}
theorem jx_Z.mono {post' : jx_R → jx_M → Prop} (h : jx_Z P d mi pc L st M post) (k : ∀ r M', post r M' → post' r M') : jx_Z P d mi pc L st M post' := by
  obtain ⟨f, r, M', h1, h2⟩ := h
  exact ⟨f, r, M', h1, k r M' h2⟩
theorem jx_go (pc' : Nat) (L' : jx_L) (st' : List Value) (M1 : jx_M) {op : jx_O} (hc : P.2.2 mi pc = some op) (ho : op pc L st M = some (.inl (pc', L', st', M1))) (k : jx_Z P d mi pc' L' st' M1 post) : jx_Z P d mi pc L st M post := by
  obtain ⟨f, r, M', h1, h2⟩ := k
  refine ⟨f + 1, r, M', ?_, h2⟩
  rw [jx_run, hc]
  dsimp only
  rw [ho]
  exact h1
theorem jx_fin {r : jx_R} {M1 : jx_M} {op : jx_O} (hc : P.2.2 mi pc = some op) (ho : op pc L st M = some (.inr (.inl (r, M1)))) (k : post r M1) : jx_Z P d mi pc L st M post := by
  refine ⟨1, r, M1, ?_, k⟩
  rw [jx_run, hc]
  dsimp only
  rw [ho]
theorem jx_do {ce pc' : Nat} {as rest : List Value} {op : jx_O} (hc : P.2.2 mi pc = some op) (ho : op pc L st M = some (.inr (.inr (ce, as, rest, pc')))) (hen : (jx_en as (P.1 ce)).length = P.1 ce)
    (k : jx_Z P d ce 0 (jx_en as (P.1 ce)) [] M fun r M1 => match r with
      | .inl v => jx_Z P (d + 1) mi pc' L (v.toList ++ rest) M1 post
      | .inr x => match jx_hd pc (jx_cl (M1.1 x)) (P.2.1 mi) with
        | none => False
        | some none => post (.inr x) M1
        | some (some hp) => jx_Z P (d + 1) mi hp L [.ref x] M1 post) : jx_Z P (d + 1) mi pc L st M post := by
  obtain ⟨f, r, M1, h1, h2⟩ := k
  cases r with
  | inl v =>
    obtain ⟨g, r', M', h3, h4⟩ := h2
    refine ⟨f + g + 1, r', M', ?_, h4⟩
    rw [jx_run, hc]
    dsimp only
    rw [ho]
    dsimp only
    rw [if_pos hen, jx_mfs g h1]
    dsimp only
    rw [Nat.add_comm f g]
    exact jx_mfs f h3
  | inr x =>
    dsimp only at h2
    cases hh : jx_hd pc (jx_cl (M1.1 x)) (P.2.1 mi) with
    | none => rw [hh] at h2; exact absurd h2 id
    | some z =>
      rw [hh] at h2
      cases z with
      | none =>
        refine ⟨f + 1, .inr x, M1, ?_, h2⟩
        rw [jx_run, hc]
        dsimp only
        rw [ho]
        dsimp only
        rw [if_pos hen, h1]
        dsimp only
        rw [hh]
      | some hp =>
        obtain ⟨g, r', M', h3, h4⟩ := h2
        refine ⟨f + g + 1, r', M', ?_, h4⟩
        rw [jx_run, hc]
        dsimp only
        rw [ho]
        dsimp only
        rw [if_pos hen, jx_mfs g h1]
        dsimp only
        rw [hh]
        dsimp only
        rw [Nat.add_comm f g]
        exact jx_mfs f h3
end JZ
