/-! MATHEMATICS: 61c.fill -/
theorem nu_at' {α : Type} {f : Nat → α} {k : Nat} {x : α} : nu f k x k = x := if_pos rfl
theorem nu_ne {α : Type} {f : Nat → α} {k j : Nat} {x : α} (h : j ≠ k) : nu f k x j = f j := if_neg h
theorem filter_new {p q : Nat → Bool} {x : Nat} : ∀ {l : List Nat}, l.Nodup → x ∈ l → p x = false → q x = true → (∀ y, y ≠ x → q y = p y) → (l.filter q).length = (l.filter p).length + 1 := by
  intro l
  induction l with
  | nil => intro _ h; cases h
  | cons a t ih =>
    intro hd hm hp hq he
    rw [List.nodup_cons] at hd
    by_cases e : a = x
    · subst e
      rw [List.filter_cons_of_pos hq, List.filter_cons_of_neg (by rw [hp]; decide)]
      have h1 : t.filter q = t.filter p := List.filter_congr fun y hy => he y fun e => hd.1 (e ▸ hy)
      rw [h1]
      rfl
    · have hm' : x ∈ t := by
        rcases List.mem_cons.mp hm with h | h
        · exact absurd h.symm e
        · exact h
      have h1 := ih hd.2 hm' hp hq he
      have h2 := he a e
      cases h3 : p a with
      | true =>
        rw [h3] at h2
        rw [List.filter_cons_of_pos h2, List.filter_cons_of_pos h3, List.length_cons, List.length_cons, h1]
      | false =>
        rw [h3] at h2
        rw [List.filter_cons_of_neg (by rw [h2]; decide), List.filter_cons_of_neg (by rw [h3]; decide), h1]
theorem gEs_nu {n : Nat} {ks : Nat → Nat} {x k : Nat} (h1 : x < 100) (h2 : x / 10 < n) (h3 : x % 10 < n) (h4 : ks x = 0) (h5 : k ≠ 0) : (gEs n (nu ks x k)).length = (gEs n ks).length + 1 := by
  unfold gEs
  refine filter_new (x := x) List.nodup_range (List.mem_range.mpr h1) (decide_eq_false fun q => q.2.2 h4) (decide_eq_true ⟨h2, h3, by rw [nu_at']; exact h5⟩) fun y hy => ?_
  rw [nu_ne hy]
theorem sp_nr_bit {nr : Nat → Nat} {a b k q c x : Nat} (ha : a < 10) (hc : c < 10) (hk : k < 6) (hq : q < 6) : (sp_nr nr a b k (q * 10 + c)).testBit x = true ↔ (nr (q * 10 + c)).testBit x = true ∨ c = a ∧ x = b ∧ (q = k ∨ q = 5) := by
  have key : ∀ {f : Nat → Nat} {y : Nat}, (nu f y (f y ||| 2 ^ b) (q * 10 + c)).testBit x = true ↔ (f (q * 10 + c)).testBit x = true ∨ q * 10 + c = y ∧ x = b := by
    intro f y
    by_cases e : q * 10 + c = y
    · rw [e, nu_at', Nat.testBit_or, Nat.testBit_two_pow, Bool.or_eq_true, decide_eq_true_iff]
      constructor
      · rintro (h | h)
        · exact Or.inl h
        · exact Or.inr ⟨rfl, h.symm⟩
      · rintro (h | h)
        · exact Or.inl h
        · exact Or.inr h.2.symm
    · rw [nu_ne e]
      exact ⟨Or.inl, fun h => h.elim id fun h => absurd h.1 e⟩
  unfold sp_nr
  rw [key, key]
  constructor
  · rintro ((h | h) | h)
    · exact Or.inl h
    · exact Or.inr ⟨by omega, h.2, Or.inl (by omega)⟩
    · exact Or.inr ⟨by omega, h.2, Or.inr (by omega)⟩
  · rintro (h | ⟨h1, h2, h3 | h3⟩)
    · exact Or.inl (Or.inl h)
    · exact Or.inl (Or.inr ⟨by omega, h2⟩)
    · exact Or.inr ⟨by omega, h2⟩
theorem sp_nr_lt {nr : Nat → Nat} {a b k : Nat} (h : ∀ j, nr j < 1024) (hb : b < 10) (j : Nat) : sp_nr nr a b k j < 1024 := by
  have hp : (2 : Nat) ^ b < 1024 := Nat.lt_of_lt_of_le (Nat.pow_lt_pow_right (by decide) hb) (by decide : (2 : Nat) ^ 10 ≤ 1024)
  have key : ∀ {f : Nat → Nat} {y : Nat}, (∀ j, f j < 1024) → ∀ j, nu f y (f y ||| 2 ^ b) j < 1024 := by
    intro f y hf j
    unfold nu
    split
    · exact Nat.or_lt_two_pow (n := 10) (hf y) hp
    · exact hf j
  exact key (key h) j
theorem sp_nr_z {nr : Nat → Nat} {a b k : Nat} (h : ∀ j, 60 ≤ j → nr j = 0) (ha : a < 10) (hk : k < 6) (j : Nat) (hj : 60 ≤ j) : sp_nr nr a b k j = 0 := by
  unfold sp_nr
  rw [nu_ne (by omega), nu_ne (by omega)]
  exact h j hj
/-- the pair is the bond's -/
def pr2 (a b c e : Nat) : Prop := a = c ∧ b = e ∨ a = e ∧ b = c
/-- the bonds that a reader has read -/
def bV (n : Nat) (bf bs bk : Nat → Nat) (m : Nat) : Prop := ∀ t, t < m → bf t < n ∧ bs t < n ∧ bf t ≠ bs t ∧ 1 ≤ bk t ∧ bk t < 6 ∧ ∀ u, u < t → ¬ pr2 (bf u) (bs u) (bf t) (bs t)
/-- the graph of the first m bonds -/
def gF (n : Nat) (bf bs bk : Nat → Nat) (m : Nat) (K : (Nat → Nat) × (Nat → Nat)) : Prop := gN n K.1 K.2 ∧ (gEs n K.1).length = 2 * m ∧ (∀ j, 100 ≤ j → K.1 j = 0) ∧ (∀ j, 60 ≤ j → K.2 j = 0) ∧ (∀ j, K.2 j < 1024) ∧ (∀ j, K.1 j < 6) ∧ (∀ t, t < m → bf t < n ∧ bs t < n ∧ K.1 (bf t * 10 + bs t) = bk t) ∧ ∀ a b, a < 10 → b < 10 → K.1 (a * 10 + b) ≠ 0 → ∃ t, t < m ∧ pr2 (bf t) (bs t) a b
theorem gF_s {n : Nat} {bf bs bk : Nat → Nat} {m : Nat} {K : (Nat → Nat) × (Nat → Nat)} (hn : n ≤ 10) (h : gF n bf bs bk m K) (hb : bf m < n ∧ bs m < n ∧ bf m ≠ bs m ∧ 1 ≤ bk m ∧ bk m < 6 ∧ ∀ u, u < m → ¬ pr2 (bf u) (bs u) (bf m) (bs m)) : gF n bf bs bk (m + 1) (nu (nu K.1 (bf m * 10 + bs m) (bk m)) (bs m * 10 + bf m) (bk m), sp_nr (sp_nr K.2 (bf m) (bs m) (bk m)) (bs m) (bf m) (bk m)) := by
  obtain ⟨h1, h2, h3, h4, h5, h6, h7, h8⟩ := h
  obtain ⟨b1, b2, b3, b4, b5, b6⟩ := hb
  generalize hA : bf m = A at *
  generalize hB : bs m = B at *
  generalize hk : bk m = k at *
  have hz : ∀ a b, a < 10 → b < 10 → pr2 a b A B → K.1 (a * 10 + b) = 0 := by
    intro a b ha hb' hp
    refine Classical.byContradiction fun q => ?_
    obtain ⟨t, t1, t2⟩ := h8 a b ha hb' q
    refine b6 t t1 ?_
    unfold pr2 at *
    omega
  have hks : ∀ a b, a < 10 → b < 10 → (nu (nu K.1 (A * 10 + B) k) (B * 10 + A) k) (a * 10 + b) = if (a = A ∧ b = B) ∨ (a = B ∧ b = A) then k else K.1 (a * 10 + b) := by
    intro a b ha hb'
    by_cases e1 : a * 10 + b = B * 10 + A
    · rw [e1, nu_at', if_pos (by omega)]
    · rw [nu_ne e1]
      by_cases e2 : a * 10 + b = A * 10 + B
      · rw [e2, nu_at', if_pos (by omega)]
      · rw [nu_ne e2, if_neg (by omega)]
  refine ⟨⟨?_, ?_, ?_, ?_⟩, ?_, ?_, ?_, ?_, ?_, ?_, ?_⟩
  · intro a b ha hb'
    dsimp only
    rw [hks a b (by omega) (by omega), hks b a (by omega) (by omega), h1.1 a b ha hb']
    by_cases q : (a = A ∧ b = B) ∨ (a = B ∧ b = A)
    · rw [if_pos q, if_pos (by omega)]
    · rw [if_neg q, if_neg (by omega)]
  · intro a ha
    dsimp only
    rw [hks a a (by omega) (by omega), if_neg (by omega)]
    exact h1.2.1 a ha
  · intro a b ha hb'
    dsimp only
    rw [hks a b (by omega) (by omega)]
    split
    · exact b5
    · exact h1.2.2.1 a b ha hb'
  · intro q a b q1 q2 ha
    dsimp only
    rw [sp_nr_bit (by omega) (by omega) b5 q2, sp_nr_bit (by omega) (by omega) b5 q2, h1.2.2.2 q a b q1 q2 ha]
    by_cases hbn : b < n
    · rw [hks a b (by omega) (by omega)]
      have hz1 := hz a b (by omega) (by omega)
      unfold pr2 at hz1
      split
      · rename_i e
        have := hz1 (by omega)
        omega
      · omega
    · omega
  · dsimp only
    rw [gEs_nu (by omega) (by omega) (by omega) ?_ (by omega), gEs_nu (by omega) (by omega) (by omega) ?_ (by omega), h2]
    · omega
    · exact hz A B (by omega) (by omega) (Or.inl ⟨rfl, rfl⟩)
    · rw [nu_ne (by omega)]
      exact hz B A (by omega) (by omega) (Or.inr ⟨rfl, rfl⟩)
  · intro j hj
    dsimp only
    rw [nu_ne (by omega), nu_ne (by omega)]
    exact h3 j hj
  · intro j hj
    exact sp_nr_z (sp_nr_z h4 (by omega) b5) (by omega) b5 j hj
  · intro j
    exact sp_nr_lt (sp_nr_lt h5 (by omega)) (by omega) j
  · intro j
    dsimp only
    unfold nu
    split
    · exact b5
    · split
      · exact b5
      · exact h6 j
  · intro t ht
    dsimp only
    by_cases e : t = m
    · subst e
      rw [hA, hB, hk, hks A B (by omega) (by omega), if_pos (by omega)]
      exact ⟨b1, b2, rfl⟩
    · have hp := b6 t (by omega)
      obtain ⟨g1, g2, h9⟩ := h7 t (by omega)
      unfold pr2 at hp
      refine ⟨g1, g2, ?_⟩
      rw [hks _ _ (by omega) (by omega), if_neg (by omega), h9]
  · intro a b ha hb'
    dsimp only
    rw [hks a b ha hb']
    intro q
    by_cases e : (a = A ∧ b = B) ∨ (a = B ∧ b = A)
    · refine ⟨m, by omega, ?_⟩
      rw [hA, hB]
      unfold pr2
      omega
    · rw [if_neg e] at q
      obtain ⟨t, t1, t2⟩ := h8 a b ha hb' q
      exact ⟨t, by omega, t2⟩
theorem sp_jn_ok {n : Nat} {bf bs bk : Nat → Nat} (hn : n ≤ 10) : ∀ {k i : Nat} {K : (Nat → Nat) × (Nat → Nat)}, bV n bf bs bk (i + k) → gF n bf bs bk i K → gF n bf bs bk (i + k) (sp_jn bf bs bk k i K) := by
  intro k
  induction k with
  | zero => intro i K _ h; exact h
  | succ k ih =>
    intro i K hv h
    unfold sp_jn
    have := ih (i := i + 1) (by rw [show i + 1 + k = i + (k + 1) by omega]; exact hv) (gF_s hn h (hv i (by omega)))
    rw [show i + 1 + k = i + (k + 1) by omega] at this
    exact this
theorem gF_0 {n : Nat} {bf bs bk : Nat → Nat} : gF n bf bs bk 0 (fun _ => 0, fun _ => 0) := by
  refine ⟨⟨fun _ _ _ _ => rfl, fun _ _ => rfl, fun _ _ _ _ => Nat.zero_lt_succ 5, fun k a b h1 h2 ha => ?_⟩, ?_, fun _ _ => rfl, fun _ _ => rfl, fun _ => Nat.zero_lt_succ 1023, fun _ => Nat.zero_lt_succ 5, fun t ht => by omega, fun a b _ _ h => absurd rfl h⟩
  · dsimp only
    rw [Nat.zero_testBit]
    constructor
    · intro q; cases q
    · omega
  · unfold gEs
    rw [List.filter_eq_nil_iff.mpr]
    · rfl
    · intro x _
      simp
theorem sp_ad_at {cs : Nat → Nat} : ∀ {k i : Nat} {c : Nat → Nat} {j : Nat}, sp_ad cs k i c j = if i ≤ j ∧ j < i + k then cs j else c j := by
  intro k
  induction k with
  | zero =>
    intro i c j
    rw [if_neg (by omega)]
    rfl
  | succ k ih =>
    intro i c j
    unfold sp_ad
    rw [ih]
    by_cases e : j = i
    · subst e
      rw [if_neg (by omega), if_pos (by omega), nu_at']
    · by_cases h : i + 1 ≤ j ∧ j < i + 1 + k
      · rw [if_pos h, if_pos (by omega)]
      · rw [if_neg h, if_neg (by omega), nu_ne e]
