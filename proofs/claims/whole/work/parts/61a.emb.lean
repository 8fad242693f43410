/-! MATHEMATICS: 61a.emb -/
theorem sp_any_iff {p : Nat → Bool} : ∀ {k b : Nat}, sp_any p k b = true ↔ ∃ j, b ≤ j ∧ j < b + k ∧ p j = true := by
  intro k
  induction k with
  | zero => intro b; exact ⟨fun h => (by cases h), fun ⟨j, h1, h2, _⟩ => by omega⟩
  | succ k ih =>
    intro b
    unfold sp_any
    by_cases h : p b = true
    · rw [if_pos h]
      exact ⟨fun _ => ⟨b, Nat.le_refl _, by omega, h⟩, fun _ => rfl⟩
    · rw [if_neg h, ih]
      constructor
      · rintro ⟨j, h1, h2, h3⟩
        exact ⟨j, by omega, by omega, h3⟩
      · rintro ⟨j, h1, h2, h3⟩
        by_cases e : j = b
        · subst e; exact absurd h3 h
        · exact ⟨j, by omega, by omega, h3⟩
theorem sp_cs_bit {p : Nat → Bool} : ∀ {k b s j : Nat}, (sp_cs p k b s).testBit j = true ↔ s.testBit j = true ∨ b ≤ j ∧ j < b + k ∧ p j = true := by
  intro k
  induction k with
  | zero => intro b s j; exact ⟨fun h => Or.inl h, fun h => h.elim id (fun h => by omega)⟩
  | succ k ih =>
    intro b s j
    unfold sp_cs
    rw [ih]
    by_cases h : p b = true
    · rw [if_pos h, Nat.testBit_or, Nat.testBit_two_pow, Bool.or_eq_true, decide_eq_true_iff]
      constructor
      · rintro ((h1 | h1) | h1)
        · exact Or.inl h1
        · subst h1; exact Or.inr ⟨Nat.le_refl _, by omega, h⟩
        · exact Or.inr ⟨by omega, by omega, h1.2.2⟩
      · rintro (h1 | h1)
        · exact Or.inl (Or.inl h1)
        · by_cases e : b = j
          · exact Or.inl (Or.inr e)
          · exact Or.inr ⟨by omega, by omega, h1.2.2⟩
    · rw [if_neg h]
      constructor
      · rintro (h1 | h1)
        · exact Or.inl h1
        · exact Or.inr ⟨by omega, by omega, h1.2.2⟩
      · rintro (h1 | h1)
        · exact Or.inl h1
        · by_cases e : b = j
          · subst e; exact absurd h1.2.2 h
          · exact Or.inr ⟨by omega, by omega, h1.2.2⟩
theorem sp_mask_bit {ks nr' pl : Nat → Nat} {a b : Nat} : ∀ {k i s : Nat}, (sp_mask ks nr' pl a k i s).testBit b = true ↔ s.testBit b = true ∧ ∀ j, i ≤ j → j < i + k → ks (a * 10 + j) ≠ 0 → (nr' (ks (a * 10 + j) * 10 + pl j)).testBit b = true := by
  intro k
  induction k with
  | zero => intro i s; exact ⟨fun h => ⟨h, fun j h1 h2 => by omega⟩, fun h => h.1⟩
  | succ k ih =>
    intro i s
    unfold sp_mask
    rw [ih]
    by_cases h : ks (a * 10 + i) = 0
    · rw [if_pos h]
      constructor
      · rintro ⟨h1, h2⟩
        refine ⟨h1, fun j h3 h4 h5 => ?_⟩
        by_cases e : j = i
        · subst e; exact absurd h h5
        · exact h2 j (by omega) (by omega) h5
      · rintro ⟨h1, h2⟩
        exact ⟨h1, fun j h3 h4 h5 => h2 j (by omega) (by omega) h5⟩
    · rw [if_neg h, Nat.testBit_and, Bool.and_eq_true]
      constructor
      · rintro ⟨⟨h1, h0⟩, h2⟩
        refine ⟨h1, fun j h3 h4 h5 => ?_⟩
        by_cases e : j = i
        · subst e; exact h0
        · exact h2 j (by omega) (by omega) h5
      · rintro ⟨h1, h2⟩
        exact ⟨⟨h1, h2 i (Nat.le_refl _) (by omega) h⟩, fun j h3 h4 h5 => h2 j (by omega) (by omega) h5⟩
theorem testBit_sub_pow {s a : Nat} (h : s.testBit a = true) (j : Nat) : (s - 2 ^ a).testBit j = (s.testBit j && !decide (j = a)) := by
  obtain ⟨m, r, hr, hs⟩ : ∃ m r, r < 2 ^ a ∧ s = 2 ^ (a + 1) * m + (2 ^ a + r) := by
    rw [Nat.testBit_eq_decide_div_mod_eq, decide_eq_true_iff] at h
    refine ⟨s / 2 ^ a / 2, s % 2 ^ a, Nat.mod_lt _ (Nat.two_pow_pos a), ?_⟩
    have h1 := Nat.div_add_mod s (2 ^ a)
    have h2 := Nat.div_add_mod (s / 2 ^ a) 2
    rw [h] at h2
    rw [Nat.pow_succ, Nat.mul_assoc]
    conv => lhs; rw [← h1, ← h2, Nat.mul_add, Nat.mul_one]
    omega
  have h2 : 2 ^ a + r < 2 ^ (a + 1) := by rw [Nat.pow_succ]; omega
  have e1 : s - 2 ^ a = 2 ^ (a + 1) * m + r := by omega
  have e2 : (2 ^ a + r).testBit j = (decide (a = j) || r.testBit j) := by
    have := Nat.two_pow_add_eq_or_of_lt hr 1
    rw [Nat.mul_one] at this
    rw [this, Nat.testBit_or, Nat.testBit_two_pow]
  rw [e1, Nat.two_pow_add_eq_or_of_lt (by omega) m, hs, Nat.two_pow_add_eq_or_of_lt h2 m, Nat.testBit_or, Nat.testBit_or, e2]
  by_cases e : j = a
  · subst e
    have h3 : r.testBit j = false := Nat.testBit_lt_two_pow hr
    rw [h3, Nat.testBit_two_pow_mul]
    simp
    intro q
    omega
  · simp [e, show ¬ a = j from fun q => e q.symm]
theorem sp_del_bit {s a j : Nat} : (sp_del s a).testBit j = true ↔ s.testBit j = true ∧ j ≠ a := by
  unfold sp_del
  split
  · rename_i h
    rw [testBit_sub_pow h]
    simp
  · rename_i h
    constructor
    · intro h1
      refine ⟨h1, ?_⟩
      rintro rfl
      exact h h1
    · exact fun h1 => h1.1
/-- what canPlace finds -/
theorem sp_pc_iff {n n' : Nat} {ch ks nr' : Nat → Nat} : ∀ {f a fr : Nat} {pl : Nat → Nat}, n ≤ a + f → (sp_pc n n' ch ks nr' f a fr pl = true ↔ ∃ g : Nat → Nat, (∀ j, j < a → g j = pl j) ∧ ∀ j, a ≤ j → j < n → g j < n' ∧ (ch j).testBit (g j) = true ∧ fr.testBit (g j) = true ∧ (∀ i, i < j → ks (j * 10 + i) ≠ 0 → (nr' (ks (j * 10 + i) * 10 + g i)).testBit (g j) = true) ∧ ∀ i, a ≤ i → i < j → g i ≠ g j) := by
  intro f
  induction f with
  | zero =>
    intro a fr pl hn
    exact ⟨fun _ => ⟨pl, fun _ _ => rfl, fun j h1 h2 => by omega⟩, fun _ => rfl⟩
  | succ f ih =>
    intro a fr pl hn
    unfold sp_pc
    by_cases ha : a < n
    · rw [if_pos ha, sp_any_iff]
      constructor
      · rintro ⟨b, -, hb, h⟩
        rw [Bool.and_eq_true, sp_mask_bit, Nat.testBit_and, Bool.and_eq_true, ih (by omega)] at h
        obtain ⟨⟨⟨h1, h2⟩, h3⟩, g, h4, h5⟩ := h
        have hga : g a = b := by rw [h4 a (by omega), nu, if_pos rfl]
        have hgl : ∀ i, i < a → g i = pl i := fun i hi => by rw [h4 i (by omega), nu, if_neg (by omega)]
        refine ⟨g, hgl, fun j hj hjn => ?_⟩
        by_cases e : j = a
        · subst e
          rw [hga]
          refine ⟨by omega, h1, h2, fun i hi hk => ?_, fun i h6 h7 => by omega⟩
          rw [hgl i hi]
          exact h3 i (by omega) (by omega) hk
        · obtain ⟨q1, q2, q3, q4, q5⟩ := h5 j (by omega) hjn
          rw [sp_del_bit] at q3
          refine ⟨q1, q2, q3.1, q4, fun i h6 h7 => ?_⟩
          by_cases e2 : i = a
          · subst e2
            rw [hga]
            exact fun q => q3.2 q.symm
          · exact q5 i (by omega) h7
      · rintro ⟨g, h1, h2⟩
        obtain ⟨q1, q2, q3, q4, q5⟩ := h2 a (Nat.le_refl _) ha
        refine ⟨g a, by omega, by omega, ?_⟩
        rw [Bool.and_eq_true, sp_mask_bit, Nat.testBit_and, Bool.and_eq_true, ih (by omega)]
        refine ⟨⟨⟨q2, q3⟩, fun j _ h4 h5 => ?_⟩, g, fun j hj => ?_, fun j hj hjn => ?_⟩
        · rw [← h1 j (by omega)]
          exact q4 j (by omega) h5
        · by_cases e : j = a
          · subst e; rw [nu, if_pos rfl]
          · rw [nu, if_neg e]; exact h1 j (by omega)
        · obtain ⟨r1, r2, r3, r4, r5⟩ := h2 j (by omega) hjn
          exact ⟨r1, r2, sp_del_bit.mpr ⟨r3, fun q => r5 a (Nat.le_refl _) (by omega) q.symm⟩, r4, fun i h6 h7 => r5 i (by omega) h7⟩
    · rw [if_neg ha]
      exact ⟨fun _ => ⟨pl, fun _ _ => rfl, fun j h1 h2 => by omega⟩, fun _ => rfl⟩
theorem sp_cf_bit {cs nr : Nat → Nat} {n' : Nat} {cs' nr' : Nat → Nat} {ig a b : Nat} : (sp_cf cs nr n' cs' nr' ig a).testBit b = true ↔ b < n' ∧ sp_may cs nr cs' nr' ig a b = true := by
  unfold sp_cf
  rw [sp_cs_bit, Nat.zero_testBit]
  constructor
  · rintro (h | h)
    · cases h
    · exact ⟨by omega, h.2.2⟩
  · rintro ⟨h1, h2⟩
    exact Or.inr ⟨by omega, by omega, h2⟩
theorem bit_ne {x b : Nat} (h : x.testBit b = true) : x ≠ 0 := by
  rintro rfl
  rw [Nat.zero_testBit] at h
  cases h
theorem sp_sub_any {n : Nat} {cs ks nr : Nat → Nat} {n' : Nat} {cs' nr' : Nat → Nat} {ig : Nat} (hn : n ≤ 10) : sp_sub n cs ks nr n' cs' nr' ig = true ↔ ∃ g : Nat → Nat, ∀ j, j < n → g j < n' ∧ sp_may cs nr cs' nr' ig j (g j) = true ∧ (∀ i, i < j → ks (j * 10 + i) ≠ 0 → (nr' (ks (j * 10 + i) * 10 + g i)).testBit (g j) = true) ∧ ∀ i, i < j → g i ≠ g j := by
  unfold sp_sub
  rw [Bool.and_eq_true, sp_pc_iff (by omega), decide_eq_true_iff]
  constructor
  · rintro ⟨-, g, -, h⟩
    refine ⟨g, fun j hj => ?_⟩
    obtain ⟨h1, h2, h3, h4, h5⟩ := h j (by omega) hj
    exact ⟨h1, (sp_cf_bit.mp h2).2, h4, fun i hi => h5 i (by omega) hi⟩
  · rintro ⟨g, h⟩
    refine ⟨fun j hj => ?_, g, fun j hj => by omega, fun j _ hj => ?_⟩
    · obtain ⟨h1, h2, h3, h4⟩ := h j hj
      exact bit_ne (sp_cf_bit.mpr ⟨h1, h2⟩)
    · obtain ⟨h1, h2, h3, h4⟩ := h j hj
      refine ⟨h1, sp_cf_bit.mpr ⟨h1, h2⟩, ?_, h3, fun i _ hi => h4 i hi⟩
      rw [Nat.testBit_two_pow_sub_one]
      exact decide_eq_true h1
/-- one list's entries go one to one into another -/
theorem pig {l1 : List Nat} : ∀ {l2 : List Nat} (f : Nat → Nat), l1.Nodup → (∀ x, x ∈ l1 → f x ∈ l2) → (∀ x y, x ∈ l1 → y ∈ l1 → f x = f y → x = y) → l1.length ≤ l2.length := by
  induction l1 with
  | nil => intros; exact Nat.zero_le _
  | cons a t ih =>
    intro l2 f hd hm hi
    rw [List.nodup_cons] at hd
    have ha := hm a List.mem_cons_self
    have h1 := ih (l2 := l2.erase (f a)) f hd.2 (fun x hx => ?_) (fun x y hx hy => hi x y (List.mem_cons_of_mem _ hx) (List.mem_cons_of_mem _ hy))
    · rw [List.length_erase_of_mem ha] at h1
      have := List.length_pos_of_mem ha
      simp only [List.length_cons]
      omega
    · have hne : f x ≠ f a := fun q => hd.1 (hi x a (List.mem_cons_of_mem _ hx) List.mem_cons_self q ▸ hx)
      exact (List.mem_erase_of_ne hne).mpr (hm x (List.mem_cons_of_mem _ hx))
theorem sp_bits_inj {x y : Nat} (f : Nat → Nat) (h : ∀ b, b < 10 → x.testBit b = true → f b < 10 ∧ y.testBit (f b) = true) (hi : ∀ a b, a < 10 → b < 10 → x.testBit a = true → x.testBit b = true → f a = f b → a = b) : sp_bits x ≤ sp_bits y := by
  unfold sp_bits
  refine pig f (List.Nodup.sublist List.filter_sublist List.nodup_range) (fun b hb => ?_) (fun a b ha hb => ?_)
  · rw [List.mem_filter, List.mem_range] at hb
    obtain ⟨h1, h2⟩ := h b hb.1 hb.2
    rw [List.mem_filter, List.mem_range]
    exact ⟨h1, h2⟩
  · rw [List.mem_filter, List.mem_range] at ha hb
    exact hi a b ha.1 hb.1 ha.2 hb.2
theorem sp_hb_iff {nr nr' : Nat → Nat} {a b : Nat} : ∀ {k i : Nat}, sp_hb nr nr' a b k i = true ↔ ∀ j, i ≤ j → j < i + k → sp_bits (nr (j * 10 + a)) ≤ sp_bits (nr' (j * 10 + b)) := by
  intro k
  induction k with
  | zero => intro i; exact ⟨fun _ j h1 h2 => by omega, fun _ => rfl⟩
  | succ k ih =>
    intro i
    unfold sp_hb
    by_cases h : sp_bits (nr' (i * 10 + b)) < sp_bits (nr (i * 10 + a))
    · rw [if_pos h]
      exact ⟨fun q => (by cases q), fun q => absurd (q i (Nat.le_refl _) (by omega)) (by omega)⟩
    · rw [if_neg h, ih]
      constructor
      · intro q j h1 h2
        by_cases e : j = i
        · subst e; omega
        · exact q j (by omega) (by omega)
      · exact fun q j h1 h2 => q j (by omega) (by omega)
/-- kinds and near say the same -/
def gN (n : Nat) (ks nr : Nat → Nat) : Prop := (∀ a b, a < n → b < n → ks (a * 10 + b) = ks (b * 10 + a)) ∧ (∀ a, a < n → ks (a * 10 + a) = 0) ∧ (∀ a b, a < n → b < n → ks (a * 10 + b) < 6) ∧ (∀ k a b, 1 ≤ k → k < 6 → a < n → ((nr (k * 10 + a)).testBit b = true ↔ b < n ∧ (ks (a * 10 + b) = k ∨ k = 5 ∧ ks (a * 10 + b) ≠ 0)))
/-- the kind that is asked for is there -/
def kOk (b c : Nat) : Prop := b = 0 ∨ b = c ∨ b = 5 ∧ c ≠ 0
theorem gN_bit {n : Nat} {ks nr : Nat → Nat} (h : gN n ks nr) {k a b : Nat} (h1 : 1 ≤ k) (h2 : k < 6) (ha : a < n) : (nr (k * 10 + a)).testBit b = true ↔ b < n ∧ kOk k (ks (a * 10 + b)) := by
  rw [h.2.2.2 k a b h1 h2 ha]
  unfold kOk
  constructor
  · rintro ⟨h3, h4 | h4⟩
    · exact ⟨h3, Or.inr (Or.inl h4.symm)⟩
    · exact ⟨h3, Or.inr (Or.inr h4)⟩
  · rintro ⟨h3, h4 | h4 | h4⟩
    · omega
    · exact ⟨h3, Or.inl h4.symm⟩
    · exact ⟨h3, Or.inr h4⟩
/-- one to one into the other, bond to bond -/
def gEmb (fit : Nat → Nat → Bool) (n : Nat) (ks : Nat → Nat) (n' : Nat) (ks' : Nat → Nat) : Prop := ∃ g : Nat → Nat, ∀ j, j < n → g j < n' ∧ fit j (g j) = true ∧ ∀ i, i < j → g i ≠ g j ∧ kOk (ks (j * 10 + i)) (ks' (g j * 10 + g i))
theorem sp_sub_iff {n : Nat} {cs ks nr : Nat → Nat} {n' : Nat} {cs' ks' nr' : Nat → Nat} {ig : Nat} (hn : n ≤ 10) (hn' : n' ≤ 10) (N : gN n ks nr) (N' : gN n' ks' nr') : sp_sub n cs ks nr n' cs' nr' ig = true ↔ gEmb (fun a b => sp_fits (cs a) (sp_ign ig (cs' b))) n ks n' ks' := by
  rw [sp_sub_any hn]
  constructor
  · rintro ⟨g, h⟩
    refine ⟨g, fun j hj => ?_⟩
    obtain ⟨h1, h2, h3, h4⟩ := h j hj
    unfold sp_may at h2
    rw [Bool.and_eq_true] at h2
    refine ⟨h1, h2.1, fun i hi => ⟨h4 i hi, ?_⟩⟩
    by_cases hk : ks (j * 10 + i) = 0
    · exact Or.inl hk
    · have h5 := h3 i hi hk
      rw [gN_bit N' (by omega) (N.2.2.1 j i hj (by omega)) (h i (by omega)).1, N'.1 _ _ (h i (by omega)).1 h1] at h5
      exact h5.2
  · rintro ⟨g, h⟩
    refine ⟨g, fun j hj => ?_⟩
    obtain ⟨h1, h2, h3⟩ := h j hj
    -- any two atoms
    have hinj : ∀ a b, a < n → b < n → g a = g b → a = b := by
      intro a b ha hb e
      rcases Nat.lt_trichotomy a b with q | q | q
      · exact absurd e ((h b hb).2.2 a q).1
      · exact q
      · exact absurd e.symm ((h a ha).2.2 b q).1
    have hall : ∀ a b, a < n → b < n → kOk (ks (a * 10 + b)) (ks' (g a * 10 + g b)) := by
      intro a b ha hb
      rcases Nat.lt_trichotomy a b with q | q | q
      · rw [N.1 a b ha hb, N'.1 _ _ (h a ha).1 (h b hb).1]
        exact ((h b hb).2.2 a q).2
      · subst q
        rw [N.2.1 a ha]
        exact Or.inl rfl
      · exact ((h a ha).2.2 b q).2
    refine ⟨h1, ?_, fun i hi hk => ?_, fun i hi => (h3 i hi).1⟩
    · unfold sp_may
      rw [Bool.and_eq_true, sp_hb_iff]
      refine ⟨h2, fun k hk1 hk2 => ?_⟩
      refine sp_bits_inj g (fun b _ hb => ?_) (fun a b _ _ ha hb => ?_)
      · rw [gN_bit N hk1 (by omega) hj] at hb
        have hbn := (h b hb.1).1
        refine ⟨by omega, ?_⟩
        rw [gN_bit N' hk1 (by omega) h1]
        refine ⟨hbn, ?_⟩
        have h5 := hall j b hj hb.1
        unfold kOk at h5 hb ⊢
        omega
      · rw [gN_bit N hk1 (by omega) hj] at ha hb
        exact hinj a b ha.1 hb.1
    · have hin : i < n := by omega
      rw [gN_bit N' (by omega) (N.2.2.1 j i hj hin) (h i hin).1]
      refine ⟨h1, ?_⟩
      have h5 := hall i j hin hj
      rw [N.1 i j hin hj] at h5
      exact h5
