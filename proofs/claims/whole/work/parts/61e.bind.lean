/-! MATHEMATICS: 61e.bind -/
theorem and_bit {x k : Nat} : x &&& 2 ^ k = 0 ↔ x.testBit k = false := by
  constructor
  · intro h
    have := congrArg (fun y => Nat.testBit y k) h
    simpa [Nat.testBit_and, Nat.testBit_two_pow] using this
  · intro h
    apply Nat.eq_of_testBit_eq
    intro i
    rw [Nat.testBit_and, Nat.testBit_two_pow, Nat.zero_testBit]
    by_cases e : k = i
    · subst e; rw [h]; rfl
    · simp [e]
theorem encC_7 {pt : Bool} {m : MA} (h : okA pt m) : (encC m).testBit 7 = m.2.1 := by
  obtain ⟨e, ar, hy, c, br, ls⟩ := m
  obtain ⟨-, -, hc, h⟩ := h
  dsimp only at hc h
  rcases h with ⟨h1, h2, -, -⟩ | ⟨-, -, h1, -, h2⟩
  · subst h1
    rcases hc with q | q | q <;> subst q <;> rcases h2 with r | r | r | r | r <;> subst r <;> cases ar <;> simp [encC, encQ] <;> decide
  · subst h1
    have h3 : ls ≠ 0 := by omega
    simp only [encC, h3, if_false]
    exact (by decide : ∀ x, x < 32 → (16384 + x).testBit 7 = false) _ (by omega)
theorem encC_14 {pt : Bool} {m : MA} (h : okA pt m) : (encC m).testBit 14 = decide (m.2.2.2.2.2 ≠ 0) := by
  obtain ⟨e, ar, hy, c, br, ls⟩ := m
  obtain ⟨-, -, hc, h⟩ := h
  dsimp only at hc h
  rcases h with ⟨h1, h2, -, -⟩ | ⟨-, -, h1, -, h2⟩
  · subst h1
    rcases hc with q | q | q <;> subst q <;> rcases h2 with r | r | r | r | r <;> subst r <;> cases ar <;> simp [encC, encQ] <;> decide
  · subst h1
    have h3 : ls ≠ 0 := by omega
    simp only [encC, h3, if_false]
    rw [(by decide : ∀ x, x < 32 → (16384 + x).testBit 14 = true) _ (by omega)]
    exact (decide_eq_true h3).symm
def sm_k (mi mj : MA) (link : Nat) : Nat := if link ≠ 0 then link else if mi.2.1 = true ∧ mj.2.1 = true then 4 else 1
abbrev sm_bar (mi mj : MA) (b : Nat) : Prop := (mi.2.2.2.2.2 = 0 ∧ mj.2.2.2.2.2 = 0) ∧ (mi.2.1 = true ∨ mj.2.1 = true) ∧ (b = 2 ∨ b = 3)
def sm_ok (A : Nat → MA) (bm : Nat → Nat) (i j link : Nat) : Bool := decide (i ≠ j ∧ bm (40 * i + j) = 0 ∧ ¬ sm_bar (A i) (A j) (sm_k (A i) (A j) link))
def sm_put (bm : Nat → Nat) (i j b : Nat) : Nat → Nat := nu (nu bm (40 * i + j) b) (40 * j + i) b
theorem sm_k_ne {mi mj : MA} {link : Nat} : sm_k mi mj link ≠ 0 := by
  unfold sm_k
  repeat' split
  all_goals omega
theorem sm_k_lt {mi mj : MA} {link kk : Nat} (hk : 5 ≤ kk) (h : link < kk) : sm_k mi mj link < kk := by
  unfold sm_k
  repeat' split
  all_goals omega
theorem kf_rel {pt : Bool} {mi mj : MA} {link : Nat} (hi : okA pt mi) (hj : okA pt mj) : sp_kf (encC mi) (encC mj) link = if sm_bar mi mj (sm_k mi mj link) then 0 else sm_k mi mj link := by
  have i7 := encC_7 hi
  have j7 := encC_7 hj
  have i14 := encC_14 hi
  have j14 := encC_14 hj
  unfold sp_kf
  by_cases h0 : link = 0
  · subst h0
    have hb : ¬ sm_bar mi mj (sm_k mi mj 0) := by
      unfold sm_bar sm_k
      rw [if_neg (by decide)]
      split <;> omega
    rw [if_pos rfl, if_neg hb]
    have hk : sm_k mi mj 0 = if mi.2.1 = true ∧ mj.2.1 = true then 4 else 1 := if_neg (by decide)
    rw [hk]
    have e : (encC mi &&& encC mj &&& 128 = 0) ↔ ¬ (mi.2.1 = true ∧ mj.2.1 = true) := by
      rw [show (128 : Nat) = 2 ^ 7 from rfl, and_bit, Nat.testBit_and, i7, j7]
      cases mi.2.1 <;> cases mj.2.1 <;> simp
    by_cases q : mi.2.1 = true ∧ mj.2.1 = true
    · rw [if_pos q, if_neg (fun r => e.mp r q)]
    · rw [if_neg q, if_pos (e.mpr q)]
  · have hk : sm_k mi mj link = link := if_pos h0
    rw [if_neg h0, hk]
    by_cases h23 : link = 2 ∨ link = 3
    · rw [if_pos h23]
      have e1 : ((encC mi ||| encC mj) &&& 128 = 0) ↔ ¬ (mi.2.1 = true ∨ mj.2.1 = true) := by
        rw [show (128 : Nat) = 2 ^ 7 from rfl, and_bit, Nat.testBit_or, i7, j7]
        cases mi.2.1 <;> cases mj.2.1 <;> simp
      have e2 : ((encC mi ||| encC mj) &&& 16384 = 0) ↔ mi.2.2.2.2.2 = 0 ∧ mj.2.2.2.2.2 = 0 := by
        rw [show (16384 : Nat) = 2 ^ 14 from rfl, and_bit, Nat.testBit_or, i14, j14, Bool.or_eq_false_iff, decide_eq_false_iff_not, decide_eq_false_iff_not, Decidable.not_not, Decidable.not_not]
      unfold sm_bar
      by_cases q : mi.2.1 = true ∨ mj.2.1 = true
      · rw [if_neg (fun r => e1.mp r q)]
        by_cases q2 : mi.2.2.2.2.2 = 0 ∧ mj.2.2.2.2.2 = 0
        · rw [if_pos (e2.mpr q2), if_pos ⟨q2, q, h23⟩]
        · rw [if_neg (fun r => q2 (e2.mp r)), if_neg (fun r => q2 r.1)]
      · rw [if_pos (e1.mpr q), if_neg (fun r => q r.2.1)]
    · rw [if_neg h23, if_neg (fun r : sm_bar mi mj link => h23 r.2.2)]
theorem bd_iff {bf bs : Nat → Nat} {a b : Nat} : ∀ {k i : Nat}, sp_bd bf bs a b k i = true ↔ ∃ t, i ≤ t ∧ t < i + k ∧ pr2 (bf t) (bs t) a b := by
  intro k
  induction k with
  | zero => intro i; exact ⟨fun h => (by cases h), fun ⟨t, h1, h2, _⟩ => by omega⟩
  | succ k ih =>
    intro i
    unfold sp_bd
    by_cases h : bf i = a ∧ bs i = b ∨ bf i = b ∧ bs i = a
    · rw [if_pos h]
      exact ⟨fun _ => ⟨i, Nat.le_refl _, by omega, h⟩, fun _ => rfl⟩
    · rw [if_neg h, ih]
      constructor
      · rintro ⟨t, h1, h2, h3⟩
        exact ⟨t, by omega, by omega, h3⟩
      · rintro ⟨t, h1, h2, h3⟩
        by_cases e : t = i
        · subst e; exact absurd h3 h
        · exact ⟨t, by omega, by omega, h3⟩
/-- the class's list of bonds and the reference's table -/
def RB (kk n : Nat) (bm bf bs bk : Nat → Nat) (bc : Nat) : Prop := bV n bf bs bk bc ∧ (∀ t, t < bc → bm (40 * bf t + bs t) = bk t ∧ bm (40 * bs t + bf t) = bk t) ∧ ∀ a b, a < n → b < n → bm (40 * a + b) ≠ 0 → ∃ t, t < bc ∧ pr2 (bf t) (bs t) a b ∧ bk t < kk
theorem bind_rel {pt : Bool} {kk n : Nat} (hkk : 5 ≤ kk) (hk6 : kk ≤ 6) {cs : Nat → Nat} {A : Nat → MA} {bm bf bs bk : Nat → Nat} {bc a b link : Nat} (hR : RB kk n bm bf bs bk bc) (hn : n ≤ 40) (ha : a < n) (hb : b < n) (hbc : bc < 40) (ea : cs a = encC (A a)) (eb : cs b = encC (A b)) (oa : okA pt (A a)) (ob : okA pt (A b)) (hl : link < kk) : (sm_ok A bm a b link = true → sp_bind cs bf bs bc a b link = some (sm_k (A a) (A b) link) ∧ RB kk n (sm_put bm a b (sm_k (A a) (A b) link)) (nu bf bc a) (nu bs bc b) (nu bk bc (sm_k (A a) (A b) link)) (bc + 1)) ∧ (sm_ok A bm a b link = false → sp_bind cs bf bs bc a b link = none) := by
  obtain ⟨hV, h1, h2⟩ := hR
  have hkf := kf_rel (link := link) oa ob
  have hne := sm_k_ne (mi := A a) (mj := A b) (link := link)
  have hlt := sm_k_lt (mi := A a) (mj := A b) hkk hl
  generalize hk : sm_k (A a) (A b) link = k at *
  have hbd : sp_bd bf bs a b bc 0 = true ↔ bm (40 * a + b) ≠ 0 := by
    rw [bd_iff]
    constructor
    · rintro ⟨t, -, ht, hp⟩
      obtain ⟨q1, q2⟩ := h1 t (by omega)
      have q3 := hV t (by omega)
      rcases hp with ⟨e1, e2⟩ | ⟨e1, e2⟩
      · rw [← e1, ← e2, q1]; omega
      · rw [← e1, ← e2, q2]; omega
    · intro q
      obtain ⟨t, t1, t2, -⟩ := h2 a b ha hb q
      exact ⟨t, by omega, by omega, t2⟩
  constructor
  · intro hok
    unfold sm_ok at hok
    rw [decide_eq_true_iff, hk] at hok
    obtain ⟨o1, o2, o3⟩ := hok
    constructor
    · unfold sp_bind
      rw [ea, eb, hkf, if_neg o3, if_neg]
      rintro (q | q | q | q)
      · exact o1 q
      · exact hne q
      · exact hbd.mp q o2
      · omega
    · refine ⟨fun t ht => ?_, fun t ht => ?_, fun c e hc he q => ?_⟩
      · by_cases et : t = bc
        · subst et
          rw [nu_at', nu_at', nu_at']
          refine ⟨ha, hb, o1, by omega, by omega, fun u hu q => ?_⟩
          rw [nu_ne (by omega), nu_ne (by omega)] at q
          exact absurd (bd_iff.mpr ⟨u, by omega, by omega, q⟩) (fun r => hbd.mp r o2)
        · rw [nu_ne et, nu_ne et, nu_ne et]
          obtain ⟨v1, v2, v3, v4, v5, v6⟩ := hV t (by omega)
          refine ⟨v1, v2, v3, v4, v5, fun u hu => ?_⟩
          rw [nu_ne (by omega), nu_ne (by omega)]
          exact v6 u hu
      · by_cases et : t = bc
        · subst et
          rw [nu_at', nu_at', nu_at']
          unfold sm_put
          constructor
          · by_cases e : 40 * a + b = 40 * b + a
            · rw [e, nu_at']
            · rw [nu_ne e, nu_at']
          · rw [nu_at']
        · rw [nu_ne et, nu_ne et, nu_ne et]
          obtain ⟨v1, v2, v3, v4, v5, v6⟩ := hV t (by omega)
          obtain ⟨w1, w2⟩ := h1 t (by omega)
          have hnp : ¬ pr2 (bf t) (bs t) a b := fun q => absurd (bd_iff.mpr ⟨t, by omega, by omega, q⟩) (fun r => hbd.mp r o2)
          unfold pr2 at hnp
          unfold sm_put
          constructor
          · rw [nu_ne (by omega), nu_ne (by omega), w1]
          · rw [nu_ne (by omega), nu_ne (by omega), w2]
      · unfold sm_put at q
        by_cases e1 : 40 * c + e = 40 * b + a
        · refine ⟨bc, by omega, ?_⟩
          rw [nu_at', nu_at', nu_at']
          unfold pr2
          exact ⟨by omega, hlt⟩
        · rw [nu_ne e1] at q
          by_cases e2 : 40 * c + e = 40 * a + b
          · refine ⟨bc, by omega, ?_⟩
            rw [nu_at', nu_at', nu_at']
            unfold pr2
            exact ⟨by omega, hlt⟩
          · rw [nu_ne e2] at q
            obtain ⟨t, t1, t2⟩ := h2 c e hc he q
            refine ⟨t, by omega, ?_⟩
            rw [nu_ne (by omega), nu_ne (by omega), nu_ne (by omega)]
            exact t2
  · intro hok
    unfold sm_ok at hok
    rw [decide_eq_false_iff_not, hk] at hok
    unfold sp_bind
    rw [ea, eb, hkf, if_pos]
    by_cases q1 : a = b
    · exact Or.inl q1
    · by_cases q2 : bm (40 * a + b) = 0
      · by_cases q3 : sm_bar (A a) (A b) k
        · rw [if_pos q3]
          exact Or.inr (Or.inl rfl)
        · exact absurd ⟨q1, q2, q3⟩ hok
      · exact Or.inr (Or.inr (Or.inl (hbd.mpr q2)))
/-- a new atom has no bonds yet -/
def sm_zb (bm : Nat → Nat) (n : Nat) : Nat → Nat := fun x => if x < 1600 ∧ (x / 40 = n ∧ x % 40 ≤ n ∨ x % 40 = n ∧ x / 40 ≤ n) then 0 else bm x
theorem zb_rel {kk n : Nat} {bm bf bs bk : Nat → Nat} {bc : Nat} (hn : n < 40) (h : RB kk n bm bf bs bk bc) : RB kk (n + 1) (sm_zb bm n) bf bs bk bc := by
  obtain ⟨hV, h1, h2⟩ := h
  refine ⟨fun t ht => ?_, fun t ht => ?_, fun a b ha hb q => ?_⟩
  · obtain ⟨v1, v2, v3⟩ := hV t ht
    exact ⟨by omega, by omega, v3⟩
  · obtain ⟨v1, v2, v3⟩ := hV t ht
    unfold sm_zb
    rw [if_neg (by omega), if_neg (by omega)]
    exact h1 t ht
  · unfold sm_zb at q
    by_cases e : a = n ∨ b = n
    · rw [if_pos (by omega)] at q
      exact absurd rfl q
    · rw [if_neg (by omega)] at q
      exact h2 a b (by omega) (by omega) q
