/-! MATHEMATICS: 61g.val -/
/-- how many below n -/
def cnt (p : Nat → Bool) : Nat → Nat
  | 0 => 0
  | n + 1 => cnt p n + (if p n = true then 1 else 0)
theorem cnt_filter (p : Nat → Bool) : ∀ n, ((List.range n).filter p).length = cnt p n := by
  intro n
  induction n with
  | zero => rfl
  | succ n ih =>
    rw [List.range_succ, List.filter_append, List.length_append, ih, cnt]
    cases h : p n <;> simp [h]
theorem cnt_ext {p q : Nat → Bool} {n : Nat} (h : ∀ j, j < n → p j = q j) : cnt p n = cnt q n := by
  induction n with
  | zero => rfl
  | succ n ih => rw [cnt, cnt, ih (fun j hj => h j (by omega)), h n (by omega)]
theorem cnt_ge {p : Nat → Bool} {n : Nat} : ∀ {m : Nat}, (∀ j, n ≤ j → j < n + m → p j = false) → cnt p (n + m) = cnt p n := by
  intro m
  induction m with
  | zero => intro _; rfl
  | succ m ih =>
    intro h
    rw [show n + (m + 1) = (n + m) + 1 by omega, cnt, ih (fun j h1 h2 => h j h1 (by omega)), h (n + m) (by omega) (by omega), if_neg (by decide)]
    rfl
theorem sp_bits_cnt {x n : Nat} {p : Nat → Bool} (hn : n ≤ 10) (h : ∀ b, x.testBit b = true ↔ b < n ∧ p b = true) : sp_bits x = cnt p n := by
  unfold sp_bits
  rw [cnt_filter]
  have h1 : cnt (fun i => x.testBit i) (n + (10 - n)) = cnt (fun i => x.testBit i) n := cnt_ge fun j h1 _ => by
    cases hq : x.testBit j with
    | false => rfl
    | true => have := ((h j).mp hq).1; omega
  rw [show n + (10 - n) = 10 by omega] at h1
  rw [h1]
  refine cnt_ext fun j hj => ?_
  cases hq : p j with
  | true => exact (h j).mpr ⟨hj, hq⟩
  | false =>
    cases hx : x.testBit j with
    | false => rfl
    | true => rw [((h j).mp hx).2] at hq; cases hq
/-- the reference's sum over an atom's bonds, and whether one is aromatic -/
def sm_or (b : Nat → Nat) : Nat → Nat
  | 0 => 0
  | n + 1 => sm_or b n + (if b n = 4 then 1 else b n)
def sm_rg (b : Nat → Nat) : Nat → Bool
  | 0 => false
  | n + 1 => sm_rg b n || decide (b n = 4)
theorem sm_or_cnt {b : Nat → Nat} : ∀ {n : Nat}, (∀ j, j < n → b j ≤ 4) → sm_or b n = cnt (fun j => decide (b j = 1)) n + 2 * cnt (fun j => decide (b j = 2)) n + 3 * cnt (fun j => decide (b j = 3)) n + cnt (fun j => decide (b j = 4)) n := by
  intro n
  induction n with
  | zero => intro _; rfl
  | succ n ih =>
    intro h
    have h1 := h n (by omega)
    rw [sm_or, cnt, cnt, cnt, cnt, ih (fun j hj => h j (by omega))]
    simp only [decide_eq_true_iff]
    repeat' split
    all_goals omega
theorem sm_rg_cnt {b : Nat → Nat} : ∀ {n : Nat}, sm_rg b n = decide (0 < cnt (fun j => decide (b j = 4)) n) := by
  intro n
  induction n with
  | zero => rfl
  | succ n ih =>
    rw [sm_rg, cnt, ih]
    by_cases h : b n = 4
    · simp [h]
    · simp [h]
theorem ord_rel {n : Nat} {cs ks nr : Nat → Nat} {b : Nat → Nat} {i : Nat} (hn : n ≤ 10) (N : gN n ks nr) (hi : i < n) (hb : ∀ j, j < n → ks (i * 10 + j) = b j) (h4 : ∀ j, j < n → b j ≤ 4) : sp_ord cs nr i = sm_or b n + (if sm_rg b n = true ∧ sp_pairs (cs i) = true then 1 else 0) := by
  have hk : ∀ k, 1 ≤ k → k < 5 → sp_bits (nr (k * 10 + i)) = cnt (fun j => decide (b j = k)) n := by
    intro k h1 h2
    refine sp_bits_cnt hn fun x => ?_
    rw [N.2.2.2 k i x h1 (by omega) hi, decide_eq_true_iff]
    constructor
    · rintro ⟨q1, q2⟩
      exact ⟨q1, by rw [← hb x q1]; omega⟩
    · rintro ⟨q1, q2⟩
      exact ⟨q1, Or.inl (by rw [hb x q1, q2])⟩
  unfold sp_ord
  rw [hk 1 (by decide) (by decide), hk 2 (by decide) (by decide), hk 3 (by decide) (by decide), hk 4 (by decide) (by decide), sm_or_cnt h4, sm_rg_cnt]
  simp only [decide_eq_true_iff]
/-- the valence of an element, what an atom must have -/
def sm_mo (e : Nat) : Nat := if e = 67 then 4 else if e = 78 then 3 else if e = 70 then 1 else 2
def sm_due (m : MA) : Nat := match m.2.2.2.1 with
  | none => sm_mo m.1 - 1
  | some q => if q = 0 then sm_mo m.1 else if m.1 = 67 then sm_mo m.1 - 1 else sm_mo m.1 + q
/-- the code with its hydrogens -/
def encH (m : MA) : Nat := encC m + 256 * m.2.2.1
def okM (m : MA) : Prop := m.2.2.1 ≤ 4 ∧ (m.2.2.2.1 = none ∨ m.2.2.2.1 = some 0 ∨ m.2.2.2.1 = some 1) ∧ m.2.2.2.2.2 = 0 ∧ (m.1 = 67 ∨ m.1 = 78 ∨ m.1 = 79 ∨ m.1 = 83 ∨ m.1 = 70)
theorem okA_M {m : MA} (h : okA false m) : okM m := by
  obtain ⟨h1, -, h2, h3 | h3⟩ := h
  · exact ⟨h1, h2, h3.1, h3.2.1⟩
  · cases h3.1
def sm_pr (m : MA) : Bool := m.2.1 && (decide (m.1 = 67) || decide (m.1 = 78))
theorem encH_bits {m : MA} (h : okM m) : encH m &&& 127 = m.1 ∧ sp_pairs (encH m) = sm_pr m ∧ encH m < 16384 ∧ encH m &&& 14591 = encC m ∧ encC m &&& 127 = m.1 := by
  obtain ⟨e, ar, hy, c, br, ls⟩ := m
  obtain ⟨h1, h2, h3, h4⟩ := h
  dsimp only at h1 h2 h3 h4
  subst h3
  have h5 : hy = 0 ∨ hy = 1 ∨ hy = 2 ∨ hy = 3 ∨ hy = 4 := by omega
  rcases h2 with q | q | q <;> subst q <;> rcases h4 with r | r | r | r | r <;> subst r <;> cases ar <;> rcases h5 with s | s | s | s | s <;> subst s <;> cases br <;> decide
theorem encQ_3 {c c' : Option Nat} (h : c = none ∨ c = some 0 ∨ c = some 1) (h' : c' = none ∨ c' = some 0 ∨ c' = some 1) : (encQ c = encQ c' ↔ c = c') ∧ (encQ c = 0 ∨ encQ c = 4096 ∨ encQ c = 8192) ∧ (encQ c' = 0 ∨ encQ c' = 4096 ∨ encQ c' = 8192) := by
  rcases h with q | q | q <;> subst q <;> rcases h' with q | q | q <;> subst q <;> decide
theorem ar_3 {a a' : Bool} : ((if a = true then 128 else 0) = (if a' = true then 128 else 0) ↔ a = a') ∧ ((if a = true then 128 else 0) = 0 ∨ (if a = true then 128 else 0) = 128) ∧ ((if a' = true then 128 else 0) = 0 ∨ (if a' = true then 128 else 0) = 128) := by
  cases a <;> cases a' <;> decide
theorem encH_inj {m m' : MA} (h : okM m) (h' : okM m') : encH m = encH m' ↔ m.1 = m'.1 ∧ m.2.1 = m'.2.1 ∧ m.2.2.1 = m'.2.2.1 ∧ m.2.2.2.1 = m'.2.2.2.1 := by
  obtain ⟨h1, h2, h3, h4⟩ := h
  obtain ⟨h1', h2', h3', h4'⟩ := h'
  have q := encQ_3 h2 h2'
  have r := ar_3 (a := m.2.1) (a' := m'.2.1)
  unfold encH encC
  rw [if_pos h3, if_pos h3', ← q.1, ← r.1]
  generalize encQ m.2.2.2.1 = x at *
  generalize encQ m'.2.2.2.1 = x' at *
  generalize (if m.2.1 = true then 128 else 0) = y at *
  generalize (if m'.2.1 = true then 128 else 0) = y' at *
  obtain ⟨-, q1, q2⟩ := q
  obtain ⟨-, r1, r2⟩ := r
  omega
theorem encC_inj {m m' : MA} (h : okM m) (h' : okM m') : encC m = encC m' ↔ m.1 = m'.1 ∧ m.2.1 = m'.2.1 ∧ m.2.2.2.1 = m'.2.2.2.1 := by
  obtain ⟨h1, h2, h3, h4⟩ := h
  obtain ⟨h1', h2', h3', h4'⟩ := h'
  have q := encQ_3 h2 h2'
  have r := ar_3 (a := m.2.1) (a' := m'.2.1)
  unfold encC
  rw [if_pos h3, if_pos h3', ← q.1, ← r.1]
  generalize encQ m.2.2.2.1 = x at *
  generalize encQ m'.2.2.2.1 = x' at *
  generalize (if m.2.1 = true then 128 else 0) = y at *
  generalize (if m'.2.1 = true then 128 else 0) = y' at *
  obtain ⟨-, q1, q2⟩ := q
  obtain ⟨-, r1, r2⟩ := r
  omega
theorem cap_rel {m : MA} (h : okM m) : ∃ x, sp_el (encC m &&& 127) = some x ∧ sp_cap (encC m) x = sm_due m ∧ sp_pairs (encC m) = sm_pr m ∧ sm_due m ≤ 4 := by
  obtain ⟨e, ar, hy, c, br, ls⟩ := m
  obtain ⟨h1, h2, h3, h4⟩ := h
  dsimp only at h1 h2 h3 h4
  subst h3
  show ∃ x, sp_el (encC (e, ar, 0, c, false, 0) &&& 127) = some x ∧ sp_cap (encC (e, ar, 0, c, false, 0)) x = sm_due (e, ar, 0, c, false, 0) ∧ sp_pairs (encC (e, ar, 0, c, false, 0)) = sm_pr (e, ar, 0, c, false, 0) ∧ sm_due (e, ar, 0, c, false, 0) ≤ 4
  rcases h2 with q | q | q <;> subst q <;> rcases h4 with r | r | r | r | r <;> subst r <;> cases ar <;> first | exact ⟨0, by decide⟩ | exact ⟨1, by decide⟩ | exact ⟨2, by decide⟩ | exact ⟨3, by decide⟩ | exact ⟨4, by decide⟩
/-- the reference's valences: whether all are right, the hydrogens then -/
def sm_o1 (m : MA) (b : Nat → Nat) (n : Nat) : Nat := sm_or b n + (if sm_rg b n = true ∧ sm_pr m = true then 1 else 0)
def sm_v1 (m : MA) (o : Nat) : Bool := if m.2.2.2.2.1 = true then decide (m.2.2.1 + o = sm_due m) else decide (o ≤ sm_mo m.1)
def sm_h1 (m : MA) (o : Nat) : MA := if m.2.2.2.2.1 = true then m else (m.1, m.2.1, (if o ≤ sm_mo m.1 then sm_mo m.1 - o else 4294967296 + sm_mo m.1 - o), m.2.2.2)
theorem stl1 {m : MA} {o : Nat} (h : okA false m) : (o ≤ sm_due m ∧ (encW m = none ∨ encW m = some (sm_due m - o)) ↔ sm_v1 m o = true) ∧ (sm_v1 m o = true → encC m + 256 * (sm_due m - o) = encH (sm_h1 m o) ∧ okM (sm_h1 m o) ∧ (sm_h1 m o).2.1 = m.2.1 ∧ (sm_h1 m o).1 = m.1) := by
  have hM := okA_M h
  have hd := cap_rel hM
  obtain ⟨h1, h2, h3, h4 | h4⟩ := h
  · obtain ⟨h4, h5, h6, h7⟩ := h4
    unfold encW sm_v1 sm_h1
    cases hb : m.2.2.2.2.1 with
    | true =>
      rw [if_pos rfl, if_pos rfl, if_pos rfl, decide_eq_true_iff]
      constructor
      · constructor
        · rintro ⟨q1, q2 | q2⟩
          · cases q2
          · have := Option.some.inj q2
            omega
        · intro q
          exact ⟨by omega, Or.inr (by rw [show sm_due m - o = m.2.2.1 by omega])⟩
      · intro q
        refine ⟨?_, hM, rfl, rfl⟩
        unfold encH
        rw [show sm_due m - o = m.2.2.1 by omega]
    | false =>
      obtain ⟨c0, hy0⟩ := h7 hb
      have hdue : sm_due m = sm_mo m.1 := by
        unfold sm_due
        rw [c0]
        rfl
      rw [if_neg (by decide), if_neg (by decide), if_neg (by decide), decide_eq_true_iff, hdue]
      obtain ⟨x, -, -, -, hdl⟩ := hd
      constructor
      · exact ⟨fun q => q.1, fun q => ⟨q, Or.inl rfl⟩⟩
      · intro q
        rw [if_pos q]
        refine ⟨rfl, ⟨by dsimp only; omega, hM.2⟩, rfl, rfl⟩
  · cases h4.1
