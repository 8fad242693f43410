/-! WHAT THE ABSTRACT MACHINE SAYS OF THE REAL ONE -/
/-- classes and fields; their names; array classes; the heap at the law's start; where the constants lie; what they are; the words; what else is so -/
abbrev jx_X : Type := va_G × List vw_C × List (ClassId × FieldType) × Heap × (Nat → Nat) × (Nat → jx_C) × List Cond × (State → Prop)
abbrev jx_X.D (X : jx_X) : va_G := X.1
abbrev jx_X.cl (X : jx_X) : List vw_C := X.2.1
abbrev jx_X.ty (X : jx_X) : List (ClassId × FieldType) := X.2.2.1
abbrev jx_X.H (X : jx_X) : Heap := X.2.2.2.1
abbrev jx_X.ga (X : jx_X) : Nat → Nat := X.2.2.2.2.1
abbrev jx_X.gl (X : jx_X) : Nat → jx_C := X.2.2.2.2.2.1
abbrev jx_X.W (X : jx_X) : List Cond := X.2.2.2.2.2.2.1
abbrev jx_X.G (X : jx_X) : State → Prop := X.2.2.2.2.2.2.2
def jx_ad (X : jx_X) (k : Nat) : Nat := if k < jx_g then X.ga k else X.H.size + (k - jx_g)
def jx_v (X : jx_X) (v : Value) : Value := match v with
  | .ref k => .ref (jx_ad X k)
  | v => v
def jx_q (X : jx_X) (r : Option Nat) : Option Nat := match r with
  | some k => some (jx_ad X k)
  | none => none
def jx_a (X : jx_X) (a : vp_A) : vp_A := match a with
  | (n, .inr (.inr (.inr (.inr f)))) => (n, .inr (.inr (.inr (.inr fun j => jx_q X (f j)))))
  | a => a
def jx_e (X : jx_X) (c : jx_C) : va_E := match c with
  | .inl (t, a) => .inl ((X.ty.getD t (0, .int)).1, jx_a X a)
  | .inr (ci, fs) => .inr (ci, fs.map (jx_v X))
theorem jx_v_int (X : jx_X) (x : Int32) : jx_v X (.int x) = .int x := rfl
theorem jx_v_long (X : jx_X) (x : Int64) : jx_v X (.long x) = .long x := rfl
theorem jx_v_null (X : jx_X) : jx_v X .null = .null := rfl
theorem jx_v_ref (X : jx_X) (k : Nat) : jx_v X (.ref k) = .ref (jx_ad X k) := rfl
theorem jx_v_cat (X : jx_X) (v : Value) : (jx_v X v).category = v.category := by cases v <;> rfl
theorem jx_v1_cat {v : Value} (h : jx_v1 v = true) : v.category = 1 := by cases v <;> first | rfl | cases h
theorem jx_v1_ncat {v : Value} (h : ¬ jx_v1 v = true) : v.category = 2 := by cases v <;> first | rfl | exact absurd rfl h
theorem jx_rf (X : jx_X) (r : Option Nat) : jx_v X (va_rf r) = va_rf (jx_q X r) := by cases r <;> rfl
theorem jx_ad_inj {X : jx_X} {a b : Nat} (ha : jx_g ≤ a) (hb : jx_g ≤ b) (h : jx_ad X a = jx_ad X b) : a = b := by
  unfold jx_ad at h
  rw [if_neg (by omega), if_neg (by omega)] at h
  omega
theorem jx_ad_ge {X : jx_X} {a : Nat} (ha : jx_g ≤ a) : jx_ad X a = X.H.size + (a - jx_g) := by
  unfold jx_ad
  rw [if_neg (by omega)]
/-- no constant's array -/
def jx_t9 (c : jx_C) : Bool := match c with
  | .inl (t, _) => t == 9 || t == 10
  | .inr _ => false
/-- the memory -/
def jx_H (X : jx_X) (M : jx_M) (H : Heap) : Prop :=
  jx_g ≤ M.2.1 ∧ H.size + jx_g = X.H.size + M.2.1 ∧ (∀ k, jx_g ≤ k → k < M.2.1 → jx_t9 (M.1 k) = false ∧ va_at X.D X.cl (jx_ad X k, jx_e X (M.1 k)) H) ∧ (∀ k, M.2.1 ≤ k → M.1 k = jx_dead) ∧
  (∀ q : Nat, q < X.H.size → H[q]? = X.H[q]?) ∧ ∀ k, k < jx_g → M.1 k = X.gl k
/-- the locals -/
def jx_lo (X : jx_X) (ls : Array Slot) (L : jx_L) : Prop := ls.size = L.length ∧ lv_wf ls ∧ ∀ (i : Nat) (v : Value), L.getD i none = some v → ls[i]? = some (.val (jx_v X v))
def jx_I (X : jx_X) (R : Room) (nl : Nat) (M : jx_M) (H : Heap) (ls : Array Slot) (L : jx_L) (locs : List Loc) (cells slots : Nat) : Prop :=
  jx_H X M H ∧ jx_lo X ls L ∧ (∀ x ∈ locs, X.H.size ≤ x.base) ∧ cells + M.2.2.1 ≤ R.cells ∧ slots + M.2.2.2 ≤ R.slots ∧ L.length = nl
/-- what is true of the constants -/
def jx_GL (X : jx_X) (s : State) : Prop := ∀ k, k < jx_g → match X.gl k with
  | .inl (t, n, .inl f) => (t = 9 ∨ t = 10) ∧ ∃ cell : Cell, X.H[X.ga k]? = some cell ∧ s.isArrayOf cell (if t = 9 then .int else .byte) ∧ cell.vm ≠ .unknown ∧ cell.slots.size = n ∧ ∀ j : Nat, j < n → cell.slots[j]? = some (.int (f j))
  | .inl _ => False
  | .inr (c, _) => 100 ≤ c
/-- where a method stands -/
def jx_B (X : jx_X) (md : jx_D) (p : Program) (l : Launch) (e : Env) (R : Room) (s : State) (m : MethodId) (args : Array Value) (meth : Method) (c : Code) (d : Nat) : Prop :=
  p.tables.exec = Jvm.exec ∧ e.platform.stackTraces = false ∧ (∀ w ∈ X.W, w.before args s = true) ∧ va_K X.D X.cl X.ty s ∧ jx_GL X s ∧ s.vm.findClass md.1.cls = some m.cls ∧ meth.name = md.1.name ∧
  c.code = md.2.1 ∧ c.maxLocals = md.2.2.1 ∧ meth.sig.returnType = md.2.2.2.1 ∧ meth.locks = false ∧
  c.exceptionTable.toList.map (fun x => (x.startPc, x.endPc, x.handlerPc, x.catchType)) = md.2.2.2.2.map (fun h => h.1) ∧ d + 10 ≤ R.frames ∧ 50 * d + 300 ≤ R.locals ∧
  (∀ (q : Nat) (cell : Cell), X.H.size ≤ q → s.heap[q]? = some cell → cell.vm.isStatics = false) ∧ (∀ (C : String) (cA : ClassId), X.ty[4]? = some (cA, .object C) → va_AO C s) ∧ X.G s
def jx_o (X : jx_X) (r : jx_R) (o : Outcome) : Prop := match r with
  | .inl v => o = .returned (v.map (jx_v X))
  | .inr k => o = .threw (jx_ad X k)
def jx_Q (X : jx_X) (R : Room) (below : List Frame) (s : State) (r : jx_R) (M : jx_M) : State → Prop := fun t =>
  ∃ (o : Outcome) (locs : List Loc) (cells slots : Nat), t.status = .running ∧ Ended t below o ∧ jx_o X r o ∧ jx_H X M t.heap ∧ s.WarmedH t.vm ∧ s.sameButNew ({ t with vm := s.vm } : State) locs cells slots ∧ (∀ x ∈ locs, X.H.size ≤ x.base) ∧ cells + M.2.2.1 ≤ R.cells ∧ slots + M.2.2.2 ≤ R.slots
/-- a method's code stands in the words -/
def jx_c (X : jx_X) (md : jx_D) : Prop := (((Cond.code md.1 md.2.1 md.2.2.1 md.2.2.2.1 : Cond) ∈ X.W ∧ md.2.2.2.2 = []) ∨ (Cond.codeWith md.1 md.2.1 md.2.2.1 md.2.2.2.1 (md.2.2.2.2.map fun h => h.1) : Cond) ∈ X.W) ∧ plainFor md.1 = true ∧ md.2.2.1 ≤ 30
/-- an operation is what the instruction at pc does -/
def jx_S (X : jx_X) (mt : Nat → jx_D) (md : jx_D) (pc : Nat) (op : jx_O) : Prop :=
  ∀ (p : Program) (l : Launch) (e : Env) (R : Room) (s : State) (m : MethodId) (args : Array Value) (below : List Frame) (meth : Method) (c : Code) (d : Nat), jx_B X md p l e R s m args meth c d →
  ∀ (L : jx_L) (st : List Value) (M : jx_M) (N : jx_N), op pc L st M = some N →
  ∀ (H : Heap) (ls : Array Slot) (locs : List Loc) (cells slots : Nat), jx_I X R md.2.2.1 M H ls L locs cells slots →
  match N with
  | .inl (pc', L', st', M') => ∀ Q : State → Prop, (∀ (H' : Heap) (ls' : Array Slot) (locs' : List Loc) (cells' slots' : Nat), jx_I X R md.2.2.1 M' H' ls' L' locs' cells' slots' → W p l e R s m args below meth c H' locs' cells' slots' Q (F0 m pc' ls' (st'.map (jx_v X)))) → W p l e R s m args below meth c H locs cells slots Q (F0 m pc ls (st.map (jx_v X)))
  | .inr (.inl (r, M')) => W p l e R s m args below meth c H locs cells slots (jx_Q X R below s r M') (F0 m pc ls (st.map (jx_v X)))
  | .inr (.inr (ce, as, rest, pc')) => ∀ T : State, T.heap = H → Stand p l e R s m args below meth c T locs cells slots → ∃ (vm₁ : Vm) (mk : MethodId) (ig : Instr), Stand p l e R s m args below meth c (T.setVm vm₁) locs cells slots ∧ s.methodNamed? (mt ce).1 = some mk ∧ decode c.code pc = .ok (ig, 3) ∧ pc' = pc + 3 ∧ rest.length ≤ 4 ∧ jx_c X (mt ce) ∧
      ∀ target, (∀ acts, Steps p.tables e below (doInvoke e ((T.setVm vm₁).setTop (F0 m pc ls (rest.map (jx_v X)))) acts mk (as.map (jx_v X)).toArray).1 target) → Steps p.tables e below (T.setTop (F0 m pc ls (st.map (jx_v X)))) target
/-! the memory, read and written -/
theorem jx_H.obj {X : jx_X} {M : jx_M} {H : Heap} {s : State} (h : jx_H X M H) (hg : jx_GL X s) {a ci : Nat} {fs : List Value} (ha : M.1 a = .inr (ci, fs)) (hc : ci < 100) : jx_g ≤ a ∧ a < M.2.1 ∧ va_at X.D X.cl (jx_ad X a, .inr (ci, fs.map (jx_v X))) H := by
  obtain ⟨h1, h2, h3, h4, h5, h6⟩ := h
  have g1 : jx_g ≤ a := by
    apply Nat.le_of_not_lt
    intro hlt
    have h7 := hg a hlt
    rw [← h6 a hlt, ha] at h7
    have h8 : 100 ≤ ci := h7
    omega
  have g2 : a < M.2.1 := by
    apply Nat.lt_of_not_le
    intro hle
    have h7 := h4 a hle
    rw [ha] at h7
    unfold jx_dead at h7
    have h8 : (ci, fs) = (9999, ([] : List Value)) := Sum.inr.inj h7
    have h9 : ci = 9999 := congrArg Prod.fst h8
    omega
  refine ⟨g1, g2, ?_⟩
  have h7 := (h3 a g1 g2).2
  rw [ha] at h7
  exact h7
theorem jx_H.arr {X : jx_X} {M : jx_M} {H : Heap} {s : State} (h : jx_H X M H) (hg : jx_GL X s) {a t : Nat} {v : vp_A} (ha : M.1 a = .inl (t, v)) (ht : t < 9) : jx_g ≤ a ∧ a < M.2.1 ∧ va_at X.D X.cl (jx_ad X a, .inl ((X.ty.getD t (0, .int)).1, jx_a X v)) H := by
  obtain ⟨h1, h2, h3, h4, h5, h6⟩ := h
  have g1 : jx_g ≤ a := by
    apply Nat.le_of_not_lt
    intro hlt
    have h7 := hg a hlt
    rw [← h6 a hlt, ha] at h7
    obtain ⟨n, f⟩ := v
    cases f with
    | inl f => have h8 := h7.1; omega
    | inr f => exact h7
  have g2 : a < M.2.1 := by
    apply Nat.lt_of_not_le
    intro hle
    have h7 := h4 a hle
    rw [ha] at h7
    cases h7
  refine ⟨g1, g2, ?_⟩
  have h7 := (h3 a g1 g2).2
  rw [ha] at h7
  exact h7
/-- a constant's array -/
theorem jx_H.con {X : jx_X} {M : jx_M} {H : Heap} {s : State} (h : jx_H X M H) (hg : jx_GL X s) {a t n : Nat} {f : Nat → Int32} (ha : M.1 a = .inl (t, n, .inl f)) (ht : t = 9 ∨ t = 10) :
    ∃ cell : Cell, H[jx_ad X a]? = some cell ∧ s.isArrayOf cell (if t = 9 then .int else .byte) ∧ cell.vm ≠ .unknown ∧ cell.slots.size = n ∧ ∀ j : Nat, j < n → cell.slots[j]? = some (.int (f j)) := by
  obtain ⟨h1, h2, h3, h4, h5, h6⟩ := h
  have g1 : a < jx_g := by
    apply Nat.lt_of_not_le
    intro hge
    by_cases hlt : a < M.2.1
    · have h7 := (h3 a hge hlt).1
      rw [ha] at h7
      rcases ht with rfl | rfl <;> cases h7
    · have h7 := h4 a (Nat.le_of_not_lt hlt)
      rw [ha] at h7
      cases h7
  have h7 := hg a g1
  rw [← h6 a g1, ha] at h7
  obtain ⟨-, cell, q1, q2⟩ := h7
  refine ⟨cell, ?_, q2⟩
  have hlt : X.ga a < X.H.size := (Array.getElem?_eq_some_iff.mp q1).1
  unfold jx_ad
  rw [if_pos g1, h5 _ hlt]
  exact q1
/-- an int table that may be read: one of the program's own, or a constant -/
theorem jx_H.tab {X : jx_X} {M : jx_M} {H : Heap} {s : State} (h : jx_H X M H) (hg : jx_GL X s) (hK : va_K X.D X.cl X.ty s) (h0 : ∃ cA, X.ty[0]? = some (cA, .int)) {a t n : Nat} {f : Nat → Int32} (ha : M.1 a = .inl (t, n, .inl f)) (ht : t = 0 ∨ t = 9) :
    ∃ cell : Cell, H[jx_ad X a]? = some cell ∧ s.isArrayOf cell .int ∧ cell.vm ≠ .unknown ∧ cell.slots.size = n ∧ ∀ j : Nat, j < n → cell.slots[j]? = some (.int (f j)) := by
  by_cases h9 : t = 9
  · subst h9
    exact h.con hg ha (Or.inl rfl)
  · obtain ⟨cA, hA⟩ := h0
    have ht0 : t = 0 := by omega
    subst ht0
    obtain ⟨-, -, q⟩ := h.arr hg ha (by omega)
    have e : (X.ty.getD 0 (0, .int)).1 = cA := by rw [List.getD_eq_getElem?_getD, hA]; rfl
    rw [e] at q
    have q : H[jx_ad X a]? = some (arrV cA n (fun j => .int (f j))) := q
    refine ⟨_, q, (hK.2 0 _ hA).1 n _, (fun h => by cases h), arrV_size _ _ _, fun j hj => arrV_read _ _ hj⟩
theorem jx_H.set {X : jx_X} {M : jx_M} {H H1 : Heap} (h : jx_H X M H) {a : Nat} (g1 : jx_g ≤ a) (g2 : a < M.2.1) {c : jx_C} (ht : jx_t9 c = false) (hz : H1.size = H.size) (ho : ∀ q : Nat, q ≠ jx_ad X a → H1[q]? = H[q]?) (hc : va_at X.D X.cl (jx_ad X a, jx_e X c) H1) : jx_H X (jx_st M a c) H1 := by
  obtain ⟨h1, h2, h3, h4, h5, h6⟩ := h
  refine ⟨h1, by rw [hz]; exact h2, fun k k1 k2 => ?_, fun k k1 => ?_, fun q hq => ?_, fun k hk => ?_⟩
  · show jx_t9 (jx_up M.1 a c k) = false ∧ va_at X.D X.cl (jx_ad X k, jx_e X (jx_up M.1 a c k)) H1
    by_cases e : k = a
    · subst e
      rw [show jx_up M.1 k c k = c from if_pos rfl]
      exact ⟨ht, hc⟩
    · rw [show jx_up M.1 a c k = M.1 k from if_neg e]
      refine ⟨(h3 k k1 k2).1, (h3 k k1 k2).2.kept (ho _ fun q => e (jx_ad_inj k1 g1 q))⟩
  · show jx_up M.1 a c k = jx_dead
    rw [show jx_up M.1 a c k = M.1 k from if_neg (by have : M.2.1 ≤ k := k1; omega)]
    exact h4 k k1
  · rw [ho q (by rw [jx_ad_ge g1]; omega)]
    exact h5 q hq
  · show jx_up M.1 a c k = X.gl k
    rw [show jx_up M.1 a c k = M.1 k from if_neg (by omega)]
    exact h6 k hk
theorem jx_H.push {X : jx_X} {M M' : jx_M} {H H1 : Heap} {w : Nat} {c : jx_C} (h : jx_H X M H) (hp : jx_pu M c w = some M') (ht : jx_t9 c = false) (hz : H1.size = H.size + 1) (ho : ∀ q : Nat, q < H.size → H1[q]? = H[q]?) (hc : va_at X.D X.cl (H.size, jx_e X c) H1) : jx_H X M' H1 ∧ jx_ad X M.2.1 = H.size ∧ 1 ≤ M.2.2.1 ∧ w ≤ M.2.2.2 ∧ M'.2.2.1 = M.2.2.1 - 1 ∧ M'.2.2.2 = M.2.2.2 - w := by
  obtain ⟨h1, h2, h3, h4, h5, h6⟩ := h
  unfold jx_pu at hp
  split at hp
  · rename_i hr
    cases hp
    have hn : jx_ad X M.2.1 = H.size := by rw [jx_ad_ge h1]; omega
    refine ⟨⟨by show jx_g ≤ M.2.1 + 1; omega, by show H1.size + jx_g = X.H.size + (M.2.1 + 1); omega, fun k k1 k2 => ?_, fun k k1 => ?_, fun q hq => ?_, fun k hk => ?_⟩, hn, hr.1, hr.2, rfl, rfl⟩
    · show jx_t9 (jx_up M.1 M.2.1 c k) = false ∧ va_at X.D X.cl (jx_ad X k, jx_e X (jx_up M.1 M.2.1 c k)) H1
      have k2 : k < M.2.1 + 1 := k2
      by_cases e : k = M.2.1
      · rw [e, show jx_up M.1 M.2.1 c M.2.1 = c from if_pos rfl, hn]
        exact ⟨ht, hc⟩
      · rw [show jx_up M.1 M.2.1 c k = M.1 k from if_neg e]
        have k3 := h3 k k1 (by omega)
        exact ⟨k3.1, k3.2.kept (ho _ k3.2.lt)⟩
    · show jx_up M.1 M.2.1 c k = jx_dead
      have k1 : M.2.1 + 1 ≤ k := k1
      rw [show jx_up M.1 M.2.1 c k = M.1 k from if_neg (by omega)]
      exact h4 k (by omega)
    · rw [ho q (by omega)]
      exact h5 q hq
    · show jx_up M.1 M.2.1 c k = X.gl k
      rw [show jx_up M.1 M.2.1 c k = M.1 k from if_neg (by omega)]
      exact h6 k hk
  · cases hp
/-! the locals -/
def jx_pr (X : jx_X) (L : jx_L) : List (Nat × Value) := (List.range L.length).filterMap fun i => (L.getD i none).map fun v => (i, jx_v X v)
theorem jx_pr_mem {X : jx_X} {L : jx_L} {q : Nat × Value} : q ∈ jx_pr X L ↔ ∃ v, L.getD q.1 none = some v ∧ q.2 = jx_v X v := by
  unfold jx_pr
  rw [List.mem_filterMap]
  constructor
  · rintro ⟨i, -, hi⟩
    obtain ⟨v, h1, h2⟩ := Option.map_eq_some_iff.mp hi
    subst h2
    exact ⟨v, h1, rfl⟩
  · rintro ⟨v, h1, h2⟩
    refine ⟨q.1, List.mem_range.mpr ?_, by rw [h1]; show some (q.1, jx_v X v) = some q; rw [← h2]⟩
    apply Nat.lt_of_not_le
    intro hle
    rw [List.getD_eq_getElem?_getD, List.getElem?_eq_none hle] at h1
    cases h1
theorem jx_lo.has {X : jx_X} {ls : Array Slot} {L : jx_L} (h : jx_lo X ls L) : lv_has ls L.length (jx_pr X L) := by
  refine ⟨h.1, h.2.1, fun q hq => ?_⟩
  obtain ⟨v, h1, h2⟩ := jx_pr_mem.mp hq
  rw [h2]
  exact h.2.2 _ _ h1
theorem jx_getD_set {L : jx_L} {i j : Nat} {o : Option Value} (hi : i < L.length) : (L.set i o).getD j none = if j = i then o else L.getD j none := by
  rw [List.getD_eq_getElem?_getD, List.getD_eq_getElem?_getD, List.getElem?_set]
  by_cases e : i = j
  · subst e
    rw [if_pos rfl, if_pos rfl, if_pos hi]
    rfl
  · rw [if_neg e, if_neg (fun q => e q.symm)]
theorem jx_c2_cat {X : jx_X} {v : Value} (h : jx_c2 (some v) = false) : ¬ (jx_v X v).category = 2 := by
  cases v <;> first | (intro q; cases q; done) | cases h
theorem jx_lo.set1 {X : jx_X} {ls' : Array Slot} {L L' : jx_L} {i : Nat} {v : Value} (hs : jx_s1 L i v = some L')
    (h' : lv_has ls' L.length ((i, jx_v X v) :: (jx_pr X L).filter (fun q => !(q.1 == i) && !(q.1 + 1 == i && q.2.category == 2)))) : jx_lo X ls' L' := by
  unfold jx_s1 at hs
  split at hs
  · rename_i hc
    cases hs
    refine ⟨by rw [List.length_set]; exact h'.1, h'.2.1, fun j w hw => ?_⟩
    rw [jx_getD_set hc.1] at hw
    by_cases e : j = i
    · rw [if_pos e] at hw
      cases hw
      subst e
      exact h'.2.2 _ List.mem_cons_self
    · rw [if_neg e] at hw
      refine h'.2.2 (j, jx_v X w) (List.mem_cons_of_mem _ (List.mem_filter.mpr ⟨jx_pr_mem.mpr ⟨w, hw, rfl⟩, ?_⟩))
      by_cases e2 : j + 1 = i
      · have h3 : jx_c2 (some w) = false := by
          rcases hc.2 with z | z
          · omega
          · rw [show i - 1 = j by omega, hw] at z
            exact z
        have h4 := jx_c2_cat (X := X) h3
        simp [e, h4]
      · simp [e, e2]
  · cases hs
theorem jx_lo.set2 {X : jx_X} {ls' : Array Slot} {L L' : jx_L} {i : Nat} {v : Value} (hs : jx_s2 L i v = some L')
    (h' : lv_has ls' L.length ((i, jx_v X v) :: (jx_pr X L).filter (fun q => !(q.1 == i) && (!(q.1 == i + 1) && !(q.1 + 1 == i && q.2.category == 2))))) : jx_lo X ls' L' := by
  unfold jx_s2 at hs
  split at hs
  · rename_i hc
    cases hs
    refine ⟨by rw [List.length_set, List.length_set]; exact h'.1, h'.2.1, fun j w hw => ?_⟩
    rw [jx_getD_set (by rw [List.length_set]; exact hc.1)] at hw
    by_cases e0 : j = i + 1
    · rw [if_pos e0] at hw
      cases hw
    · rw [if_neg e0, jx_getD_set (by omega)] at hw
      by_cases e : j = i
      · rw [if_pos e] at hw
        cases hw
        subst e
        exact h'.2.2 _ List.mem_cons_self
      · rw [if_neg e] at hw
        refine h'.2.2 (j, jx_v X w) (List.mem_cons_of_mem _ (List.mem_filter.mpr ⟨jx_pr_mem.mpr ⟨w, hw, rfl⟩, ?_⟩))
        by_cases e2 : j + 1 = i
        · have h3 : jx_c2 (some w) = false := by
            rcases hc.2 with z | z
            · omega
            · rw [show i - 1 = j by omega, hw] at z
              exact z
          have h4 := jx_c2_cat (X := X) h3
          simp [e, e0, h4]
        · simp [e, e0, e2]
  · cases hs
theorem jx_s1_len {L L' : jx_L} {i : Nat} {v : Value} (hs : jx_s1 L i v = some L') : L'.length = L.length := by
  unfold jx_s1 at hs
  split at hs
  · cases hs; rw [List.length_set]
  · cases hs
theorem jx_s2_len {L L' : jx_L} {i : Nat} {v : Value} (hs : jx_s2 L i v = some L') : L'.length = L.length := by
  unfold jx_s2 at hs
  split at hs
  · cases hs; rw [List.length_set, List.length_set]
  · cases hs
theorem jx_s1_lt {L L' : jx_L} {i : Nat} {v : Value} (hs : jx_s1 L i v = some L') : i < L.length := by
  unfold jx_s1 at hs
  split at hs
  · rename_i hc; exact hc.1
  · cases hs
theorem jx_s2_lt {L L' : jx_L} {i : Nat} {v : Value} (hs : jx_s2 L i v = some L') : i + 1 < L.length := by
  unfold jx_s2 at hs
  split at hs
  · rename_i hc; exact hc.1
  · cases hs
theorem jx_ix_in {i : Int32} {n : Nat} (h : jx_ix i n = true) : vp_in i n := by
  simp only [jx_ix, Bool.and_eq_true, decide_eq_true_eq] at h
  rintro (q | q)
  · exact h.1 q
  · omega
