/-! WHAT ELSE THE START GIVES: statics, texts, which exception is no other -/
/-- a static field, its cell as it is in the heap H0 -/
def jx_sf (C n d : String) (v : Value) (H0 : Heap) (U : State) : Prop := ∃ (c : ClassId) (k : Class) (i : Nat) (f : Field) (a : Nat) (cell : Cell), U.vm.findClass C = some c ∧ U.fieldFound? C n d = some (c, k, i, f) ∧ f.isStatic = true ∧ k.init = .initialized ∧ k.statics = some a ∧ H0[a]? = some cell ∧ cell.vm.isStatics = true ∧ cell.cls = c ∧ f.slot < cell.slots.size ∧ k.staticTypes[f.slot]? = some f.type ∧ cell.slots[f.slot]? = some v
theorem jx_sf.moved {C n d : String} {v : Value} {H0 : Heap} {u U : State} (hvm : u.vm.Alike U.vm) (h : jx_sf C n d v H0 u) : jx_sf C n d v H0 U := by
  obtain ⟨c, k, i, f, a, cell, h0, h1, h2, h3, h4, h5, h6, h7, h8, h9, h10⟩ := h
  obtain ⟨k', hi', he⟩ := State.fieldFound?_setVm hvm h1
  exact ⟨c, k', i, f, a, cell, by rw [hvm.findClass]; exact h0, hi', h2, by rw [he]; exact h3, by rw [he]; exact h4, h5, h6, h7, h8, by rw [he]; exact h9, h10⟩
theorem jx_sf.Z {C n d : String} {v : Value} {H0 : Heap} {U : State} (h : jx_sf C n d v H0 U) : va_Z C n d v (fun q => H0.size ≤ q) U H0 := by
  obtain ⟨c, k, i, f, a, cell, h0, h1, h2, h3, h4, h5, h6, h7, h8, h9, h10⟩ := h
  exact ⟨c, k, i, f, a, cell, h1, h2, h3, h4, h5, h6, h10, fun q => by have := (Array.getElem?_eq_some_iff.mp h5).1; have q : H0.size ≤ a := q; omega⟩
theorem jx_sf.ls {C n d : String} {v : Value} {H0 : Heap} {U : State} {args : Array Value} (h : jx_sf C n d v H0 U) (hq : ∀ q : Nat, q < H0.size → U.heap[q]? = H0[q]?) : (Cond.laysStatic C n d).before args U = true := by
  obtain ⟨c, k, i, f, a, cell, h0, h1, h2, h3, h4, h5, h6, h7, h8, h9, h10⟩ := h
  have h5' : U.heap[a]? = some cell := by rw [hq a (Array.getElem?_eq_some_iff.mp h5).1]; exact h5
  simp [Cond.before, Cond.holds, Cond.value, h0, h1, h2, h4, h5', h6, h7, h8, h9]
theorem jx_sf.ir {C n d : String} {v : Value} {H0 : Heap} {U : State} {args : Array Value} (h : jx_sf C n d v H0 U) (hv : v.isRef = true) (hq : ∀ q : Nat, q < H0.size → U.heap[q]? = H0[q]?) : (Cond.isRef (.static C n d)).before args U = true := by
  obtain ⟨c, k, i, f, a, cell, h0, h1, h2, h3, h4, h5, h6, h7, h8, h9, h10⟩ := h
  have h5' : U.heap[a]? = some cell := by rw [hq a (Array.getElem?_eq_some_iff.mp h5).1]; exact h5
  have he : (Term.static C n d).eval args U none [] U = some v := by
    simp [Term.eval, State.fieldNamed?, h1, h2, h4, h5', h6, h10]
  cases v <;> first | (simp [Cond.before, Cond.holds, Cond.value, he]; done) | (simp [Value.isRef] at hv; done)
theorem jx_sf.of {C n d : String} {v : Value} {s : State} {args : Array Value} (hl : (Cond.laysStatic C n d).before args s = true) (hini : (Cond.initialized C).before args s = true) (hv : (Term.static C n d).eval args s none [] s = some v) : jx_sf C n d v s.heap s := by
  obtain ⟨c, k, i, f, a, cell, hc, hi, hst, ha, hcell, hs, hcls, hlt, hty⟩ := Cond.laysStatic_spec hl
  obtain ⟨-, a', cell', ha', hcell', -, hslot⟩ := Term.static_spec hi hv
  cases ha.symm.trans ha'
  cases hcell.symm.trans hcell'
  have hk : s.vm.classes[c]? = some k := (State.fieldFound?_spec hi).1
  exact ⟨c, k, i, f, a, cell, hc, hi, hst, Cond.initialized_spec hc hk hini, ha, hcell, hs, hcls, hlt, hty, hslot⟩
def jx_bv (l : List Int32) : Nat → Int32 := fun j => l.getD j 0
/-- the constants: the script, VALENCES, the two texts, their bytes -/
def jx_gl (L : Nat) (xs : Nat → Int32) (k : Nat) : jx_C := match k with
  | 0 => .inl (9, L, .inl xs)
  | 1 => .inl (9, 5, .inl (jx_bv [4, 3, 2, 2, 1]))
  | 2 => .inr (200, [.ref 4, .int 0])
  | 3 => .inr (200, [.ref 5, .int 0])
  | 4 => .inl (10, 5, .inl (jx_bv [67, 78, 79, 83, 70]))
  | 5 => .inl (10, 4, .inl (jx_bv [99, 110, 111, 115]))
  | _ => .inr (300, [])
def jx_exc : List String := ["java/lang/IllegalStateException", "java/lang/IllegalArgumentException", "java/lang/UnsupportedOperationException", "java/lang/ArithmeticException", "java/lang/IndexOutOfBoundsException"]
def jx_strs : List (String × Nat × String × Nat) := [("MoleculeRegistry$Reader", 146, "CNOSF", 2), ("MoleculeRegistry$Reader", 139, "cnos", 3), ("MoleculeRegistry$Chemistry", 39, "CNOSF", 2), ("MoleculeRegistry$Matcher", 50, "CNOSF", 2)]
def jx_msgs : List (Nat × String) := [(144, "the registry is down"), (160, "the text is not of the form, or has a bond that can't be"), (166, "the text has too many atoms"), (184, "an atom can't have these bonds"), (80, "the registry is full")]
def jx_G0 (H0 : Heap) (ga : Nat → Nat) (s : State) : Prop :=
  (∀ q : Nat, q < H0.size → s.heap[q]? = H0[q]?) ∧ (∀ q ∈ jx_strs, vk_R q.1 q.2.1 q.2.2.1 (ga q.2.2.2) s) ∧ (∀ q ∈ jx_msgs, ∃ a, vk_R "MoleculeRegistry" q.1 q.2 a s) ∧
  (∀ k, k = 2 ∨ k = 3 → va_O "java/lang/String" (ga k) (fun q => H0.size ≤ q) s H0 ∧ va_OF "java/lang/String" "value" "[B" (.ref (ga (k + 2))) (ga k) (fun q => H0.size ≤ q) s H0 ∧ va_OF "java/lang/String" "coder" "B" (.int 0) (ga k) (fun q => H0.size ≤ q) s H0) ∧
  jx_sf "MoleculeRegistry" "VALENCES" "[I" (.ref (ga 1)) H0 s ∧ jx_sf "java/lang/String" "COMPACT_STRINGS" "Z" (.int 1) H0 s ∧
  (∃ v, v.isRef = true ∧ jx_sf "java/lang/Throwable" "UNASSIGNED_STACK" "[Ljava/lang/StackTraceElement;" v H0 s) ∧ (∃ v, v.isRef = true ∧ jx_sf "java/lang/Throwable" "SUPPRESSED_SENTINEL" "Ljava/util/List;" v H0 s) ∧
  ∀ E ∈ jx_exc, ∀ E' ∈ jx_exc, E ≠ E' → ∀ c c', s.vm.findClass E = some c → s.vm.findClass E' = some c' → s.vm.assignable c c' = false
theorem jx_G0.moved {H0 : Heap} {ga : Nat → Nat} {s U : State} (hW : s.WarmedH U.vm) (hq : ∀ q : Nat, q < H0.size → U.heap[q]? = H0[q]?) (h : jx_G0 H0 ga s) : jx_G0 H0 ga U := by
  obtain ⟨h1, h2, h3, h4, h5, h6, ⟨v1, e1, h7⟩, ⟨v2, e2, h8⟩, h9⟩ := h
  have hal := hW.alike
  refine ⟨hq, fun q hm => vk_R.warm hW (h2 q hm), fun q hm => ?_, fun k hk => ?_, h5.moved hal, h6.moved hal, ⟨v1, e1, h7.moved hal⟩, ⟨v2, e2, h8.moved hal⟩, fun E hE E' hE' hne c c' hc hc' => ?_⟩
  · obtain ⟨a, ha⟩ := h3 q hm
    exact ⟨a, vk_R.warm hW ha⟩
  · obtain ⟨k1, k2, k3⟩ := h4 k hk
    exact ⟨k1.moved hal, k2.moved hal, k3.moved hal⟩
  · rw [hal.findClass] at hc hc'
    rw [hal.assignable]
    exact h9 E hE E' hE' hne c c' hc hc'
