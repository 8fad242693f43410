/-! printed by wip/whole/gen.py: the classes are known at the start -/
theorem kn_0 {s : State} {args : Array Value} (hts : ∀ w ∈ jx_W0, w.before args s = true) : ∃ (cC : ClassId) (iS : Nat → Nat), u_Kn s "MoleculeRegistry$Graph" TX_0 5 cC iS := u_known hts in_0 (hts _ w_119)
theorem kn_1 {s : State} {args : Array Value} (hts : ∀ w ∈ jx_W0, w.before args s = true) : ∃ (cC : ClassId) (iS : Nat → Nat), u_Kn s "MoleculeRegistry$Log" TX_1 4 cC iS := u_known hts in_1 (hts _ w_279)
theorem kn_2 {s : State} {args : Array Value} (hts : ∀ w ∈ jx_W0, w.before args s = true) : ∃ (cC : ClassId) (iS : Nat → Nat), u_Kn s "MoleculeRegistry$Matcher" TX_2 2 cC iS := u_known hts in_2 (hts _ w_266)
theorem kn_3 {s : State} {args : Array Value} (hts : ∀ w ∈ jx_W0, w.before args s = true) : ∃ (cC : ClassId) (iS : Nat → Nat), u_Kn s "MoleculeRegistry$Reader" TX_3 15 cC iS := u_known hts in_3 (hts _ w_256)
theorem kn_4 {s : State} {args : Array Value} (hts : ∀ w ∈ jx_W0, w.before args s = true) : ∃ (cC : ClassId) (iS : Nat → Nat), u_Kn s "MoleculeRegistry$Shelf" TX_4 4 cC iS := u_known hts in_4 (hts _ w_272)
theorem kn_5 {s : State} {args : Array Value} (hts : ∀ w ∈ jx_W0, w.before args s = true) : ∃ (cC : ClassId) (iS : Nat → Nat), u_Kn s "MoleculeRegistry" TX_5 11 cC iS := u_known hts in_5 (hts _ w_1)
theorem kn_6 {s : State} {args : Array Value} (hts : ∀ w ∈ jx_W0, w.before args s = true) : ∃ (cC : ClassId) (iS : Nat → Nat), u_Kn s "MoleculeRegistryModel" TX_6 40 cC iS := u_known hts in_6 (hts _ w_7)
theorem kn_7 {s : State} {args : Array Value} (hts : ∀ w ∈ jx_W0, w.before args s = true) : ∃ (cC : ClassId) (iS : Nat → Nat), u_Kn s "java/lang/IllegalStateException" TX_7 0 cC iS := u_known hts in_7 (hts _ w_364)
theorem kn_8 {s : State} {args : Array Value} (hts : ∀ w ∈ jx_W0, w.before args s = true) : ∃ (cC : ClassId) (iS : Nat → Nat), u_Kn s "java/lang/IllegalArgumentException" TX_8 0 cC iS := u_known hts in_8 (hts _ w_347)
theorem kn_9 {s : State} {args : Array Value} (hts : ∀ w ∈ jx_W0, w.before args s = true) : ∃ (cC : ClassId) (iS : Nat → Nat), u_Kn s "java/lang/UnsupportedOperationException" TX_9 0 cC iS := u_known hts in_9 (hts _ w_351)
theorem kn_10 {s : State} {args : Array Value} (hts : ∀ w ∈ jx_W0, w.before args s = true) : ∃ (cC : ClassId) (iS : Nat → Nat), u_Kn s "java/lang/ArithmeticException" TX_10 0 cC iS := u_known hts in_10 (hts _ w_361)
theorem kn_11 {s : State} {args : Array Value} (hts : ∀ w ∈ jx_W0, w.before args s = true) : ∃ (cC : ClassId) (iS : Nat → Nat), u_Kn s "java/lang/IndexOutOfBoundsException" TX_11 0 cC iS := u_known hts in_11 (hts _ w_328)
theorem jx_known {s : State} {args : Array Value} (hts : ∀ w ∈ jx_W0, w.before args s = true) : ∃ D : va_G, ∀ (c : Nat) (q : vw_C), jx_cls[c]? = some q → u_Kn s q.1 q.2.1 q.2.2 (D.1 c) (D.2 c) := by
  have h : ∀ c : Nat, ∃ z : ClassId × (Nat → Nat), ∀ q, jx_cls[c]? = some q → u_Kn s q.1 q.2.1 q.2.2 z.1 z.2 := by
    intro c
    match c with
    | 0 => obtain ⟨a, b, h⟩ := kn_0 hts; exact ⟨(a, b), fun q hq => by cases hq; exact h⟩
    | 1 => obtain ⟨a, b, h⟩ := kn_1 hts; exact ⟨(a, b), fun q hq => by cases hq; exact h⟩
    | 2 => obtain ⟨a, b, h⟩ := kn_2 hts; exact ⟨(a, b), fun q hq => by cases hq; exact h⟩
    | 3 => obtain ⟨a, b, h⟩ := kn_3 hts; exact ⟨(a, b), fun q hq => by cases hq; exact h⟩
    | 4 => obtain ⟨a, b, h⟩ := kn_4 hts; exact ⟨(a, b), fun q hq => by cases hq; exact h⟩
    | 5 => obtain ⟨a, b, h⟩ := kn_5 hts; exact ⟨(a, b), fun q hq => by cases hq; exact h⟩
    | 6 => obtain ⟨a, b, h⟩ := kn_6 hts; exact ⟨(a, b), fun q hq => by cases hq; exact h⟩
    | 7 => obtain ⟨a, b, h⟩ := kn_7 hts; exact ⟨(a, b), fun q hq => by cases hq; exact h⟩
    | 8 => obtain ⟨a, b, h⟩ := kn_8 hts; exact ⟨(a, b), fun q hq => by cases hq; exact h⟩
    | 9 => obtain ⟨a, b, h⟩ := kn_9 hts; exact ⟨(a, b), fun q hq => by cases hq; exact h⟩
    | 10 => obtain ⟨a, b, h⟩ := kn_10 hts; exact ⟨(a, b), fun q hq => by cases hq; exact h⟩
    | 11 => obtain ⟨a, b, h⟩ := kn_11 hts; exact ⟨(a, b), fun q hq => by cases hq; exact h⟩
    | n + 12 => exact ⟨(0, fun _ => 0), fun q hq => by rw [List.getElem?_eq_none (by show 12 ≤ n + 12; omega)] at hq; cases hq⟩
  exact ⟨(fun c => (Classical.choose (h c)).1, fun c => (Classical.choose (h c)).2), fun c q hq => Classical.choose_spec (h c) q hq⟩
