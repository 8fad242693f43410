/-! WHAT THE ENTRY GIVES -/
theorem jx_eqI {args : Array Value} {s : State} {t : Term} {n : Int32} (h : (Cond.eq t (.int n)).before args s = true) : t.eval args s none [] s = some (.int n) := by
  cases ht : t.eval args s none [] s with
  | none => simp [Cond.before, Cond.holds, Cond.value, ht] at h
  | some v =>
    cases v <;> simp [Cond.before, Cond.holds, Cond.value, Term.eval, ht] at h
    rw [h]
theorem jx_eqR {args : Array Value} {s : State} {t u : Term} {a : Nat} (h : (Cond.eq t u).before args s = true) (ht : t.eval args s none [] s = some (.ref a)) : u.eval args s none [] s = some (.ref a) := by
  cases hu : u.eval args s none [] s with
  | none => simp [Cond.before, Cond.holds, Cond.value, ht, hu] at h
  | some v =>
    cases v <;> simp [Cond.before, Cond.holds, Cond.value, ht, hu] at h
    rw [h]
theorem jx_isR {args : Array Value} {s : State} {t : Term} (h : (Cond.isRef t).before args s = true) : ∃ v, t.eval args s none [] s = some v ∧ v.isRef = true := by
  cases ht : t.eval args s none [] s with
  | none => simp [Cond.before, Cond.holds, Cond.value, ht] at h
  | some v =>
    refine ⟨v, rfl, ?_⟩
    cases v <;> first | rfl | (simp [Cond.before, Cond.holds, Cond.value, ht] at h; done)
theorem jx_arrs {args : Array Value} {s : State} {t : Term} {ty : FieldType} (l : List Int32) (hl31 : l.length < 2 ^ 31) (ho : (Cond.arrayOf t ty).before args s = true) (hl : (Cond.eq (.length t) (.int (Int32.ofNat l.length))).before args s = true)
    (he : ∀ j, j < l.length → (Cond.eq (.elem t (.int (Int32.ofNat j))) (.int (l.getD j 0))).before args s = true) : ∃ (a : Nat) (cell : Cell), t.eval args s none [] s = some (.ref a) ∧ s.heap[a]? = some cell ∧ s.isArrayOf cell ty ∧ cell.vm ≠ .unknown ∧ cell.slots.size = l.length ∧ ∀ j : Nat, j < l.length → cell.slots[j]? = some (.int (l.getD j 0)) := by
  have h1 := jx_eqI hl
  obtain ⟨a, cell, ht, hc, hv⟩ := Term.length_spec h1
  obtain ⟨hcb, hkn, -, -⟩ := State.arrayAt?_spec hc
  obtain ⟨h2, h3⟩ := Cond.arrayOf_spec ho ht hcb
  refine ⟨a, cell, ht, hcb, h2, h3, ?_, ?_⟩
  · simp only [Term.eval, Option.bind_eq_bind, ht, hc, Option.bind_some] at h1
    by_cases hn : cell.slots.size < 2147483648
    · rw [if_pos hn] at h1
      have h4 : Int32.ofNat cell.slots.size = Int32.ofNat l.length := by
        injection h1 with h1
        injection h1
      have h5 := (Int32.ofNat_le_ofNat hn hl31).mp (by rw [h4]; exact Int32.le_refl _)
      have h6 := (Int32.ofNat_le_ofNat hl31 hn).mp (by rw [h4]; exact Int32.le_refl _)
      omega
    · rw [if_neg hn] at h1
      cases h1
  · intro j hj
    obtain ⟨a', j', cell', e1, e2, e3, -, e5⟩ := Term.elem_spec (jx_eqI (he j hj))
    cases ht.symm.trans e1
    cases hc.symm.trans e3
    have e2' : Int32.ofNat j = j' := by
      injection e2 with e2
      injection e2
    rw [← e2', i32_toNatClampNeg_ofNat (by omega)] at e5
    exact e5
theorem jx_ofv {args : Array Value} {s : State} {t : Term} {o n d : String} {a : Nat} {v : Value} (ht : t.eval args s none [] s = some (.ref a)) (h : (Term.field t o n d).eval args s none [] s = some v) : va_OF o n d v a (fun q => s.heap.size ≤ q) s s.heap := by
  cases hi : s.fieldFound? o n d with
  | none => simp [Term.eval, ht, State.fieldOf?, State.fieldNamed?, hi] at h
  | some x =>
    obtain ⟨c, k, i, f⟩ := x
    obtain ⟨h1, cell, h2, h3, -, -, h4⟩ := Term.field_spec hi ht h
    exact ⟨c, k, i, f, cell, hi, h1, h2, h3, h4, fun hq => by have := (Array.getElem?_eq_some_iff.mp h2).1; have hq : s.heap.size ≤ a := hq; omega⟩
theorem jx_string {args : Array Value} {s : State} {own : String} {k : Nat} (l : List Int32) (hl31 : l.length < 2 ^ 31) (hx : (Cond.exactly (.string own k) "java/lang/String").before args s = true) (hcd : (Cond.eq (.field (.string own k) "java/lang/String" "coder" "B") (.int 0)).before args s = true)
    (ho : (Cond.arrayOf (.field (.string own k) "java/lang/String" "value" "[B") .byte).before args s = true) (hl : (Cond.eq (.length (.field (.string own k) "java/lang/String" "value" "[B")) (.int (Int32.ofNat l.length))).before args s = true)
    (he : ∀ j, j < l.length → (Cond.eq (.elem (.field (.string own k) "java/lang/String" "value" "[B") (.int (Int32.ofNat j))) (.int (l.getD j 0))).before args s = true) :
    ∃ (a v : Nat) (cell : Cell), (Term.string own k).eval args s none [] s = some (.ref a) ∧ (va_O "java/lang/String" a (fun q => s.heap.size ≤ q) s s.heap ∧ va_OF "java/lang/String" "value" "[B" (.ref v) a (fun q => s.heap.size ≤ q) s s.heap ∧ va_OF "java/lang/String" "coder" "B" (.int 0) a (fun q => s.heap.size ≤ q) s s.heap) ∧
      s.heap[v]? = some cell ∧ s.isArrayOf cell .byte ∧ cell.vm ≠ .unknown ∧ cell.slots.size = l.length ∧ ∀ j : Nat, j < l.length → cell.slots[j]? = some (.int (l.getD j 0)) := by
  obtain ⟨a, c, cell0, k0, h1, h2, h3, -, h5, h6, -⟩ := Cond.exactly_spec hx
  obtain ⟨v, cell, e1, e2, e3⟩ := jx_arrs l hl31 ho hl he
  refine ⟨a, v, cell, h1, ⟨⟨cell0, h3, h5, by rw [h6]; exact h2, fun hq => ?_⟩, jx_ofv h1 e1, jx_ofv h1 (jx_eqI hcd)⟩, e2, e3⟩
  have := (Array.getElem?_eq_some_iff.mp h3).1
  have hq : s.heap.size ≤ a := hq
  omega
def jx_ga (b a1 a2 a3 a4 a5 : Nat) (k : Nat) : Nat := match k with
  | 0 => b
  | 1 => a1
  | 2 => a2
  | 3 => a3
  | 4 => a4
  | 5 => a5
  | _ => 0
set_option maxRecDepth 100000 in
theorem jx_env {args : Array Value} {s : State} (h : (Jvm.Cond.and given_1 narrow_1).before args s = true) (hts : ∀ w ∈ lw_tbl, w.before args s = true) {b L : Nat} {xs : Nat → Int32} (hX : va_X b L xs s s.heap) :
    ∃ ga : Nat → Nat, ga 0 = b ∧ jx_G0 s.heap ga s ∧ ∀ (D : va_G) (c0 c1 c2 c3 c4 : ClassId), jx_GL (jx_mk D c0 c1 c2 c3 c4 s.heap ga L xs) s := by
  have hs := flat_of_before _ h
  obtain ⟨a1, cell1, e1, r1⟩ := jx_arrs (args := args) (s := s) (t := .static "MoleculeRegistry" "VALENCES" "[I") (ty := .int) [4, 3, 2, 2, 1] (by decide) (hs _ (by decide +kernel)) (hs _ (by decide +kernel)) (fun j hj => hs _ ((by decide +kernel : ∀ j, j < ([4, 3, 2, 2, 1] : List Int32).length → Cond.eq (.elem (.static "MoleculeRegistry" "VALENCES" "[I") (.int (Int32.ofNat j))) (.int (([4, 3, 2, 2, 1] : List Int32).getD j 0)) ∈ flatC (Jvm.Cond.and given_1 narrow_1)) j hj))
  obtain ⟨a2, a4, cell4, e2, f2, r4⟩ := jx_string (args := args) (s := s) (own := "MoleculeRegistry$Reader") (k := 146) [67, 78, 79, 83, 70] (by decide) (hs _ (by decide +kernel)) (hs _ (by decide +kernel)) (hs _ (by decide +kernel)) (hs _ (by decide +kernel)) (fun j hj => hs _ ((by decide +kernel : ∀ j, j < ([67, 78, 79, 83, 70] : List Int32).length → Cond.eq (.elem (.field (.string "MoleculeRegistry$Reader" 146) "java/lang/String" "value" "[B") (.int (Int32.ofNat j))) (.int (([67, 78, 79, 83, 70] : List Int32).getD j 0)) ∈ flatC (Jvm.Cond.and given_1 narrow_1)) j hj))
  obtain ⟨a3, a5, cell5, e3, f3, r5⟩ := jx_string (args := args) (s := s) (own := "MoleculeRegistry$Reader") (k := 139) [99, 110, 111, 115] (by decide) (hs _ (by decide +kernel)) (hs _ (by decide +kernel)) (hs _ (by decide +kernel)) (hs _ (by decide +kernel)) (fun j hj => hs _ ((by decide +kernel : ∀ j, j < ([99, 110, 111, 115] : List Int32).length → Cond.eq (.elem (.field (.string "MoleculeRegistry$Reader" 139) "java/lang/String" "value" "[B") (.int (Int32.ofNat j))) (.int (([99, 110, 111, 115] : List Int32).getD j 0)) ∈ flatC (Jvm.Cond.and given_1 narrow_1)) j hj))
  refine ⟨jx_ga b a1 a2 a3 a4 a5, rfl, ⟨fun _ _ => rfl, ?_, ?_, ?_, ?_, ?_, ?_, ?_, ?_⟩, ?_⟩
  · refine List.forall_mem_cons.mpr ⟨?_, List.forall_mem_cons.mpr ⟨?_, List.forall_mem_cons.mpr ⟨?_, List.forall_mem_cons.mpr ⟨?_, fun _ h => by cases h⟩⟩⟩⟩
    · exact vk_R.of (A := args) (hts _ (by decide +kernel)) e2
    · exact vk_R.of (A := args) (hts _ (by decide +kernel)) e3
    · exact vk_R.of (A := args) (hts _ (by decide +kernel)) (jx_eqR (hs (Cond.eq (.string "MoleculeRegistry$Reader" 146) (.string "MoleculeRegistry$Chemistry" 39)) (by decide +kernel)) e2)
    · exact vk_R.of (A := args) (hts _ (by decide +kernel)) (jx_eqR (hs (Cond.eq (.string "MoleculeRegistry$Reader" 146) (.string "MoleculeRegistry$Matcher" 50)) (by decide +kernel)) e2)
  · intro q hq
    have m1 := (by decide +kernel : ∀ q ∈ jx_msgs, Cond.stringRef "MoleculeRegistry" q.1 q.2 ∈ lw_tbl) q hq
    have m2 := (by decide +kernel : ∀ q ∈ jx_msgs, Cond.exactly (.string "MoleculeRegistry" q.1) "java/lang/String" ∈ flatC (Jvm.Cond.and given_1 narrow_1)) q hq
    obtain ⟨a, c, cell0, k0, h1, -⟩ := Cond.exactly_spec (hs _ m2)
    exact ⟨a, vk_R.of (A := args) (hts _ m1) h1⟩
  · intro k hk
    rcases hk with rfl | rfl
    · exact f2
    · exact f3
  · exact jx_sf.of (args := args) (hts _ (by decide +kernel)) (hts _ (by decide +kernel)) e1
  · exact jx_sf.of (args := args) (hts _ (by decide +kernel)) (hts _ (by decide +kernel)) (jx_eqI (hs _ (by decide +kernel)))
  · obtain ⟨v, h1, h2⟩ := jx_isR (hs (Cond.isRef (.static "java/lang/Throwable" "UNASSIGNED_STACK" "[Ljava/lang/StackTraceElement;")) (by decide +kernel))
    exact ⟨v, h2, jx_sf.of (args := args) (hts _ (by decide +kernel)) (hts _ (by decide +kernel)) h1⟩
  · obtain ⟨v, h1, h2⟩ := jx_isR (hs (Cond.isRef (.static "java/lang/Throwable" "SUPPRESSED_SENTINEL" "Ljava/util/List;")) (by decide +kernel))
    exact ⟨v, h2, jx_sf.of (args := args) (hts _ (by decide +kernel)) (hts _ (by decide +kernel)) h1⟩
  · intro E hE E' hE' hne c c' hc hc'
    have h1 := hs _ ((by decide +kernel : ∀ E ∈ jx_exc, ∀ E' ∈ jx_exc, E ≠ E' → Cond.not (Cond.castable E E') ∈ flatC (Jvm.Cond.and given_1 narrow_1)) E hE E' hE' hne)
    simpa [Cond.before, Cond.holds, Cond.value, hc, hc'] using h1
  · intro D c0 c1 c2 c3 c4 k hk
    match k, hk with
    | 0, _ => exact ⟨Or.inl rfl, hX⟩
    | 1, _ => exact ⟨Or.inl rfl, cell1, r1⟩
    | 2, _ => exact (by decide : 100 ≤ 200)
    | 3, _ => exact (by decide : 100 ≤ 200)
    | 4, _ => exact ⟨Or.inr rfl, cell4, r4⟩
    | 5, _ => exact ⟨Or.inr rfl, cell5, r5⟩
    | n + 6, _ => exact (by decide : 100 ≤ 300)
