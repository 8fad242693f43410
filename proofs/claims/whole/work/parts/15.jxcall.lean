/-! CALLS, AND THE WHOLE -/
theorem jx_c.spec {X : jx_X} {md : jx_D} {args : Array Value} {s : State} (h : jx_c X md) (hts : ∀ w ∈ X.W, w.before args s = true) :
    ∃ mk meth c, s.methodNamed? md.1 = some mk ∧ s.vm.method? mk = some meth ∧ meth.code = some c ∧ c.code = md.2.1 ∧ c.maxLocals = md.2.2.1 ∧ meth.sig.returnType = md.2.2.2.1 ∧ meth.locks = false ∧
      c.exceptionTable.toList.map (fun x => (x.startPc, x.endPc, x.handlerPc, x.catchType)) = md.2.2.2.2.map (fun h => h.1) ∧ parseMethodDescriptor md.1.desc = some meth.sig := by
  rcases h.1 with ⟨hw, he⟩ | hw
  · have h1 := hts _ hw
    obtain ⟨mk, hn⟩ := Cond.code_named h1
    obtain ⟨meth, c, q1, q2, q3, q4, q5, q6, q7, q8⟩ := Cond.code_spec hn h1
    refine ⟨mk, meth, c, hn, q1, q2, q3, q4, q5, q6, ?_, q8⟩
    rw [he, Array.isEmpty_iff.mp q7]
    rfl
  · obtain ⟨mk, meth, c, q0, q1, q2, q3, q4, q5, q6, q7, q8⟩ := Cond.codeWith_spec (hts _ hw)
    exact ⟨mk, meth, c, q0, q1, q2, q3, q4, q6, q7, q5, q8⟩
theorem jx_cut {X : jx_X} {st : List Value} {n : Nat} : st.map (jx_v X) = (((st.take n).reverse).map (jx_v X)).reverse ++ (st.drop n).map (jx_v X) := by
  rw [List.map_reverse, List.reverse_reverse, ← List.map_append, List.take_append_drop]
theorem jx_cut1 {st : List Value} {n a : Nat} (h : n < st.length) (ha : st.getD n .null = .ref a) : (st.take (n + 1)).reverse = .ref a :: (st.take n).reverse ∧ st = st.take n ++ .ref a :: st.drop (n + 1) := by
  have h1 : st[n] = .ref a := by
    rw [List.getD_eq_getElem?_getD, List.getElem?_eq_getElem h] at ha
    exact ha
  refine ⟨?_, ?_⟩
  · rw [List.take_succ_eq_append_getElem h, List.reverse_append, h1]
    rfl
  · conv => lhs; rw [← List.take_append_drop n st, List.drop_eq_getElem_cons h, h1]
section JC
variable {X : jx_X} {mt : Nat → jx_D} {md : jx_D} {pc : Nat}
theorem jx_fcS {ce n i : Nat} (hc : jx_c X (mt ce)) (hd : decode md.2.1 pc = .ok (.invokestatic i, 3))  (hw2 : (Cond.static (mt ce).1 : Cond) ∈ X.W) (hw3 : (Cond.initialized (mt ce).1.cls : Cond) ∈ X.W)
    (hm : (mt ce).1.cls ≠ "java/lang/invoke/MethodHandle" ∧ (mt ce).1.cls ≠ "java/lang/invoke/VarHandle") (hn : (parseMethodDescriptor (mt ce).1.desc).map (fun d => d.parameters.length) = some n)
    (hl : ∀ (args : Array Value) (s : State), (∀ w ∈ X.W, w.before args s = true) → (Cond.methodLink md.1.cls i (mt ce).1).before args s = true ∨ ∃ host, (Cond.methodLinkNest md.1.cls i (mt ce).1 host).before args s = true) : jx_S X mt md pc (o_call ce n) := by
  intro p l e R s m args below meth c d B L st M N h H ls locs cells slots I
  obtain ⟨hx, -, hts, hK, hG, hown, -, hb, -⟩ := B
  unfold o_call at h
  split at h
  · rename_i hlen
    cases h
    intro T hT St
    obtain ⟨mk, methM, cM, hnamed, hmethM, -, -, -, -, -, -, hsigM⟩ := hc.spec hts
    have hstatic : methM.isStatic = true := Cond.static_spec hnamed hmethM (hts _ hw2)
    obtain ⟨kP, hkP, -⟩ := className_of_methodNamed hnamed
    have hinitP : kP.init = .initialized := Cond.initialized_spec (findClass_of_methodNamed hnamed) hkP (hts _ hw3)
    have hln : (((st.take n).reverse).map (jx_v X)).length = methM.sig.parameters.length := by
      rw [hsigM] at hn
      have h2 : methM.sig.parameters.length = n := Option.some.inj hn
      rw [h2, List.length_map, List.length_reverse, List.length_take]
      omega
    rcases hl args s hts with hlink | ⟨host, hlink⟩
    · obtain ⟨vm₁, X₁, st₁⟩ := St.invokestatic hx hown hlink hnamed hmethM hstatic hkP hinitP hm (g := F0 m pc ls (st.map (jx_v X))) rfl hln jx_cut (by rw [hb]; exact hd)
      exact ⟨vm₁, mk, _, X₁, hnamed, by rw [hb]; exact hd, rfl, by rw [List.length_drop]; omega, hc, st₁⟩
    · obtain ⟨vm₁, X₁, st₁⟩ := St.invokestaticNest hx hown hlink hnamed hmethM hstatic hkP hinitP hm (g := F0 m pc ls (st.map (jx_v X))) rfl hln jx_cut (by rw [hb]; exact hd)
      exact ⟨vm₁, mk, _, X₁, hnamed, by rw [hb]; exact hd, rfl, by rw [List.length_drop]; omega, hc, st₁⟩
  · cases h
theorem s_calls {ce n i : Nat} (hc : jx_c X (mt ce)) (hd : decode md.2.1 pc = .ok (.invokestatic i, 3)) (hw1 : (Cond.methodLink md.1.cls i (mt ce).1 : Cond) ∈ X.W) (hw2 : (Cond.static (mt ce).1 : Cond) ∈ X.W) (hw3 : (Cond.initialized (mt ce).1.cls : Cond) ∈ X.W)
    (hm : (mt ce).1.cls ≠ "java/lang/invoke/MethodHandle" ∧ (mt ce).1.cls ≠ "java/lang/invoke/VarHandle") (hn : (parseMethodDescriptor (mt ce).1.desc).map (fun d => d.parameters.length) = some n) : jx_S X mt md pc (o_call ce n) :=
  jx_fcS hc hd hw2 hw3 hm hn fun _ _ h => Or.inl (h _ hw1)
theorem s_callsN {ce n i : Nat} {host : String} (hc : jx_c X (mt ce)) (hd : decode md.2.1 pc = .ok (.invokestatic i, 3)) (hw1 : (Cond.methodLinkNest md.1.cls i (mt ce).1 host : Cond) ∈ X.W) (hw2 : (Cond.static (mt ce).1 : Cond) ∈ X.W) (hw3 : (Cond.initialized (mt ce).1.cls : Cond) ∈ X.W)
    (hm : (mt ce).1.cls ≠ "java/lang/invoke/MethodHandle" ∧ (mt ce).1.cls ≠ "java/lang/invoke/VarHandle") (hn : (parseMethodDescriptor (mt ce).1.desc).map (fun d => d.parameters.length) = some n) : jx_S X mt md pc (o_call ce n) :=
  jx_fcS hc hd hw2 hw3 hm hn fun _ _ h => Or.inr ⟨host, h _ hw1⟩
/-- the receiver's object -/
theorem jx_recv {s : State} {H : Heap} {M : jx_M} {a ci : Nat} {fs : List Value} {C : String} {T : u_T} {N : Nat} {ty : Nat → FieldType} (hk : jx_k X ci C T N ty) (hK : va_K X.D X.cl X.ty s) (hG : jx_GL X s) (hH : jx_H X M H) (ha : M.1 a = .inr (ci, fs)) : ∃ cell : Cell, H[jx_ad X a]? = some cell ∧ cell.vm.isStatics = false ∧ s.vm.findClass C = some cell.cls := by
  obtain ⟨-, -, hP⟩ := hH.obj hG ha hk.2.1
  exact va_recv hK (jx_P1 hP) hk.1 (q0 := 0) rfl
theorem jx_fcV {ce n i ci : Nat} {C : String} {T : u_T} {N : Nat} {ty : Nat → FieldType} (hk : jx_k X ci C T N ty) (hc : jx_c X (mt ce)) (hd : decode md.2.1 pc = .ok (.invokevirtual i, 3))  (hw2 : (Cond.instanceMethod (mt ce).1 : Cond) ∈ X.W) (hw3 : (Cond.selects C (mt ce).1 (mt ce).1 : Cond) ∈ X.W)
    (hm : (mt ce).1.cls ≠ "java/lang/invoke/MethodHandle" ∧ (mt ce).1.cls ≠ "java/lang/invoke/VarHandle") (hn : (parseMethodDescriptor (mt ce).1.desc).map (fun d => d.parameters.length) = some n)
    (hl : ∀ (args : Array Value) (s : State), (∀ w ∈ X.W, w.before args s = true) → (Cond.methodLink md.1.cls i (mt ce).1).before args s = true ∨ ∃ host, (Cond.methodLinkNest md.1.cls i (mt ce).1 host).before args s = true) : jx_S X mt md pc (o_callv ci ce n) := by
  intro p l e R s m args below meth c d B L st M N0 h H ls locs cells slots I
  obtain ⟨hx, -, hts, hK, hG, hown, -, hb, -⟩ := B
  unfold o_callv at h
  split at h
  · rename_i hlen
    split at h
    · rename_i a ha
      split at h
      · rename_i c0 fs hcell
        split at h
        · rename_i e0
          subst e0
          cases h
          intro T hT St
          obtain ⟨cellB, hcB, hoB, hclB⟩ := jx_recv hk hK hG I.1 hcell
          obtain ⟨q1, q2⟩ := jx_cut1 hlen.1 ha
          obtain ⟨mk, methM, cM, hnamed, hmethM, -, -, -, -, -, -, hsigM⟩ := hc.spec hts
          obtain ⟨mk', methM', hnamed', hmethM', hstM, habM⟩ := Cond.instanceMethod_spec (hts _ hw2)
          cases hnamed.symm.trans hnamed'
          cases hmethM.symm.trans hmethM'
          obtain ⟨c2, r2, m2, z1, z2, z3, z4, kP, hkP, hkPi⟩ := Cond.selects_spec (hts _ hw3)
          cases hclB.symm.trans z1
          cases (State.methodFound?_of_named hnamed hm).symm.trans z2
          cases hnamed.symm.trans z3
          have hselP : selectMethod e.platform s.vm cellB.cls mk = .method mk := by rw [Launch.admits_selectMethod St.admits]; exact z4
          have hln : (((st.take n).reverse).map (jx_v X)).length = methM.sig.parameters.length := by
            rw [hsigM] at hn
            have h2 : methM.sig.parameters.length = n := Option.some.inj hn
            rw [h2, List.length_map, List.length_reverse, List.length_take]
            omega
          have hst : (F0 m pc ls (st.map (jx_v X))).stack = (((st.take n).reverse).map (jx_v X)).reverse ++ .ref (jx_ad X a) :: (st.drop (n + 1)).map (jx_v X) := by
            show st.map (jx_v X) = _
            rw [List.map_reverse, List.reverse_reverse]
            conv => lhs; rw [q2]
            rw [List.map_append]
            rfl
          rcases hl args s hts with hlink | ⟨host, hlink⟩
          · obtain ⟨vm₁, X₁, st₁⟩ := St.invokevirtual hx hown hlink hnamed hmethM hstM hkP hkPi hm (a := jx_ad X a) (cell := cellB) (by rw [hT]; exact hcB) (fun z h => by rw [h] at hoB; cases hoB) hselP hmethM habM hkP hkPi (g := F0 m pc ls (st.map (jx_v X))) rfl hln hst (by rw [hb]; exact hd)
            refine ⟨vm₁, mk, _, X₁, hnamed, by rw [hb]; exact hd, rfl, by rw [List.length_drop]; omega, hc, fun tg ht => st₁ tg fun acts => ?_⟩
            have h9 := ht acts
            rw [q1] at h9
            exact h9
          · obtain ⟨vm₁, X₁, st₁⟩ := St.invokevirtualNest hx hown hlink hnamed hmethM hstM hkP hkPi hm (a := jx_ad X a) (cell := cellB) (by rw [hT]; exact hcB) (fun z h => by rw [h] at hoB; cases hoB) hselP hmethM habM hkP hkPi (g := F0 m pc ls (st.map (jx_v X))) rfl hln hst (by rw [hb]; exact hd)
            refine ⟨vm₁, mk, _, X₁, hnamed, by rw [hb]; exact hd, rfl, by rw [List.length_drop]; omega, hc, fun tg ht => st₁ tg fun acts => ?_⟩
            have h9 := ht acts
            rw [q1] at h9
            exact h9
        · cases h
      · cases h
    · cases h
  · cases h
theorem s_callv {ce n i ci : Nat} {C : String} {T : u_T} {N : Nat} {ty : Nat → FieldType} (hk : jx_k X ci C T N ty) (hc : jx_c X (mt ce)) (hd : decode md.2.1 pc = .ok (.invokevirtual i, 3)) (hw1 : (Cond.methodLink md.1.cls i (mt ce).1 : Cond) ∈ X.W) (hw2 : (Cond.instanceMethod (mt ce).1 : Cond) ∈ X.W) (hw3 : (Cond.selects C (mt ce).1 (mt ce).1 : Cond) ∈ X.W)
    (hm : (mt ce).1.cls ≠ "java/lang/invoke/MethodHandle" ∧ (mt ce).1.cls ≠ "java/lang/invoke/VarHandle") (hn : (parseMethodDescriptor (mt ce).1.desc).map (fun d => d.parameters.length) = some n) : jx_S X mt md pc (o_callv ci ce n) :=
  jx_fcV hk hc hd hw2 hw3 hm hn fun _ _ h => Or.inl (h _ hw1)
theorem s_callvN {ce n i ci : Nat} {C host : String} {T : u_T} {N : Nat} {ty : Nat → FieldType} (hk : jx_k X ci C T N ty) (hc : jx_c X (mt ce)) (hd : decode md.2.1 pc = .ok (.invokevirtual i, 3)) (hw1 : (Cond.methodLinkNest md.1.cls i (mt ce).1 host : Cond) ∈ X.W) (hw2 : (Cond.instanceMethod (mt ce).1 : Cond) ∈ X.W) (hw3 : (Cond.selects C (mt ce).1 (mt ce).1 : Cond) ∈ X.W)
    (hm : (mt ce).1.cls ≠ "java/lang/invoke/MethodHandle" ∧ (mt ce).1.cls ≠ "java/lang/invoke/VarHandle") (hn : (parseMethodDescriptor (mt ce).1.desc).map (fun d => d.parameters.length) = some n) : jx_S X mt md pc (o_callv ci ce n) :=
  jx_fcV hk hc hd hw2 hw3 hm hn fun _ _ h => Or.inr ⟨host, h _ hw1⟩
/-- a constructor -/
theorem jx_fcI {ce n i ci : Nat} (hc : jx_c X (mt ce)) (hwc : (Cond.code (mt ce).1 (mt ce).2.1 (mt ce).2.2.1 none : Cond) ∈ X.W) (hd : decode md.2.1 pc = .ok (.invokespecial i, 3)) (hw2 : (Cond.instanceMethod (mt ce).1 : Cond) ∈ X.W) (hni : (mt ce).1.name = "<init>")
    (hm : (mt ce).1.cls ≠ "java/lang/invoke/MethodHandle" ∧ (mt ce).1.cls ≠ "java/lang/invoke/VarHandle") (hn : (parseMethodDescriptor (mt ce).1.desc).map (fun d => d.parameters.length) = some n)
    (hl : ∀ (args : Array Value) (s : State), (∀ w ∈ X.W, w.before args s = true) → (Cond.methodLink md.1.cls i (mt ce).1).before args s = true ∨ ∃ host, (Cond.methodLinkNest md.1.cls i (mt ce).1 host).before args s = true) : jx_S X mt md pc (o_callv ci ce n) := by
  intro p l e R s m args below meth c d B L st M N0 h H ls locs cells slots I
  obtain ⟨hx, -, hts, hK, hG, hown, -, hb, -⟩ := B
  unfold o_callv at h
  split at h
  · rename_i hlen
    split at h
    · rename_i a ha
      split at h
      · rename_i c0 fs hcell
        split at h
        · rename_i e0
          subst e0
          cases h
          intro T hT St
          obtain ⟨q1, q2⟩ := jx_cut1 hlen.1 ha
          have hpl : e.platform.magicAccessors = ({} : Platform).magicAccessors := by rw [St.admits.platform]
          have hln : ∀ sig, parseMethodDescriptor (mt ce).1.desc = some sig → (((st.take n).reverse).map (jx_v X)).length = sig.parameters.length := by
            intro sig hsig
            rw [hsig] at hn
            have h2 : sig.parameters.length = n := Option.some.inj hn
            rw [h2, List.length_map, List.length_reverse, List.length_take]
            omega
          have hst : (F0 m pc ls (st.map (jx_v X))).stack = (((st.take n).reverse).map (jx_v X)).reverse ++ .ref (jx_ad X a) :: (st.drop (n + 1)).map (jx_v X) := by
            show st.map (jx_v X) = _
            rw [List.map_reverse, List.reverse_reverse]
            conv => lhs; rw [q2]
            rw [List.map_append]
            rfl
          rcases hl args s hts with hlink | ⟨host, hlink⟩
          · obtain ⟨mk, methM, cM, kP, vm₁, hnamed, -, -, -, -, -, -, -, hW₁, hstep₁⟩ := Steps.initColdArgs (e := e) St.here hx St.warmed hpl hown hni hm hlink (hts _ hw2) (hts _ hwc) (f := F0 m pc ls (st.map (jx_v X))) rfl hln hst (by rw [hb]; exact hd)
            refine ⟨vm₁, mk, _, St.noted hW₁, hnamed, by rw [hb]; exact hd, rfl, by rw [List.length_drop]; omega, hc, fun tg ht => hstep₁ tg fun acts => ?_⟩
            have h9 := ht acts
            rw [q1] at h9
            exact h9
          · obtain ⟨mk, methM, cM, kP, vm₁, hnamed, -, -, -, -, -, -, -, hW₁, hstep₁⟩ := Steps.initColdArgsNest (e := e) St.here hx St.warmed hpl hown hni hm hlink (hts _ hw2) (hts _ hwc) (f := F0 m pc ls (st.map (jx_v X))) rfl hln hst (by rw [hb]; exact hd)
            refine ⟨vm₁, mk, _, St.noted hW₁, hnamed, by rw [hb]; exact hd, rfl, by rw [List.length_drop]; omega, hc, fun tg ht => hstep₁ tg fun acts => ?_⟩
            have h9 := ht acts
            rw [q1] at h9
            exact h9
        · cases h
      · cases h
    · cases h
  · cases h
theorem s_calli {ce n i ci : Nat} (hc : jx_c X (mt ce)) (hwc : (Cond.code (mt ce).1 (mt ce).2.1 (mt ce).2.2.1 none : Cond) ∈ X.W) (hd : decode md.2.1 pc = .ok (.invokespecial i, 3)) (hw1 : (Cond.methodLink md.1.cls i (mt ce).1 : Cond) ∈ X.W) (hw2 : (Cond.instanceMethod (mt ce).1 : Cond) ∈ X.W) (hni : (mt ce).1.name = "<init>")
    (hm : (mt ce).1.cls ≠ "java/lang/invoke/MethodHandle" ∧ (mt ce).1.cls ≠ "java/lang/invoke/VarHandle") (hn : (parseMethodDescriptor (mt ce).1.desc).map (fun d => d.parameters.length) = some n) : jx_S X mt md pc (o_callv ci ce n) :=
  jx_fcI hc hwc hd hw2 hni hm hn fun _ _ h => Or.inl (h _ hw1)
theorem s_calliN {ce n i ci : Nat} {host : String} (hc : jx_c X (mt ce)) (hwc : (Cond.code (mt ce).1 (mt ce).2.1 (mt ce).2.2.1 none : Cond) ∈ X.W) (hd : decode md.2.1 pc = .ok (.invokespecial i, 3)) (hw1 : (Cond.methodLinkNest md.1.cls i (mt ce).1 host : Cond) ∈ X.W) (hw2 : (Cond.instanceMethod (mt ce).1 : Cond) ∈ X.W) (hni : (mt ce).1.name = "<init>")
    (hm : (mt ce).1.cls ≠ "java/lang/invoke/MethodHandle" ∧ (mt ce).1.cls ≠ "java/lang/invoke/VarHandle") (hn : (parseMethodDescriptor (mt ce).1.desc).map (fun d => d.parameters.length) = some n) : jx_S X mt md pc (o_callv ci ce n) :=
  jx_fcI hc hwc hd hw2 hni hm hn fun _ _ h => Or.inr ⟨host, h _ hw1⟩
theorem jx_cats {st : List Value} (h : st.length ≤ 4) : (st.map fun v => v.category).sum ≤ 8 := by
  have h1 : ∀ l : List Value, (l.map fun v => v.category).sum ≤ 2 * l.length := by
    intro l
    induction l with
    | nil => simp
    | cons a r ih =>
      have h2 : a.category ≤ 2 := by cases a <;> simp [Value.category]
      simp only [List.map_cons, List.sum_cons, List.length_cons]
      omega
  have := h1 st
  omega
theorem s_oinit {i : Nat} (hd : decode md.2.1 pc = .ok (.invokespecial i, 3)) (hw1 : (Cond.methodLink md.1.cls i Lib.objectInit : Cond) ∈ X.W) (hw2 : (Cond.instanceMethod Lib.objectInit : Cond) ∈ X.W) (hw3 : (Cond.code Lib.objectInit ⟨#[0xb1]⟩ 1 none : Cond) ∈ X.W) : jx_S X mt md pc o_oinit := by
  intro p l e R s m args below meth c d B L st M N h H ls locs cells slots I
  obtain ⟨hx, -, hts, hK, hG, hown, -, hb, hml, -, -, -, hRf, hRl, -⟩ := B
  unfold o_oinit at h
  split at h
  · split at h
    · rename_i a r hr
      cases h
      intro Q kk
      have hsum : ((r.map (jx_v X)).map fun v => v.category).sum ≤ 8 := jx_cats (by rw [List.length_map]; exact hr)
      refine W.objInit hx hb hown (hts _ hw1) (hts _ hw2) (hts _ hw3) rfl ?_ rfl hd (by omega) (by show 2 * 0 + _ + 12 ≤ _; omega) (kk _ _ _ _ _ I)
      show ls.size = c.maxLocals
      rw [I.2.1.1, I.2.2.2.2.2, hml]
    · cases h
  · cases h
end JC
theorem jx_steps {tb : Tables} {e : Env} {mid below : List Frame} {a b : State} (h : Steps tb e (mid ++ below) a b) : Steps tb e below a b := by
  obtain ⟨n, hn, w⟩ := h
  exact ⟨n, hn, fun k hk => (w k hk).weaken⟩
theorem jx_H.ns {X : jx_X} {M : jx_M} {H : Heap} (h : jx_H X M H) {q : Nat} {cell : Cell} (hq : X.H.size ≤ q) (hc : H[q]? = some cell) : cell.vm.isStatics = false := by
  obtain ⟨h1, h2, h3, h4, h5, h6⟩ := h
  have hlt : q < H.size := (Array.getElem?_eq_some_iff.mp hc).1
  have hk := (h3 (q - X.H.size + jx_g) (by omega) (by omega)).2
  have ha : jx_ad X (q - X.H.size + jx_g) = q := by rw [jx_ad_ge (by omega)]; omega
  rw [ha] at hk
  cases hm : jx_e X (M.1 (q - X.H.size + jx_g)) with
  | inl z =>
    rw [hm] at hk
    have hk : H[q]? = some (vp_cell z.1 z.2) := hk
    rw [hc] at hk
    cases hk
    obtain ⟨cA, n, f⟩ := z
    cases f with
    | inl f => rfl
    | inr f => cases f with
      | inl f => rfl
      | inr f => cases f with
        | inl f => rfl
        | inr f => cases f with
          | inl f => rfl
          | inr f => rfl
  | inr z =>
    rw [hm] at hk
    obtain ⟨r, -, cell', g1, -, g3, -⟩ := hk
    have g1 : H[q]? = some cell' := g1
    rw [hc] at g1
    cases g1
    rw [g3]
    rfl
theorem jx_GL.moved {X : jx_X} {s U : State} (hvm : s.vm.Alike U.vm) (h : jx_GL X s) : jx_GL X U := by
  intro k hk
  have h1 := h k hk
  cases hg : X.gl k with
  | inr z => rw [hg] at h1; exact h1
  | inl z =>
    rw [hg] at h1
    obtain ⟨t, n, f⟩ := z
    cases f with
    | inr f => exact h1
    | inl f =>
      obtain ⟨e0, cell, q1, q2, q3⟩ := h1
      exact ⟨e0, cell, q1, State.isArrayOf_alike hvm q2, q3⟩
theorem jx_en_sl (X : jx_X) (as : List Value) : (as.flatMap fun v => if jx_v1 v = true then [some v] else [some v, none]).length = (lg_sl (as.map (jx_v X))).length ∧
    ∀ (i : Nat) (v : Value), (as.flatMap fun v => if jx_v1 v = true then [some v] else [some v, none]).getD i none = some v → (lg_sl (as.map (jx_v X)))[i]? = some (.val (jx_v X v)) := by
  induction as with
  | nil => exact ⟨rfl, fun i v h => by simp at h⟩
  | cons a r ih =>
    have hsl : lg_sl ((a :: r).map (jx_v X)) = (if (jx_v X a).category = 2 then [Slot.val (jx_v X a), .second] else [.val (jx_v X a)]) ++ lg_sl (r.map (jx_v X)) := by
      simp [lg_sl]
    rw [hsl, List.flatMap_cons]
    by_cases h1 : jx_v1 a = true
    · rw [if_pos h1, if_neg (by rw [jx_v_cat, jx_v1_cat h1]; decide)]
      refine ⟨by simp [ih.1], fun i v h => ?_⟩
      cases i with
      | zero => simp at h; subst h; rfl
      | succ j => exact ih.2 j v (by simpa using h)
    · rw [if_neg h1, if_pos (by rw [jx_v_cat, jx_v1_ncat h1])]
      refine ⟨by simp [ih.1], fun i v h => ?_⟩
      cases i with
      | zero => simp at h; subst h; rfl
      | succ j =>
        cases j with
        | zero => simp at h
        | succ k => exact ih.2 k v (by simpa using h)
theorem jx_lo.entry {X : jx_X} {as : List Value} {n : Nat} (h : (jx_en as n).length = n) : jx_lo X ((lg_sl (as.map (jx_v X)) ++ List.replicate (n - (lg_sl (as.map (jx_v X))).length) Slot.unset).toArray) (jx_en as n) := by
  obtain ⟨e1, e2⟩ := jx_en_sl X as
  have hle : (lg_sl (as.map (jx_v X))).length ≤ n := by
    unfold jx_en at h
    rw [List.length_append, List.length_replicate, e1] at h
    omega
  obtain ⟨a1, a2, -⟩ := lv_entry (as.map (jx_v X)) hle
  refine ⟨by rw [a1, h], a2, fun i v hv => ?_⟩
  unfold jx_en at hv
  rw [List.getD_eq_getElem?_getD] at hv
  by_cases hi : i < (as.flatMap fun v => if jx_v1 v = true then [some v] else [some v, none]).length
  · rw [List.getElem?_append_left hi, ← List.getD_eq_getElem?_getD] at hv
    have h2 := e2 i v hv
    rw [List.getElem?_toArray, List.getElem?_append_left (by rw [← e1]; exact hi)]
    exact h2
  · rw [List.getElem?_append_right (by omega)] at hv
    rw [List.getElem?_replicate] at hv
    split at hv <;> cases hv
/-- a handler takes an exception -/
def jx_ct (X : jx_X) (md : jx_D) (hs : List (Nat × Nat × Nat × Nat)) : Prop :=
  ∀ (p : Program) (l : Launch) (e : Env) (R : Room) (s : State) (m : MethodId) (args : Array Value) (below : List Frame) (meth : Method) (c : Code) (d : Nat), jx_B X md p l e R s m args meth c d →
  ∀ (pc k hp : Nat) (M : jx_M), jx_hf pc (jx_cl (M.1 k)) hs = some hp → ∀ (T : State) (locs : List Loc) (cells slots : Nat) (ls : Array Slot) (st : List Value), Stand p l e R s m args below meth c T locs cells slots → jx_H X M T.heap →
  ∃ vm₁ : Vm, Stand p l e R s m args below meth c (T.setVm vm₁) locs cells slots ∧ ∀ target, Steps p.tables e below ((T.setVm vm₁).setTop (F0 m hp ls [.ref (jx_ad X k)])) target → Steps p.tables e below ((T.setTop (F0 m pc ls st)).pushFrame (.throwing (jx_ad X k))) target
theorem jx_ho_out {pc : Nat} : ∀ {hs : List (Nat × Nat × Nat × Nat)}, jx_ho pc hs = true → ∀ h ∈ hs, ¬ (h.1 ≤ pc ∧ pc < h.2.1)
  | [], _, h, hm => by cases hm
  | a :: t, hh, h, hm => by
    unfold jx_ho at hh
    split at hh
    · cases hh
    · rename_i hn
      rcases List.mem_cons.mp hm with rfl | hm
      · exact hn
      · exact jx_ho_out hh h hm
/-- a word that stays when the tables are warmer -/
def jx_mv (w : Cond) : Prop := ∀ (s U : State) (a a' : Array Value), s.WarmedH U.vm → w.before a s = true → w.before a' U = true
def jx_gw (w : Cond) : Bool := match w with
  | .fieldLinkNest .. => true
  | .methodLinkNest .. => true
  | .declares _ => true
  | .castable .. => true
  | w => goodWord w
theorem jx_gw_mv {w : Cond} (h : jx_gw w = true) : jx_mv w := by
  intro s U a a' hW hb
  by_cases hg : goodWord w = true
  · exact word_at hW (good_of_word hg) hb
  · cases w with
    | fieldLinkNest x i b n d y => exact va_Nw.use rfl (va_Nw.warmF hW (va_Nw.of rfl hb))
    | methodLinkNest x i b y => exact va_Nw.use rfl (va_Nw.warmM hW (va_Nw.of rfl hb))
    | declares x => exact va_Nw.use rfl (va_Nw.warmD hW (va_Nw.of rfl hb))
    | castable x y => exact va_Nw.use rfl (va_Nw.warmC hW (va_Nw.of rfl hb))
    | _ => exact absurd h hg
