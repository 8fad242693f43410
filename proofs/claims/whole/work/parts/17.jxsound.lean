set_option maxHeartbeats 4000000 in
theorem jx_sound {X : jx_X} {mt : Nat → jx_D} {ml : Nat → Nat} {hs : Nat → List (Nat × Nat × Nat × Nat)} {cd : Nat → Nat → Option jx_O} {l : Launch} (hml : ∀ mi, ml mi = (mt mi).2.2.1) (hhs : ∀ mi, (hs mi).map (fun h => (h.1, h.2.1)) = (mt mi).2.2.2.2.map (fun h => (h.1.1, h.1.2.1)))
    (hS : ∀ mi pc op, cd mi pc = some op → jx_S X mt (mt mi) pc op) (hWd : ∀ w ∈ X.W, jx_mv w) (hGm : ∀ (s U : State), s.WarmedH U.vm → (∀ q : Nat, q < X.H.size → U.heap[q]? = X.H[q]?) → X.G s → X.G U) (hct : ∀ mi, jx_ct X (mt mi) (hs mi)) :
    ∀ (f d mi pc : Nat) (L : jx_L) (st : List Value) (M : jx_M) (r : jx_R) (M' : jx_M), jx_run ml hs cd f d mi pc L st M = some (r, M') →
    ∀ (p : Program) (e : Env) (R : Room) (s : State) (m : MethodId) (args : Array Value) (below : List Frame) (meth : Method) (c : Code), jx_B X (mt mi) p l e R s m args meth c d →
    ∀ (H : Heap) (ls : Array Slot) (locs : List Loc) (cells slots : Nat), jx_I X R (mt mi).2.2.1 M H ls L locs cells slots → W p l e R s m args below meth c H locs cells slots (jx_Q X R below s r M') (F0 m pc ls (st.map (jx_v X))) := by
  intro f
  induction f with
  | zero => intro d mi pc L st M r M' h; cases h
  | succ f ih =>
    intro d mi pc L st M r M' h p e R s m args below meth c B H ls locs cells slots I
    unfold jx_run at h
    split at h
    · cases h
    · rename_i op hop
      have hSop := hS mi pc op hop p l e R s m args below meth c d B L st M
      split at h
      · cases h
      · rename_i pc' L' st' M1 hN
        exact hSop _ hN H ls locs cells slots I _ fun H' ls' locs' cells' slots' I' => ih _ _ _ _ _ _ _ _ h _ _ _ _ _ _ _ _ _ B _ _ _ _ _ I'
      · rename_i r1 M1 hN
        cases h
        exact hSop _ hN H ls locs cells slots I
      · rename_i ce as rest pc' hN
        have hcall := hSop _ hN H ls locs cells slots I
        split at h
        · cases h
        · rename_i d'
          split at h
          · rename_i hen
            intro T hT St
            obtain ⟨vm₁, mk, ig, St1, hnamed, hdec, hpc', hrl, hcc, hgo⟩ := hcall T hT St
            have B0 := B
            obtain ⟨hx, htr, hts, hK, hG, hown, hnm, hb, hmxl, hr, hlk, hex, hRf, hRl, hns, hao, hGs⟩ := B
            obtain ⟨mk', methk, ck, hnamed', hmk, hck, hbk, hlck, hrk, hlkk, hexk, hsigk⟩ := hcc.spec hts
            cases hnamed.symm.trans hnamed'
            have hal : s.vm.Alike vm₁ := St1.warmed.alike
            have hmk1 : (T.setVm vm₁).vm.method? mk = some methk := by
              show vm₁.method? mk = some methk
              rw [hal.method?]
              exact hmk
            have hnamed1 : (T.setVm vm₁).methodNamed? (mt ce).1 = some mk := by
              show (s.setVm vm₁).methodNamed? (mt ce).1 = some mk
              rw [State.methodNamed?_setVm hal]
              exact hnamed
            have hsum : ((rest.map (jx_v X)).map fun v => v.category).sum ≤ 8 := jx_cats (by rw [List.length_map]; exact hrl)
            have hsz : (F0 m pc ls (rest.map (jx_v X))).locals.size = c.maxLocals := by
              show ls.size = c.maxLocals
              rw [I.2.1.1, I.2.2.2.2.2, hmxl]
            have hml30 := hcc.2.2
            have hIr := I.2.2.2
            obtain ⟨Sk, hdo⟩ := St1.into (g := F0 m pc ls (rest.map (jx_v X))) rfl hsz hdec (as.map (jx_v X)).toArray (R' := { frames := R.frames - 1, cells := M.2.2.1, slots := M.2.2.2, locals := R.locals - 50 }) hmk1 hck hlkk (State.plainMethod.of_named hcc.2.1 hnamed1 hmk1) (by show R.frames - 1 + 1 ≤ R.frames; omega) (by show 2 * 0 + ((rest.map (jx_v X)).map fun v => v.category).sum + (ck.maxLocals + 11) + (R.locals - 50) ≤ R.locals; rw [hlck]; omega) (by show cells + M.2.2.1 ≤ R.cells; omega) (by show slots + M.2.2.2 ≤ R.slots; omega)
            generalize hT2 : ((T.setVm vm₁).setTop (F0 m pc ls (rest.map (jx_v X)))).pushFrame (.java (entryFrame mk (as.map (jx_v X)).toArray ck.maxLocals)) = T2 at Sk hdo
            have hT2h : T2.heap = H := by rw [← hT2]; exact hT
            generalize hs' : (T.setVm vm₁).calling (F0 m pc ls (rest.map (jx_v X))) mk (as.map (jx_v X)).toArray = s' at Sk
            have hvm' : s'.vm = vm₁ := by rw [← hs']; rfl
            have hhp' : s'.heap = H := by rw [← hs']; exact hT
            have Bk : jx_B X (mt ce) p l e { frames := R.frames - 1, cells := M.2.2.1, slots := M.2.2.2, locals := R.locals - 50 } s' mk (as.map (jx_v X)).toArray methk ck d' := by
              refine ⟨hx, htr, fun w hw => hWd w hw s s' _ _ (by rw [hvm']; exact St1.warmed) (hts w hw), va_K.moved (by rw [hvm']; exact hal) hK, jx_GL.moved (by rw [hvm']; exact hal) hG, ?_, (name_of_methodNamed hnamed hmk).1, hbk, hlck, hrk, hlkk, hexk, by show d' + 10 ≤ R.frames - 1; omega, by show 50 * d' + 300 ≤ R.locals - 50; omega, fun q cell hq hc => ?_, fun C cA h4 => va_AO.moved (by rw [hvm']; exact hal) (hao C cA h4), hGm s s' (by rw [hvm']; exact St1.warmed) (fun q hq => by rw [hhp']; exact I.1.2.2.2.2.1 q hq) hGs⟩
              · rw [hvm', hal.findClass]
                exact findClass_of_methodNamed hnamed
              · rw [hhp'] at hc
                exact I.1.ns hq hc
            have run : ∀ (rk : jx_R) (Mk : jx_M), jx_run ml hs cd f d' ce 0 (jx_en as (ml ce)) [] M = some (rk, Mk) → ∃ t, Steps p.tables e below (T.setTop (F0 m pc ls (st.map (jx_v X)))) t ∧ jx_Q X { frames := R.frames - 1, cells := M.2.2.1, slots := M.2.2.2, locals := R.locals - 50 } (.java (F0 m pc ls (rest.map (jx_v X))) :: below) s' rk Mk t := by
              intro rk Mk hk
              rw [hml ce] at hk hen
              have hw := ih _ _ _ _ _ _ _ _ hk p e _ s' mk _ (.java (F0 m pc ls (rest.map (jx_v X))) :: below) methk ck Bk H _ [] 0 0 ⟨I.1, jx_lo.entry hen, (fun x hx => by cases hx), by show 0 + M.2.2.1 ≤ M.2.2.1; omega, by show 0 + M.2.2.2 ≤ M.2.2.2; omega, hen⟩
              obtain ⟨t, t1, t2⟩ := hw T2 hT2h Sk
              refine ⟨t, hgo t fun acts => ?_, t2⟩
              rw [hdo acts, hlck, lg_entry_eq]
              exact jx_steps (mid := [.java (F0 m pc ls (rest.map (jx_v X)))]) t1
            subst hpc'
            split at h
            · cases h
            · rename_i v Mk hk
              obtain ⟨t, t1, o, locs', kc, ks, q1, q2, q3, q4, q5, q6, q7, q8, q9⟩ := run _ _ hk
              have q3 : o = .returned (v.map (jx_v X)) := q3
              subst q3
              rw [← hs'] at q5 q6
              obtain ⟨T', St', -, -, ht⟩ := St1.outOf (g := F0 m pc ls (rest.map (jx_v X))) (mk := mk) (a := (as.map (jx_v X)).toArray) (t := t) (v := v.map (jx_v X)) (L := locs') (k := kc) (n := ks) rfl hdec q2 q5 q6
              have hheap : t.heap = T'.heap := by rw [ht]; rfl
              rw [hheap] at q4
              have q8 : kc + Mk.2.2.1 ≤ M.2.2.1 := q8
              have q9 : ks + Mk.2.2.2 ≤ M.2.2.2 := q9
              have hlocs : ∀ x ∈ locs ++ locs', X.H.size ≤ x.base := fun x hx => by
                rcases List.mem_append.mp hx with z | z
                · exact I.2.2.1 x z
                · exact q7 x z
              have hw := ih _ _ _ _ _ _ _ _ h p e R s m args below meth c B0 T'.heap ls (locs ++ locs') (cells + kc) (slots + ks) ⟨q4, I.2.1, hlocs, by omega, by omega, I.2.2.2.2.2⟩
              obtain ⟨t2, z1, z2⟩ := hw T' rfl St'
              refine ⟨t2, t1.trans ?_, z2⟩
              rw [ht]
              have hmap : (v.toList ++ rest).map (jx_v X) = (v.map (jx_v X)).toList ++ rest.map (jx_v X) := by cases v <;> rfl
              rw [hmap] at z1
              exact z1
            · rename_i k Mk hk
              obtain ⟨t, t1, o, locs', kc, ks, q1, q2, q3, q4, q5, q6, q7, q8, q9⟩ := run _ _ hk
              have q3 : o = .threw (jx_ad X k) := q3
              subst q3
              rw [← hs'] at q5 q6
              obtain ⟨T', St', -, -, ht⟩ := St1.outOfThrown (g := F0 m pc ls (rest.map (jx_v X))) (mk := mk) (a := (as.map (jx_v X)).toArray) (t := t) (x := jx_ad X k) (L := locs') (k := kc) (n := ks) rfl q2 q5 q6
              have hheap : t.heap = T'.heap := by rw [ht]; rfl
              rw [hheap] at q4
              have q8 : kc + Mk.2.2.1 ≤ M.2.2.1 := q8
              have q9 : ks + Mk.2.2.2 ≤ M.2.2.2 := q9
              have hlocs : ∀ x ∈ locs ++ locs', X.H.size ≤ x.base := fun x hx => by
                rcases List.mem_append.mp hx with z | z
                · exact I.2.2.1 x z
                · exact q7 x z
              split at h
              · cases h
              · rename_i hp hh
                have hhf : jx_hf pc (jx_cl (Mk.1 k)) (hs mi) = some hp := by
                  unfold jx_hd at hh
                  split at hh
                  · cases hh
                  · obtain ⟨z, z1, z2⟩ := Option.map_eq_some_iff.mp hh
                    cases z2
                    exact z1
                obtain ⟨vm₂, St2, hgo2⟩ := hct mi p l e R s m args below meth c (d' + 1) B0 pc k hp Mk hhf T' _ _ _ ls (rest.map (jx_v X)) St' q4
                have hw := ih _ _ _ _ _ _ _ _ h p e R s m args below meth c B0 T'.heap ls (locs ++ locs') (cells + kc) (slots + ks) ⟨q4, I.2.1, hlocs, by omega, by omega, I.2.2.2.2.2⟩
                obtain ⟨t2, z1, z2⟩ := hw (T'.setVm vm₂) rfl St2
                refine ⟨t2, t1.trans ?_, z2⟩
                rw [ht]
                exact hgo2 _ z1
              · rename_i hh
                cases h
                have hho : jx_ho pc (hs mi) = true := by
                  unfold jx_hd at hh
                  split at hh
                  · rename_i z; exact z
                  · obtain ⟨z, z1, z2⟩ := Option.map_eq_some_iff.mp hh
                    cases z2
                have hout : ∀ x ∈ c.exceptionTable.toList, covers x pc = false := by
                  intro x hx0
                  have z1 : (x.startPc, x.endPc) ∈ (c.exceptionTable.toList.map fun x => (x.startPc, x.endPc, x.handlerPc, x.catchType)).map fun z => (z.1, z.2.1) := by
                    rw [List.map_map]
                    exact List.mem_map.mpr ⟨x, hx0, rfl⟩
                  rw [hex, List.map_map] at z1
                  have z2 : (x.startPc, x.endPc) ∈ (hs mi).map fun h => (h.1, h.2.1) := by
                    rw [hhs mi]
                    exact z1
                  obtain ⟨hd0, z3, z4⟩ := List.mem_map.mp z2
                  have z5 := jx_ho_out hho hd0 z3
                  have z6 : hd0.1 = x.startPc := congrArg Prod.fst z4
                  have z7 : hd0.2.1 = x.endPc := congrArg Prod.snd z4
                  rw [z6, z7] at z5
                  simp only [covers, Bool.and_eq_false_iff, decide_eq_false_iff_not]
                  by_cases z8 : x.startPc ≤ pc
                  · exact Or.inr fun z9 => z5 ⟨z8, z9⟩
                  · exact Or.inl z8
                obtain ⟨hwalk, e1, e2, e3, e4⟩ := St'.leaveThrown (jx_ad X k) (g := F0 m pc ls (rest.map (jx_v X))) rfl rfl rfl hout hlk
                refine ⟨_, t1.trans ?_, .threw (jx_ad X k), locs ++ locs', cells + kc, slots + ks, e1, e2, rfl, q4, e3, e4, hlocs, by omega, by omega⟩
                rw [ht]
                exact hwalk
          · cases h
