/-! COPIES, CONSTANTS, TEXTS -/
theorem jx_adg {X : jx_X} {g : Nat} (h : g < jx_g) : jx_ad X g = X.ga g := by
  unfold jx_ad
  rw [if_pos h]
section JG
variable {X : jx_X} {mt : Nat → jx_D} {md : jx_D} {pc : Nat}
theorem jx_nn {z : Int32} (hz : ¬ z < 0) : z.toInt = (z.toNatClampNeg : Int) := by
  have hz0 : (0 : Int) ≤ z.toInt := by simpa using Int32.le_iff_toInt_le.mp (Int32.not_lt.mp hz)
  show z.toInt = ((z.toInt.toNat : Nat) : Int)
  omega
set_option maxHeartbeats 2000000 in
theorem s_copy {c0 c1 : ClassId} {i : Nat} (hT0 : X.ty[0]? = some (c0, .int)) (hT1 : X.ty[1]? = some (c1, .char)) (hd : decode md.2.1 pc = .ok (.invokestatic i, 3)) (hw1 : (Cond.methodLink md.1.cls i arraycopyName : Cond) ∈ X.W) (hw2 : (Cond.native arraycopyName : Cond) ∈ X.W) (hw3 : (Cond.static arraycopyName : Cond) ∈ X.W) (hw4 : (Cond.initialized "java/lang/System" : Cond) ∈ X.W) : jx_S X mt md pc o_copy := by
  intro p l e R s m args below meth c d B L st M N h H ls locs cells slots I
  obtain ⟨hx, -, hts, hK, hG, hown, -, hb, hml, -, -, -, hRf, hRl, -⟩ := B
  unfold o_copy at h
  split at h
  · split at h
    · rename_i n dp b sp a r _ _ t n0 f t' n1 g ha0 hb0
      split at h
      · rename_i hc
        cases h
        intro Q kk
        obtain ⟨ht, e0, h1, h2, h3, h4, h5, hr⟩ := hc
        subst e0
        have ht9 : t' < 9 := by omega
        obtain ⟨cA, ty, hT, hpr, hfit⟩ : ∃ cA ty, X.ty[t']? = some (cA, ty) ∧ refKind ty = false ∧ ∀ i, i < n.toNatClampNeg → fits ty (.int (f (sp.toNatClampNeg + i))) = true := by
          rcases ht with rfl | ⟨rfl, hall⟩
          · exact ⟨c0, .int, hT0, rfl, fun _ _ => rfl⟩
          · exact ⟨c1, .char, hT1, rfl, fun j hj => List.all_eq_true.mp hall j (List.mem_range.mpr hj)⟩
        obtain ⟨-, -, hPa⟩ := I.1.arr hG ha0 ht9
        obtain ⟨g1, g2, hPb⟩ := I.1.arr hG hb0 ht9
        rw [jx_ty0 hT] at hPa hPb
        have hc0 : H[jx_ad X a]? = some (arrV cA n0 (fun j => .int (f j))) := hPa
        have hc1 : H[jx_ad X b]? = some (arrV cA n1 (fun j => .int (g j))) := hPb
        obtain ⟨-, k0, hk0, cm0, hkk0⟩ := (hK.2 t' _ hT).1 n0 (fun j => .int (f j))
        have hsum : ((r.map (jx_v X)).map fun v => v.category).sum ≤ 8 := jx_cats (by rw [List.length_map]; exact hr)
        have hnw : nativeFrameWords "java/lang/System" "arraycopy" 5 ≤ 200 := by decide +kernel
        intro T hT' St
        obtain ⟨vm', St', step⟩ := St.arraycopy hx hown (hts _ hw1) (hts _ hw2) (hts _ hw3) (hts _ hw4) (src := jx_ad X a) (dst := jx_ad X b) (cs := arrV cA n0 (fun j => .int (f j))) (cd := arrV cA n1 (fun j => .int (g j))) (srcPos := sp) (destPos := dp) (n := n) (by rw [hT']; exact hc0) (by rw [hT']; exact hc1)
          (fun _ h => by cases h) (fun _ h => by cases h) (fun h => by cases h) (fun h => by cases h) hk0 hk0 hkk0 hkk0 (by simp [hpr]) h1 h2 h3
          (by rw [jx_nn h1, jx_nn h3, arrV_size]; omega) (by rw [jx_nn h2, jx_nn h3, arrV_size]; omega)
          (fun vm₁ _ i hi => by
            have e1 : (arrV cA n0 (fun j => .int (f j))).slots.getD (sp.toNatClampNeg + i) .null = .int (f (sp.toNatClampNeg + i)) := by
              rw [Array.getD_eq_getD_getElem?, arrV_read _ _ (by omega)]
              rfl
            rw [e1]
            exact ⟨hfit i hi, trivial⟩)
          (g := F0 m pc ls (.int n :: .int dp :: .ref (jx_ad X b) :: .int sp :: .ref (jx_ad X a) :: r.map (jx_v X))) rfl (by show ls.size = c.maxLocals; rw [I.2.1.1, I.2.2.2.2.2, hml]) (rest := r.map (jx_v X)) rfl (by rw [hb]; exact hd) (by omega) (by show 2 * 0 + _ + _ ≤ _; omega)
        have e1 : copied (arrV cA n0 (fun j => .int (f j))) (arrV cA n1 (fun j => .int (g j))) sp dp n = arrV cA n1 (fun j => .int (va_cpy f g sp.toNatClampNeg dp.toNatClampNeg n.toNatClampNeg j)) := va_copied (fun z => .int z) cA cA f g h4
        rw [e1] at St' step
        have hl : jx_ad X b < H.size := (Array.getElem?_eq_some_iff.mp hc1).1
        have hheap : ((T.setVm vm').setCell (jx_ad X b) (arrV cA n1 (fun j => .int (va_cpy f g sp.toNatClampNeg dp.toNatClampNeg n.toNatClampNeg j)))).heap = H.setIfInBounds (jx_ad X b) (arrV cA n1 (fun j => .int (va_cpy f g sp.toNatClampNeg dp.toNatClampNeg n.toNatClampNeg j))) := by rw [← hT']; rfl
        obtain ⟨t2, a1, b1⟩ := kk _ ls _ cells slots ⟨I.1.set g1 g2 (c := .inl (t', n1, .inl (va_cpy f g sp.toNatClampNeg dp.toNatClampNeg n.toNatClampNeg))) (by show (t' == 9 || t' == 10) = false; simp; omega) (H1 := H.setIfInBounds (jx_ad X b) (arrV cA n1 (fun j => .int (va_cpy f g sp.toNatClampNeg dp.toNatClampNeg n.toNatClampNeg j)))) (by simp) (fun q hq => by simp [Array.getElem?_setIfInBounds, Ne.symm hq]) (by
            show (H.setIfInBounds (jx_ad X b) _)[jx_ad X b]? = some (vp_cell (X.ty.getD t' (0, .int)).1 (n1, .inl (va_cpy f g sp.toNatClampNeg dp.toNatClampNeg n.toNatClampNeg)))
            rw [jx_ty0 hT]
            simp [Array.getElem?_setIfInBounds, hl]
            rfl), I.2.1, (fun x hx0 => by
            rcases List.mem_append.mp hx0 with q | q
            · exact I.2.2.1 x q
            · obtain ⟨z, -, hz⟩ := List.mem_map.mp q
              rw [← hz]
              show X.H.size ≤ jx_ad X b
              rw [jx_ad_ge g1]
              omega), I.2.2.2.1, I.2.2.2.2⟩ _ hheap St'
        exact ⟨t2, step t2 a1, b1⟩
      · cases h
    · cases h
  · cases h
/-- a text that the program has as a constant -/
theorem s_ldcS {i g : Nat} {tx : String} (hd : decode md.2.1 pc = .ok (.ldc i, 2)) (hg : g < jx_g) (hR : ∀ s, X.G s → vk_R md.1.cls i tx (X.ga g) s) : jx_S X mt md pc (o_push (.ref g) 2) := by
  intro p l e R s m args below meth c d B L st M N h H ls locs cells slots I
  cases h
  intro Q k
  obtain ⟨hx, -, hts, -, -, hown, -, hb, -, -, -, -, -, -, -, -, hGs⟩ := B
  have k2 := k _ _ _ _ _ I
  rw [List.map_cons, jx_v_ref, jx_adg hg] at k2
  exact va_ldcS hx hb hown (hR s hGs) hd k2
/-- a static field that keeps its value -/
theorem s_gets {i : Nat} {C n dsc : String} {v : Value} (hd : decode md.2.1 pc = .ok (.getstatic i, 3)) (hw : (Cond.fieldLink md.1.cls i C n dsc : Cond) ∈ X.W) (hZ : ∀ s, X.G s → va_Z C n dsc (jx_v X v) (fun q => X.H.size ≤ q) s X.H) : jx_S X mt md pc (o_push v 3) := by
  intro p l e R s m args below meth c d B L st M N h H ls locs cells slots I
  cases h
  intro Q k
  obtain ⟨hx, -, hts, -, -, hown, -, hb, -, -, -, -, -, -, -, -, hGs⟩ := B
  obtain ⟨cf, kf, fi, f, a, cell, h1, h2, h3, h4, h5, h6, h7, h8⟩ := hZ s hGs
  exact W.gets hx hb hown (hts _ hw) h1 h2 h3 h4 (by rw [I.1.2.2.2.2.1 a (Array.getElem?_eq_some_iff.mp h5).1]; exact h5) (fun e => by rw [e] at h6; cases h6) h7 rfl hd (k _ _ _ _ _ I)
theorem s_getsN {i : Nat} {C n dsc host : String} {v : Value} (hd : decode md.2.1 pc = .ok (.getstatic i, 3)) (hw : (Cond.fieldLinkNest md.1.cls i C n dsc host : Cond) ∈ X.W) (hZ : ∀ s, X.G s → va_Z C n dsc (jx_v X v) (fun q => X.H.size ≤ q) s X.H) : jx_S X mt md pc (o_push v 3) := by
  intro p l e R s m args below meth c d B L st M N h H ls locs cells slots I
  cases h
  intro Q k
  obtain ⟨hx, -, hts, -, -, hown, -, hb, -, -, -, -, -, -, -, -, hGs⟩ := B
  obtain ⟨cf, kf, fi, f, a, cell, h1, h2, h3, h4, h5, h6, h7, h8⟩ := hZ s hGs
  exact va_WgetsN hx hb hown (hts _ hw) h1 h2 h3 h4 (by rw [I.1.2.2.2.2.1 a (Array.getElem?_eq_some_iff.mp h5).1]; exact h5) (fun e => by rw [e] at h6; cases h6) h7 rfl hd (k _ _ _ _ _ I)
/-- an object that is a constant stands among the constants -/
theorem jx_H.big {X : jx_X} {M : jx_M} {H : Heap} (h : jx_H X M H) {a ci : Nat} {fs : List Value} (ha : M.1 a = .inr (ci, fs)) (hc : X.cl.length ≤ ci) (hc2 : ci < 9999) : a < jx_g ∧ X.gl a = .inr (ci, fs) := by
  obtain ⟨h1, h2, h3, h4, h5, h6⟩ := h
  have g1 : a < jx_g := by
    apply Nat.lt_of_not_le
    intro hge
    by_cases hlt : a < M.2.1
    · have h7 := (h3 a hge hlt).2
      rw [ha] at h7
      obtain ⟨r, hr, -⟩ := h7
      have h8 := (List.getElem?_eq_some_iff.mp hr).1
      have h9 : ci < X.cl.length := h8
      omega
    · have h7 := h4 a (Nat.le_of_not_lt hlt)
      rw [ha] at h7
      have h8 : (ci, fs) = (9999, ([] : List Value)) := Sum.inr.inj h7
      have h9 : ci = 9999 := congrArg Prod.fst h8
      omega
  exact ⟨g1, by rw [← h6 a g1]; exact ha⟩
theorem s_getfS {ci k i : Nat} {o n dsc : String} (hcl : X.cl.length ≤ ci) (hci : ci < 9999) (hd : decode md.2.1 pc = .ok (.getfield i, 3)) (hw : (Cond.fieldLink md.1.cls i o n dsc : Cond) ∈ X.W)
    (hF : ∀ s, X.G s → ∀ (a : Nat) (fs : List Value) (v : Value), a < jx_g → X.gl a = .inr (ci, fs) → fs[k]? = some v → va_OF o n dsc (jx_v X v) (X.ga a) (fun q => X.H.size ≤ q) s X.H) : jx_S X mt md pc (o_getf ci k) := by
  intro p l e R s m args below meth c d B L st M N h H ls locs cells slots I
  obtain ⟨hx, -, hts, hK, hG, hown, -, hb, -, -, -, -, -, -, -, -, hGs⟩ := B
  unfold o_getf at h
  split at h
  · split at h
    · rename_i a r _ c0 fs hcell
      split at h
      · rename_i hc0
        subst hc0
        obtain ⟨v, h1, h2⟩ := Option.map_eq_some_iff.mp h
        cases h2
        intro Q kk
        obtain ⟨g1, g2⟩ := I.1.big hcell hcl hci
        obtain ⟨cf, kf, fi, f, cell, z1, z2, z3, z4, z5, z6⟩ := hF s hGs a fs v g1 g2 h1
        show W p l e R s m args below meth c H locs cells slots Q (F0 m pc ls (.ref (jx_ad X a) :: r.map (jx_v X)))
        rw [jx_adg g1]
        exact W.getf hx hb hown (hts _ hw) z1 z2 (by rw [I.1.2.2.2.2.1 _ (Array.getElem?_eq_some_iff.mp z3).1]; exact z3) z4 (v := jx_v X v) z5 rfl rfl hd (kk _ _ _ _ _ I)
      · cases h
    · cases h
  · cases h
theorem s_callvS {ce n i ci : Nat} {C : String} (hcl : X.cl.length ≤ ci) (hci : ci < 9999) (hO : ∀ s, X.G s → ∀ (a : Nat) (fs : List Value), a < jx_g → X.gl a = .inr (ci, fs) → va_O C (X.ga a) (fun q => X.H.size ≤ q) s X.H) (hc : jx_c X (mt ce)) (hd : decode md.2.1 pc = .ok (.invokevirtual i, 3)) (hw1 : (Cond.methodLink md.1.cls i (mt ce).1 : Cond) ∈ X.W) (hw2 : (Cond.instanceMethod (mt ce).1 : Cond) ∈ X.W) (hw3 : (Cond.selects C (mt ce).1 (mt ce).1 : Cond) ∈ X.W)
    (hm : (mt ce).1.cls ≠ "java/lang/invoke/MethodHandle" ∧ (mt ce).1.cls ≠ "java/lang/invoke/VarHandle") (hn : (parseMethodDescriptor (mt ce).1.desc).map (fun d => d.parameters.length) = some n) : jx_S X mt md pc (o_callv ci ce n) := by
  intro p l e R s m args below meth c d B L st M N0 h H ls locs cells slots I
  obtain ⟨hx, -, hts, hK, hG, hown, -, hb, -, -, -, -, -, -, -, -, hGs⟩ := B
  unfold o_callv at h
  split at h
  · rename_i hlen
    split at h
    · rename_i a ha
      split at h
      · rename_i c0 fs hcell
        split at h
        · rename_i e0
          subst e0
          cases h
          intro T hT St
          obtain ⟨g1, g2⟩ := I.1.big hcell hcl hci
          obtain ⟨cellB, hcB, hoB, hclB, -⟩ := hO s hGs a fs g1 g2
          have hcB : H[jx_ad X a]? = some cellB := by
            rw [jx_adg g1, I.1.2.2.2.2.1 _ (Array.getElem?_eq_some_iff.mp hcB).1]
            exact hcB
          obtain ⟨q1, q2⟩ := jx_cut1 hlen.1 ha
          obtain ⟨mk, methM, cM, hnamed, hmethM, -, -, -, -, -, -, hsigM⟩ := hc.spec hts
          obtain ⟨mk', methM', hnamed', hmethM', hstM, habM⟩ := Cond.instanceMethod_spec (hts _ hw2)
          cases hnamed.symm.trans hnamed'
          cases hmethM.symm.trans hmethM'
          obtain ⟨c2, r2, m2, z1, z2, z3, z4, kP, hkP, hkPi⟩ := Cond.selects_spec (hts _ hw3)
          cases hclB.symm.trans z1
          cases (State.methodFound?_of_named hnamed hm).symm.trans z2
          cases hnamed.symm.trans z3
          have hselP : selectMethod e.platform s.vm cellB.cls mk = .method mk := by rw [Launch.admits_selectMethod St.admits]; exact z4
          have hln : (((st.take n).reverse).map (jx_v X)).length = methM.sig.parameters.length := by
            rw [hsigM] at hn
            have h2 : methM.sig.parameters.length = n := Option.some.inj hn
            rw [h2, List.length_map, List.length_reverse, List.length_take]
            omega
          have hst : (F0 m pc ls (st.map (jx_v X))).stack = (((st.take n).reverse).map (jx_v X)).reverse ++ .ref (jx_ad X a) :: (st.drop (n + 1)).map (jx_v X) := by
            show st.map (jx_v X) = _
            rw [List.map_reverse, List.reverse_reverse]
            conv => lhs; rw [q2]
            rw [List.map_append]
            rfl
          obtain ⟨vm₁, X₁, st₁⟩ := St.invokevirtual hx hown (hts _ hw1) hnamed hmethM hstM hkP hkPi hm (a := jx_ad X a) (cell := cellB) (by rw [hT]; exact hcB) (fun z h => by rw [h] at hoB; cases hoB) hselP hmethM habM hkP hkPi (g := F0 m pc ls (st.map (jx_v X))) rfl hln hst (by rw [hb]; exact hd)
          refine ⟨vm₁, mk, _, X₁, hnamed, by rw [hb]; exact hd, rfl, by rw [List.length_drop]; omega, hc, fun tg ht => st₁ tg fun acts => ?_⟩
          have h9 := ht acts
          rw [q1] at h9
          exact h9
        · cases h
      · cases h
    · cases h
  · cases h
end JG
