/-! NEW CELLS, LENGTHS, ANSWERS, SWITCHES -/
theorem jx_mono {p : Program} {l : Launch} {e : Env} {R : Room} {s : State} {m : MethodId} {args : Array Value} {below : List Frame} {meth : Method} {c : Code} {H : Heap} {locs : List Loc} {cells slots : Nat} {Q Q' : State → Prop} {g : JFrame} (h : W p l e R s m args below meth c H locs cells slots Q g) (hq : ∀ t, Q t → Q' t) : W p l e R s m args below meth c H locs cells slots Q' g := by
  intro T hT X
  obtain ⟨t, a, b⟩ := h T hT X
  exact ⟨t, a, hq t b⟩
theorem jx_end {X : jx_X} {R : Room} {args : Array Value} {s t : State} {below : List Frame} {M : jx_M} {H : Heap} {v : Option Value} {locs : List Loc} {cells slots : Nat} {ls : Array Slot} {L : jx_L} {nl : Nat} (I : jx_I X R nl M H ls L locs cells slots)
    (h : MQ below (fun _ _ o t => o = .returned (v.map (jx_v X)) ∧ t.heap = H) args s cells slots (fun q => X.H.size ≤ q) t) : jx_Q X R below s (.inl v) M t := by
  obtain ⟨o, h1, h2, ⟨h3, h4⟩, L', hF, hL⟩ := h
  exact ⟨o, L', cells, slots, h1, h2, h3, by rw [h4]; exact I.1, hF.2.1, hF.2.2, hL, I.2.2.2.1, I.2.2.2.2.1⟩
section JM2
variable {X : jx_X} {mt : Nat → jx_D} {md : jx_D} {pc : Nat}
theorem s_ret (hr0 : md.2.2.2.1 = none) (hd : decode md.2.1 pc = .ok (.return_, 1)) : jx_S X mt md pc o_ret := by
  intro p l e R s m args below meth c d B L st M N h H ls locs cells slots I
  obtain ⟨hx, -, hts, hK, hG, hown, -, hb, hml, hr, hlk, -⟩ := B
  unfold o_ret at h
  split at h
  · cases h
    exact jx_mono (W.vret (free := fun q => X.H.size ≤ q) hx hb (hr.trans hr0) (fun t ht hW => ⟨rfl, ht⟩) I.2.2.1 hd hlk) fun t ht => jx_end I ht
  · cases h
theorem s_iret (hr0 : md.2.2.2.1 = some .int) (hd : decode md.2.1 pc = .ok (.ireturn, 1)) : jx_S X mt md pc o_iret := by
  intro p l e R s m args below meth c d B L st M N h H ls locs cells slots I
  obtain ⟨hx, -, hts, hK, hG, hown, -, hb, hml, hr, hlk, -⟩ := B
  unfold o_iret at h
  split at h
  · cases h
    exact jx_mono (W.zret (free := fun q => X.H.size ≤ q) hx hb (hr.trans hr0) rfl (fun t ht hW => ⟨rfl, ht⟩) I.2.2.1 hd hlk) fun t ht => jx_end I ht
  · cases h
theorem s_zret (hr0 : md.2.2.2.1 = some .boolean) (hd : decode md.2.1 pc = .ok (.ireturn, 1)) : jx_S X mt md pc o_zret := by
  intro p l e R s m args below meth c d B L st M N h H ls locs cells slots I
  obtain ⟨hx, -, hts, hK, hG, hown, -, hb, hml, hr, hlk, -⟩ := B
  unfold o_zret at h
  split at h
  · split at h
    · rename_i x hx01
      cases h
      have hn : narrow .boolean (.int x) = .int x := by
        rcases hx01 with rfl | rfl
        · rfl
        · rfl
      exact jx_mono (W.zret (free := fun q => X.H.size ≤ q) hx hb (hr.trans hr0) hn (fun t ht hW => ⟨rfl, ht⟩) I.2.2.1 hd hlk) fun t ht => jx_end I ht
    · cases h
  · cases h
theorem s_cret (hr0 : md.2.2.2.1 = some .char) (hd : decode md.2.1 pc = .ok (.ireturn, 1)) : jx_S X mt md pc o_cret := by
  intro p l e R s m args below meth c d B L st M N h H ls locs cells slots I
  obtain ⟨hx, -, hts, hK, hG, hown, -, hb, hml, hr, hlk, -⟩ := B
  unfold o_cret at h
  split at h
  · split at h
    · rename_i x hx01
      cases h
      have hn : narrow .char (.int x) = .int x := by
        rw [show narrow .char (.int x) = .int (vp_nar .char x) from rfl, hx01]
      exact jx_mono (W.zret (free := fun q => X.H.size ≤ q) hx hb (hr.trans hr0) hn (fun t ht hW => ⟨rfl, ht⟩) I.2.2.1 hd hlk) fun t ht => jx_end I ht
    · cases h
  · cases h
theorem s_aret {rt : FieldType} (hr0 : md.2.2.2.1 = some rt) (hrt : (∃ n, rt = .object n) ∨ ∃ t, rt = .array t) (hd : decode md.2.1 pc = .ok (.areturn, 1)) : jx_S X mt md pc o_aret := by
  intro p l e R s m args below meth c d B L st M N h H ls locs cells slots I
  obtain ⟨hx, -, hts, hK, hG, hown, -, hb, hml, hr, hlk, -⟩ := B
  unfold o_aret at h
  split at h
  · cases h
    exact jx_mono (W.aret (free := fun q => X.H.size ≤ q) hx hb (hr.trans hr0) hrt (Or.inr ⟨_, rfl⟩) (fun t ht hW => ⟨rfl, ht⟩) I.2.2.1 hd hlk) fun t ht => jx_end I ht
  · cases h
    exact jx_mono (W.aret (free := fun q => X.H.size ≤ q) hx hb (hr.trans hr0) hrt (Or.inl rfl) (fun t ht hW => ⟨rfl, ht⟩) I.2.2.1 hd hlk) fun t ht => jx_end I ht
  · cases h
theorem s_table {dflt lo hi : Int} {offs : Array Int} {len dn : Nat} {ts : List Nat} (hd : decode md.2.1 pc = .ok (.tableswitch dflt lo hi offs, len)) (hlo : lo = 0) (hhi : hi + 1 = (ts.length : Int)) (hdf : (pc : Int) + dflt = (dn : Int)) (hof : offs.toList.map (fun o => (pc : Int) + o) = ts.map (fun (t : Nat) => (t : Int))) : jx_S X mt md pc (o_table dn ts) := by
  intro p l e R s m args below meth c d B L st M N h H ls locs cells slots I
  obtain ⟨hx, -, hts, hK, hG, hown, -, hb, -⟩ := B
  unfold o_table at h
  split at h
  · rename_i x r
    cases h
    intro Q kk
    have k2 := kk _ _ _ _ _ I
    subst hlo
    by_cases hneg : x < 0
    · rw [if_pos hneg] at k2
      exact lv_tableOut hx hb hd (Or.inl (by simpa using Int32.lt_iff_toInt_lt.mp hneg)) hdf k2
    · rw [if_neg hneg] at k2
      have h0 : (0 : Int) ≤ x.toInt := by simpa using Int32.le_iff_toInt_le.mp (Int32.not_lt.mp hneg)
      have hcl : x.toNatClampNeg = x.toInt.toNat := rfl
      by_cases hge : ts.length ≤ x.toNatClampNeg
      · rw [List.getD_eq_getElem?_getD, List.getElem?_eq_none hge] at k2
        exact lv_tableOut hx hb hd (Or.inr (by omega)) hdf k2
      · have hlt : x.toNatClampNeg < ts.length := Nat.lt_of_not_le hge
        rw [List.getD_eq_getElem?_getD, List.getElem?_eq_getElem hlt] at k2
        have hlen : offs.toList.length = ts.length := by
          have := congrArg List.length hof
          simpa using this
        have ho : offs.toList[x.toNatClampNeg]? = some (offs.toList[x.toNatClampNeg]'(by omega)) := List.getElem?_eq_getElem _
        have hv : (pc : Int) + offs.toList[x.toNatClampNeg]'(by omega) = ((ts[x.toNatClampNeg]'hlt : Nat) : Int) := by
          have h1 := congrArg (fun z => z[x.toNatClampNeg]?) hof
          simp only [List.getElem?_map, ho, List.getElem?_eq_getElem hlt, Option.map_some] at h1
          exact Option.some.inj h1
        refine lv_tableIn hx hb hd (by omega) (by omega) (off := offs.toList[x.toNatClampNeg]'(by omega)) ?_ hv k2
        rw [show (x.toInt - 0).toNat = x.toNatClampNeg by rw [hcl]; omega, ← Array.getElem?_toList]
        exact ho
  · cases h
theorem s_alen (hT : ∀ t, t < 5 → ∃ q, X.ty[t]? = some q) (hd : decode md.2.1 pc = .ok (.arraylength, 1)) : jx_S X mt md pc o_alen := by
  intro p l e R s m args below meth c d B L st M N h H ls locs cells slots I
  obtain ⟨hx, -, hts, hK, hG, hown, -, hb, -⟩ := B
  unfold o_alen at h
  split at h
  · split at h
    · rename_i a r _ t n f hcell
      split at h
      · rename_i hc
        cases h
        intro Q kk
        by_cases h9 : t < 5
        · obtain ⟨⟨cA, ty⟩, hty⟩ := hT t h9
          obtain ⟨-, -, hP⟩ := I.1.arr hG hcell (by omega)
          rw [jx_ty0 hty] at hP
          exact va_alen hx hb hK (jx_P1 hP) 0 t rfl hty (v := Int32.ofNat n) (by cases f with | inl f => rfl | inr f => cases f with | inl f => rfl | inr f => cases f with | inl f => rfl | inr f => cases f with | inl f => rfl | inr f => rfl) hd (kk _ _ _ _ _ I)
        · cases f with
          | inl f =>
            obtain ⟨cell, q1, q2, q3, q4, -⟩ := I.1.con hG hcell (by omega)
            exact W.alen hx hb q1 q2 (by rw [q4]) rfl rfl hd (kk _ _ _ _ _ I)
          | inr f =>
            exfalso
            obtain ⟨h1, h2, h3, h4, h5, h6⟩ := I.1
            by_cases hge : jx_g ≤ a
            · by_cases hlt : a < M.2.1
              · have h7 := (h3 a hge hlt).1
                rw [hcell] at h7
                rcases (show t = 9 ∨ t = 10 by omega) with rfl | rfl <;> cases h7
              · have h7 := h4 a (Nat.le_of_not_lt hlt)
                rw [hcell] at h7
                cases h7
            · have h7 := hG a (Nat.lt_of_not_le hge)
              rw [← h6 a (Nat.lt_of_not_le hge), hcell] at h7
              exact h7
      · cases h
    · cases h
  · cases h
theorem jx_v_def (X : jx_X) (t : FieldType) : jx_v X (defaultValue t) = defaultValue t := by cases t <;> rfl
theorem s_new {ci : Nat} {C : String} {T : u_T} {N i : Nat} {ty : Nat → FieldType} {fs : List Value} (hk : jx_k X ci C T N ty) (hd : decode md.2.1 pc = .ok (.new i, 3)) (hw1 : (Cond.classLink md.1.cls i C : Cond) ∈ X.W) (hw2 : (Cond.instantiable C N : Cond) ∈ X.W) (hw3 : (Cond.initialized C : Cond) ∈ X.W) (hfs : fs = (List.range N).map fun j => defaultValue (ty j)) : jx_S X mt md pc (o_new ci fs) := by
  intro p l e R s m args below meth c d B L st M N' h H ls locs cells slots I
  obtain ⟨hx, -, hts, hK, hG, hown, -, hb, -⟩ := B
  unfold o_new at h
  obtain ⟨M', h1, h2⟩ := Option.map_eq_some_iff.mp h
  cases h2
  intro Q kk
  obtain ⟨hc, hci, hin, hty, hnm⟩ := hk
  have hKn := hK.1 ci _ hc
  have hlen : fs.length = N := by rw [hfs]; simp
  have hroom : 1 ≤ M.2.2.1 ∧ N ≤ M.2.2.2 := by
    unfold jx_pu at h1
    split at h1
    · rename_i hr; rw [hlen] at hr; exact hr
    · cases h1
  have hI := I.2.2.2
  refine W.newcK hx hb hown (hts _ hw1) (hts _ hw2) (hts _ hw3) rfl hd (by omega) (by omega) hKn.2.1 rfl fun H1 kC hkC e1 z1 o1 => ?_
  have hmap : fs.map (jx_v X) = fs := by
    rw [hfs, List.map_map]
    exact List.map_congr_left fun j _ => jx_v_def X _
  obtain ⟨p1, p2, p3, p4, p5, p6⟩ := I.1.push h1 rfl z1 o1 (by
    show va_at X.D X.cl (H.size, .inr (ci, fs.map (jx_v X))) H1
    rw [hmap]
    refine ⟨_, hc, (u_born ty hts hin hKn hkC e1 hty).to fun j hj => ?_⟩
    rw [hfs]
    simp [vp_V, hj])
  have k2 := kk H1 ls locs (cells + 1) (slots + N) ⟨p1, I.2.1, I.2.2.1, by omega, by omega, I.2.2.2.2.2⟩
  rw [List.map_cons, jx_v_ref, p2] at k2
  exact k2
theorem s_newa {t : Nat} {atype : ArrayType} {ty : FieldType} {cA : ClassId} {z : Nat → vp_A} (hT : X.ty[t]? = some (cA, ty)) (hat : newarray.typeOf atype = ty) (ht : t < 4) (hd : decode md.2.1 pc = .ok (.newarray atype, 2)) (hw : (Cond.arrayClass ty : Cond) ∈ X.W) (hz : ∀ (n : Nat) (cA : ClassId), vp_cell cA (z n) = arrV cA n (fun _ => defaultValue ty)) (hzx : ∀ n, jx_a X (z n) = z n) (hby : componentBytes ty ≤ 8) (hRA : ∀ (s : State) (cA : ClassId), va_RA s cA ty → s.vm.findClass ("[" ++ ty.toString) = some cA) : jx_S X mt md pc (o_newa t z) := by
  intro p l e R s m args below meth c d B L st M N' h H ls locs cells slots I
  obtain ⟨hx, -, hts, hK, hG, hown, -, hb, -⟩ := B
  unfold o_newa at h
  split at h
  · rename_i n r
    split at h
    · rename_i hn
      obtain ⟨M', h1, h2⟩ := Option.map_eq_some_iff.mp h
      cases h2
      intro Q kk
      have hroom : 1 ≤ M.2.2.1 ∧ n.toNatClampNeg ≤ M.2.2.2 := by
        unfold jx_pu at h1
        split at h1
        · rename_i hr; exact hr
        · cases h1
      have hI := I.2.2.2
      subst hat
      have hmul : n.toNatClampNeg * componentBytes (newarray.typeOf atype) ≤ 100000 * 8 := Nat.mul_le_mul hn.2 hby
      refine va_newaK hx hb (hts _ hw) rfl hd rfl hn.1 rfl (by omega) (by omega) (by omega) rfl fun H1 cA' e1 z1 o1 hAr hNm => ?_
      have hcA : cA' = cA := Option.some.inj (hNm.symm.trans (hRA s cA (hK.2 t _ hT).2))
      subst hcA
      obtain ⟨p1, p2, p3, p4, p5, p6⟩ := I.1.push h1 (by show (t == 9 || t == 10) = false; simp; omega) z1 o1 (by
        show H1[H.size]? = some (vp_cell (X.ty.getD t (0, .int)).1 (jx_a X (z n.toNatClampNeg)))
        rw [jx_ty0 hT, hzx, hz]
        exact e1)
      have k2 := kk H1 ls locs (cells + 1) (slots + n.toNatClampNeg) ⟨p1, I.2.1, I.2.2.1, by omega, by omega, I.2.2.2.2.2⟩
      rw [List.map_cons, jx_v_ref, p2, if_neg (by omega)] at k2
      exact k2
    · cases h
  · cases h
theorem s_newq {i : Nat} {C : String} {cA : ClassId} (hT : X.ty[4]? = some (cA, .object C)) (hd : decode md.2.1 pc = .ok (.anewarray i, 3)) (hw : (Cond.classLink md.1.cls i C : Cond) ∈ X.W) : jx_S X mt md pc (o_newa 4 jx_zq) := by
  intro p l e R s m args below meth c d B L st M N' h H ls locs cells slots I
  obtain ⟨hx, -, hts, hK, hG, hown, -, hb, -, -, -, -, -, -, -, hao, -⟩ := B
  unfold o_newa at h
  split at h
  · rename_i n r
    split at h
    · rename_i hn
      obtain ⟨M', h1, h2⟩ := Option.map_eq_some_iff.mp h
      cases h2
      intro Q kk
      have hroom : 1 ≤ M.2.2.1 ∧ n.toNatClampNeg ≤ M.2.2.2 := by
        unfold jx_pu at h1
        split at h1
        · rename_i hr; exact hr
        · cases h1
      have hI := I.2.2.2
      refine W.anew hx hb hown (hts _ hw) (va_AO.use (hao C cA hT)) rfl hd rfl hn.1 (by omega) (by omega) (by omega) fun cA' kA comp f1 f2 f3 f4 => ?_
      obtain ⟨kA', comp', -, -, -, hnm⟩ := (hK.2 4 _ hT).2
      have hcA : cA' = cA := Option.some.inj (f1.symm.trans hnm)
      subst hcA
      generalize hH1 : H.push ({ cls := cA', slots := Array.replicate n.toNatClampNeg .null, vm := .none } : Cell) = H1
      have z1 : H1.size = H.size + 1 := by rw [← hH1, Array.size_push]
      have e1 : H1[H.size]? = some (arrV cA' n.toNatClampNeg (fun _ => .null)) := by rw [← hH1, Array.getElem?_push_size, ← arrV_new]
      have o1 : ∀ q : Nat, q < H.size → H1[q]? = H[q]? := fun q hq => by rw [← hH1, Array.getElem?_push, if_neg (Nat.ne_of_lt hq)]
      obtain ⟨p1, p2, p3, p4, p5, p6⟩ := I.1.push h1 rfl z1 o1 (by
        show H1[H.size]? = some (vp_cell (X.ty.getD 4 (0, .int)).1 (n.toNatClampNeg, .inr (.inr (.inr (.inr fun j => jx_q X none)))))
        rw [jx_ty0 hT]
        exact e1)
      have k2 := kk H1 ls locs (cells + 1) (slots + n.toNatClampNeg) ⟨p1, I.2.1, I.2.2.1, by omega, by omega, I.2.2.2.2.2⟩
      rw [List.map_cons, jx_v_ref, p2, if_pos rfl] at k2
      exact k2
    · cases h
  · cases h
end JM2
section JM3
variable {X : jx_X} {mt : Nat → jx_D} {md : jx_D} {pc : Nat}
theorem s_bret (hr0 : md.2.2.2.1 = some .byte) (hd : decode md.2.1 pc = .ok (.ireturn, 1)) : jx_S X mt md pc o_bret := by
  intro p l e R s m args below meth c d B L st M N h H ls locs cells slots I
  obtain ⟨hx, -, hts, hK, hG, hown, -, hb, hml, hr, hlk, -⟩ := B
  unfold o_bret at h
  split at h
  · split at h
    · rename_i x hx01
      cases h
      have hn : narrow .byte (.int x) = .int x := by
        rw [show narrow .byte (.int x) = .int (vp_nar .byte x) from rfl, hx01]
      exact jx_mono (W.zret (free := fun q => X.H.size ≤ q) hx hb (hr.trans hr0) hn (fun t ht hW => ⟨rfl, ht⟩) I.2.2.1 hd hlk) fun t ht => jx_end I ht
    · cases h
  · cases h
theorem s_bald (hd : decode md.2.1 pc = .ok (.baload, 1)) : jx_S X mt md pc o_bald := by
  intro p l e R s m args below meth c d B L st M N h H ls locs cells slots I
  obtain ⟨hx, -, hts, hK, hG, hown, -, hb, -⟩ := B
  unfold o_bald at h
  split at h
  · split at h
    · rename_i i a r _ t n f hcell
      split at h
      · rename_i hc
        cases h
        intro Q kk
        obtain ⟨e0, hin⟩ := hc
        subst e0
        obtain ⟨cell, q1, q2, q3, q4, q5⟩ := I.1.con hG hcell (Or.inr rfl)
        have hin := jx_ix_in hin
        exact W.bald hx hb q1 q2 q3 (by rw [q4]; exact hin) (q5 _ (Nat.not_le.mp fun q => hin (Or.inr q))) rfl rfl hd (kk _ _ _ _ _ I)
      · cases h
    · cases h
  · cases h
theorem s_i2b (hd : decode md.2.1 pc = .ok (.i2b, 1)) : jx_S X mt md pc (o_un fun x => x.toInt8.toInt32) := by
  intro p l e R s m args below meth c d B L st M N h H ls locs cells slots I
  obtain ⟨hx, -, -, -, -, -, -, hb, -⟩ := B
  unfold o_un at h
  split at h
  · cases h
    intro Q k
    exact lv_i2b hx hb hd rfl (k _ _ _ _ _ I)
  · cases h
theorem s_ldc_w {i : Nat} {v : Int32} (hd : decode md.2.1 pc = .ok (.ldc_w i, 3)) (hw : (Cond.constant md.1.cls i v : Cond) ∈ X.W) : jx_S X mt md pc (o_push (.int v) 3) := by
  intro p l e R s m args below meth c d B L st M N h H ls locs cells slots I
  cases h
  intro Q k
  obtain ⟨hx, -, hts, -, -, hown, -, hb, -⟩ := B
  exact lv_ldcw hx hb hown (hts _ hw) hd (k _ _ _ _ _ I)
end JM3
