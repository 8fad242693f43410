/-! THE OPERATIONS THAT TOUCH THE MEMORY -/
/-- a class of the program: its name, its fields -/
def jx_k (X : jx_X) (ci : Nat) (C : String) (T : u_T) (N : Nat) (ty : Nat → FieldType) : Prop :=
  X.cl[ci]? = some (C, T, N) ∧ ci < 100 ∧ (∀ w ∈ u_ws C T N, w ∈ X.W) ∧ (∀ k, k < N → parseFieldDescriptor (T k).2.2.1 = some (ty k)) ∧ ∀ a, a < N → ∀ b, b < N → a ≠ b → (T a).2.1 ≠ (T b).2.1
theorem jx_P1 {D : va_G} {cl : List vw_C} {q : Nat × va_E} {H : Heap} (h : va_at D cl q H) : va_P D cl [q] H := by
  intro k x hx
  have hz : k < 1 := (List.getElem?_eq_some_iff.mp hx).1
  rw [show k = 0 by omega] at hx
  cases hx
  exact h
/-- what a field of that type takes -/
def jx_okI (v : Value) : Bool := match v with
  | .int _ => true
  | _ => false
def jx_okZ (v : Value) : Bool := match v with
  | .int x => x == 0 || x == 1
  | _ => false
def jx_okR (v : Value) : Bool := match v with
  | .ref _ => true
  | .null => true
  | _ => false
theorem jx_okI_n (X : jx_X) {v : Value} (h : jx_okI v = true) : narrow .int (jx_v X v) = jx_v X v ∧ fits .int (jx_v X v) = true := by
  cases v <;> first | exact ⟨rfl, rfl⟩ | cases h
theorem jx_okZ_n (X : jx_X) {v : Value} (h : jx_okZ v = true) : narrow .boolean (jx_v X v) = jx_v X v ∧ fits .boolean (jx_v X v) = true := by
  cases v with
  | int x =>
    simp only [jx_okZ, Bool.or_eq_true, beq_iff_eq] at h
    rcases h with rfl | rfl
    · exact ⟨rfl, rfl⟩
    · exact ⟨rfl, rfl⟩
  | _ => cases h
theorem jx_okR_n (X : jx_X) (C : String) {v : Value} (h : jx_okR v = true) : narrow (.object C) (jx_v X v) = jx_v X v ∧ fits (.object C) (jx_v X v) = true := by
  cases v <;> first | exact ⟨rfl, rfl⟩ | cases h
theorem jx_okA_n (X : jx_X) (t : FieldType) {v : Value} (h : jx_okR v = true) : narrow (.array t) (jx_v X v) = jx_v X v ∧ fits (.array t) (jx_v X v) = true := by
  cases v <;> first | exact ⟨rfl, rfl⟩ | cases h
section JW
variable {p : Program} {l : Launch} {e : Env} {R : Room} {s : State} {m : MethodId} {args : Array Value} {below : List Frame} {meth : Method} {c : Code} {H : Heap} {locs : List Loc} {cells slots : Nat} {Q : State → Prop}
variable {cc : ByteArray} {pc : Nat} {ls : Array Slot} {rest : List Value} {D : va_G} {cl : List vw_C} {a : Nat} {tys : List (ClassId × FieldType)}
/-- a field is written: what the heap is then -/
theorem jx_wput (hx : p.tables.exec = Jvm.exec) (hb : c.code = cc) {own C : String} {T : u_T} {N ci index : Nat} {Ts : List Cond} (hts : ∀ w ∈ Ts, w.before args s = true) (hin : ∀ w ∈ u_ws C T N, w ∈ Ts) (ty0 : Nat → FieldType) (hty : ∀ k, k < N → parseFieldDescriptor (T k).2.2.1 = some (ty0 k)) (hnm : ∀ a, a < N → ∀ b, b < N → a ≠ b → (T a).2.1 ≠ (T b).2.1) (hown : s.vm.findClass own = some m.cls) (hK : va_K D cl tys s) {fs : List Value} (hP : va_at D cl (a, .inr (ci, fs)) H) (hc : cl[ci]? = some (C, T, N)) {k : Nat} (hk : k < N) (hl : k < fs.length)
    (hlink : ((T k).2.2.2 = false ∧ (Cond.fieldLink own index (T k).1 (T k).2.1 (T k).2.2.1).before args s = true) ∨ ((T k).2.2.2 = false ∧ ∃ host, (Cond.fieldLinkNest own index (T k).1 (T k).2.1 (T k).2.2.1 host).before args s = true) ∨ ((T k).2.2.2 = true ∧ meth.name = "<init>" ∧ (T k).1 = own ∧ (Cond.fieldLink own index (T k).1 (T k).2.1 (T k).2.2.1).before args s = true))
    {v : Value} (hv : narrow (ty0 k) v = v ∧ fits (ty0 k) v = true) (hdg : decode cc pc = .ok (.putfield index, 3))
    (kk : ∀ (H1 : Heap) (sl : Nat), H1.size = H.size → (∀ q : Nat, q ≠ a → H1[q]? = H[q]?) → va_at D cl (a, .inr (ci, fs.set k v)) H1 → W p l e R s m args below meth c H1 (locs ++ [⟨a, sl⟩]) cells slots Q (F0 m (pc + 3) ls rest)) : W p l e R s m args below meth c H locs cells slots Q (F0 m pc ls (v :: .ref a :: rest)) := by
  have hap := va_apart (own := own) hts hin ty0 hty hnm hK hc
  obtain ⟨r, h1, cell, q1, q2, q3, q4⟩ := hP
  have hr : r = (C, T, N) := Option.some.inj (h1.symm.trans hc)
  subst hr
  obtain ⟨hS, hfc, kC, hkC, hkind⟩ := hK.1 ci _ hc
  obtain ⟨cf, kf, fi, f, hi, hsl⟩ := hS k hk
  have hlay := hts _ (hin _ (u_in_lay hk))
  have hst := (u_facts hfc hkC (u_lays hts hin hk) hi).1
  have hd := hty k hk
  have fin : ∀ H' : Heap, H'[a]? = some (cell.setSlot f.slot v) → H'.size = H.size → (∀ q, q ≠ a → H'[q]? = H[q]?) → W p l e R s m args below meth c H' (locs ++ [⟨a, f.slot⟩]) cells slots Q (F0 m (pc + 3) ls rest) := by
    intro H' e1 e2 e3
    refine kk H' _ e2 e3 ⟨_, hc, t_OB.to (V := updV (vp_V fs) k v) ⟨_, e1, q2, q3, ?_⟩ (fun j _ => vp_updV_set hl v j)⟩
    rw [hsl]
    exact t_set q4 hap hk v
  rcases hlink with ⟨hf, hlink⟩ | ⟨hf, host, hlink⟩ | ⟨hf, hin2, hdecl, hlink⟩
  · unfold u_lay at hlay
    rw [if_neg (by rw [hf]; decide)] at hlay
    have h6 := u_store hfc hkC hkind hlay hi hd hv.1 hv.2
    exact W.putK hx hb (f := f) ⟨hown, hlink, ⟨_, _, _, hi⟩, hst⟩ (by rw [q2]; exact h6) q1 q3 (by rw [hsl]; exact k2_hasslot (q4 k hk)) rfl rfl hdg fin
  · unfold u_lay at hlay
    rw [if_neg (by rw [hf]; decide)] at hlay
    have h6 := u_store hfc hkC hkind hlay hi hd hv.1 hv.2
    exact va_WputK hx hb (f := f) hown hlink hi hst (by rw [q2]; exact h6) q1 q3 (by rw [hsl]; exact k2_hasslot (q4 k hk)) rfl rfl hdg fin
  · unfold u_lay at hlay
    rw [if_pos hf] at hlay
    have hcf : m.cls = cf := by
      obtain ⟨_, _, c', _, _, _, -, -, hf', -, -, -, hown2, -⟩ := Cond.laysFinal_spec hlay
      have e1 : c' = cf := by have := hi.symm.trans hf'; simp at this; exact this.1.symm
      rw [hdecl] at hown2
      rw [← e1]; exact Option.some.inj (hown.symm.trans hown2)
    have h6 := u_fits hfc hkC hkind (Or.inr hlay) hi hd hv.1 hv.2
    exact W.putFinK hx hb hown hlink hi hst hcf hin2 (by rw [q2]; exact h6) q1 q3 (by rw [hsl]; exact k2_hasslot (q4 k hk)) rfl rfl hdg fin
end JW
section JM
variable {X : jx_X} {mt : Nat → jx_D} {md : jx_D} {pc : Nat}
theorem jx_fget {ci k : Nat} {C : String} {T : u_T} {N i : Nat} {ty : Nat → FieldType} (hk : jx_k X ci C T N ty) (hkN : k < N) (hd : decode md.2.1 pc = .ok (.getfield i, 3))
    (hl : ∀ (args : Array Value) (s : State), (∀ w ∈ X.W, w.before args s = true) → (Cond.fieldLink md.1.cls i (T k).1 (T k).2.1 (T k).2.2.1).before args s = true ∨ ∃ host, (Cond.fieldLinkNest md.1.cls i (T k).1 (T k).2.1 (T k).2.2.1 host).before args s = true) : jx_S X mt md pc (o_getf ci k) := by
  intro p l e R s m args below meth c d B L st M N h H ls locs cells slots I
  obtain ⟨hx, -, hts, hK, hG, hown, -, hb, -⟩ := B
  unfold o_getf at h
  split at h
  · split at h
    · rename_i a r _ c0 fs hcell
      split at h
      · rename_i hc0
        subst hc0
        obtain ⟨v, h1, h2⟩ := Option.map_eq_some_iff.mp h
        cases h2
        intro Q kk
        obtain ⟨hc, hci, hin, hty, hnm⟩ := hk
        obtain ⟨-, -, hP⟩ := I.1.obj hG hcell hci
        have hv : (fs.map (jx_v X))[k]? = some (jx_v X v) := by rw [List.getElem?_map, h1]; rfl
        rcases hl args s hts with hlink | ⟨host, hlink⟩
        · exact va_get hx hb hts hin hown hK (jx_P1 hP) 0 rfl hc k hkN hlink (fun _ q => q) hv hd (kk _ _ _ _ _ I)
        · exact va_getN hx hb hts hin hown hK (jx_P1 hP) 0 rfl hc k hkN hlink (fun _ q => q) hv hd (kk _ _ _ _ _ I)
      · cases h
    · cases h
  · cases h
theorem s_getf {ci k : Nat} {C : String} {T : u_T} {N i : Nat} {ty : Nat → FieldType} (hk : jx_k X ci C T N ty) (hkN : k < N) (hd : decode md.2.1 pc = .ok (.getfield i, 3)) (hw : (Cond.fieldLink md.1.cls i (T k).1 (T k).2.1 (T k).2.2.1 : Cond) ∈ X.W) : jx_S X mt md pc (o_getf ci k) :=
  jx_fget hk hkN hd fun _ _ h => Or.inl (h _ hw)
theorem s_getfN {ci k : Nat} {C host : String} {T : u_T} {N i : Nat} {ty : Nat → FieldType} (hk : jx_k X ci C T N ty) (hkN : k < N) (hd : decode md.2.1 pc = .ok (.getfield i, 3)) (hw : (Cond.fieldLinkNest md.1.cls i (T k).1 (T k).2.1 (T k).2.2.1 host : Cond) ∈ X.W) : jx_S X mt md pc (o_getf ci k) :=
  jx_fget hk hkN hd fun _ _ h => Or.inr ⟨host, h _ hw⟩
theorem jx_fput {ci k : Nat} {C : String} {T : u_T} {N i : Nat} {ty : Nat → FieldType} {ok : Value → Bool} (hk : jx_k X ci C T N ty) (hkN : k < N) (hd : decode md.2.1 pc = .ok (.putfield i, 3)) (hok : ∀ v, ok v = true → narrow (ty k) (jx_v X v) = jx_v X v ∧ fits (ty k) (jx_v X v) = true)
    (hl : ∀ (args : Array Value) (s : State) (meth : Method), (∀ w ∈ X.W, w.before args s = true) → meth.name = md.1.name → ((T k).2.2.2 = false ∧ (Cond.fieldLink md.1.cls i (T k).1 (T k).2.1 (T k).2.2.1).before args s = true) ∨ ((T k).2.2.2 = false ∧ ∃ host, (Cond.fieldLinkNest md.1.cls i (T k).1 (T k).2.1 (T k).2.2.1 host).before args s = true) ∨ ((T k).2.2.2 = true ∧ meth.name = "<init>" ∧ (T k).1 = md.1.cls ∧ (Cond.fieldLink md.1.cls i (T k).1 (T k).2.1 (T k).2.2.1).before args s = true)) : jx_S X mt md pc (o_putf ci k ok) := by
  intro p l e R s m args below meth c d B L st M N h H ls locs cells slots I
  obtain ⟨hx, -, hts, hK, hG, hown, hnm0, hb, -⟩ := B
  unfold o_putf at h
  split at h
  · split at h
    · rename_i v a r _ c0 fs hcell
      split at h
      · rename_i hc0
        obtain ⟨e0, hv, hlen⟩ := hc0
        subst e0
        cases h
        intro Q kk
        obtain ⟨hc, hci, hin, hty, hnm⟩ := hk
        obtain ⟨g1, g2, hP⟩ := I.1.obj hG hcell hci
        refine jx_wput hx hb hts hin ty hty hnm hown hK hP hc hkN (by rw [List.length_map]; exact hlen) (hl args s meth hts hnm0) (hok v hv) hd fun H1 sl z o at1 => ?_
        refine kk _ _ _ _ _ ⟨I.1.set g1 g2 rfl z o ?_, I.2.1, fun x hx => ?_, I.2.2.2.1, I.2.2.2.2⟩
        · show va_at X.D X.cl (jx_ad X a, .inr (c0, (fs.set k v).map (jx_v X))) H1
          rw [List.map_set]
          exact at1
        · rcases List.mem_append.mp hx with q | q
          · exact I.2.2.1 x q
          · rw [List.mem_singleton.mp q]
            show X.H.size ≤ jx_ad X a
            rw [jx_ad_ge g1]
            omega
      · cases h
    · cases h
  · cases h
theorem s_putf {ci k : Nat} {C : String} {T : u_T} {N i : Nat} {ty : Nat → FieldType} {ok : Value → Bool} (hk : jx_k X ci C T N ty) (hkN : k < N) (hd : decode md.2.1 pc = .ok (.putfield i, 3)) (hok : ∀ v, ok v = true → narrow (ty k) (jx_v X v) = jx_v X v ∧ fits (ty k) (jx_v X v) = true) (hf : (T k).2.2.2 = false) (hw : (Cond.fieldLink md.1.cls i (T k).1 (T k).2.1 (T k).2.2.1 : Cond) ∈ X.W) : jx_S X mt md pc (o_putf ci k ok) :=
  jx_fput hk hkN hd hok fun _ _ _ h _ => Or.inl ⟨hf, h _ hw⟩
theorem s_putfN {ci k : Nat} {C host : String} {T : u_T} {N i : Nat} {ty : Nat → FieldType} {ok : Value → Bool} (hk : jx_k X ci C T N ty) (hkN : k < N) (hd : decode md.2.1 pc = .ok (.putfield i, 3)) (hok : ∀ v, ok v = true → narrow (ty k) (jx_v X v) = jx_v X v ∧ fits (ty k) (jx_v X v) = true) (hf : (T k).2.2.2 = false) (hw : (Cond.fieldLinkNest md.1.cls i (T k).1 (T k).2.1 (T k).2.2.1 host : Cond) ∈ X.W) : jx_S X mt md pc (o_putf ci k ok) :=
  jx_fput hk hkN hd hok fun _ _ _ h _ => Or.inr (Or.inl ⟨hf, host, h _ hw⟩)
theorem s_putfF {ci k : Nat} {C : String} {T : u_T} {N i : Nat} {ty : Nat → FieldType} {ok : Value → Bool} (hk : jx_k X ci C T N ty) (hkN : k < N) (hd : decode md.2.1 pc = .ok (.putfield i, 3)) (hok : ∀ v, ok v = true → narrow (ty k) (jx_v X v) = jx_v X v ∧ fits (ty k) (jx_v X v) = true) (hf : (T k).2.2.2 = true) (hn : md.1.name = "<init>") (ho : (T k).1 = md.1.cls) (hw : (Cond.fieldLink md.1.cls i (T k).1 (T k).2.1 (T k).2.2.1 : Cond) ∈ X.W) : jx_S X mt md pc (o_putf ci k ok) :=
  jx_fput hk hkN hd hok fun _ _ _ h h2 => Or.inr (Or.inr ⟨hf, h2.trans hn, ho, h _ hw⟩)
theorem s_iald {cA : ClassId} (hT : X.ty[0]? = some (cA, .int)) (hd : decode md.2.1 pc = .ok (.iaload, 1)) : jx_S X mt md pc o_iald := by
  intro p l e R s m args below meth c d B L st M N h H ls locs cells slots I
  obtain ⟨hx, -, hts, hK, hG, hown, -, hb, -⟩ := B
  unfold o_iald at h
  split at h
  · split at h
    · rename_i i a r _ t n f hcell
      split at h
      · rename_i hc
        cases h
        intro Q kk
        obtain ⟨cell, q1, q2, q3, q4, q5⟩ := I.1.tab hG hK ⟨cA, hT⟩ hcell hc.1
        have hin := jx_ix_in hc.2
        refine W.iald hx hb q1 q2 q3 (by rw [q4]; exact hin) (q5 _ (Nat.not_le.mp fun q => hin (Or.inr q))) rfl rfl hd (kk _ _ _ _ _ I)
      · cases h
    · cases h
  · cases h
theorem jx_ty0 {t : Nat} {cA : ClassId} {ty : FieldType} (hT : X.ty[t]? = some (cA, ty)) : (X.ty.getD t (0, .int)).1 = cA := by
  rw [List.getD_eq_getElem?_getD, hT]; rfl
theorem s_cald {cA : ClassId} (hT : X.ty[1]? = some (cA, .char)) (hd : decode md.2.1 pc = .ok (.caload, 1)) : jx_S X mt md pc (o_xald 1) := by
  intro p l e R s m args below meth c d B L st M N h H ls locs cells slots I
  obtain ⟨hx, -, hts, hK, hG, hown, -, hb, -⟩ := B
  unfold o_xald at h
  split at h
  · split at h
    · rename_i i a r _ t n f hcell
      split at h
      · rename_i hc
        cases h
        intro Q kk
        obtain ⟨e0, hin⟩ := hc
        subst e0
        obtain ⟨-, -, hP⟩ := I.1.arr hG hcell (by decide)
        rw [jx_ty0 hT] at hP
        exact va_cald hx hb hK (jx_P1 hP) 0 1 rfl hT (jx_ix_in hin) hd (kk _ _ _ _ _ I)
      · cases h
    · cases h
  · cases h
theorem s_zald {cA : ClassId} (hT : X.ty[2]? = some (cA, .boolean)) (hd : decode md.2.1 pc = .ok (.baload, 1)) : jx_S X mt md pc (o_xald 2) := by
  intro p l e R s m args below meth c d B L st M N h H ls locs cells slots I
  obtain ⟨hx, -, hts, hK, hG, hown, -, hb, -⟩ := B
  unfold o_xald at h
  split at h
  · split at h
    · rename_i i a r _ t n f hcell
      split at h
      · rename_i hc
        cases h
        intro Q kk
        obtain ⟨e0, hin⟩ := hc
        subst e0
        obtain ⟨-, -, hP⟩ := I.1.arr hG hcell (by decide)
        rw [jx_ty0 hT] at hP
        exact va_zald hx hb hK (jx_P1 hP) 0 2 rfl hT (jx_ix_in hin) hd (kk _ _ _ _ _ I)
      · cases h
    · cases h
  · cases h
theorem s_lald {cA : ClassId} (hT : X.ty[3]? = some (cA, .long)) (hd : decode md.2.1 pc = .ok (.laload, 1)) : jx_S X mt md pc o_lald := by
  intro p l e R s m args below meth c d B L st M N h H ls locs cells slots I
  obtain ⟨hx, -, hts, hK, hG, hown, -, hb, -⟩ := B
  unfold o_lald at h
  split at h
  · split at h
    · rename_i i a r _ t n f hcell
      split at h
      · rename_i hc
        cases h
        intro Q kk
        obtain ⟨e0, hin⟩ := hc
        subst e0
        obtain ⟨-, -, hP⟩ := I.1.arr hG hcell (by decide)
        rw [jx_ty0 hT] at hP
        exact va_lald hx hb hK (jx_P1 hP) 0 3 rfl hT (jx_ix_in hin) hd (kk _ _ _ _ _ I)
      · cases h
    · cases h
  · cases h
theorem s_aald {cA : ClassId} {C : String} (hT : X.ty[4]? = some (cA, .object C)) (hd : decode md.2.1 pc = .ok (.aaload, 1)) : jx_S X mt md pc o_aald := by
  intro p l e R s m args below meth c d B L st M N h H ls locs cells slots I
  obtain ⟨hx, -, hts, hK, hG, hown, -, hb, -⟩ := B
  unfold o_aald at h
  split at h
  · split at h
    · rename_i i a r _ t n f hcell
      split at h
      · rename_i hc
        cases h
        intro Q kk
        obtain ⟨e0, hin⟩ := hc
        subst e0
        obtain ⟨-, -, hP⟩ := I.1.arr hG hcell (by decide)
        rw [jx_ty0 hT] at hP
        have k2 := kk _ _ _ _ _ I
        rw [List.map_cons, jx_rf] at k2
        exact va_aldq hx hb hK (jx_P1 hP) 0 4 rfl hT (jx_ix_in hin) hd k2
      · cases h
    · cases h
  · cases h
theorem jx_locs {X : jx_X} {locs : List Loc} {a j : Nat} (h : ∀ x ∈ locs, X.H.size ≤ x.base) (g1 : jx_g ≤ a) : ∀ x ∈ locs ++ [⟨jx_ad X a, j⟩], X.H.size ≤ x.base := by
  intro x hx
  rcases List.mem_append.mp hx with q | q
  · exact h x q
  · rw [List.mem_singleton.mp q]
    show X.H.size ≤ jx_ad X a
    rw [jx_ad_ge g1]
    omega
theorem s_iast {cA : ClassId} (hT : X.ty[0]? = some (cA, .int)) (hd : decode md.2.1 pc = .ok (.iastore, 1)) : jx_S X mt md pc o_iast := by
  intro p l e R s m args below meth c d B L st M N h H ls locs cells slots I
  obtain ⟨hx, -, hts, hK, hG, hown, -, hb, -⟩ := B
  unfold o_iast at h
  split at h
  · split at h
    · rename_i x i a r _ t n f hcell
      split at h
      · rename_i hc
        cases h
        intro Q kk
        obtain ⟨e0, hin⟩ := hc
        subst e0
        obtain ⟨g1, g2, hP⟩ := I.1.arr hG hcell (by decide)
        rw [jx_ty0 hT] at hP
        refine W.iast hx hb hP ((hK.2 0 _ hT).1 n (fun j => .int (f j))) (fun q => by cases q) (by show ¬ (i < 0 ∨ (arrV _ _ _).slots.size ≤ _); rw [arrV_size]; exact jx_ix_in hin) rfl rfl hd fun H1 e1 z oq => ?_
        refine kk _ _ _ _ _ ⟨I.1.set g1 g2 rfl z oq ?_, I.2.1, jx_locs I.2.2.1 g1, I.2.2.2.1, I.2.2.2.2⟩
        show H1[jx_ad X a]? = some (vp_cell (X.ty.getD 0 (0, .int)).1 (n, .inl (upd f i.toNatClampNeg x)))
        rw [jx_ty0 hT, e1]
        exact congrArg some (arr_store cA n _ f x)
      · cases h
    · cases h
  · cases h
theorem s_cast {cA : ClassId} (hT : X.ty[1]? = some (cA, .char)) (hd : decode md.2.1 pc = .ok (.castore, 1)) : jx_S X mt md pc o_cast := by
  intro p l e R s m args below meth c d B L st M N h H ls locs cells slots I
  obtain ⟨hx, -, hts, hK, hG, hown, -, hb, -⟩ := B
  unfold o_cast at h
  split at h
  · split at h
    · rename_i x i a r _ t n f hcell
      split at h
      · rename_i hc
        cases h
        intro Q kk
        obtain ⟨e0, hin⟩ := hc
        subst e0
        obtain ⟨g1, g2, hP⟩ := I.1.arr hG hcell (by decide)
        rw [jx_ty0 hT] at hP
        refine W.cast hx hb hP ((hK.2 1 _ hT).1 n (fun j => .int (f j))) (fun q => by cases q) (by show ¬ (i < 0 ∨ (arrV _ _ _).slots.size ≤ _); rw [arrV_size]; exact jx_ix_in hin) rfl rfl hd fun H1 e1 z oq => ?_
        refine kk _ _ _ _ _ ⟨I.1.set g1 g2 rfl z oq ?_, I.2.1, jx_locs I.2.2.1 g1, I.2.2.2.1, I.2.2.2.2⟩
        show H1[jx_ad X a]? = some (vp_cell (X.ty.getD 1 (0, .int)).1 (n, .inl (upd f i.toNatClampNeg (vp_nar .char x))))
        rw [jx_ty0 hT, e1]
        exact congrArg some (arr_store cA n _ f (vp_nar .char x))
      · cases h
    · cases h
  · cases h
theorem s_zast {cA : ClassId} (hT : X.ty[2]? = some (cA, .boolean)) (hd : decode md.2.1 pc = .ok (.bastore, 1)) : jx_S X mt md pc o_zast := by
  intro p l e R s m args below meth c d B L st M N h H ls locs cells slots I
  obtain ⟨hx, -, hts, hK, hG, hown, -, hb, -⟩ := B
  unfold o_zast at h
  split at h
  · split at h
    · rename_i x i a r _ t n f hcell
      split at h
      · rename_i hc
        cases h
        intro Q kk
        obtain ⟨e0, hin⟩ := hc
        subst e0
        obtain ⟨g1, g2, hP⟩ := I.1.arr hG hcell (by decide)
        rw [jx_ty0 hT] at hP
        refine W.zast hx hb hP ((hK.2 2 _ hT).1 n (fun j => .int (f j))) (fun q => by cases q) (by show ¬ (i < 0 ∨ (arrV _ _ _).slots.size ≤ _); rw [arrV_size]; exact jx_ix_in hin) rfl rfl hd fun H1 e1 z oq => ?_
        refine kk _ _ _ _ _ ⟨I.1.set g1 g2 rfl z oq ?_, I.2.1, jx_locs I.2.2.1 g1, I.2.2.2.1, I.2.2.2.2⟩
        show H1[jx_ad X a]? = some (vp_cell (X.ty.getD 2 (0, .int)).1 (n, .inl (upd f i.toNatClampNeg (vp_nar .boolean x))))
        rw [jx_ty0 hT, e1]
        exact congrArg some (arr_store cA n _ f (vp_nar .boolean x))
      · cases h
    · cases h
  · cases h
theorem s_last {cA : ClassId} (hT : X.ty[3]? = some (cA, .long)) (hd : decode md.2.1 pc = .ok (.lastore, 1)) : jx_S X mt md pc o_last := by
  intro p l e R s m args below meth c d B L st M N h H ls locs cells slots I
  obtain ⟨hx, -, hts, hK, hG, hown, -, hb, -⟩ := B
  unfold o_last at h
  split at h
  · split at h
    · rename_i x i a r _ t n f hcell
      split at h
      · rename_i hc
        cases h
        intro Q kk
        obtain ⟨e0, hin⟩ := hc
        subst e0
        obtain ⟨g1, g2, hP⟩ := I.1.arr hG hcell (by decide)
        rw [jx_ty0 hT] at hP
        refine W.last hx hb hP ((hK.2 3 _ hT).1 n (fun j => .long (f j))) (fun q => by cases q) (by show ¬ (i < 0 ∨ (arrV _ _ _).slots.size ≤ _); rw [arrV_size]; exact jx_ix_in hin) rfl rfl hd fun H1 e1 z oq => ?_
        refine kk _ _ _ _ _ ⟨I.1.set g1 g2 rfl z oq ?_, I.2.1, jx_locs I.2.2.1 g1, I.2.2.2.1, I.2.2.2.2⟩
        show H1[jx_ad X a]? = some (vp_cell (X.ty.getD 3 (0, .int)).1 (n, .inr (.inl (vp_updL f i.toNatClampNeg x))))
        rw [jx_ty0 hT, e1]
        show some ((arrV cA n (fun j => .long (f j))).setSlot _ _) = some (arrV cA n (fun j => .long (vp_updL f i.toNatClampNeg x j)))
        rw [arrV_store]
        congr 2
        funext q
        by_cases hq : q = i.toNatClampNeg
        · subst hq
          simp [updV, vp_updL]
        · simp [updV, vp_updL, hq]
      · cases h
    · cases h
  · cases h
theorem s_aast {ci : Nat} {C : String} {T : u_T} {N : Nat} {ty : Nat → FieldType} {cA : ClassId} (hk : jx_k X ci C T N ty) (hT : X.ty[4]? = some (cA, .object C)) (hd : decode md.2.1 pc = .ok (.aastore, 1)) : jx_S X mt md pc (o_aast ci) := by
  intro p l e R s m args below meth c d B L st M N h H ls locs cells slots I
  obtain ⟨hx, -, hts, hK, hG, hown, -, hb, -⟩ := B
  unfold o_aast at h
  split at h
  · split at h
    · rename_i v i a r _ _ t n f c0 fs hcell hcv
      split at h
      · rename_i hc
        cases h
        intro Q kk
        obtain ⟨e0, e1, hin⟩ := hc
        subst e0
        subst e1
        obtain ⟨hcl, hci, -⟩ := hk
        obtain ⟨g1, g2, hP⟩ := I.1.arr hG hcell (by decide)
        obtain ⟨-, -, r', hr', cellV, v1, v2, v3, -⟩ := I.1.obj hG hcv hci
        rw [jx_ty0 hT] at hP
        have hin := jx_ix_in hin
        have hcls := (hK.1 c0 _ hcl).2
        obtain ⟨kA, comp, k1, k2, k3, -⟩ := (hK.2 4 _ hT).2
        have hcomp : comp = X.D.1 c0 := Option.some.inj (k3.symm.trans hcls.1)
        subst hcomp
        obtain ⟨kC, hkC, -⟩ := id hcls.2
        refine W.aast hx hb hP (fun q h => by cases h) (fun h => by cases h) k1 k2 rfl hkC ⟨fun q => hin (Or.inl q), by show _ < (arrV _ _ _).slots.size; rw [arrV_size]; exact Nat.not_le.mp fun q => hin (Or.inr q)⟩ v1 (fun q h => by rw [v3] at h; cases h) (by rw [v2]; exact hkC) (by rw [v2]; exact va_assign hcls) rfl rfl hd fun H1 e1 z oq => ?_
        refine kk _ _ _ _ _ ⟨I.1.set g1 g2 rfl z oq ?_, I.2.1, jx_locs I.2.2.1 g1, I.2.2.2.1, I.2.2.2.2⟩
        show H1[jx_ad X a]? = some (vp_cell (X.ty.getD 4 (0, .int)).1 (n, .inr (.inr (.inr (.inr fun j => jx_q X (va_up f i.toNatClampNeg (some v) j))))))
        rw [jx_ty0 hT, e1]
        show some ((arrV cA n (fun j => va_rf (jx_q X (f j)))).setSlot _ _) = some (arrV cA n (fun j => va_rf (jx_q X (va_up f i.toNatClampNeg (some v) j))))
        rw [arrV_store]
        congr 2
        funext q
        by_cases hq : q = i.toNatClampNeg
        · subst hq
          simp [updV, va_up, va_rf, jx_q]
        · simp [updV, va_up, hq]
      · cases h
    · cases h
  · cases h
end JM
