/-! EXCEPTIONS: MADE AND THROWN, CAUGHT -/
/-- the same place, seen from the state that stands there: nothing has been written or made since -/
theorem jx_rebase {p : Program} {l : Launch} {e : Env} {R : Room} {s : State} {m : MethodId} {args : Array Value} {below : List Frame} {meth : Method} {c : Code} {T : State} {locs : List Loc} {cells slots kc ks : Nat} (X : Stand p l e R s m args below meth c T locs cells slots) (hc : cells + kc ≤ R.cells) (hs : slots + ks ≤ R.slots) :
    Stand p l e { frames := R.frames, cells := kc, slots := ks, locals := R.locals } (T.setFrames (.invoking m args :: below)) m args below meth c T [] 0 0 := by
  obtain ⟨g₀, hfr⟩ := X.frames_eq
  have hcurT : T.cur < T.threads.size := State.cur_lt_of_frames hfr
  have hcur : (T.setFrames (.invoking m args :: below)).cur < (T.setFrames (.invoking m args :: below)).threads.size := by simpa [State.setFrames] using hcurT
  have hf : (T.setFrames (.invoking m args :: below)).frames = .invoking m args :: below := State.frames_setFrames _ hcurT
  have hm : (T.setFrames (.invoking m args :: below)).vm.method? m = some meth := X.method'
  obtain ⟨t, ht, -⟩ := State.frames_cons hf
  obtain ⟨t₀, ht₀, -⟩ := State.frames_cons hfr
  obtain ⟨hh1, hh2⟩ := X.heapHas hc hs
  have hlim : e.platform.stackLimits (T.setFrames (.invoking m args :: below)).me = e.platform.stackLimits s.me := by rw [State.stackLimits_setFrames]; exact X.limits
  have hby : (T.setFrames (.invoking m args :: below)).me.stackBytes = s.me.stackBytes := by rw [State.stackBytes_setFrames]; exact X.bytes
  have hloc : (T.setFrames (.invoking m args :: below)).localsInUse = s.localsInUse := by
    rw [State.localsInUse_invoking hf hm X.code, State.localsInUse_invoking X.frames X.method X.code]
  refine ⟨X.admits, X.cas, X.clock, hf, ?_, ?_, hm, X.code, X.here, X.tail, State.WarmedH.refl _, ?_, ?_, ?_⟩
  · have hr := X.room
    simp only [State.hasRoom, Bool.and_eq_true, decide_eq_true_eq] at hr ⊢
    obtain ⟨⟨⟨⟨r1, r2⟩, r3⟩, r4⟩, r5⟩ := hr
    refine ⟨⟨⟨⟨?_, ?_⟩, ?_⟩, ?_⟩, ?_⟩
    · rw [hloc]; exact r1
    · rw [hloc, hlim, hby, hf]
      rw [X.frames] at r2
      exact r2
    · exact hh1
    · exact hh2
    · exact X.book
  · have h1 := X.hears
    have hcode : ∀ mm, (T.setFrames (.invoking m args :: below)).code? mm = s.code? mm := by
      intro mm
      rw [State.code?_eq, State.code?_eq]
      show (T.vm.method? mm).bind _ = _
      rw [X.warmed.alike.method?]
    cases below with
    | nil =>
      unfold State.hears at h1 ⊢
      show (T.vm.method? m).any _ = true
      rw [X.warmed.alike.method?]
      exact h1
    | cons f r =>
      cases f <;> first
        | (unfold State.hears at h1 ⊢; dsimp only at h1 ⊢; rw [hcode]; exact h1)
        | (unfold State.hears at h1 ⊢; exact h1)
        | (unfold State.hears at h1 ⊢; dsimp only at h1 ⊢; show (T.vm.method? m).any _ = true; rw [X.warmed.alike.method?]; exact h1)
  · rw [State.stackLimits_setFrames]
  · rw [State.stackBytes_setFrames]
  · have h := (State.sameButNew.refl (T.setFrames (.invoking m args :: below)) ht).setFrames T.frames hcur
    rw [State.setFrames_setFrames, State.setFrames_self ht₀] at h
    exact h
section JTh
variable {X : jx_X} {mt : Nat → jx_D} {md : jx_D} {pc : Nat}
set_option maxHeartbeats 4000000 in
theorem s_thr {ci i j ic : Nat} {C tx : String} {T : u_T} {names : List String} (hcl : X.cl[ci]? = some (C, T, 0)) (hWd : ∀ w ∈ X.W, jx_mv w) (hGm : ∀ (s U : State), s.WarmedH U.vm → (∀ q : Nat, q < X.H.size → U.heap[q]? = X.H[q]?) → X.G s → X.G U)
    (hd0 : decode md.2.1 pc = .ok (.new i, 3)) (hd1 : decode md.2.1 (pc + 3) = .ok (.dup, 1)) (hd2 : decode md.2.1 (pc + 4) = .ok (.ldc j, 2)) (hd3 : decode md.2.1 (pc + 6) = .ok (.invokespecial ic, 3)) (hd4 : decode md.2.1 (pc + 9) = .ok (.athrow, 1))
    (hw1 : (Cond.classLink md.1.cls i C : Cond) ∈ X.W) (hw2 : (Cond.instantiable C 6 : Cond) ∈ X.W) (hw3 : (Cond.initialized C : Cond) ∈ X.W)
    (hR : ∀ s, X.G s → ∃ q, vk_R md.1.cls j tx q s) (hA : ∀ (s : State) (args : Array Value), X.G s → (∀ w ∈ X.W, w.before args s = true) → ∀ a ∈ Bundle.ownAtoms md.1.cls ic C names, a.before args s = true)
    (hfit : Bundle.fit C = true) (hnames : ∀ n ∈ names, Bundle.fit n = true) (hnl : names.length ≤ 2) (hh : md.2.2.2.2 = []) : jx_S X mt md pc (o_thr ci) := by
  intro p l e R s m args below meth c d B L st M N h H ls locs cells slots I
  obtain ⟨hx, htr, hts, hK, hG, hown, hnm, hb, hmxl, hr, hlk, hex, hRf, hRl, hns, hao, hGs⟩ := B
  unfold o_thr at h
  split at h
  case isFalse => cases h
  rename_i hstl
  obtain ⟨M', h1, h2⟩ := Option.map_eq_some_iff.mp h
  cases h2
  have hroom : 1 ≤ M.2.2.1 ∧ 6 ≤ M.2.2.2 := by
    unfold jx_pu at h1
    split at h1
    · rename_i hr; exact hr
    · cases h1
  have hI := I.2.2.2
  have hI3 : slots + M.2.2.2 ≤ R.slots := I.2.2.2.2.1
  show W p l e R s m args below meth c H locs cells slots (jx_Q X R below s (.inr M.2.1) M') (F0 m pc ls (st.map (jx_v X)))
  intro T0 hT0 St0
  have St' := jx_rebase (kc := 1) (ks := 6) St0 (by omega) (by omega)
  generalize hs' : T0.setFrames (.invoking m args :: below) = s' at St'
  have hvm' : s'.vm = T0.vm := by rw [← hs']; rfl
  have hhp' : s'.heap = H := by rw [← hs']; exact hT0
  have hal : s.vm.Alike T0.vm := St0.warmed.alike
  have hts' : ∀ w ∈ X.W, w.before args s' = true := fun w hw => hWd w hw s s' _ _ (by rw [hvm']; exact St0.warmed) (hts w hw)
  have hown' : s'.vm.findClass md.1.cls = some m.cls := by rw [hvm', hal.findClass]; exact hown
  have hGs' : X.G s' := hGm s s' (by rw [hvm']; exact St0.warmed) (fun q hq => by rw [hhp']; exact I.1.2.2.2.2.1 q hq) hGs
  have hK' : va_K X.D X.cl X.ty s' := va_K.moved (by rw [hvm']; exact hal) hK
  have hKn := hK'.1 ci _ hcl
  obtain ⟨q, hq⟩ := hR s' hGs'
  have hsum : ((st.map (jx_v X)).map fun v => v.category).sum ≤ 8 := jx_cats (by rw [List.length_map]; exact hstl)
  have hsz : ls.size = c.maxLocals := by rw [I.2.1.1, I.2.2.2.2.2, hmxl]
  have hout : ∀ x ∈ c.exceptionTable.toList, covers x (pc + 9) = false := by
    rw [hh] at hex
    intro x hx0
    rw [List.map_eq_nil_iff.mp hex] at hx0
    cases hx0
  have key : W p l e { frames := R.frames, cells := 1, slots := 6, locals := R.locals } s' m args below meth c H [] 0 0 (fun U => U.status = .running ∧ Ended U below (.threw H.size) ∧ s'.WarmedH U.vm ∧ s'.sameButNew ({ U with vm := s'.vm } : State) [] 1 6 ∧ ∃ ce, U.heap[H.size]? = some ce ∧ Bundle.OwnCell args s' C H.size (.ref q) ce) (F0 m pc ls (st.map (jx_v X))) := by
    refine W.newcK hx hb hown' (hts' _ hw1) (hts' _ hw2) (hts' _ hw3) rfl hd0 (by show 0 + 1 ≤ 1; omega) (by show 0 + 6 ≤ 6; omega) hKn.2.1 rfl fun H1 kC hkC e1 z1 o1 => ?_
    refine lv_dup hx hb hd1 rfl ?_
    refine va_ldcS hx hb hown' hq hd2 ?_
    intro T hT St
    obtain ⟨U, u1, u2, u3, u4, u5, ce, u6, u7⟩ := St.ctorThrowS hx htr (own := md.1.cls) (cls := C) (names := names) (ic := ic) hown' hfit hnames (hA s' args hGs' hts') (fun x hx => by cases hx) (a := H.size) hKn.2.1 hkC (by rw [hT]; exact e1) (by rw [hhp']; exact Nat.le_refl _) (msg := .ref q) rfl
      (g := F0 m (pc + 3 + 1 + 2) ls (.ref q :: .ref H.size :: .ref H.size :: st.map (jx_v X))) rfl hsz rfl rfl (rest := st.map (jx_v X)) rfl (by rw [hb]; exact hd3) (by rw [hb]; exact hd4) hout (by show names.length + 3 < R.frames; omega) (by
        show 2 * 0 + (1 + ((st.map (jx_v X)).map fun v => v.category).sum) + (13 * (names.length + 1) + 42) ≤ R.locals
        omega) hlk
    exact ⟨U, u1, u2, u3, u4, u5, ce, u6, u7⟩
  obtain ⟨U, u1, u2, u3, u4, u5, ce, u6, u7⟩ := key T0 hT0 St'
  have u5' : T0.sameButNew ({ U with vm := T0.vm } : State) [] 1 6 := by
    rw [← hs'] at u5
    obtain ⟨e1, rest⟩ := u5
    refine ⟨?_, rest⟩
    rw [State.setFrames_setFrames] at e1
    exact e1
  have hn : jx_ad X M.2.1 = H.size := by
    have g1 := I.1.1
    have g2 := I.1.2.1
    rw [jx_ad_ge g1]
    omega
  have hlt : H.size < U.heap.size := (Array.getElem?_eq_some_iff.mp u6).1
  have hle : U.heap.size ≤ T0.heap.size + 1 := u5'.2.2.1
  rw [hT0] at hle
  have hold : ∀ z : Nat, z < H.size → U.heap[z]? = H[z]? := by
    intro z hz
    have h3 : T0.heap[z]? = some H[z] := by rw [hT0]; exact Array.getElem?_eq_getElem hz
    obtain ⟨c', c1, c2, c3, c4⟩ := u5'.2.2.2.2.2 z _ h3
    have c1 : U.heap[z]? = some c' := c1
    rw [c1, Array.getElem?_eq_getElem hz]
    congr 1
    rw [c2]
    have hsl : c'.slots = H[z].slots := by
      apply Array.ext_getElem?
      intro k
      exact c4 k (by simp)
    rw [hsl]
  obtain ⟨p1, p2, p3, p4, p5, p6⟩ := I.1.push h1 rfl (by omega) hold (by
    refine ⟨_, hcl, ce, u6, ?_, u7.vm, fun k hk => by cases hk⟩
    exact Option.some.inj (u7.cls.symm.trans hKn.2.1))
  refine ⟨U, u1, .threw (jx_ad X M.2.1), locs, cells + 1, slots + 6, u2, by rw [hn]; exact u3, rfl, p1, ?_, ?_, I.2.2.1, by omega, by omega⟩
  · rw [← hs'] at u4
    exact State.WarmedH.trans St0.warmed u4
  · have h9 := St0.same.trans (u5'.setVm s.vm)
    rw [List.append_nil] at h9
    exact h9
end JTh
