/-! EXCEPTIONS: MADE AND THROWN, CAUGHT -/
/-- the same place, seen from the state that stands there: nothing has been written or made since -/
theorem jx_rebase {p : Program} {l : Launch} {e : Env} {R : Room} {s : State} {m : MethodId} {args : Array Value} {below : List Frame} {meth : Method} {c : Code} {T : State} {locs : List Loc} {cells slots kc ks : Nat} (X : Stand p l e R s m args below meth c T locs cells slots) (hc : cells + kc ≤ R.cells) (hs : slots + ks ≤ R.slots) :
    Stand p l e { frames := R.frames, cells := kc, slots := ks, locals := R.locals } (T.setFrames (.invoking m args :: below)) m args below meth c T [] 0 0 := by
  obtain ⟨g₀, hfr⟩ := X.frames_eq
  have hcurT : T.cur < T.threads.size := State.cur_lt_of_frames hfr
  have hcur : (T.setFrames (.invoking m args :: below)).cur < (T.setFrames (.invoking m args :: below)).threads.size := by simpa [State.setFrames] using hcurT
  have hf : (T.setFrames (.invoking m args :: below)).frames = .invoking m args :: below := State.frames_setFrames _ hcurT
  have hm : (T.setFrames (.invoking m args :: below)).vm.method? m = some meth := X.method'
  obtain ⟨t, ht, -⟩ := State.frames_cons hf
  obtain ⟨t₀, ht₀, -⟩ := State.frames_cons hfr
  obtain ⟨hh1, hh2⟩ := X.heapHas hc hs
  have hlim : e.platform.stackLimits (T.setFrames (.invoking m args :: below)).me = e.platform.stackLimits s.me := by rw [State.stackLimits_setFrames]; exact X.limits
  have hby : (T.setFrames (.invoking m args :: below)).me.stackBytes = s.me.stackBytes := by rw [State.stackBytes_setFrames]; exact X.bytes
  have hloc : (T.setFrames (.invoking m args :: below)).localsInUse = s.localsInUse := by
    rw [State.localsInUse_invoking hf hm X.code, State.localsInUse_invoking X.frames X.method X.code]
  refine ⟨X.admits, X.cas, X.clock, hf, ?_, ?_, hm, X.code, X.here, X.tail, State.WarmedH.refl _, ?_, ?_, ?_⟩
  · have hr := X.room
    simp only [State.hasRoom, Bool.and_eq_true, decide_eq_true_eq] at hr ⊢
    obtain ⟨⟨⟨⟨r1, r2⟩, r3⟩, r4⟩, r5⟩ := hr
    refine ⟨⟨⟨⟨?_, ?_⟩, ?_⟩, ?_⟩, ?_⟩
    · rw [hloc]; exact r1
    · rw [hloc, hlim, hby, hf]
      rw [X.frames] at r2
      exact r2
    · exact hh1
    · exact hh2
    · exact X.book
  · have h1 := X.hears
    have hcode : ∀ mm, (T.setFrames (.invoking m args :: below)).code? mm = s.code? mm := by
      intro mm
      rw [State.code?_eq, State.code?_eq]
      show (T.vm.method? mm).bind _ = _
      rw [X.warmed.alike.method?]
    cases below with
    | nil =>
      unfold State.hears at h1 ⊢
      show (T.vm.method? m).any _ = true
      rw [X.warmed.alike.method?]
      exact h1
    | cons f r =>
      cases f <;> first
        | (unfold State.hears at h1 ⊢; dsimp only at h1 ⊢; rw [hcode]; exact h1)
        | (unfold State.hears at h1 ⊢; exact h1)
        | (unfold State.hears at h1 ⊢; dsimp only at h1 ⊢; show (T.vm.method? m).any _ = true; rw [X.warmed.alike.method?]; exact h1)
  · rw [State.stackLimits_setFrames]
  · rw [State.stackBytes_setFrames]
  · have h := (State.sameButNew.refl (T.setFrames (.invoking m args :: below)) ht).setFrames T.frames hcur
    rw [State.setFrames_setFrames, State.setFrames_self ht₀] at h
    exact h
section JTh
variable {X : jx_X} {mt : Nat → jx_D} {md : jx_D} {pc : Nat}
set_option maxHeartbeats 4000000 in
theorem s_thr {ci i j ic : Nat} {C tx : String} {T : u_T} {names : List String} (hcl : X.cl[ci]? = some (C, T, 0)) (hWd : ∀ w ∈ X.W, jx_mv w) (hGm : ∀ (s U : State), s.WarmedH U.vm → (∀ q : Nat, q < X.H.size → U.heap[q]? = X.H[q]?) → X.G s → X.G U)
    (hd0 : decode md.2.1 pc = .ok (.new i, 3)) (hd1 : decode md.2.1 (pc + 3) = .ok (.dup, 1)) (hd2 : decode md.2.1 (pc + 4) = .ok (.ldc j, 2)) (hd3 : decode md.2.1 (pc + 6) = .ok (.invokespecial ic, 3)) (hd4 : decode md.2.1 (pc + 9) = .ok (.athrow, 1))
    (hw1 : (Cond.classLink md.1.cls i C : Cond) ∈ X.W) (hw2 : (Cond.instantiable C 6 : Cond) ∈ X.W) (hw3 : (Cond.initialized C : Cond) ∈ X.W)
    (hR : ∀ s, X.G s → ∃ q, vk_R md.1.cls j tx q s) (hA : ∀ (s : State) (args : Array Value), X.G s → (∀ w ∈ X.W, w.before args s = true) → ∀ a ∈ Bundle.ownAtoms md.1.cls ic C names, a.before args s = true)
    (hfit : Bundle.fit C = true) (hnames : ∀ n ∈ names, Bundle.fit n = true) (hnl : names.length ≤ 2) (hh : md.2.2.2.2 = []) : jx_S X mt md pc (o_thr ci) := by
  intro p l e R s m args below meth c d B L st M N h H ls locs cells slots I
  obtain ⟨hx, htr, hts, hK, hG, hown, hnm, hb, hmxl, hr, hlk, hex, hRf, hRl, hns, hao, hGs⟩ := B
  unfold o_thr at h
  split at h
  case isFalse => cases h
  rename_i hstl
  obtain ⟨M', h1, h2⟩ := Option.map_eq_some_iff.mp h
  cases h2
  have hroom : 1 ≤ M.2.2.1 ∧ 6 ≤ M.2.2.2 := by
    unfold jx_pu at h1
    split at h1
    · rename_i hr; exact hr
    · cases h1
  have hI := I.2.2.2
  have hI3 : slots + M.2.2.2 ≤ R.slots := I.2.2.2.2.1
  show W p l e R s m args below meth c H locs cells slots (jx_Q X R below s (.inr M.2.1) M') (F0 m pc ls (st.map (jx_v X)))
  intro T0 hT0 St0
  have St' := jx_rebase (kc := 1) (ks := 6) St0 (by omega) (by omega)
  generalize hs' : T0.setFrames (.invoking m args :: below) = s' at St'
  have hvm' : s'.vm = T0.vm := by rw [← hs']; rfl
  have hhp' : s'.heap = H := by rw [← hs']; exact hT0
  have hal : s.vm.Alike T0.vm := St0.warmed.alike
  have hts' : ∀ w ∈ X.W, w.before args s' = true := fun w hw => hWd w hw s s' _ _ (by rw [hvm']; exact St0.warmed) (hts w hw)
  have hown' : s'.vm.findClass md.1.cls = some m.cls := by rw [hvm', hal.findClass]; exact hown
  have hGs' : X.G s' := hGm s s' (by rw [hvm']; exact St0.warmed) (fun q hq => by rw [hhp']; exact I.1.2.2.2.2.1 q hq) hGs
  have hK' : va_K X.D X.cl X.ty s' := va_K.moved (by rw [hvm']; exact hal) hK
  have hKn := hK'.1 ci _ hcl
  obtain ⟨q, hq⟩ := hR s' hGs'
  have hsum : ((st.map (jx_v X)).map fun v => v.category).sum ≤ 8 := jx_cats (by rw [List.length_map]; exact hstl)
  have hsz : ls.size = c.maxLocals := by rw [I.2.1.1, I.2.2.2.2.2, hmxl]
  have hout : ∀ x ∈ c.exceptionTable.toList, covers x (pc + 9) = false := by
    rw [hh] at hex
    intro x hx0
    rw [List.map_eq_nil_iff.mp hex] at hx0
    cases hx0
  have key : W p l e { frames := R.frames, cells := 1, slots := 6, locals := R.locals } s' m args below meth c H [] 0 0 (fun U => U.status = .running ∧ Ended U below (.threw H.size) ∧ s'.WarmedH U.vm ∧ s'.sameButNew ({ U with vm := s'.vm } : State) [] 1 6 ∧ ∃ ce, U.heap[H.size]? = some ce ∧ Bundle.OwnCell args s' C H.size (.ref q) ce) (F0 m pc ls (st.map (jx_v X))) := by
    refine W.newcK hx hb hown' (hts' _ hw1) (hts' _ hw2) (hts' _ hw3) rfl hd0 (by show 0 + 1 ≤ 1; omega) (by show 0 + 6 ≤ 6; omega) hKn.2.1 rfl fun H1 kC hkC e1 z1 o1 => ?_
    refine lv_dup hx hb hd1 rfl ?_
    refine va_ldcS hx hb hown' hq hd2 ?_
    intro T hT St
    obtain ⟨U, u1, u2, u3, u4, u5, ce, u6, u7⟩ := St.ctorThrowS hx htr (own := md.1.cls) (cls := C) (names := names) (ic := ic) hown' hfit hnames (hA s' args hGs' hts') (fun x hx => by cases hx) (a := H.size) hKn.2.1 hkC (by rw [hT]; exact e1) (by rw [hhp']; exact Nat.le_refl _) (msg := .ref q) rfl
      (g := F0 m (pc + 3 + 1 + 2) ls (.ref q :: .ref H.size :: .ref H.size :: st.map (jx_v X))) rfl hsz rfl rfl (rest := st.map (jx_v X)) rfl (by rw [hb]; exact hd3) (by rw [hb]; exact hd4) hout (by show names.length + 3 < R.frames; omega) (by
        show 2 * 0 + (1 + ((st.map (jx_v X)).map fun v => v.category).sum) + (13 * (names.length + 1) + 42) ≤ R.locals
        omega) hlk
    exact ⟨U, u1, u2, u3, u4, u5, ce, u6, u7⟩
  obtain ⟨U, u1, u2, u3, u4, u5, ce, u6, u7⟩ := key T0 hT0 St'
  have u5' : T0.sameButNew ({ U with vm := T0.vm } : State) [] 1 6 := by
    rw [← hs'] at u5
    obtain ⟨e1, rest⟩ := u5
    refine ⟨?_, rest⟩
    rw [State.setFrames_setFrames] at e1
    exact e1
  have hn : jx_ad X M.2.1 = H.size := by
    have g1 := I.1.1
    have g2 := I.1.2.1
    rw [jx_ad_ge g1]
    omega
  have hlt : H.size < U.heap.size := (Array.getElem?_eq_some_iff.mp u6).1
  have hle : U.heap.size ≤ T0.heap.size + 1 := u5'.2.2.1
  rw [hT0] at hle
  have hold : ∀ z : Nat, z < H.size → U.heap[z]? = H[z]? := by
    intro z hz
    have h3 : T0.heap[z]? = some H[z] := by rw [hT0]; exact Array.getElem?_eq_getElem hz
    obtain ⟨c', c1, c2, c3, c4⟩ := u5'.2.2.2.2.2 z _ h3
    have c1 : U.heap[z]? = some c' := c1
    rw [c1, Array.getElem?_eq_getElem hz]
    congr 1
    rw [c2]
    have hsl : c'.slots = H[z].slots := by
      apply Array.ext_getElem?
      intro k
      exact c4 k (by simp)
    rw [hsl]
  obtain ⟨p1, p2, p3, p4, p5, p6⟩ := I.1.push h1 rfl (by omega) hold (by
    refine ⟨_, hcl, ce, u6, ?_, u7.vm, fun k hk => by cases hk⟩
    exact Option.some.inj (u7.cls.symm.trans hKn.2.1))
  refine ⟨U, u1, .threw (jx_ad X M.2.1), locs, cells + 1, slots + 6, u2, by rw [hn]; exact u3, rfl, p1, ?_, ?_, I.2.2.1, by omega, by omega⟩
  · rw [← hs'] at u4
    exact State.WarmedH.trans St0.warmed u4
  · have h9 := St0.same.trans (u5'.setVm s.vm)
    rw [List.append_nil] at h9
    exact h9
end JTh
/-! a handler is looked for: the catch types may not be resolved yet -/
theorem jx_go_cold {E : CtlPost} {e : Env} {d : Bool} {acts : List Action} {s : State} {f : JFrame} {a : Addr} {Q : Handler → Pre} {x : ExceptionTableEntry} {t : List ExceptionTableEntry} {c : ClassId} {cell : Cell} {vm' : Vm} (hx : covers x f.pc = true) (h0 : x.catchType ≠ 0)
    (hg : (Jvm.resolveClass f.method.cls x.catchType).Gives e.toSetting s.vm (.ok c) vm') (hsz : vm'.classes.size ≤ s.vm.classes.size) (hcell : s.heap[a]? = some cell) (hobj : ∀ k, cell.vm ≠ .statics k)
    (hk : ∃ k, vm'.classes[cell.cls]? = some k) (hc : ∃ k, vm'.classes[c]? = some k) :
    wp (findHandler.go f a (x :: t)) Q E e d acts s ↔
      if vm'.assignable cell.cls c = true then Q (.found x.handlerPc) d acts (s.setVm vm') else wp (findHandler.go f a t) Q E e d acts (s.setVm vm') := by
  simp only [covers] at hx
  obtain ⟨ha, ht⟩ := hg.op (op := VmOp.resolveClass f.method.cls x.catchType) rfl
  cases hfit : vm'.assignable cell.cls c <;>
    simp [findHandler.go, hx, h0, ha, ht, hsz, hcell, hobj, hk, hc, hfit, VmOp.dirties, VmOp.acts]
theorem jx_stepc {e : Env} {s s' : State} {a : Addr} {f : JFrame} {r : List Frame} {pc : Nat} (hfind : ∀ (Q : Handler → Pre) (E : CtlPost) (d : Bool) (acts : List Action), wp (findHandler f a) Q E e d acts s ↔ Q (.found pc) d acts s') :
    (stepThrowing e s a (.java f :: r)).Is (s'.setFrames (.java { f with pc := pc, stack := [.ref a] } :: r)) [] := by
  simp only [stepThrowing, searchFrame, vmDo]
  generalize hr : Sem.go _ e false [] s = res
  obtain ⟨as, rfl, ha⟩ := Sem.eq_ok_of hr (a := Handler.found pc) (s' := s') (acts' := []) (by simp [hfind _ _ _ _])
  exact ⟨rfl, ha⟩
theorem jx_caught {tb : Tables} {e : Env} {s target : State} {g : JFrame} {c : Code} {below : List Frame} {a : Addr} {vm₁ : Vm} (h : At s g.method c below) {pc : Nat}
    (hfind : ∀ (Q : Handler → Pre) (E : CtlPost) (d : Bool) (acts : List Action), wp (findHandler g a) Q E e d acts ((s.setTop g).pushFrame (.throwing a)) ↔ Q (.found pc) d acts (((s.setTop g).pushFrame (.throwing a)).setVm vm₁))
    (hrest : Steps tb e below ((s.setVm vm₁).setTop { g with pc := pc, stack := [.ref a] }) target) : Steps tb e below ((s.setTop g).pushFrame (.throwing a)) target := by
  obtain ⟨hgo, hw⟩ := h.throwing a
  refine Steps.head hgo hw ?_
  rw [stepThread_throwing (frames_entered h.top _), (jx_stepc hfind).1]
  obtain ⟨g₀, hg⟩ := Option.isSome_iff_exists.mp h.top
  obtain ⟨r, hr⟩ := State.topJava?_eq_some.mp hg
  have hr' : (s.setVm vm₁).frames = .java g₀ :: r := hr
  rw [State.setTop_of_frames _ hr'] at hrest
  have he : (((s.setTop g).pushFrame (.throwing a)).setVm vm₁).setFrames (.java { g with pc := pc, stack := [.ref a] } :: s.frames.tail) = (s.setVm vm₁).setFrames (.java { g with pc := pc, stack := [.ref a] } :: r) := by
    rw [State.pushFrame, State.setTop_of_frames _ hr, State.setFrames_setFrames, hr]
    show (((s.setFrames _).setVm vm₁).setFrames _) = _
    exact State.setFrames_setFrames (s.setVm vm₁) _ _
  rw [he]
  exact hrest
theorem jx_search {e : Env} {S s : State} {f : JFrame} {a : Addr} {cell : Cell} {pc cx hp : Nat} {dc : Nat → ClassId} (hpc : f.pc = pc) (hcell : S.heap[a]? = some cell) (hobj : ∀ k, cell.vm ≠ .statics k) (hkc : ∃ k, s.vm.classes[cell.cls]? = some k)
    (hyes : s.vm.assignable cell.cls (dc cx) = true) : ∀ (HL : List ((Nat × Nat × Nat × Nat) × Nat)) (xs : List ExceptionTableEntry), xs.map (fun x => (x.startPc, x.endPc, x.handlerPc, x.catchType)) = HL.map (fun q => q.1) →
    (∀ q ∈ HL, q.1.2.2.2 ≠ 0 ∧ s.vm.ClassLinks e.platform f.method.cls q.1.2.2.2 (dc q.2) ∧ (∃ k, s.vm.classes[dc q.2]? = some k) ∧ (q.2 ≠ cx → s.vm.assignable cell.cls (dc q.2) = false)) →
    jx_hf pc cx (HL.map fun q => (q.1.1, q.1.2.1, q.1.2.2.1, q.2)) = some hp →
    ∀ vm : Vm, s.WarmedH vm → ∃ vm' : Vm, s.WarmedH vm' ∧ ∀ (Q : Handler → Pre) (E : CtlPost) (d : Bool) (acts : List Action), wp (findHandler.go f a xs) Q E e d acts (S.setVm vm) ↔ Q (.found hp) d acts (S.setVm vm')
  | [], _, _, _, h => by cases h
  | q :: HL, [], h, _, _ => by cases h
  | q :: HL, x :: xs, hm, hall, hf => by
    intro vm hW
    rw [List.map_cons, List.map_cons] at hm
    obtain ⟨hm1, hm2⟩ := List.cons.inj hm
    obtain ⟨q0, q1, q2, q3⟩ := hall q List.mem_cons_self
    have e1 : x.startPc = q.1.1 := congrArg Prod.fst hm1
    have e2 : x.endPc = q.1.2.1 := congrArg (fun z => z.2.1) hm1
    have e3 : x.handlerPc = q.1.2.2.1 := congrArg (fun z => z.2.2.1) hm1
    have e4 : x.catchType = q.1.2.2.2 := congrArg (fun z => z.2.2.2) hm1
    have ih := jx_search (hp := hp) hpc hcell hobj hkc hyes HL xs hm2 (fun z hz => hall z (List.mem_cons_of_mem _ hz))
    rw [List.map_cons] at hf
    unfold jx_hf at hf
    by_cases hcov : covers x f.pc = true
    · have hcv : q.1.1 ≤ pc ∧ pc < q.1.2.1 := by
        simp only [covers, Bool.and_eq_true, decide_eq_true_eq] at hcov
        rw [← e1, ← e2, ← hpc]
        exact hcov
      obtain ⟨hg₁, hwarm₁, hready₁⟩ := State.classEntry (e := e) hW q1
      have hal : s.vm.Alike (vm.noted f.method.cls q.1.2.2.2 (.cls (dc q.2))) := hwarm₁.alike
      have hsz : (vm.noted f.method.cls q.1.2.2.2 (.cls (dc q.2))).classes.size ≤ vm.classes.size := by simp [Vm.noted]
      generalize vm.noted f.method.cls q.1.2.2.2 (.cls (dc q.2)) = vm₁ at hg₁ hwarm₁ hready₁ hal hsz
      have hgo : ∀ (Q : Handler → Pre) (E : CtlPost) (d : Bool) (acts : List Action), wp (findHandler.go f a (x :: xs)) Q E e d acts (S.setVm vm) ↔ if vm₁.assignable cell.cls (dc q.2) = true then Q (.found x.handlerPc) d acts (S.setVm vm₁) else wp (findHandler.go f a xs) Q E e d acts (S.setVm vm₁) := by
        intro Q E d acts
        refine jx_go_cold (s := S.setVm vm) (vm' := vm₁) hcov (by rw [e4]; exact q0) (by rw [e4]; exact hg₁) hsz hcell hobj ?_ ?_
        · obtain ⟨k, hk⟩ := hkc
          obtain ⟨k', hk', -⟩ := hal.2.2 _ _ hk
          exact ⟨k', hk'⟩
        · obtain ⟨k, hk⟩ := q2
          obtain ⟨k', hk', -⟩ := hal.2.2 _ _ hk
          exact ⟨k', hk'⟩
      by_cases hcx : q.2 = cx
      · rw [if_pos ⟨hcv.1, hcv.2, hcx⟩] at hf
        have hp0 : q.1.2.2.1 = hp := Option.some.inj hf
        refine ⟨vm₁, hwarm₁, fun Q E d acts => ?_⟩
        rw [hgo, if_pos (by rw [hal.assignable, hcx]; exact hyes), e3, hp0]
      · rw [if_neg (fun z => hcx z.2.2)] at hf
        obtain ⟨vm', w1, w2⟩ := ih hf vm₁ hwarm₁
        refine ⟨vm', w1, fun Q E d acts => ?_⟩
        rw [hgo, if_neg (by rw [hal.assignable, q3 hcx]; decide)]
        exact w2 Q E d acts
    · have hcov : covers x f.pc = false := by simpa using hcov
      have hncv : ¬ (q.1.1 ≤ pc ∧ pc < q.1.2.1 ∧ q.2 = cx) := by
        intro z
        simp only [covers, Bool.and_eq_false_iff, decide_eq_false_iff_not] at hcov
        rw [e1, e2, hpc] at hcov
        rcases hcov with h | h
        · exact h z.1
        · exact h z.2.1
      rw [if_neg hncv] at hf
      obtain ⟨vm', w1, w2⟩ := ih hf vm hW
      refine ⟨vm', w1, fun Q E d acts => ?_⟩
      rw [W.findHandler_go_skip hcov]
      exact w2 Q E d acts
theorem jx_hf_mem {pc ci hp : Nat} : ∀ {hs : List (Nat × Nat × Nat × Nat)}, jx_hf pc ci hs = some hp → ∃ h ∈ hs, h.2.2.2 = ci
  | [], h => by cases h
  | a :: t, h => by
    unfold jx_hf at h
    split at h
    · rename_i hc
      exact ⟨a, List.mem_cons_self, hc.2.2⟩
    · obtain ⟨z, h1, h2⟩ := jx_hf_mem h
      exact ⟨z, List.mem_cons_of_mem _ h1, h2⟩
theorem jx_ct_of {X : jx_X} {md : jx_D} (HL : List ((Nat × Nat × Nat × Nat) × String × Nat)) (hmd : md.2.2.2.2 = HL.map fun q => (q.1, q.2.1))
    (hq : ∀ q ∈ HL, q.1.2.2.2 ≠ 0 ∧ (Cond.classLink md.1.cls q.1.2.2.2 q.2.1 : Cond) ∈ X.W ∧ q.2.2 < 100 ∧ ∃ T, X.cl[q.2.2]? = some (q.2.1, T, 0))
    (hno : ∀ s, X.G s → ∀ q ∈ HL, ∀ q' ∈ HL, q.2.2 ≠ q'.2.2 → ∀ c c', s.vm.findClass q.2.1 = some c → s.vm.findClass q'.2.1 = some c' → s.vm.assignable c c' = false) : jx_ct X md (HL.map fun q => (q.1.1, q.1.2.1, q.1.2.2.1, q.2.2)) := by
  intro p l e R s m args below meth c d B pc k hp M hf T locs cells slots ls st St hH
  obtain ⟨hx, htr, hts, hK, hG, hown, hnm, hb, hmxl, hr, hlk, hex, hRf, hRl, hns, hao, hGs⟩ := B
  have hpl : e.platform.magicAccessors = ({} : Platform).magicAccessors := by rw [St.admits.platform]
  obtain ⟨h0, hm0, hc0⟩ := jx_hf_mem hf
  obtain ⟨q0, hq0, hqe⟩ := List.mem_map.mp hm0
  obtain ⟨a1, a2, a3, T0, a4⟩ := hq q0 hq0
  have hci : q0.2.2 = jx_cl (M.1 k) := by rw [← hc0, ← hqe]
  obtain ⟨fs, hM⟩ : ∃ fs, M.1 k = .inr (q0.2.2, fs) := by
    cases hM : M.1 k with
    | inl z => rw [hM] at hci; have h9 : q0.2.2 = 9999 := hci; omega
    | inr z =>
      rw [hM] at hci
      have h9 : q0.2.2 = z.1 := hci
      exact ⟨z.2, by rw [h9]⟩
  obtain ⟨-, -, r, hr0, cell, c1, c2, c3, -⟩ := hH.obj hG hM a3
  have hcA := (hK.1 q0.2.2 _ a4).2
  obtain ⟨kC, hkC, hkd⟩ := id hcA.2
  have hcls : ∀ q ∈ HL, s.vm.findClass q.2.1 = some (X.D.1 q.2.2) := fun q hqm => by
    obtain ⟨-, -, -, T1, b4⟩ := hq q hqm
    exact (hK.1 q.2.2 _ b4).2.1
  obtain ⟨vm', w1, w2⟩ := jx_search (e := e) (S := (T.setTop (F0 m pc ls st)).pushFrame (.throwing (jx_ad X k))) (s := s) (f := F0 m pc ls st) (a := jx_ad X k) (cell := cell) (pc := pc) (cx := q0.2.2) (hp := hp) (dc := X.D.1) rfl c1 (fun z hz => by rw [c3] at hz; cases hz) ⟨kC, by rw [c2]; exact hkC⟩ (by rw [c2]; exact va_assign hcA)
    (HL.map fun q => (q.1, q.2.2)) c.exceptionTable.toList (by
      rw [hex, hmd, List.map_map, List.map_map]
      rfl) (fun z hz => by
      obtain ⟨q, hqm, rfl⟩ := List.mem_map.mp hz
      obtain ⟨b1, b2, b3, T1, b4⟩ := hq q hqm
      obtain ⟨cc, hcc, hlk2⟩ := Cond.classLink_spec hown (hts _ b2) e.platform hpl
      cases hcc.symm.trans (hcls q hqm)
      obtain ⟨kq, hkq, -⟩ := (hK.1 q.2.2 _ b4).2.2
      refine ⟨b1, hlk2, ⟨kq, hkq⟩, fun hne => ?_⟩
      rw [c2]
      exact hno s hGs q0 hq0 q hqm (fun h => hne h.symm) _ _ hcA.1 (hcls q hqm)) (by
      rw [List.map_map]
      rw [← hci] at hf
      exact hf) T.vm St.warmed
  refine ⟨vm', St.noted w1, fun target h => ?_⟩
  refine jx_caught (vm₁ := vm') (g := F0 m pc ls st) St.here (pc := hp) (fun Q E d acts => ?_) h
  rw [W.findHandler_eq (meth := meth) (code := c) St.method' St.code]
  exact w2 Q E d acts
