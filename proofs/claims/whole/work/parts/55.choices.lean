/-! THE MATCHER: findChoices; printed by wip/whole/p55.py -/
theorem c_16_0 : jx_cd 16 0 = some (o_push (.int 0) 1) := rfl
theorem c_16_1 : jx_cd 16 1 = some (o_ist 4 2) := rfl
theorem c_16_3 : jx_cd 16 3 = some (o_ild 4 2) := rfl
theorem c_16_5 : jx_cd 16 5 = some (o_ald 1 1) := rfl
theorem c_16_6 : jx_cd 16 6 = some (o_getf 0 3) := rfl
theorem c_16_9 : jx_cd 16 9 = some (o_ige 106) := rfl
theorem c_16_12 : jx_cd 16 12 = some (o_ald 0 1) := rfl
theorem c_16_13 : jx_cd 16 13 = some (o_getf 2 0) := rfl
theorem c_16_16 : jx_cd 16 16 = some (o_ild 4 2) := rfl
theorem c_16_18 : jx_cd 16 18 = some (o_push (.int 0) 1) := rfl
theorem c_16_19 : jx_cd 16 19 = some (o_iast) := rfl
theorem c_16_20 : jx_cd 16 20 = some (o_push (.int 0) 1) := rfl
theorem c_16_21 : jx_cd 16 21 = some (o_ist 5 2) := rfl
theorem c_16_23 : jx_cd 16 23 = some (o_ild 5 2) := rfl
theorem c_16_25 : jx_cd 16 25 = some (o_ald 2 1) := rfl
theorem c_16_26 : jx_cd 16 26 = some (o_getf 0 3) := rfl
theorem c_16_29 : jx_cd 16 29 = some (o_ige 88) := rfl
theorem c_16_32 : jx_cd 16 32 = some (o_ald 1 1) := rfl
theorem c_16_33 : jx_cd 16 33 = some (o_getf 0 0) := rfl
theorem c_16_36 : jx_cd 16 36 = some (o_ild 4 2) := rfl
theorem c_16_38 : jx_cd 16 38 = some (o_iald) := rfl
theorem c_16_39 : jx_cd 16 39 = some (o_ald 2 1) := rfl
theorem c_16_40 : jx_cd 16 40 = some (o_getf 0 0) := rfl
theorem c_16_43 : jx_cd 16 43 = some (o_ild 5 2) := rfl
theorem c_16_45 : jx_cd 16 45 = some (o_iald) := rfl
theorem c_16_46 : jx_cd 16 46 = some (o_ild 3 1) := rfl
theorem c_16_47 : jx_cd 16 47 = some (o_push (.int (-1)) 1) := rfl
theorem c_16_48 : jx_cd 16 48 = some (o_bin fun x y => x ^^^ y) := rfl
theorem c_16_49 : jx_cd 16 49 = some (o_bin fun x y => x &&& y) := rfl
theorem c_16_50 : jx_cd 16 50 = some (o_call 17 2) := rfl
theorem c_16_53 : jx_cd 16 53 = some (o_ifeq 82) := rfl
theorem c_16_56 : jx_cd 16 56 = some (o_ald 1 1) := rfl
theorem c_16_57 : jx_cd 16 57 = some (o_ild 4 2) := rfl
theorem c_16_59 : jx_cd 16 59 = some (o_ald 2 1) := rfl
theorem c_16_60 : jx_cd 16 60 = some (o_ild 5 2) := rfl
theorem c_16_62 : jx_cd 16 62 = some (o_call 18 4) := rfl
theorem c_16_65 : jx_cd 16 65 = some (o_ifeq 82) := rfl
theorem c_16_68 : jx_cd 16 68 = some (o_ald 0 1) := rfl
theorem c_16_69 : jx_cd 16 69 = some (o_getf 2 0) := rfl
theorem c_16_72 : jx_cd 16 72 = some (o_ild 4 2) := rfl
theorem c_16_74 : jx_cd 16 74 = some (o_dup2) := rfl
theorem c_16_75 : jx_cd 16 75 = some (o_iald) := rfl
theorem c_16_76 : jx_cd 16 76 = some (o_push (.int 1) 1) := rfl
theorem c_16_77 : jx_cd 16 77 = some (o_ild 5 2) := rfl
theorem c_16_79 : jx_cd 16 79 = some (o_bin fun x y => x <<< (y &&& 31)) := rfl
theorem c_16_80 : jx_cd 16 80 = some (o_bin fun x y => x ||| y) := rfl
theorem c_16_81 : jx_cd 16 81 = some (o_iast) := rfl
theorem c_16_82 : jx_cd 16 82 = some (o_iinc 5 1) := rfl
theorem c_16_85 : jx_cd 16 85 = some (o_goto 23) := rfl
theorem c_16_88 : jx_cd 16 88 = some (o_ald 0 1) := rfl
theorem c_16_89 : jx_cd 16 89 = some (o_getf 2 0) := rfl
theorem c_16_92 : jx_cd 16 92 = some (o_ild 4 2) := rfl
theorem c_16_94 : jx_cd 16 94 = some (o_iald) := rfl
theorem c_16_95 : jx_cd 16 95 = some (o_ifne 100) := rfl
theorem c_16_98 : jx_cd 16 98 = some (o_push (.int 0) 1) := rfl
theorem c_16_99 : jx_cd 16 99 = some (o_zret) := rfl
theorem c_16_100 : jx_cd 16 100 = some (o_iinc 4 1) := rfl
theorem c_16_103 : jx_cd 16 103 = some (o_goto 3) := rfl
theorem c_16_106 : jx_cd 16 106 = some (o_push (.int 1) 1) := rfl
theorem c_16_107 : jx_cd 16 107 = some (o_zret) := rfl
theorem nu_at {α : Type} {f : Nat → α} {k : Nat} {x : α} : nu f k x k = x := if_pos rfl
theorem nu_nu {α : Type} {f : Nat → α} {k : Nat} {x y : α} : nu (nu f k x) k y = nu f k y := by
  funext j
  unfold nu
  split <;> rfl
def sp_ign (ig c : Nat) : Nat := if ig = 0 then c else c &&& 14591
theorem and_low {c x : Nat} (hc : c < 16384) : c &&& x = c &&& (x % 16384) := by
  have h1 : c &&& x < 16384 := Nat.lt_of_le_of_lt Nat.and_le_left hc
  have h2 := Nat.and_mod_two_pow (a := c) (b := x) (n := 14)
  rw [Nat.mod_eq_of_lt (show c &&& x < 2 ^ 14 from h1), Nat.mod_eq_of_lt (show c < 2 ^ 14 from hc)] at h2
  exact h2
theorem jn_ign0 (c : Nat) (hc : c < 16384) : (jn c) &&& ((jn 0) ^^^ (jo none)) = jn c := by
  rw [show (jn 0) ^^^ (jo none) = jn 4294967295 by decide, jn_and, and_low hc]
  have h := Nat.and_two_pow_sub_one_eq_mod c 14
  rw [Nat.mod_eq_of_lt (show c < 2 ^ 14 from hc)] at h
  exact congrArg jn h
theorem jn_ign1 (c : Nat) (hc : c < 16384) : (jn c) &&& ((jn 1792) ^^^ (jo none)) = jn (c &&& 14591) := by
  rw [show (jn 1792) ^^^ (jo none) = jn 4294965503 by decide, jn_and, and_low hc]
theorem jn_ign {ig c : Nat} (h : ig = 0 ∨ ig = 1792) (hc : c < 16384) : (jn c) &&& ((jn ig) ^^^ (jo none)) = jn (sp_ign ig c) := by
  rcases h with rfl | rfl
  · exact jn_ign0 c hc
  · exact jn_ign1 c hc
theorem sp_ign_lt {ig c : Nat} (hc : c < 16384) : sp_ign ig c < 32768 := by
  unfold sp_ign
  split
  · omega
  · exact Nat.lt_of_le_of_lt Nat.and_le_left (by omega)
def sp_cs (p : Nat → Bool) : Nat → Nat → Nat → Nat
  | 0, _, s => s
  | k + 1, b, s => sp_cs p k (b + 1) (if p b = true then s ||| 2 ^ b else s)
theorem sp_cs_lt {p : Nat → Bool} : ∀ {k i s : Nat}, i + k ≤ 10 → s < 1024 → sp_cs p k i s < 1024 := by
  intro k
  induction k with
  | zero => intro i s _ hs; exact hs
  | succ k ih =>
    intro i s hi hs
    rw [sp_cs]
    refine ih (by omega) ?_
    split
    · exact Nat.or_lt_two_pow (n := 10) hs (Nat.pow_lt_pow_right (by decide) (by omega))
    · exact hs
def sp_may (cs nr : Nat → Nat) (cs' nr' : Nat → Nat) (ig a b : Nat) : Bool := sp_fits (cs a) (sp_ign ig (cs' b)) && sp_hb nr nr' a b 5 1
def sp_fc (cs nr : Nat → Nat) (n' : Nat) (cs' nr' : Nat → Nat) (ig : Nat) : Nat → Nat → (Nat → Nat) → Option (Nat → Nat)
  | 0, _, ch => some ch
  | k + 1, a, ch => if sp_cs (sp_may cs nr cs' nr' ig a) n' 0 0 = 0 then none else sp_fc cs nr n' cs' nr' ig k (a + 1) (nu ch a (sp_cs (sp_may cs nr cs' nr' ig a) n' 0 0))
theorem t_fc2 {d n bc : Nat} {cs ks nr : Nat → Nat} {h n' bc' : Nat} {cs' ks' nr' : Nat → Nat} {ig : Nat} (hn : n ≤ 10) (hn' : n' ≤ 10) (hb : ∀ j, nr j < 1024) (hb' : ∀ j, nr' j < 1024) (hcs : ∀ j, cs j < 32768) (hok : ∀ j, okW (cs j)) (hcs' : ∀ j, cs' j < 16384) (hig : ig = 0 ∨ ig = 1792) (hh34 : 34 < h) {a : Nat} {ch : Nat → Nat} {M : jx_M} (hg : jg M 28 n bc cs ks nr) (hh : jg M h n' bc' cs' ks' nr') (h32 : M.1 32 = tO) (h33 : M.1 33 = .inl (0, 10, .inl (ja ch))) (hj : jc M) {post : jx_R → jx_M → Prop} (ha : a < n) : ∀ {k b s : Nat}, b + k = n' → jZ (d + 5) 16 88 [some (.ref 32), some (.ref 28), some (.ref h), some (.int (jn ig)), some (.int (jn a)), some (.int (jn n'))] [] (jm [(33, .inl (0, 10, .inl (ja (nu ch a (sp_cs (sp_may cs nr cs' nr' ig a) k b s)))))] M) post → jZ (d + 5) 16 23 [some (.ref 32), some (.ref 28), some (.ref h), some (.int (jn ig)), some (.int (jn a)), some (.int (jn b))] [] (jm [(33, .inl (0, 10, .inl (ja (nu ch a s))))] M) post := by
  intro k
  induction k with
  | zero =>
    intro b s hk kk
    refine z_go 25 _ [.int (jn b)] _ c_16_23 rfl ?_
    refine z_go 26 _ [.ref h, .int (jn b)] _ c_16_25 rfl ?_
    refine z_getf (v := .int (jn n')) 29 c_16_26 rfl (jne (by omega) hh.1) rfl ?_
    refine z_ige 88 32 c_16_29 rfl (by omega) (by omega) (fun h1 => ?_) (fun h1 => ?_)
    · omega
    · obtain rfl : b = n' := by omega
      exact kk
  | succ k ih =>
    intro b s hk kk
    refine z_go 25 _ [.int (jn b)] _ c_16_23 rfl ?_
    refine z_go 26 _ [.ref h, .int (jn b)] _ c_16_25 rfl ?_
    refine z_getf (v := .int (jn n')) 29 c_16_26 rfl (jne (by omega) hh.1) rfl ?_
    refine z_ige 88 32 c_16_29 rfl (by omega) (by omega) (fun h1 => ?_) (fun h1 => ?_)
    · have hcb := hcs' b
      have hca := hcs a
      have hib := sp_ign_lt (ig := ig) (hcs' b)
      refine z_go 33 _ [.ref 28] _ c_16_32 rfl ?_
      refine z_getf (v := .ref (28 + 1)) 36 c_16_33 rfl (jne (by omega) hg.1) rfl ?_
      refine z_go 38 _ [.int (jn a), .ref (28 + 1)] _ c_16_36 rfl ?_
      refine z_iald 39 c_16_38 rfl (jne (by omega) hg.2.1) (Or.inl rfl) (by omega) (by omega) ?_
      show jZ _ _ _ _ ([.int (jn (cs a))]) _ _
      refine z_go 40 _ [.ref h, .int (jn (cs a))] _ c_16_39 rfl ?_
      refine z_getf (v := .ref (h + 1)) 43 c_16_40 rfl (jne (by omega) hh.1) rfl ?_
      refine z_go 45 _ [.int (jn b), .ref (h + 1), .int (jn (cs a))] _ c_16_43 rfl ?_
      refine z_iald 46 c_16_45 rfl (jne (by omega) hh.2.1) (Or.inl rfl) (by omega) (by omega) ?_
      show jZ _ _ _ _ ([.int (jn (cs' b)), .int (jn (cs a))]) _ _
      refine z_go 47 _ [.int (jn ig), .int (jn (cs' b)), .int (jn (cs a))] _ c_16_46 rfl ?_
      refine z_go 48 _ [.int (jo none), .int (jn ig), .int (jn (cs' b)), .int (jn (cs a))] _ c_16_47 rfl ?_
      refine z_go 49 _ [.int ((jn ig) ^^^ (jo none)), .int (jn (cs' b)), .int (jn (cs a))] _ c_16_48 rfl ?_
      refine z_go 50 _ [.int ((jn (cs' b)) &&& (((jn ig) ^^^ (jo none)))), .int (jn (cs a))] _ c_16_49 rfl ?_
      refine z_v (jn_ign hig (hcs' b)) ?_
      have hs0 : ∀ k, k ≠ 33 → (jm [(33, .inl (0, 10, .inl (ja (nu ch a s))))] M).1 k = M.1 k := fun k hk => if_neg hk
      have hj1 : jc (jm [(33, .inl (0, 10, .inl (ja (nu ch a s))))] M) := ⟨⟨(hs0 2 (by decide)).trans hj.1.1, (hs0 4 (by decide)).trans hj.1.2⟩, (hs0 3 (by decide)).trans hj.2.1, (hs0 5 (by decide)).trans hj.2.2⟩
      have hg1 : jg (jm [(33, .inl (0, 10, .inl (ja (nu ch a s))))] M) 28 n bc cs ks nr := ⟨(hs0 _ (by decide)).trans hg.1, (hs0 _ (by decide)).trans hg.2.1, (hs0 _ (by decide)).trans hg.2.2.1, (hs0 _ (by decide)).trans hg.2.2.2⟩
      have hh1 : jg (jm [(33, .inl (0, 10, .inl (ja (nu ch a s))))] M) h n' bc' cs' ks' nr' := ⟨(hs0 _ (by omega)).trans hh.1, (hs0 _ (by omega)).trans hh.2.1, (hs0 _ (by omega)).trans hh.2.2.1, (hs0 _ (by omega)).trans hh.2.2.2⟩
      refine z_call 53 17 2 c_16_50 rfl ⟨Nat.le_of_ble_eq_true rfl, Nat.le_of_ble_eq_true rfl⟩ [.int (jn (cs a)), .int (jn (sp_ign ig (cs' b)))] rfl rfl [some (.int (jn (cs a))), some (.int (jn (sp_ign ig (cs' b)))), none] rfl rfl (t_fits hj1 (hok a) hib (by have := hcs a; omega)) ?_
      show jZ _ _ _ _ [.int (jb (sp_fits (cs a) (sp_ign ig (cs' b))))] _ _
      refine z_ifeq 82 56 c_16_53 rfl jb_t (fun h2 => ?_) (fun h2 => ?_)
      · refine z_iinc 85 [some (.ref 32), some (.ref 28), some (.ref h), some (.int (jn ig)), some (.int (jn a)), some (.int (jn (b + 1)))] c_16_82 rfl rfl (jn_add _ _) rfl ?_
        refine z_go 23 _ [] _ c_16_85 rfl ?_
        refine ih (b := b + 1) (s := s) (by omega) ?_
        rw [sp_cs] at kk
        rw [if_neg (by simp [sp_may, h2])] at kk
        exact kk
      · refine z_go 57 _ [.ref 28] _ c_16_56 rfl ?_
        refine z_go 59 _ [.int (jn a), .ref 28] _ c_16_57 rfl ?_
        refine z_go 60 _ [.ref h, .int (jn a), .ref 28] _ c_16_59 rfl ?_
        refine z_go 62 _ [.int (jn b), .ref h, .int (jn a), .ref 28] _ c_16_60 rfl ?_
        refine z_call 65 18 4 c_16_62 rfl ⟨Nat.le_of_ble_eq_true rfl, Nat.le_of_ble_eq_true rfl⟩ [.ref 28, .int (jn a), .ref h, .int (jn b)] rfl rfl [some (.ref 28), some (.int (jn a)), some (.ref h), some (.int (jn b)), none] rfl rfl (t_hb hg1 hh1 (by omega) (by omega) hb hb') ?_
        show jZ _ _ _ _ [.int (jb (sp_hb nr nr' a b 5 1))] _ _
        refine z_ifeq 82 68 c_16_65 rfl jb_t (fun h3 => ?_) (fun h3 => ?_)
        · refine z_iinc 85 [some (.ref 32), some (.ref 28), some (.ref h), some (.int (jn ig)), some (.int (jn a)), some (.int (jn (b + 1)))] c_16_82 rfl rfl (jn_add _ _) rfl ?_
          refine z_go 23 _ [] _ c_16_85 rfl ?_
          refine ih (b := b + 1) (s := s) (by omega) ?_
          rw [sp_cs] at kk
          rw [if_neg (by simp [sp_may, h3])] at kk
          exact kk
        · refine z_go 69 _ [.ref 32] _ c_16_68 rfl ?_
          refine z_getf (v := .ref 33) 72 c_16_69 rfl (jne (by omega) h32) rfl ?_
          refine z_go 74 _ [.int (jn a), .ref 33] _ c_16_72 rfl ?_
          refine z_go 75 _ [.int (jn a), .ref 33, .int (jn a), .ref 33] _ c_16_74 rfl ?_
          refine z_iald 76 c_16_75 rfl jhit (Or.inl rfl) (by omega) (by omega) ?_
          show jZ _ _ _ _ ([.int (jn ((nu ch a s) a)), .int (jn a), .ref 33]) _ _
          refine z_v (congrArg jn nu_at) ?_
          refine z_go 77 _ [.int (jn 1), .int (jn s), .int (jn a), .ref 33] _ c_16_76 rfl ?_
          refine z_go 79 _ [.int (jn b), .int (jn 1), .int (jn s), .int (jn a), .ref 33] _ c_16_77 rfl ?_
          refine z_go 80 _ [.int ((fun x y : Int32 => x <<< (y &&& 31)) (jn 1) (jn b)), .int (jn s), .int (jn a), .ref 33] _ c_16_79 rfl ?_
          refine z_v (jn_shb b (by omega)) ?_
          refine z_go 81 _ [.int ((jn s) ||| (jn (2 ^ b))), .int (jn a), .ref 33] _ c_16_80 rfl ?_
          refine z_v (jn_or _ _) ?_
          refine z_iast (M' := jm [(33, .inl (0, 10, .inl (ja (nu (nu ch a s) a (s ||| (2 ^ b))))))] M) 82 c_16_81 rfl jhit (by omega) (by omega) (by rw [ja_upd]; exact (jx_st_st _ _ _ _)) ?_
          refine z_m (M' := jm [(33, .inl (0, 10, .inl (ja (nu ch a (s ||| 2 ^ b)))))] M) (by rw [nu_nu]) ?_
          refine z_iinc 85 [some (.ref 32), some (.ref 28), some (.ref h), some (.int (jn ig)), some (.int (jn a)), some (.int (jn (b + 1)))] c_16_82 rfl rfl (jn_add _ _) rfl ?_
          refine z_go 23 _ [] _ c_16_85 rfl ?_
          refine ih (b := b + 1) (s := s ||| 2 ^ b) (by omega) ?_
          rw [sp_cs] at kk
          rw [if_pos (by simp [sp_may, h2, h3])] at kk
          exact kk
    · omega
def jC (M : jx_M) (o : Option (Nat → Nat)) : jx_R → jx_M → Prop := match o with
  | none => jV (some (.int (jb false))) fun M' => ∃ ch', M' = jm [(33, .inl (0, 10, .inl (ja ch')))] M
  | some ch' => jR (some (.int (jb true))) (jm [(33, .inl (0, 10, .inl (ja ch')))] M)
theorem jC_sh {M : jx_M} {c : jx_C} {o : Option (Nat → Nat)} {r : jx_R} {M' : jx_M} (h : jC (jm [(33, c)] M) o r M') : jC M o r M' := by
  cases o with
  | none =>
    obtain ⟨h1, ch, h2⟩ := h
    exact ⟨h1, ch, h2.trans (jx_st_st _ _ _ _)⟩
  | some x => exact ⟨h.1, h.2.trans (jx_st_st _ _ _ _)⟩
theorem t_fc_l {d n bc : Nat} {cs ks nr : Nat → Nat} {h n' bc' : Nat} {cs' ks' nr' : Nat → Nat} {ig : Nat} (hn : n ≤ 10) (hn' : n' ≤ 10) (hb : ∀ j, nr j < 1024) (hb' : ∀ j, nr' j < 1024) (hcs : ∀ j, cs j < 32768) (hok : ∀ j, okW (cs j)) (hcs' : ∀ j, cs' j < 16384) (hig : ig = 0 ∨ ig = 1792) (hh34 : 34 < h) : ∀ {k a : Nat} {z5 : Option Value} {ch : Nat → Nat} {M : jx_M}, a + k = n → jg M 28 n bc cs ks nr → jg M h n' bc' cs' ks' nr' → M.1 32 = tO → M.1 33 = .inl (0, 10, .inl (ja ch)) → jc M → jZ (d + 5) 16 3 [some (.ref 32), some (.ref 28), some (.ref h), some (.int (jn ig)), some (.int (jn a)), z5] [] M (jC M (sp_fc cs nr n' cs' nr' ig k a ch)) := by
  intro k
  induction k with
  | zero =>
    intro a z5 ch M hk hg hh h32 h33 hj
    refine z_go 5 _ [.int (jn a)] _ c_16_3 rfl ?_
    refine z_go 6 _ [.ref 28, .int (jn a)] _ c_16_5 rfl ?_
    refine z_getf (v := .int (jn n)) 9 c_16_6 rfl hg.1 rfl ?_
    refine z_ige 106 12 c_16_9 rfl (by omega) (by omega) (fun h1 => ?_) (fun h1 => ?_)
    · omega
    · refine z_go 107 _ [.int (jn 1)] _ c_16_106 rfl ?_
      refine z_zret (b := true) c_16_107 ?_
      exact ⟨rfl, (jx_st_id h33).symm⟩
  | succ k ih =>
    intro a z5 ch M hk hg hh h32 h33 hj
    refine z_go 5 _ [.int (jn a)] _ c_16_3 rfl ?_
    refine z_go 6 _ [.ref 28, .int (jn a)] _ c_16_5 rfl ?_
    refine z_getf (v := .int (jn n)) 9 c_16_6 rfl hg.1 rfl ?_
    refine z_ige 106 12 c_16_9 rfl (by omega) (by omega) (fun h1 => ?_) (fun h1 => ?_)
    · refine z_go 13 _ [.ref 32] _ c_16_12 rfl ?_
      refine z_getf (v := .ref 33) 16 c_16_13 rfl h32 rfl ?_
      refine z_go 18 _ [.int (jn a), .ref 33] _ c_16_16 rfl ?_
      refine z_go 19 _ [.int (jn 0), .int (jn a), .ref 33] _ c_16_18 rfl ?_
      refine z_iast (M' := jm [(33, .inl (0, 10, .inl (ja (nu ch a 0))))] M) 20 c_16_19 rfl h33 (by omega) (by omega) (by rw [ja_upd]; exact rfl) ?_
      refine z_go 21 _ [.int (jn 0)] _ c_16_20 rfl ?_
      refine z_go 23 [some (.ref 32), some (.ref 28), some (.ref h), some (.int (jn ig)), some (.int (jn a)), some (.int (jn 0))] [] _ c_16_21 rfl ?_
      have hslt : sp_cs (sp_may cs nr cs' nr' ig a) n' 0 0 < 1024 := sp_cs_lt (by omega) (by decide)
      refine t_fc2 hn hn' hb hb' hcs hok hcs' hig hh34 hg hh h32 h33 hj h1 (k := n') (b := 0) (s := 0) (by omega) ?_
      refine z_go 89 _ [.ref 32] _ c_16_88 rfl ?_
      refine z_getf (v := .ref 33) 92 c_16_89 rfl (jne (by omega) h32) rfl ?_
      refine z_go 94 _ [.int (jn a), .ref 33] _ c_16_92 rfl ?_
      refine z_iald 95 c_16_94 rfl jhit (Or.inl rfl) (by omega) (by omega) ?_
      show jZ _ _ _ _ ([.int (jn ((nu ch a (sp_cs (sp_may cs nr cs' nr' ig a) n' 0 0)) a))]) _ _
      refine z_v (congrArg jn nu_at) ?_
      refine z_ifne 100 98 c_16_95 rfl (jn_z (by omega)) (fun h2 => ?_) (fun h2 => ?_)
      · refine z_go 99 _ [.int (jn 0)] _ c_16_98 rfl ?_
        refine z_zret (b := false) c_16_99 ?_
        rw [sp_fc, if_pos h2]
        exact ⟨rfl, _, rfl⟩
      · refine z_iinc 103 [some (.ref 32), some (.ref 28), some (.ref h), some (.int (jn ig)), some (.int (jn (a + 1))), some (.int (jn n'))] c_16_100 rfl rfl (jn_add _ _) rfl ?_
        refine z_go 3 _ [] _ c_16_103 rfl ?_
        have hs0 : ∀ k, k ≠ 33 → (jm [(33, .inl (0, 10, .inl (ja (nu ch a (sp_cs (sp_may cs nr cs' nr' ig a) n' 0 0)))))] M).1 k = M.1 k := fun k hk => if_neg hk
        have hj1 : jc (jm [(33, .inl (0, 10, .inl (ja (nu ch a (sp_cs (sp_may cs nr cs' nr' ig a) n' 0 0)))))] M) := ⟨⟨(hs0 2 (by decide)).trans hj.1.1, (hs0 4 (by decide)).trans hj.1.2⟩, (hs0 3 (by decide)).trans hj.2.1, (hs0 5 (by decide)).trans hj.2.2⟩
        have hg1 : jg (jm [(33, .inl (0, 10, .inl (ja (nu ch a (sp_cs (sp_may cs nr cs' nr' ig a) n' 0 0)))))] M) 28 n bc cs ks nr := ⟨(hs0 _ (by decide)).trans hg.1, (hs0 _ (by decide)).trans hg.2.1, (hs0 _ (by decide)).trans hg.2.2.1, (hs0 _ (by decide)).trans hg.2.2.2⟩
        have hh1 : jg (jm [(33, .inl (0, 10, .inl (ja (nu ch a (sp_cs (sp_may cs nr cs' nr' ig a) n' 0 0)))))] M) h n' bc' cs' ks' nr' := ⟨(hs0 _ (by omega)).trans hh.1, (hs0 _ (by omega)).trans hh.2.1, (hs0 _ (by omega)).trans hh.2.2.1, (hs0 _ (by omega)).trans hh.2.2.2⟩
        rw [sp_fc, if_neg h2]
        exact (ih (a := a + 1) (by omega) hg1 hh1 ((hs0 32 (by decide)).trans h32) jhit hj1).mono fun r M2 q => jC_sh q
    · omega
theorem t_fc {d n bc : Nat} {cs ks nr : Nat → Nat} {h n' bc' : Nat} {cs' ks' nr' : Nat → Nat} {ig : Nat} (hn : n ≤ 10) (hn' : n' ≤ 10) (hb : ∀ j, nr j < 1024) (hb' : ∀ j, nr' j < 1024) (hcs : ∀ j, cs j < 32768) (hok : ∀ j, okW (cs j)) (hcs' : ∀ j, cs' j < 16384) (hig : ig = 0 ∨ ig = 1792) (hh34 : 34 < h) {ch : Nat → Nat} {M : jx_M} (hg : jg M 28 n bc cs ks nr) (hh : jg M h n' bc' cs' ks' nr') (h32 : M.1 32 = tO) (h33 : M.1 33 = .inl (0, 10, .inl (ja ch))) (hj : jc M) : jZ (d + 5) 16 0 [some (.ref 32), some (.ref 28), some (.ref h), some (.int (jn ig)), none, none] [] M (jC M (sp_fc cs nr n' cs' nr' ig n 0 ch)) := by
  refine z_go 1 _ [.int (jn 0)] _ c_16_0 rfl ?_
  refine z_go 3 [some (.ref 32), some (.ref 28), some (.ref h), some (.int (jn ig)), some (.int (jn 0)), none] [] _ c_16_1 rfl ?_
  exact t_fc_l hn hn' hb hb' hcs hok hcs' hig hh34 (by omega) hg hh h32 h33 hj
