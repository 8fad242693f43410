/-! THE MATCHER: canPlace; printed by wip/whole/p56.py -/
theorem c_20_0 : jx_cd 20 0 = some (o_ild 3 1) := rfl
theorem c_20_1 : jx_cd 20 1 = some (o_ald 1 1) := rfl
theorem c_20_2 : jx_cd 20 2 = some (o_getf 0 3) := rfl
theorem c_20_5 : jx_cd 20 5 = some (o_ilt 10) := rfl
theorem c_20_8 : jx_cd 20 8 = some (o_push (.int 1) 1) := rfl
theorem c_20_9 : jx_cd 20 9 = some (o_zret) := rfl
theorem c_20_10 : jx_cd 20 10 = some (o_ald 0 1) := rfl
theorem c_20_11 : jx_cd 20 11 = some (o_getf 2 0) := rfl
theorem c_20_14 : jx_cd 20 14 = some (o_ild 3 1) := rfl
theorem c_20_15 : jx_cd 20 15 = some (o_iald) := rfl
theorem c_20_16 : jx_cd 20 16 = some (o_ild 4 2) := rfl
theorem c_20_18 : jx_cd 20 18 = some (o_bin fun x y => x &&& y) := rfl
theorem c_20_19 : jx_cd 20 19 = some (o_ist 5 2) := rfl
theorem c_20_21 : jx_cd 20 21 = some (o_push (.int 0) 1) := rfl
theorem c_20_22 : jx_cd 20 22 = some (o_ist 6 2) := rfl
theorem c_20_24 : jx_cd 20 24 = some (o_ild 6 2) := rfl
theorem c_20_26 : jx_cd 20 26 = some (o_ild 3 1) := rfl
theorem c_20_27 : jx_cd 20 27 = some (o_ige 68) := rfl
theorem c_20_30 : jx_cd 20 30 = some (o_ald 1 1) := rfl
theorem c_20_31 : jx_cd 20 31 = some (o_ild 3 1) := rfl
theorem c_20_32 : jx_cd 20 32 = some (o_ild 6 2) := rfl
theorem c_20_34 : jx_cd 20 34 = some (o_callv 0 4 2) := rfl
theorem c_20_37 : jx_cd 20 37 = some (o_ist 7 2) := rfl
theorem c_20_39 : jx_cd 20 39 = some (o_ild 7 2) := rfl
theorem c_20_41 : jx_cd 20 41 = some (o_ifeq 62) := rfl
theorem c_20_44 : jx_cd 20 44 = some (o_ild 5 2) := rfl
theorem c_20_46 : jx_cd 20 46 = some (o_ald 2 1) := rfl
theorem c_20_47 : jx_cd 20 47 = some (o_ald 0 1) := rfl
theorem c_20_48 : jx_cd 20 48 = some (o_getf 2 1) := rfl
theorem c_20_51 : jx_cd 20 51 = some (o_ild 6 2) := rfl
theorem c_20_53 : jx_cd 20 53 = some (o_iald) := rfl
theorem c_20_54 : jx_cd 20 54 = some (o_ild 7 2) := rfl
theorem c_20_56 : jx_cd 20 56 = some (o_callv 0 10 2) := rfl
theorem c_20_59 : jx_cd 20 59 = some (o_bin fun x y => x &&& y) := rfl
theorem c_20_60 : jx_cd 20 60 = some (o_ist 5 2) := rfl
theorem c_20_62 : jx_cd 20 62 = some (o_iinc 6 1) := rfl
theorem c_20_65 : jx_cd 20 65 = some (o_goto 24) := rfl
theorem c_20_68 : jx_cd 20 68 = some (o_push (.int 0) 1) := rfl
theorem c_20_69 : jx_cd 20 69 = some (o_ist 6 2) := rfl
theorem c_20_71 : jx_cd 20 71 = some (o_ild 6 2) := rfl
theorem c_20_73 : jx_cd 20 73 = some (o_ald 2 1) := rfl
theorem c_20_74 : jx_cd 20 74 = some (o_getf 0 3) := rfl
theorem c_20_77 : jx_cd 20 77 = some (o_ige 127) := rfl
theorem c_20_80 : jx_cd 20 80 = some (o_ild 5 2) := rfl
theorem c_20_82 : jx_cd 20 82 = some (o_ild 6 2) := rfl
theorem c_20_84 : jx_cd 20 84 = some (o_bin fun x y => x >>> (y &&& 31)) := rfl
theorem c_20_85 : jx_cd 20 85 = some (o_push (.int 1) 1) := rfl
theorem c_20_86 : jx_cd 20 86 = some (o_bin fun x y => x &&& y) := rfl
theorem c_20_87 : jx_cd 20 87 = some (o_ifeq 121) := rfl
theorem c_20_90 : jx_cd 20 90 = some (o_ald 0 1) := rfl
theorem c_20_91 : jx_cd 20 91 = some (o_getf 2 1) := rfl
theorem c_20_94 : jx_cd 20 94 = some (o_ild 3 1) := rfl
theorem c_20_95 : jx_cd 20 95 = some (o_ild 6 2) := rfl
theorem c_20_97 : jx_cd 20 97 = some (o_iast) := rfl
theorem c_20_98 : jx_cd 20 98 = some (o_ald 0 1) := rfl
theorem c_20_99 : jx_cd 20 99 = some (o_ald 1 1) := rfl
theorem c_20_100 : jx_cd 20 100 = some (o_ald 2 1) := rfl
theorem c_20_101 : jx_cd 20 101 = some (o_ild 3 1) := rfl
theorem c_20_102 : jx_cd 20 102 = some (o_push (.int 1) 1) := rfl
theorem c_20_103 : jx_cd 20 103 = some (o_bin fun x y => x + y) := rfl
theorem c_20_104 : jx_cd 20 104 = some (o_ild 4 2) := rfl
theorem c_20_106 : jx_cd 20 106 = some (o_push (.int 1) 1) := rfl
theorem c_20_107 : jx_cd 20 107 = some (o_ild 6 2) := rfl
theorem c_20_109 : jx_cd 20 109 = some (o_bin fun x y => x <<< (y &&& 31)) := rfl
theorem c_20_110 : jx_cd 20 110 = some (o_push (.int (-1)) 1) := rfl
theorem c_20_111 : jx_cd 20 111 = some (o_bin fun x y => x ^^^ y) := rfl
theorem c_20_112 : jx_cd 20 112 = some (o_bin fun x y => x &&& y) := rfl
theorem c_20_113 : jx_cd 20 113 = some (o_callv 2 20 4) := rfl
theorem c_20_116 : jx_cd 20 116 = some (o_ifeq 121) := rfl
theorem c_20_119 : jx_cd 20 119 = some (o_push (.int 1) 1) := rfl
theorem c_20_120 : jx_cd 20 120 = some (o_zret) := rfl
theorem c_20_121 : jx_cd 20 121 = some (o_iinc 6 1) := rfl
theorem c_20_124 : jx_cd 20 124 = some (o_goto 71) := rfl
theorem c_20_127 : jx_cd 20 127 = some (o_push (.int 0) 1) := rfl
theorem c_20_128 : jx_cd 20 128 = some (o_zret) := rfl
def sp_mask (ks nr' pl : Nat → Nat) (a : Nat) : Nat → Nat → Nat → Nat
  | 0, _, s => s
  | k + 1, i, s => sp_mask ks nr' pl a k (i + 1) (if ks (a * 10 + i) = 0 then s else s &&& nr' (ks (a * 10 + i) * 10 + pl i))
/-- whether the atoms from a on can be placed on the free ones -/
def sp_pc (n n' : Nat) (ch ks nr' : Nat → Nat) : Nat → Nat → Nat → (Nat → Nat) → Bool
  | 0, _, _, _ => true
  | f + 1, a, fr, pl => if a < n then sp_any (fun b => (sp_mask ks nr' pl a a 0 (ch a &&& fr)).testBit b && sp_pc n n' ch ks nr' f (a + 1) (sp_del fr b) (nu pl a b)) n' 0 else true
theorem sp_mask_c {ks nr' pl pl' : Nat → Nat} {a : Nat} (h : ∀ j, j < a → pl j = pl' j) : ∀ {k i s : Nat}, i + k ≤ a → sp_mask ks nr' pl a k i s = sp_mask ks nr' pl' a k i s := by
  intro k
  induction k with
  | zero => intro i s _; rfl
  | succ k ih =>
    intro i s hi
    rw [sp_mask, sp_mask, h i (by omega)]
    exact ih (by omega)
theorem sp_mask_lt {ks nr' pl : Nat → Nat} {a : Nat} : ∀ {k i s : Nat}, s < 1024 → sp_mask ks nr' pl a k i s < 1024 := by
  intro k
  induction k with
  | zero => intro i s hs; exact hs
  | succ k ih =>
    intro i s hs
    rw [sp_mask]
    refine ih ?_
    split
    · exact hs
    · exact Nat.lt_of_le_of_lt Nat.and_le_left hs
theorem sp_any_c {p q : Nat → Bool} (h : ∀ b, p b = q b) : ∀ {k b : Nat}, sp_any p k b = sp_any q k b := by
  intro k
  induction k with
  | zero => intro b; rfl
  | succ k ih => intro b; rw [sp_any, sp_any, h b, ih]
theorem sp_pc_c {n n' : Nat} {ch ks nr' : Nat → Nat} : ∀ {f a fr : Nat} {pl pl' : Nat → Nat}, (∀ j, j < a → pl j = pl' j) → sp_pc n n' ch ks nr' f a fr pl = sp_pc n n' ch ks nr' f a fr pl' := by
  intro f
  induction f with
  | zero => intro a fr pl pl' _; rfl
  | succ f ih =>
    intro a fr pl pl' h
    rw [sp_pc, sp_pc]
    split
    · refine sp_any_c fun b => ?_
      rw [sp_mask_c h (by omega), ih (pl := nu pl a b) (pl' := nu pl' a b) ?_]
      intro j hj
      unfold nu
      split
      · rfl
      · exact h j (by omega)
    · rfl
def jPl (M : jx_M) (n bc : Nat) (cs ks nr : Nat → Nat) (h n' bc' : Nat) (cs' ks' nr' ch : Nat → Nat) : Prop := jg M 28 n bc cs ks nr ∧ jg M h n' bc' cs' ks' nr' ∧ M.1 32 = tO ∧ M.1 33 = .inl (0, 10, .inl (ja ch))
theorem jPl_w {M : jx_M} {n bc : Nat} {cs ks nr : Nat → Nat} {h n' bc' : Nat} {cs' ks' nr' ch : Nat → Nat} {c : jx_C} (hh34 : 34 < h) (H : jPl M n bc cs ks nr h n' bc' cs' ks' nr' ch) : jPl (jm [(34, c)] M) n bc cs ks nr h n' bc' cs' ks' nr' ch := by
  obtain ⟨hg, hh, h32, h33⟩ := H
  have hs0 : ∀ k, k ≠ 34 → (jm [(34, c)] M).1 k = M.1 k := fun k hk => if_neg hk
  exact ⟨⟨(hs0 _ (by decide)).trans hg.1, (hs0 _ (by decide)).trans hg.2.1, (hs0 _ (by decide)).trans hg.2.2.1, (hs0 _ (by decide)).trans hg.2.2.2⟩, ⟨(hs0 _ (by omega)).trans hh.1, (hs0 _ (by omega)).trans hh.2.1, (hs0 _ (by omega)).trans hh.2.2.1, (hs0 _ (by omega)).trans hh.2.2.2⟩, (hs0 _ (by decide)).trans h32, (hs0 _ (by decide)).trans h33⟩
theorem t_mask {n bc : Nat} {cs ks nr : Nat → Nat} {h n' bc' : Nat} {cs' ks' nr' ch : Nat → Nat} (hn : n ≤ 10) (hn' : n' ≤ 10) (hks : ∀ j, ks j < 6) (hb' : ∀ j, nr' j < 1024) (hch : ∀ j, j < n → ch j < 1024) (hh34 : 34 < h) {d a fr : Nat} {pl : Nat → Nat} {M : jx_M} (H : jPl M n bc cs ks nr h n' bc' cs' ks' nr' ch) (h34 : M.1 34 = .inl (0, 10, .inl (ja pl))) (hpl : ∀ j, pl j < 10) (ha : a < 10) {post : jx_R → jx_M → Prop} : ∀ {k i s : Nat} {z7 : Option Value}, i + k = a → (∀ z, jZ (d + 1) 20 68 [some (.ref 32), some (.ref 28), some (.ref h), some (.int (jn a)), some (.int (jn fr)), some (.int (jn (sp_mask ks nr' pl a k i s))), some (.int (jn a)), z] [] M post) → jZ (d + 1) 20 24 [some (.ref 32), some (.ref 28), some (.ref h), some (.int (jn a)), some (.int (jn fr)), some (.int (jn s)), some (.int (jn i)), z7] [] M post := by
  intro k
  induction k with
  | zero =>
    intro i s z7 hk kk
    refine z_go 26 _ [.int (jn i)] _ c_20_24 rfl ?_
    refine z_go 27 _ [.int (jn a), .int (jn i)] _ c_20_26 rfl ?_
    refine z_ige 68 30 c_20_27 rfl (by omega) (by omega) (fun h1 => ?_) (fun h1 => ?_)
    · omega
    · obtain rfl : i = a := by omega
      exact kk _
  | succ k ih =>
    intro i s z7 hk kk
    refine z_go 26 _ [.int (jn i)] _ c_20_24 rfl ?_
    refine z_go 27 _ [.int (jn a), .int (jn i)] _ c_20_26 rfl ?_
    refine z_ige 68 30 c_20_27 rfl (by omega) (by omega) (fun h1 => ?_) (fun h1 => ?_)
    · have hki := hks (a * 10 + i)
      have hpi := hpl i
      refine z_go 31 _ [.ref 28] _ c_20_30 rfl ?_
      refine z_go 32 _ [.int (jn a), .ref 28] _ c_20_31 rfl ?_
      refine z_go 34 _ [.int (jn i), .int (jn a), .ref 28] _ c_20_32 rfl ?_
      refine z_callv 37 0 4 2 28 c_20_34 rfl ⟨Nat.le_of_ble_eq_true rfl, Nat.le_of_ble_eq_true rfl⟩ rfl H.1.1 [.ref 28, .int (jn a), .int (jn i)] rfl rfl [some (.ref 28), some (.int (jn a)), some (.int (jn i))] rfl rfl (t_kind H.1 (by omega)) ?_
      show jZ _ _ _ _ [.int (jn (ks (a * 10 + i)))] _ _
      refine z_go 39 [some (.ref 32), some (.ref 28), some (.ref h), some (.int (jn a)), some (.int (jn fr)), some (.int (jn s)), some (.int (jn i)), some (.int (jn (ks (a * 10 + i))))] [] _ c_20_37 rfl ?_
      refine z_go 41 _ [.int (jn (ks (a * 10 + i)))] _ c_20_39 rfl ?_
      refine z_ifeq 62 44 c_20_41 rfl (jn_z (by omega)) (fun h2 => ?_) (fun h2 => ?_)
      · refine z_iinc 65 [some (.ref 32), some (.ref 28), some (.ref h), some (.int (jn a)), some (.int (jn fr)), some (.int (jn s)), some (.int (jn (i + 1))), some (.int (jn (ks (a * 10 + i))))] c_20_62 rfl rfl (jn_add _ _) rfl ?_
        refine z_go 24 _ [] _ c_20_65 rfl ?_
        refine ih (i := i + 1) (s := s) (by omega) fun z => ?_
        have kk := kk z
        rw [sp_mask, if_pos h2] at kk
        exact kk
      · refine z_go 46 _ [.int (jn s)] _ c_20_44 rfl ?_
        refine z_go 47 _ [.ref h, .int (jn s)] _ c_20_46 rfl ?_
        refine z_go 48 _ [.ref 32, .ref h, .int (jn s)] _ c_20_47 rfl ?_
        refine z_getf (v := .ref 34) 51 c_20_48 rfl H.2.2.1 rfl ?_
        refine z_go 53 _ [.int (jn i), .ref 34, .ref h, .int (jn s)] _ c_20_51 rfl ?_
        refine z_iald 54 c_20_53 rfl h34 (Or.inl rfl) (by omega) (by omega) ?_
        show jZ _ _ _ _ ([.int (jn (pl i)), .ref h, .int (jn s)]) _ _
        refine z_go 56 _ [.int (jn (ks (a * 10 + i))), .int (jn (pl i)), .ref h, .int (jn s)] _ c_20_54 rfl ?_
        refine z_callv 59 0 10 2 h c_20_56 rfl ⟨Nat.le_of_ble_eq_true rfl, Nat.le_of_ble_eq_true rfl⟩ rfl H.2.1.1 [.ref h, .int (jn (pl i)), .int (jn (ks (a * 10 + i)))] rfl rfl [some (.ref h), some (.int (jn (pl i))), some (.int (jn (ks (a * 10 + i))))] rfl rfl (t_bound H.2.1 (by omega)) ?_
        show jZ _ _ _ _ [.int (jn (nr' (ks (a * 10 + i) * 10 + pl i))), .int (jn s)] _ _
        refine z_go 60 _ [.int ((jn s) &&& (jn (nr' (ks (a * 10 + i) * 10 + pl i))))] _ c_20_59 rfl ?_
        refine z_v (jn_and _ _) ?_
        refine z_go 62 [some (.ref 32), some (.ref 28), some (.ref h), some (.int (jn a)), some (.int (jn fr)), some (.int (jn (s &&& (nr' (ks (a * 10 + i) * 10 + pl i))))), some (.int (jn i)), some (.int (jn (ks (a * 10 + i))))] [] _ c_20_60 rfl ?_
        refine z_iinc 65 [some (.ref 32), some (.ref 28), some (.ref h), some (.int (jn a)), some (.int (jn fr)), some (.int (jn (s &&& (nr' (ks (a * 10 + i) * 10 + pl i))))), some (.int (jn (i + 1))), some (.int (jn (ks (a * 10 + i))))] c_20_62 rfl rfl (jn_add _ _) rfl ?_
        refine z_go 24 _ [] _ c_20_65 rfl ?_
        refine ih (i := i + 1) (s := s &&& nr' (ks (a * 10 + i) * 10 + pl i)) (by omega) fun z => ?_
        have kk := kk z
        rw [sp_mask, if_neg h2] at kk
        exact kk
    · omega
theorem t_pc {n bc : Nat} {cs ks nr : Nat → Nat} {h n' bc' : Nat} {cs' ks' nr' ch : Nat → Nat} (hn : n ≤ 10) (hn' : n' ≤ 10) (hks : ∀ j, ks j < 6) (hb' : ∀ j, nr' j < 1024) (hch : ∀ j, j < n → ch j < 1024) (hh34 : 34 < h) : ∀ {f a fr d : Nat} {pl : Nat → Nat} {M : jx_M}, n ≤ a + f → a ≤ 10 → fr < 1024 → jPl M n bc cs ks nr h n' bc' cs' ks' nr' ch → M.1 34 = .inl (0, 10, .inl (ja pl)) → (∀ j, pl j < 10) → jZ (d + f) 20 0 [some (.ref 32), some (.ref 28), some (.ref h), some (.int (jn a)), some (.int (jn fr)), none, none, none] [] M (jV (some (.int (jb (sp_pc n n' ch ks nr' f a fr pl)))) fun M' => ∃ pl', M' = jm [(34, .inl (0, 10, .inl (ja pl')))] M ∧ (∀ j, j < a → pl' j = pl j) ∧ ∀ j, pl' j < 10) := by
  intro f
  induction f with
  | zero =>
    intro a fr d pl M hf ha hfr H h34 hpl
    refine z_go 1 _ [.int (jn a)] _ c_20_0 rfl ?_
    refine z_go 2 _ [.ref 28, .int (jn a)] _ c_20_1 rfl ?_
    refine z_getf (v := .int (jn n)) 5 c_20_2 rfl H.1.1 rfl ?_
    refine z_ilt 10 8 c_20_5 rfl (by omega) (by omega) (fun h1 => ?_) (fun h1 => ?_)
    · omega
    · refine z_go 9 _ [.int (jn 1)] _ c_20_8 rfl ?_
      refine z_zret (b := true) c_20_9 ?_
      exact ⟨rfl, pl, (jx_st_id h34).symm, fun _ _ => rfl, hpl⟩
  | succ f ih =>
    intro a fr d pl M hf ha hfr H h34 hpl
    refine z_go 1 _ [.int (jn a)] _ c_20_0 rfl ?_
    refine z_go 2 _ [.ref 28, .int (jn a)] _ c_20_1 rfl ?_
    refine z_getf (v := .int (jn n)) 5 c_20_2 rfl H.1.1 rfl ?_
    refine z_ilt 10 8 c_20_5 rfl (by omega) (by omega) (fun h1 => ?_) (fun h1 => ?_)
    · have hca := hch a h1
      have hsf : ch a &&& fr < 1024 := Nat.lt_of_le_of_lt Nat.and_le_right hfr
      refine z_go 11 _ [.ref 32] _ c_20_10 rfl ?_
      refine z_getf (v := .ref 33) 14 c_20_11 rfl H.2.2.1 rfl ?_
      refine z_go 15 _ [.int (jn a), .ref 33] _ c_20_14 rfl ?_
      refine z_iald 16 c_20_15 rfl H.2.2.2 (Or.inl rfl) (by omega) (by omega) ?_
      show jZ _ _ _ _ ([.int (jn (ch a))]) _ _
      refine z_go 18 _ [.int (jn fr), .int (jn (ch a))] _ c_20_16 rfl ?_
      refine z_go 19 _ [.int ((jn (ch a)) &&& (jn fr))] _ c_20_18 rfl ?_
      refine z_v (jn_and _ _) ?_
      refine z_go 21 [some (.ref 32), some (.ref 28), some (.ref h), some (.int (jn a)), some (.int (jn fr)), some (.int (jn ((ch a) &&& fr))), none, none] [] _ c_20_19 rfl ?_
      refine z_go 22 _ [.int (jn 0)] _ c_20_21 rfl ?_
      refine z_go 24 [some (.ref 32), some (.ref 28), some (.ref h), some (.int (jn a)), some (.int (jn fr)), some (.int (jn ((ch a) &&& fr))), some (.int (jn 0)), none] [] _ c_20_22 rfl ?_
      refine t_mask hn hn' hks hb' hch hh34 (d := d + f) H h34 hpl (by omega) (k := a) (i := 0) (by omega) fun z => ?_
      have hS : sp_mask ks nr' pl a a 0 (ch a &&& fr) < 1024 := sp_mask_lt hsf
      skip
      refine z_go 69 _ [.int (jn 0)] _ c_20_68 rfl ?_
      refine z_go 71 [some (.ref 32), some (.ref 28), some (.ref h), some (.int (jn a)), some (.int (jn fr)), some (.int (jn (sp_mask ks nr' pl a a 0 (ch a &&& fr)))), some (.int (jn 0)), z] [] _ c_20_69 rfl ?_
      have loop : ∀ k b (z : Option Value) (pc : Nat → Nat) (M1 : jx_M), b + k = n' → jPl M1 n bc cs ks nr h n' bc' cs' ks' nr' ch → M1.1 34 = .inl (0, 10, .inl (ja pc)) → (∀ j, j < a → pc j = pl j) → (∀ j, pc j < 10) → jZ (d + f + 1) 20 71 [some (.ref 32), some (.ref 28), some (.ref h), some (.int (jn a)), some (.int (jn fr)), some (.int (jn (sp_mask ks nr' pl a a 0 (ch a &&& fr)))), some (.int (jn b)), z] [] M1 (jV (some (.int (jb (sp_any (fun b => (sp_mask ks nr' pl a a 0 (ch a &&& fr)).testBit b && sp_pc n n' ch ks nr' f (a + 1) (sp_del fr b) (nu pl a b)) k b)))) fun M' => ∃ pl', M' = jm [(34, .inl (0, 10, .inl (ja pl')))] M1 ∧ (∀ j, j < a → pl' j = pl j) ∧ ∀ j, pl' j < 10) := by
        intro k
        induction k with
        | zero =>
          intro b z pc M1 hk H1 h34 hag hpc
          refine z_go 73 _ [.int (jn b)] _ c_20_71 rfl ?_
          refine z_go 74 _ [.ref h, .int (jn b)] _ c_20_73 rfl ?_
          refine z_getf (v := .int (jn n')) 77 c_20_74 rfl H1.2.1.1 rfl ?_
          refine z_ige 127 80 c_20_77 rfl (by omega) (by omega) (fun h3 => ?_) (fun h3 => ?_)
          · omega
          · refine z_go 128 _ [.int (jn 0)] _ c_20_127 rfl ?_
            refine z_zret (b := false) c_20_128 ?_
            exact ⟨rfl, pc, (jx_st_id h34).symm, hag, hpc⟩
        | succ k ihk =>
          intro b z pc M1 hk H1 h34 hag hpc
          refine z_go 73 _ [.int (jn b)] _ c_20_71 rfl ?_
          refine z_go 74 _ [.ref h, .int (jn b)] _ c_20_73 rfl ?_
          refine z_getf (v := .int (jn n')) 77 c_20_74 rfl H1.2.1.1 rfl ?_
          refine z_ige 127 80 c_20_77 rfl (by omega) (by omega) (fun h3 => ?_) (fun h3 => ?_)
          · refine z_go 82 _ [.int (jn (sp_mask ks nr' pl a a 0 (ch a &&& fr)))] _ c_20_80 rfl ?_
            refine z_go 84 _ [.int (jn b), .int (jn (sp_mask ks nr' pl a a 0 (ch a &&& fr)))] _ c_20_82 rfl ?_
            refine z_go 85 _ [.int ((fun x y : Int32 => x >>> (y &&& 31)) (jn (sp_mask ks nr' pl a a 0 (ch a &&& fr))) (jn b))] _ c_20_84 rfl ?_
            refine z_go 86 _ [.int (jn 1), .int ((fun x y : Int32 => x >>> (y &&& 31)) (jn (sp_mask ks nr' pl a a 0 (ch a &&& fr))) (jn b))] _ c_20_85 rfl ?_
            refine z_go 87 _ [.int ((((fun x y : Int32 => x >>> (y &&& 31)) (jn (sp_mask ks nr' pl a a 0 (ch a &&& fr))) (jn b))) &&& (jn 1))] _ c_20_86 rfl ?_
            refine z_v (jn_bit _ hS b (by omega)) ?_
            refine z_ifeq 121 90 c_20_87 rfl jb_t (fun h4 => ?_) (fun h4 => ?_)
            · refine z_iinc 124 [some (.ref 32), some (.ref 28), some (.ref h), some (.int (jn a)), some (.int (jn fr)), some (.int (jn (sp_mask ks nr' pl a a 0 (ch a &&& fr)))), some (.int (jn (b + 1))), z] c_20_121 rfl rfl (jn_add _ _) rfl ?_
              refine z_go 71 _ [] _ c_20_124 rfl ?_
              have e1 : sp_any (fun b => (sp_mask ks nr' pl a a 0 (ch a &&& fr)).testBit b && sp_pc n n' ch ks nr' f (a + 1) (sp_del fr b) (nu pl a b)) (k + 1) b = sp_any (fun b => (sp_mask ks nr' pl a a 0 (ch a &&& fr)).testBit b && sp_pc n n' ch ks nr' f (a + 1) (sp_del fr b) (nu pl a b)) k (b + 1) := by rw [sp_any, if_neg (by simp [h4])]
              rw [e1]
              exact ihk (b + 1) _ pc M1 (by omega) H1 h34 hag hpc
            · have h4 : (sp_mask ks nr' pl a a 0 (ch a &&& fr)).testBit b = true := by simpa using h4
              have hd2 := sp_del_le fr b
              refine z_go 91 _ [.ref 32] _ c_20_90 rfl ?_
              refine z_getf (v := .ref 34) 94 c_20_91 rfl H1.2.2.1 rfl ?_
              refine z_go 95 _ [.int (jn a), .ref 34] _ c_20_94 rfl ?_
              refine z_go 97 _ [.int (jn b), .int (jn a), .ref 34] _ c_20_95 rfl ?_
              refine z_iast (M' := jm [(34, .inl (0, 10, .inl (ja (nu pc a b))))] M1) 98 c_20_97 rfl h34 (by omega) (by omega) (by rw [ja_upd]; exact rfl) ?_
              refine z_go 99 _ [.ref 32] _ c_20_98 rfl ?_
              refine z_go 100 _ [.ref 28, .ref 32] _ c_20_99 rfl ?_
              refine z_go 101 _ [.ref h, .ref 28, .ref 32] _ c_20_100 rfl ?_
              refine z_go 102 _ [.int (jn a), .ref h, .ref 28, .ref 32] _ c_20_101 rfl ?_
              refine z_go 103 _ [.int (jn 1), .int (jn a), .ref h, .ref 28, .ref 32] _ c_20_102 rfl ?_
              refine z_go 104 _ [.int ((jn a) + (jn 1)), .ref h, .ref 28, .ref 32] _ c_20_103 rfl ?_
              refine z_v (jn_add _ _) ?_
              refine z_go 106 _ [.int (jn fr), .int (jn (a + 1)), .ref h, .ref 28, .ref 32] _ c_20_104 rfl ?_
              refine z_go 107 _ [.int (jn 1), .int (jn fr), .int (jn (a + 1)), .ref h, .ref 28, .ref 32] _ c_20_106 rfl ?_
              refine z_go 109 _ [.int (jn b), .int (jn 1), .int (jn fr), .int (jn (a + 1)), .ref h, .ref 28, .ref 32] _ c_20_107 rfl ?_
              refine z_go 110 _ [.int ((fun x y : Int32 => x <<< (y &&& 31)) (jn 1) (jn b)), .int (jn fr), .int (jn (a + 1)), .ref h, .ref 28, .ref 32] _ c_20_109 rfl ?_
              refine z_go 111 _ [.int (jo none), .int ((fun x y : Int32 => x <<< (y &&& 31)) (jn 1) (jn b)), .int (jn fr), .int (jn (a + 1)), .ref h, .ref 28, .ref 32] _ c_20_110 rfl ?_
              refine z_go 112 _ [.int ((((fun x y : Int32 => x <<< (y &&& 31)) (jn 1) (jn b))) ^^^ (jo none)), .int (jn fr), .int (jn (a + 1)), .ref h, .ref 28, .ref 32] _ c_20_111 rfl ?_
              refine z_go 113 _ [.int ((jn fr) &&& (((((fun x y : Int32 => x <<< (y &&& 31)) (jn 1) (jn b))) ^^^ (jo none)))), .int (jn (a + 1)), .ref h, .ref 28, .ref 32] _ c_20_112 rfl ?_
              refine z_v (jn_del _ hfr b (by omega)) ?_
              have hag2 : ∀ j, j < a + 1 → nu pc a b j = nu pl a b j := fun j hj => by unfold nu; split; rfl; exact hag j (by omega)
              have hrec := ih (a := a + 1) (fr := sp_del fr b) (pl := nu pc a b) (d := d) (M := jm [(34, .inl (0, 10, .inl (ja (nu pc a b))))] M1) (by omega) (by omega) (by omega) (jPl_w hh34 H1) jhit (nu_lt hpc (by omega))
              rw [sp_pc_c (pl' := nu pl a b) hag2] at hrec
              refine z_callvV 116 2 20 4 32 c_20_113 rfl ⟨Nat.le_of_ble_eq_true rfl, Nat.le_of_ble_eq_true rfl⟩ rfl (jne (by omega) H1.2.2.1) [.ref 32, .ref 28, .ref h, .int (jn (a + 1)), .int (jn (sp_del fr b))] rfl rfl [some (.ref 32), some (.ref 28), some (.ref h), some (.int (jn (a + 1))), some (.int (jn (sp_del fr b))), none, none, none] rfl rfl (hrec) ?_
              intro M3 ⟨pl3, hM3, hag3, hpl3⟩
              show jZ _ _ _ _ [.int (jb (sp_pc n n' ch ks nr' f (a + 1) (sp_del fr b) (nu pl a b)))] _ _
              have hag4 : ∀ j, j < a → pl3 j = pl j := fun j hj => by rw [hag3 j (by omega), hag2 j (by omega), nu, if_neg (by omega)]
              have hM3' : M3 = jm [(34, .inl (0, 10, .inl (ja pl3)))] M1 := hM3.trans (jx_st_st _ _ _ _)
              refine z_ifeq 121 119 c_20_116 rfl jb_t (fun h5 => ?_) (fun h5 => ?_)
              · refine z_iinc 124 [some (.ref 32), some (.ref 28), some (.ref h), some (.int (jn a)), some (.int (jn fr)), some (.int (jn (sp_mask ks nr' pl a a 0 (ch a &&& fr)))), some (.int (jn (b + 1))), z] c_20_121 rfl rfl (jn_add _ _) rfl ?_
                refine z_go 71 _ [] _ c_20_124 rfl ?_
                have e1 : sp_any (fun b => (sp_mask ks nr' pl a a 0 (ch a &&& fr)).testBit b && sp_pc n n' ch ks nr' f (a + 1) (sp_del fr b) (nu pl a b)) (k + 1) b = sp_any (fun b => (sp_mask ks nr' pl a a 0 (ch a &&& fr)).testBit b && sp_pc n n' ch ks nr' f (a + 1) (sp_del fr b) (nu pl a b)) k (b + 1) := by rw [sp_any, if_neg (by simp [h5])]
                rw [e1]
                subst hM3'
                exact (ihk (b + 1) _ pl3 _ (by omega) (jPl_w hh34 H1) jhit hag4 hpl3).mono fun r M9 q => ⟨q.1, by obtain ⟨pl9, q1, q2⟩ := q.2; exact ⟨pl9, q1.trans (jx_st_st _ _ _ _), q2⟩⟩
              · refine z_go 120 _ [.int (jn 1)] _ c_20_119 rfl ?_
                refine z_zret (b := true) c_20_120 ?_
                exact ⟨by rw [sp_any, if_pos (by simp [h4, h5])], pl3, hM3', hag4, hpl3⟩
          · omega
      refine (loop n' 0 z pl M (by omega) H h34 (fun _ _ => rfl) hpl).mono fun r M1 q => ⟨q.1.trans ?_, q.2⟩
      rw [sp_pc, if_pos h1]
    · refine z_go 9 _ [.int (jn 1)] _ c_20_8 rfl ?_
      refine z_zret (b := true) c_20_9 ?_
      exact ⟨by rw [sp_pc, if_neg h1], pl, (jx_st_id h34).symm, fun _ _ => rfl, hpl⟩
