/-! THE CHEMISTRY: canPair; printed by wip/whole/p52.py -/
theorem c_116_0 : jx_cd 116 0 = some (o_ild 1 1) := rfl
theorem c_116_1 : jx_cd 116 1 = some (o_ald 0 1) := rfl
theorem c_116_2 : jx_cd 116 2 = some (o_getf 0 3) := rfl
theorem c_116_5 : jx_cd 116 5 = some (o_ilt 10) := rfl
theorem c_116_8 : jx_cd 116 8 = some (o_push (.int 1) 1) := rfl
theorem c_116_9 : jx_cd 116 9 = some (o_zret) := rfl
theorem c_116_10 : jx_cd 116 10 = some (o_ild 2 1) := rfl
theorem c_116_11 : jx_cd 116 11 = some (o_ild 1 1) := rfl
theorem c_116_12 : jx_cd 116 12 = some (o_bin fun x y => x >>> (y &&& 31)) := rfl
theorem c_116_13 : jx_cd 116 13 = some (o_push (.int 1) 1) := rfl
theorem c_116_14 : jx_cd 116 14 = some (o_bin fun x y => x &&& y) := rfl
theorem c_116_15 : jx_cd 116 15 = some (o_ifne 27) := rfl
theorem c_116_18 : jx_cd 116 18 = some (o_ald 0 1) := rfl
theorem c_116_19 : jx_cd 116 19 = some (o_ild 1 1) := rfl
theorem c_116_20 : jx_cd 116 20 = some (o_push (.int 1) 1) := rfl
theorem c_116_21 : jx_cd 116 21 = some (o_bin fun x y => x + y) := rfl
theorem c_116_22 : jx_cd 116 22 = some (o_ild 2 1) := rfl
theorem c_116_23 : jx_cd 116 23 = some (o_call 116 3) := rfl
theorem c_116_26 : jx_cd 116 26 = some (o_zret) := rfl
theorem c_116_27 : jx_cd 116 27 = some (o_ild 2 1) := rfl
theorem c_116_28 : jx_cd 116 28 = some (o_push (.int 1) 1) := rfl
theorem c_116_29 : jx_cd 116 29 = some (o_ild 1 1) := rfl
theorem c_116_30 : jx_cd 116 30 = some (o_bin fun x y => x <<< (y &&& 31)) := rfl
theorem c_116_31 : jx_cd 116 31 = some (o_push (.int (-1)) 1) := rfl
theorem c_116_32 : jx_cd 116 32 = some (o_bin fun x y => x ^^^ y) := rfl
theorem c_116_33 : jx_cd 116 33 = some (o_bin fun x y => x &&& y) := rfl
theorem c_116_34 : jx_cd 116 34 = some (o_ist 3 1) := rfl
theorem c_116_35 : jx_cd 116 35 = some (o_ild 3 1) := rfl
theorem c_116_36 : jx_cd 116 36 = some (o_ald 0 1) := rfl
theorem c_116_37 : jx_cd 116 37 = some (o_ild 1 1) := rfl
theorem c_116_38 : jx_cd 116 38 = some (o_push (.int 4) 1) := rfl
theorem c_116_39 : jx_cd 116 39 = some (o_callv 0 10 2) := rfl
theorem c_116_42 : jx_cd 116 42 = some (o_bin fun x y => x &&& y) := rfl
theorem c_116_43 : jx_cd 116 43 = some (o_ist 4 2) := rfl
theorem c_116_45 : jx_cd 116 45 = some (o_ild 1 1) := rfl
theorem c_116_46 : jx_cd 116 46 = some (o_push (.int 1) 1) := rfl
theorem c_116_47 : jx_cd 116 47 = some (o_bin fun x y => x + y) := rfl
theorem c_116_48 : jx_cd 116 48 = some (o_ist 5 2) := rfl
theorem c_116_50 : jx_cd 116 50 = some (o_ild 5 2) := rfl
theorem c_116_52 : jx_cd 116 52 = some (o_ald 0 1) := rfl
theorem c_116_53 : jx_cd 116 53 = some (o_getf 0 3) := rfl
theorem c_116_56 : jx_cd 116 56 = some (o_ige 95) := rfl
theorem c_116_59 : jx_cd 116 59 = some (o_ild 4 2) := rfl
theorem c_116_61 : jx_cd 116 61 = some (o_ild 5 2) := rfl
theorem c_116_63 : jx_cd 116 63 = some (o_bin fun x y => x >>> (y &&& 31)) := rfl
theorem c_116_64 : jx_cd 116 64 = some (o_push (.int 1) 1) := rfl
theorem c_116_65 : jx_cd 116 65 = some (o_bin fun x y => x &&& y) := rfl
theorem c_116_66 : jx_cd 116 66 = some (o_ifeq 89) := rfl
theorem c_116_69 : jx_cd 116 69 = some (o_ald 0 1) := rfl
theorem c_116_70 : jx_cd 116 70 = some (o_ild 1 1) := rfl
theorem c_116_71 : jx_cd 116 71 = some (o_push (.int 1) 1) := rfl
theorem c_116_72 : jx_cd 116 72 = some (o_bin fun x y => x + y) := rfl
theorem c_116_73 : jx_cd 116 73 = some (o_ild 3 1) := rfl
theorem c_116_74 : jx_cd 116 74 = some (o_push (.int 1) 1) := rfl
theorem c_116_75 : jx_cd 116 75 = some (o_ild 5 2) := rfl
theorem c_116_77 : jx_cd 116 77 = some (o_bin fun x y => x <<< (y &&& 31)) := rfl
theorem c_116_78 : jx_cd 116 78 = some (o_push (.int (-1)) 1) := rfl
theorem c_116_79 : jx_cd 116 79 = some (o_bin fun x y => x ^^^ y) := rfl
theorem c_116_80 : jx_cd 116 80 = some (o_bin fun x y => x &&& y) := rfl
theorem c_116_81 : jx_cd 116 81 = some (o_call 116 3) := rfl
theorem c_116_84 : jx_cd 116 84 = some (o_ifeq 89) := rfl
theorem c_116_87 : jx_cd 116 87 = some (o_push (.int 1) 1) := rfl
theorem c_116_88 : jx_cd 116 88 = some (o_zret) := rfl
theorem c_116_89 : jx_cd 116 89 = some (o_iinc 5 1) := rfl
theorem c_116_92 : jx_cd 116 92 = some (o_goto 50) := rfl
theorem c_116_95 : jx_cd 116 95 = some (o_push (.int 0) 1) := rfl
theorem c_116_96 : jx_cd 116 96 = some (o_zret) := rfl
def sp_del (s a : Nat) : Nat := if s.testBit a = true then s - 2 ^ a else s
theorem sp_del_le (s a : Nat) : sp_del s a ≤ s := by
  unfold sp_del
  split
  · exact Nat.sub_le _ _
  · exact Nat.le_refl _
set_option maxRecDepth 100000 in
theorem jn_bit : ∀ s, s < 1024 → ∀ a, a < 10 → ((fun x y : Int32 => x >>> (y &&& 31)) (jn s) (jn a)) &&& (jn 1) = jb (s.testBit a) := by decide +kernel
set_option maxRecDepth 100000 in
theorem jn_del : ∀ s, s < 1024 → ∀ a, a < 10 → (jn s) &&& (((fun x y : Int32 => x <<< (y &&& 31)) (jn 1) (jn a)) ^^^ (jo none)) = jn (sp_del s a) := by decide +kernel
def sp_any (p : Nat → Bool) : Nat → Nat → Bool
  | 0, _ => false
  | k + 1, b => if p b = true then true else sp_any p k (b + 1)
/-- whether the atoms of the set, from a on, can be joined two by two -/
def sp_cp (nr : Nat → Nat) (n : Nat) : Nat → Nat → Nat → Bool
  | 0, _, _ => true
  | f + 1, a, s => if a < n then (if s.testBit a = true then sp_any (fun b => (sp_del s a &&& nr (4 * 10 + a)).testBit b && sp_cp nr n f (a + 1) (sp_del (sp_del s a) b)) (n - (a + 1)) (a + 1) else sp_cp nr n f (a + 1) s) else true
theorem t_cp {g n bc : Nat} {cs ks nr : Nat → Nat} {M : jx_M} (hg : jg M g n bc cs ks nr) (hn : n ≤ 10) : ∀ {f a s d : Nat}, n ≤ a + f → a ≤ 10 → s < 1024 → jZ (d + f) 116 0 [some (.ref g), some (.int (jn a)), some (.int (jn s)), none, none, none] [] M (jR (some (.int (jb (sp_cp nr n f a s)))) M) := by
  intro f
  induction f with
  | zero =>
    intro a s d hf ha hs
    refine z_go 1 _ [.int (jn a)] _ c_116_0 rfl ?_
    refine z_go 2 _ [.ref g, .int (jn a)] _ c_116_1 rfl ?_
    refine z_getf (v := .int (jn n)) 5 c_116_2 rfl hg.1 rfl ?_
    refine z_ilt 10 8 c_116_5 rfl (by omega) (by omega) (fun h1 => ?_) (fun h1 => ?_)
    · omega
    · refine z_go 9 _ [.int (jn 1)] _ c_116_8 rfl ?_
      refine z_zret (b := true) c_116_9 ?_
      exact ⟨rfl, rfl⟩
  | succ f ih =>
    intro a s d hf ha hs
    refine z_go 1 _ [.int (jn a)] _ c_116_0 rfl ?_
    refine z_go 2 _ [.ref g, .int (jn a)] _ c_116_1 rfl ?_
    refine z_getf (v := .int (jn n)) 5 c_116_2 rfl hg.1 rfl ?_
    refine z_ilt 10 8 c_116_5 rfl (by omega) (by omega) (fun h1 => ?_) (fun h1 => ?_)
    · refine z_go 11 _ [.int (jn s)] _ c_116_10 rfl ?_
      refine z_go 12 _ [.int (jn a), .int (jn s)] _ c_116_11 rfl ?_
      refine z_go 13 _ [.int ((fun x y : Int32 => x >>> (y &&& 31)) (jn s) (jn a))] _ c_116_12 rfl ?_
      refine z_go 14 _ [.int (jn 1), .int ((fun x y : Int32 => x >>> (y &&& 31)) (jn s) (jn a))] _ c_116_13 rfl ?_
      refine z_go 15 _ [.int ((((fun x y : Int32 => x >>> (y &&& 31)) (jn s) (jn a))) &&& (jn 1))] _ c_116_14 rfl ?_
      refine z_v (jn_bit s hs a (by omega)) ?_
      refine z_ifne 27 18 c_116_15 rfl jb_t (fun h2 => ?_) (fun h2 => ?_)
      · refine z_go 19 _ [.ref g] _ c_116_18 rfl ?_
        refine z_go 20 _ [.int (jn a), .ref g] _ c_116_19 rfl ?_
        refine z_go 21 _ [.int (jn 1), .int (jn a), .ref g] _ c_116_20 rfl ?_
        refine z_go 22 _ [.int ((jn a) + (jn 1)), .ref g] _ c_116_21 rfl ?_
        refine z_v (jn_add _ _) ?_
        refine z_go 23 _ [.int (jn s), .int (jn (a + 1)), .ref g] _ c_116_22 rfl ?_
        refine z_call 26 116 3 c_116_23 rfl ⟨Nat.le_of_ble_eq_true rfl, Nat.le_of_ble_eq_true rfl⟩ [.ref g, .int (jn (a + 1)), .int (jn s)] rfl rfl [some (.ref g), some (.int (jn (a + 1))), some (.int (jn s)), none, none, none] rfl rfl (ih (a := a + 1) (s := s) (by omega) (by omega) hs) ?_
        show jZ _ _ _ _ [.int (jb (sp_cp nr n f (a + 1) s))] _ _
        refine z_zret (b := sp_cp nr n f (a + 1) s) c_116_26 ?_
        exact ⟨by rw [sp_cp, if_pos h1, if_neg (by rw [h2]; decide)], rfl⟩
      · have h2 : s.testBit a = true := by simpa using h2
        have hd := sp_del_le s a
        refine z_go 28 _ [.int (jn s)] _ c_116_27 rfl ?_
        refine z_go 29 _ [.int (jn 1), .int (jn s)] _ c_116_28 rfl ?_
        refine z_go 30 _ [.int (jn a), .int (jn 1), .int (jn s)] _ c_116_29 rfl ?_
        refine z_go 31 _ [.int ((fun x y : Int32 => x <<< (y &&& 31)) (jn 1) (jn a)), .int (jn s)] _ c_116_30 rfl ?_
        refine z_go 32 _ [.int (jo none), .int ((fun x y : Int32 => x <<< (y &&& 31)) (jn 1) (jn a)), .int (jn s)] _ c_116_31 rfl ?_
        refine z_go 33 _ [.int ((((fun x y : Int32 => x <<< (y &&& 31)) (jn 1) (jn a))) ^^^ (jo none)), .int (jn s)] _ c_116_32 rfl ?_
        refine z_go 34 _ [.int ((jn s) &&& (((((fun x y : Int32 => x <<< (y &&& 31)) (jn 1) (jn a))) ^^^ (jo none))))] _ c_116_33 rfl ?_
        refine z_v (jn_del s hs a (by omega)) ?_
        refine z_go 35 [some (.ref g), some (.int (jn a)), some (.int (jn s)), some (.int (jn (sp_del s a))), none, none] [] _ c_116_34 rfl ?_
        refine z_go 36 _ [.int (jn (sp_del s a))] _ c_116_35 rfl ?_
        refine z_go 37 _ [.ref g, .int (jn (sp_del s a))] _ c_116_36 rfl ?_
        refine z_go 38 _ [.int (jn a), .ref g, .int (jn (sp_del s a))] _ c_116_37 rfl ?_
        refine z_go 39 _ [.int (jn 4), .int (jn a), .ref g, .int (jn (sp_del s a))] _ c_116_38 rfl ?_
        refine z_callv 42 0 10 2 g c_116_39 rfl ⟨Nat.le_of_ble_eq_true rfl, Nat.le_of_ble_eq_true rfl⟩ rfl hg.1 [.ref g, .int (jn a), .int (jn 4)] rfl rfl [some (.ref g), some (.int (jn a)), some (.int (jn 4))] rfl rfl (t_bound hg (by omega)) ?_
        show jZ _ _ _ _ [.int (jn (nr (4 * 10 + a))), .int (jn (sp_del s a))] _ _
        refine z_go 43 _ [.int ((jn (sp_del s a)) &&& (jn (nr (4 * 10 + a))))] _ c_116_42 rfl ?_
        refine z_v (jn_and _ _) ?_
        refine z_go 45 [some (.ref g), some (.int (jn a)), some (.int (jn s)), some (.int (jn (sp_del s a))), some (.int (jn ((sp_del s a) &&& (nr (4 * 10 + a))))), none] [] _ c_116_43 rfl ?_
        refine z_go 46 _ [.int (jn a)] _ c_116_45 rfl ?_
        refine z_go 47 _ [.int (jn 1), .int (jn a)] _ c_116_46 rfl ?_
        refine z_go 48 _ [.int ((jn a) + (jn 1))] _ c_116_47 rfl ?_
        refine z_v (jn_add _ _) ?_
        refine z_go 50 [some (.ref g), some (.int (jn a)), some (.int (jn s)), some (.int (jn (sp_del s a))), some (.int (jn ((sp_del s a) &&& (nr (4 * 10 + a))))), some (.int (jn (a + 1)))] [] _ c_116_48 rfl ?_
        have hpr : sp_del s a &&& nr (4 * 10 + a) < 1024 := Nat.lt_of_le_of_lt Nat.and_le_left (by omega)
        have loop : ∀ k b, b + k = n → jZ (d + f + 1) 116 50 [some (.ref g), some (.int (jn a)), some (.int (jn s)), some (.int (jn (sp_del s a))), some (.int (jn (sp_del s a &&& nr (4 * 10 + a)))), some (.int (jn b))] [] M (jR (some (.int (jb (sp_any (fun b => (sp_del s a &&& nr (4 * 10 + a)).testBit b && sp_cp nr n f (a + 1) (sp_del (sp_del s a) b)) k b)))) M) := by
          intro k
          induction k with
          | zero =>
            intro b hk
            refine z_go 52 _ [.int (jn b)] _ c_116_50 rfl ?_
            refine z_go 53 _ [.ref g, .int (jn b)] _ c_116_52 rfl ?_
            refine z_getf (v := .int (jn n)) 56 c_116_53 rfl hg.1 rfl ?_
            refine z_ige 95 59 c_116_56 rfl (by omega) (by omega) (fun h3 => ?_) (fun h3 => ?_)
            · omega
            · refine z_go 96 _ [.int (jn 0)] _ c_116_95 rfl ?_
              refine z_zret (b := false) c_116_96 ?_
              exact ⟨rfl, rfl⟩
          | succ k ihk =>
            intro b hk
            refine z_go 52 _ [.int (jn b)] _ c_116_50 rfl ?_
            refine z_go 53 _ [.ref g, .int (jn b)] _ c_116_52 rfl ?_
            refine z_getf (v := .int (jn n)) 56 c_116_53 rfl hg.1 rfl ?_
            refine z_ige 95 59 c_116_56 rfl (by omega) (by omega) (fun h3 => ?_) (fun h3 => ?_)
            · refine z_go 61 _ [.int (jn (sp_del s a &&& nr (4 * 10 + a)))] _ c_116_59 rfl ?_
              refine z_go 63 _ [.int (jn b), .int (jn (sp_del s a &&& nr (4 * 10 + a)))] _ c_116_61 rfl ?_
              refine z_go 64 _ [.int ((fun x y : Int32 => x >>> (y &&& 31)) (jn (sp_del s a &&& nr (4 * 10 + a))) (jn b))] _ c_116_63 rfl ?_
              refine z_go 65 _ [.int (jn 1), .int ((fun x y : Int32 => x >>> (y &&& 31)) (jn (sp_del s a &&& nr (4 * 10 + a))) (jn b))] _ c_116_64 rfl ?_
              refine z_go 66 _ [.int ((((fun x y : Int32 => x >>> (y &&& 31)) (jn (sp_del s a &&& nr (4 * 10 + a))) (jn b))) &&& (jn 1))] _ c_116_65 rfl ?_
              refine z_v (jn_bit _ hpr b (by omega)) ?_
              refine z_ifeq 89 69 c_116_66 rfl jb_t (fun h4 => ?_) (fun h4 => ?_)
              · refine z_iinc 92 [some (.ref g), some (.int (jn a)), some (.int (jn s)), some (.int (jn (sp_del s a))), some (.int (jn (sp_del s a &&& nr (4 * 10 + a)))), some (.int (jn (b + 1)))] c_116_89 rfl rfl (jn_add _ _) rfl ?_
                refine z_go 50 _ [] _ c_116_92 rfl ?_
                refine (ihk (b + 1) (by omega)).mono fun r M1 q => ⟨q.1.trans ?_, q.2⟩
                rw [sp_any, if_neg (by simp [h4])]
              · have h4 : (sp_del s a &&& nr (4 * 10 + a)).testBit b = true := by simpa using h4
                have hd2 := sp_del_le (sp_del s a) b
                refine z_go 70 _ [.ref g] _ c_116_69 rfl ?_
                refine z_go 71 _ [.int (jn a), .ref g] _ c_116_70 rfl ?_
                refine z_go 72 _ [.int (jn 1), .int (jn a), .ref g] _ c_116_71 rfl ?_
                refine z_go 73 _ [.int ((jn a) + (jn 1)), .ref g] _ c_116_72 rfl ?_
                refine z_v (jn_add _ _) ?_
                refine z_go 74 _ [.int (jn (sp_del s a)), .int (jn (a + 1)), .ref g] _ c_116_73 rfl ?_
                refine z_go 75 _ [.int (jn 1), .int (jn (sp_del s a)), .int (jn (a + 1)), .ref g] _ c_116_74 rfl ?_
                refine z_go 77 _ [.int (jn b), .int (jn 1), .int (jn (sp_del s a)), .int (jn (a + 1)), .ref g] _ c_116_75 rfl ?_
                refine z_go 78 _ [.int ((fun x y : Int32 => x <<< (y &&& 31)) (jn 1) (jn b)), .int (jn (sp_del s a)), .int (jn (a + 1)), .ref g] _ c_116_77 rfl ?_
                refine z_go 79 _ [.int (jo none), .int ((fun x y : Int32 => x <<< (y &&& 31)) (jn 1) (jn b)), .int (jn (sp_del s a)), .int (jn (a + 1)), .ref g] _ c_116_78 rfl ?_
                refine z_go 80 _ [.int ((((fun x y : Int32 => x <<< (y &&& 31)) (jn 1) (jn b))) ^^^ (jo none)), .int (jn (sp_del s a)), .int (jn (a + 1)), .ref g] _ c_116_79 rfl ?_
                refine z_go 81 _ [.int ((jn (sp_del s a)) &&& (((((fun x y : Int32 => x <<< (y &&& 31)) (jn 1) (jn b))) ^^^ (jo none)))), .int (jn (a + 1)), .ref g] _ c_116_80 rfl ?_
                refine z_v (jn_del _ (by omega) b (by omega)) ?_
                refine z_call 84 116 3 c_116_81 rfl ⟨Nat.le_of_ble_eq_true rfl, Nat.le_of_ble_eq_true rfl⟩ [.ref g, .int (jn (a + 1)), .int (jn (sp_del (sp_del s a) b))] rfl rfl [some (.ref g), some (.int (jn (a + 1))), some (.int (jn (sp_del (sp_del s a) b))), none, none, none] rfl rfl (ih (a := a + 1) (s := sp_del (sp_del s a) b) (by omega) (by omega) (by omega)) ?_
                show jZ _ _ _ _ [.int (jb (sp_cp nr n f (a + 1) (sp_del (sp_del s a) b)))] _ _
                refine z_ifeq 89 87 c_116_84 rfl jb_t (fun h5 => ?_) (fun h5 => ?_)
                · refine z_iinc 92 [some (.ref g), some (.int (jn a)), some (.int (jn s)), some (.int (jn (sp_del s a))), some (.int (jn (sp_del s a &&& nr (4 * 10 + a)))), some (.int (jn (b + 1)))] c_116_89 rfl rfl (jn_add _ _) rfl ?_
                  refine z_go 50 _ [] _ c_116_92 rfl ?_
                  refine (ihk (b + 1) (by omega)).mono fun r M1 q => ⟨q.1.trans ?_, q.2⟩
                  rw [sp_any, if_neg (by simp [h5])]
                · refine z_go 88 _ [.int (jn 1)] _ c_116_87 rfl ?_
                  refine z_zret (b := true) c_116_88 ?_
                  exact ⟨by rw [sp_any, if_pos (by simp [h4, h5])], rfl⟩
            · omega
        refine (loop (n - (a + 1)) (a + 1) (by omega)).mono fun r M1 q => ⟨q.1.trans ?_, q.2⟩
        rw [sp_cp, if_pos h1, if_pos h2]
    · refine z_go 9 _ [.int (jn 1)] _ c_116_8 rfl ?_
      refine z_zret (b := true) c_116_9 ?_
      exact ⟨by rw [sp_cp, if_neg h1], rfl⟩
