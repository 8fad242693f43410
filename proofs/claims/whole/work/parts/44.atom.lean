/-! THE READER: an atom; printed by wip/whole/p44.py -/
theorem c_27_0 : jx_cd 27 0 = some (o_ald 0 1) := rfl
theorem c_27_1 : jx_cd 27 1 = some (o_callv 3 28 0) := rfl
theorem c_27_4 : jx_cd 27 4 = some (o_ist 1 1) := rfl
theorem c_27_5 : jx_cd 27 5 = some (o_ald 0 1) := rfl
theorem c_27_6 : jx_cd 27 6 = some (o_push (.int 91) 2) := rfl
theorem c_27_8 : jx_cd 27 8 = some (o_callv 3 26 1) := rfl
theorem c_27_11 : jx_cd 27 11 = some (o_ifeq 19) := rfl
theorem c_27_14 : jx_cd 27 14 = some (o_ald 0 1) := rfl
theorem c_27_15 : jx_cd 27 15 = some (o_callv 3 29 0) := rfl
theorem c_27_18 : jx_cd 27 18 = some (o_zret) := rfl
theorem c_27_19 : jx_cd 27 19 = some (o_ald 0 1) := rfl
theorem c_27_20 : jx_cd 27 20 = some (o_getf 3 3) := rfl
theorem c_27_23 : jx_cd 27 23 = some (o_ifeq 44) := rfl
theorem c_27_26 : jx_cd 27 26 = some (o_ald 0 1) := rfl
theorem c_27_27 : jx_cd 27 27 = some (o_push (.int 42) 2) := rfl
theorem c_27_29 : jx_cd 27 29 = some (o_callv 3 26 1) := rfl
theorem c_27_32 : jx_cd 27 32 = some (o_ifeq 44) := rfl
theorem c_27_35 : jx_cd 27 35 = some (o_ald 0 1) := rfl
theorem c_27_36 : jx_cd 27 36 = some (o_push (.int 16415) 3) := rfl
theorem c_27_39 : jx_cd 27 39 = some (o_push (.int (-1)) 1) := rfl
theorem c_27_40 : jx_cd 27 40 = some (o_callv 3 31 2) := rfl
theorem c_27_43 : jx_cd 27 43 = some (o_zret) := rfl
theorem c_27_44 : jx_cd 27 44 = some (o_ald 0 1) := rfl
theorem c_27_45 : jx_cd 27 45 = some (o_dup) := rfl
theorem c_27_46 : jx_cd 27 46 = some (o_getf 3 2) := rfl
theorem c_27_49 : jx_cd 27 49 = some (o_push (.int 1) 1) := rfl
theorem c_27_50 : jx_cd 27 50 = some (o_bin fun x y => x + y) := rfl
theorem c_27_51 : jx_cd 27 51 = some (o_putf 3 2 jx_okI) := rfl
theorem c_27_54 : jx_cd 27 54 = some (o_push (.ref 3) 2) := rfl
theorem c_27_56 : jx_cd 27 56 = some (o_ild 1 1) := rfl
theorem c_27_57 : jx_cd 27 57 = some (o_callv 200 125 1) := rfl
theorem c_27_60 : jx_cd 27 60 = some (o_iflt 84) := rfl
theorem c_27_63 : jx_cd 27 63 = some (o_ald 0 1) := rfl
theorem c_27_64 : jx_cd 27 64 = some (o_ild 1 1) := rfl
theorem c_27_65 : jx_cd 27 65 = some (o_push (.int 97) 2) := rfl
theorem c_27_67 : jx_cd 27 67 = some (o_bin fun x y => x - y) := rfl
theorem c_27_68 : jx_cd 27 68 = some (o_push (.int 65) 2) := rfl
theorem c_27_70 : jx_cd 27 70 = some (o_bin fun x y => x + y) := rfl
theorem c_27_71 : jx_cd 27 71 = some (o_push (.int 128) 3) := rfl
theorem c_27_74 : jx_cd 27 74 = some (o_bin fun x y => x + y) := rfl
theorem c_27_75 : jx_cd 27 75 = some (o_push (.int 4096) 3) := rfl
theorem c_27_78 : jx_cd 27 78 = some (o_bin fun x y => x + y) := rfl
theorem c_27_79 : jx_cd 27 79 = some (o_push (.int (-1)) 1) := rfl
theorem c_27_80 : jx_cd 27 80 = some (o_callv 3 31 2) := rfl
theorem c_27_83 : jx_cd 27 83 = some (o_zret) := rfl
theorem c_27_84 : jx_cd 27 84 = some (o_push (.ref 2) 2) := rfl
theorem c_27_86 : jx_cd 27 86 = some (o_ild 1 1) := rfl
theorem c_27_87 : jx_cd 27 87 = some (o_callv 200 125 1) := rfl
theorem c_27_90 : jx_cd 27 90 = some (o_iflt 110) := rfl
theorem c_27_93 : jx_cd 27 93 = some (o_ald 0 1) := rfl
theorem c_27_94 : jx_cd 27 94 = some (o_ild 1 1) := rfl
theorem c_27_95 : jx_cd 27 95 = some (o_push (.int 4096) 3) := rfl
theorem c_27_98 : jx_cd 27 98 = some (o_bin fun x y => x + y) := rfl
theorem c_27_99 : jx_cd 27 99 = some (o_push (.int (-1)) 1) := rfl
theorem c_27_100 : jx_cd 27 100 = some (o_callv 3 31 2) := rfl
theorem c_27_103 : jx_cd 27 103 = some (o_ifeq 110) := rfl
theorem c_27_106 : jx_cd 27 106 = some (o_push (.int 1) 1) := rfl
theorem c_27_107 : jx_cd 27 107 = some (o_goto 111) := rfl
theorem c_27_110 : jx_cd 27 110 = some (o_push (.int 0) 1) := rfl
theorem c_27_111 : jx_cd 27 111 = some (o_zret) := rfl
theorem c_29_0 : jx_cd 29 0 = some (o_ald 0 1) := rfl
theorem c_29_1 : jx_cd 29 1 = some (o_callv 3 28 0) := rfl
theorem c_29_4 : jx_cd 29 4 = some (o_ist 1 1) := rfl
theorem c_29_5 : jx_cd 29 5 = some (o_push (.ref 2) 2) := rfl
theorem c_29_7 : jx_cd 29 7 = some (o_ild 1 1) := rfl
theorem c_29_8 : jx_cd 29 8 = some (o_callv 200 125 1) := rfl
theorem c_29_11 : jx_cd 29 11 = some (o_ifge 16) := rfl
theorem c_29_14 : jx_cd 29 14 = some (o_push (.int 0) 1) := rfl
theorem c_29_15 : jx_cd 29 15 = some (o_zret) := rfl
theorem c_29_16 : jx_cd 29 16 = some (o_ald 0 1) := rfl
theorem c_29_17 : jx_cd 29 17 = some (o_dup) := rfl
theorem c_29_18 : jx_cd 29 18 = some (o_getf 3 2) := rfl
theorem c_29_21 : jx_cd 29 21 = some (o_push (.int 1) 1) := rfl
theorem c_29_22 : jx_cd 29 22 = some (o_bin fun x y => x + y) := rfl
theorem c_29_23 : jx_cd 29 23 = some (o_putf 3 2 jx_okI) := rfl
theorem c_29_26 : jx_cd 29 26 = some (o_ald 0 1) := rfl
theorem c_29_27 : jx_cd 29 27 = some (o_getf 3 3) := rfl
theorem c_29_30 : jx_cd 29 30 = some (o_ifeq 48) := rfl
theorem c_29_33 : jx_cd 29 33 = some (o_ald 0 1) := rfl
theorem c_29_34 : jx_cd 29 34 = some (o_callv 3 28 0) := rfl
theorem c_29_37 : jx_cd 29 37 = some (o_push (.int 44) 2) := rfl
theorem c_29_39 : jx_cd 29 39 = some (o_ine 48) := rfl
theorem c_29_42 : jx_cd 29 42 = some (o_ald 0 1) := rfl
theorem c_29_43 : jx_cd 29 43 = some (o_ild 1 1) := rfl
theorem c_29_44 : jx_cd 29 44 = some (o_callv 3 30 1) := rfl
theorem c_29_47 : jx_cd 29 47 = some (o_zret) := rfl
theorem c_29_48 : jx_cd 29 48 = some (o_ald 0 1) := rfl
theorem c_29_49 : jx_cd 29 49 = some (o_callv 3 32 0) := rfl
theorem c_29_52 : jx_cd 29 52 = some (o_ist 2 1) := rfl
theorem c_29_53 : jx_cd 29 53 = some (o_ald 0 1) := rfl
theorem c_29_54 : jx_cd 29 54 = some (o_callv 3 33 0) := rfl
theorem c_29_57 : jx_cd 29 57 = some (o_ist 3 1) := rfl
theorem c_29_58 : jx_cd 29 58 = some (o_ald 0 1) := rfl
theorem c_29_59 : jx_cd 29 59 = some (o_push (.int 93) 2) := rfl
theorem c_29_61 : jx_cd 29 61 = some (o_callv 3 26 1) := rfl
theorem c_29_64 : jx_cd 29 64 = some (o_ifeq 82) := rfl
theorem c_29_67 : jx_cd 29 67 = some (o_ald 0 1) := rfl
theorem c_29_68 : jx_cd 29 68 = some (o_ild 1 1) := rfl
theorem c_29_69 : jx_cd 29 69 = some (o_ild 3 1) := rfl
theorem c_29_70 : jx_cd 29 70 = some (o_bin fun x y => x + y) := rfl
theorem c_29_71 : jx_cd 29 71 = some (o_ild 2 1) := rfl
theorem c_29_72 : jx_cd 29 72 = some (o_callv 3 31 2) := rfl
theorem c_29_75 : jx_cd 29 75 = some (o_ifeq 82) := rfl
theorem c_29_78 : jx_cd 29 78 = some (o_push (.int 1) 1) := rfl
theorem c_29_79 : jx_cd 29 79 = some (o_goto 83) := rfl
theorem c_29_82 : jx_cd 29 82 = some (o_push (.int 0) 1) := rfl
theorem c_29_83 : jx_cd 29 83 = some (o_zret) := rfl
theorem c_30_0 : jx_cd 30 0 = some (o_push (.int 1) 1) := rfl
theorem c_30_1 : jx_cd 30 1 = some (o_push (.ref 2) 2) := rfl
theorem c_30_3 : jx_cd 30 3 = some (o_ild 1 1) := rfl
theorem c_30_4 : jx_cd 30 4 = some (o_callv 200 125 1) := rfl
theorem c_30_7 : jx_cd 30 7 = some (o_bin fun x y => x <<< (y &&& 31)) := rfl
theorem c_30_8 : jx_cd 30 8 = some (o_ist 2 1) := rfl
theorem c_30_9 : jx_cd 30 9 = some (o_push (.int 0) 1) := rfl
theorem c_30_10 : jx_cd 30 10 = some (o_ist 3 1) := rfl
theorem c_30_11 : jx_cd 30 11 = some (o_ild 3 1) := rfl
theorem c_30_12 : jx_cd 30 12 = some (o_push (.int 3) 1) := rfl
theorem c_30_13 : jx_cd 30 13 = some (o_ige 66) := rfl
theorem c_30_16 : jx_cd 30 16 = some (o_ald 0 1) := rfl
theorem c_30_17 : jx_cd 30 17 = some (o_push (.int 44) 2) := rfl
theorem c_30_19 : jx_cd 30 19 = some (o_callv 3 26 1) := rfl
theorem c_30_22 : jx_cd 30 22 = some (o_ifeq 66) := rfl
theorem c_30_25 : jx_cd 30 25 = some (o_push (.ref 2) 2) := rfl
theorem c_30_27 : jx_cd 30 27 = some (o_ald 0 1) := rfl
theorem c_30_28 : jx_cd 30 28 = some (o_callv 3 28 0) := rfl
theorem c_30_31 : jx_cd 30 31 = some (o_callv 200 125 1) := rfl
theorem c_30_34 : jx_cd 30 34 = some (o_ist 4 2) := rfl
theorem c_30_36 : jx_cd 30 36 = some (o_ild 4 2) := rfl
theorem c_30_38 : jx_cd 30 38 = some (o_ifge 43) := rfl
theorem c_30_41 : jx_cd 30 41 = some (o_push (.int 0) 1) := rfl
theorem c_30_42 : jx_cd 30 42 = some (o_zret) := rfl
theorem c_30_43 : jx_cd 30 43 = some (o_ild 2 1) := rfl
theorem c_30_44 : jx_cd 30 44 = some (o_push (.int 1) 1) := rfl
theorem c_30_45 : jx_cd 30 45 = some (o_ild 4 2) := rfl
theorem c_30_47 : jx_cd 30 47 = some (o_bin fun x y => x <<< (y &&& 31)) := rfl
theorem c_30_48 : jx_cd 30 48 = some (o_bin fun x y => x ||| y) := rfl
theorem c_30_49 : jx_cd 30 49 = some (o_ist 2 1) := rfl
theorem c_30_50 : jx_cd 30 50 = some (o_ald 0 1) := rfl
theorem c_30_51 : jx_cd 30 51 = some (o_dup) := rfl
theorem c_30_52 : jx_cd 30 52 = some (o_getf 3 2) := rfl
theorem c_30_55 : jx_cd 30 55 = some (o_push (.int 1) 1) := rfl
theorem c_30_56 : jx_cd 30 56 = some (o_bin fun x y => x + y) := rfl
theorem c_30_57 : jx_cd 30 57 = some (o_putf 3 2 jx_okI) := rfl
theorem c_30_60 : jx_cd 30 60 = some (o_iinc 3 1) := rfl
theorem c_30_63 : jx_cd 30 63 = some (o_goto 11) := rfl
theorem c_30_66 : jx_cd 30 66 = some (o_ald 0 1) := rfl
theorem c_30_67 : jx_cd 30 67 = some (o_push (.int 93) 2) := rfl
theorem c_30_69 : jx_cd 30 69 = some (o_callv 3 26 1) := rfl
theorem c_30_72 : jx_cd 30 72 = some (o_ifeq 92) := rfl
theorem c_30_75 : jx_cd 30 75 = some (o_ald 0 1) := rfl
theorem c_30_76 : jx_cd 30 76 = some (o_push (.int 16384) 3) := rfl
theorem c_30_79 : jx_cd 30 79 = some (o_ild 2 1) := rfl
theorem c_30_80 : jx_cd 30 80 = some (o_bin fun x y => x + y) := rfl
theorem c_30_81 : jx_cd 30 81 = some (o_push (.int (-1)) 1) := rfl
theorem c_30_82 : jx_cd 30 82 = some (o_callv 3 31 2) := rfl
theorem c_30_85 : jx_cd 30 85 = some (o_ifeq 92) := rfl
theorem c_30_88 : jx_cd 30 88 = some (o_push (.int 1) 1) := rfl
theorem c_30_89 : jx_cd 30 89 = some (o_goto 93) := rfl
theorem c_30_92 : jx_cd 30 92 = some (o_push (.int 0) 1) := rfl
theorem c_30_93 : jx_cd 30 93 = some (o_zret) := rfl
def fE (j : Nat) : Nat := [67, 78, 79, 83, 70].getD j 0
def fA (j : Nat) : Nat := [99, 110, 111, 115].getD j 0
theorem fE_lt : ∀ j, fE j < 128
  | 0 => by decide
  | 1 => by decide
  | 2 => by decide
  | 3 => by decide
  | 4 => by decide
  | _ + 5 => (by decide : 0 < 128)
theorem fA_lt : ∀ j, fA j < 128
  | 0 => by decide
  | 1 => by decide
  | 2 => by decide
  | 3 => by decide
  | _ + 4 => (by decide : 0 < 128)
/-- the texts of the elements and of the aromatic letters lie there -/
def jc (M : jx_M) : Prop := (M.1 2 = .inr (200, [.ref 4, .int (jn 0)]) ∧ M.1 4 = .inl (10, 5, .inl (ja fE))) ∧ M.1 3 = .inr (200, [.ref 5, .int (jn 0)]) ∧ M.1 5 = .inl (10, 4, .inl (ja fA))
def sp_el (c : Nat) : Option Nat := if 67 = c then some 0 else if 78 = c then some 1 else if 79 = c then some 2 else if 83 = c then some 3 else if 70 = c then some 4 else none
def sp_ar (c : Nat) : Option Nat := if 99 = c then some 0 else if 110 = c then some 1 else if 111 = c then some 2 else if 115 = c then some 3 else none
theorem sp_el_5 {c k : Nat} (h : sp_el c = some k) : k < 5 := by
  unfold sp_el at h
  repeat' split at h
  all_goals cases h
  all_goals decide
theorem sp_ar_5 {c k : Nat} (h : sp_ar c = some k) : k < 5 := by
  unfold sp_ar at h
  repeat' split at h
  all_goals cases h
  all_goals decide
theorem sp_el_lt {c : Nat} (k : Nat) (h : sp_el c = some k) : k < 2 ^ 31 := by have := sp_el_5 h; omega
theorem sp_ar_lt {c : Nat} (k : Nat) (h : sp_ar c = some k) : k < 2 ^ 31 := by have := sp_ar_5 h; omega
theorem t_el {d c : Nat} {M : jx_M} (hj : jc M) (hc : c < 128) : jZ (d + 3) 125 0 [some (.ref 2), some (.int (jn c))] [] M (jR (some (.int (jo (sp_el c)))) M) := t_ix hj.1.1 hj.1.2 (Or.inr rfl) fE_lt hc
theorem t_ar {d c : Nat} {M : jx_M} (hj : jc M) (hc : c < 128) : jZ (d + 3) 125 0 [some (.ref 3), some (.int (jn c))] [] M (jR (some (.int (jo (sp_ar c)))) M) := t_ix hj.2.1 hj.2.2 (Or.inl rfl) fA_lt hc
/-- an atom read, or not -/
def jA (M : jx_M) (ln : Nat) (pt : Bool) (sz bc dp : Nat) (cs : Nat → Nat) (wr : Nat → Option Nat) (o : Option (Nat × Option Nat × Nat)) : jx_R → jx_M → Prop := fun r M' => match o with
  | none => r = .inl (some (.int (jb false))) ∧ ∃ p', M' = jm [(18, rO ln p' pt sz bc dp)] M
  | some (x, hy, p') => r = .inl (some (.int (jb true))) ∧ M' = jm [(18, rO ln p' pt (sz + 1) bc dp), (21, .inl (0, 40, .inl (jao (nu wr sz hy)))), (20, .inl (0, 40, .inl (ja (nu cs sz x))))] M
theorem jA_b {M : jx_M} {ln : Nat} {pt : Bool} {sz bc dp : Nat} {cs : Nat → Nat} {wr : Nat → Option Nat} {o : Option (Nat × Option Nat × Nat)} {r : jx_R} {M' : jx_M} (h : jA M ln pt sz bc dp cs wr o r M') : ∃ b, r = .inl (some (.int (jb b))) := by
  unfold jA at h
  split at h
  · exact ⟨false, h.1⟩
  · exact ⟨true, h.1⟩
theorem jA_sh {M : jx_M} {ln p : Nat} {pt : Bool} {sz bc dp : Nat} {cs : Nat → Nat} {wr : Nat → Option Nat} {o : Option (Nat × Option Nat × Nat)} {r : jx_R} {M' : jx_M} (h : jA (jm [(18, rO ln p pt sz bc dp)] M) ln pt sz bc dp cs wr o r M') : jA M ln pt sz bc dp cs wr o r M' := by
  unfold jA at h ⊢
  split at h
  · obtain ⟨h1, p', h2⟩ := h
    exact ⟨h1, p', h2.trans (jx_st_st _ _ _ _)⟩
  · refine ⟨h.1, h.2.trans ?_⟩
    show jx_st (jx_st (jx_st (jx_st M 18 _) 20 _) 21 _) 18 _ = jx_st (jx_st (jx_st M 20 _) 21 _) 18 _
    rw [jx_st_sw M (by decide : 20 ≠ 18), jx_st_sw _ (by decide : 21 ≠ 18), jx_st_st]
theorem jn_sh : ∀ e, e < 5 → (fun x y : Int32 => x <<< (y &&& 31)) (jn 1) (jo (some e)) = jn (2 ^ e) := by decide +kernel
/-- a pattern's list, from behind its first element on: k more at most -/
def sp_list (tx : Nat → Nat) (ln : Nat) : Nat → Nat → Nat → Option (Nat × Option Nat × Nat)
  | 0, ps, el => if sp_here tx ln ps = 93 then some (16384 + el, none, ps + 1) else none
  | k + 1, ps, el => if sp_here tx ln ps = 44 then (match sp_el (sp_here tx ln (ps + 1)) with
    | none => none
    | some e => sp_list tx ln k (ps + 2) (el ||| 2 ^ e)) else if sp_here tx ln ps = 93 then some (16384 + el, none, ps + 1) else none
theorem jm_312 {M : jx_M} {a b c : jx_C} : jm [(21, b), (20, a), (18, c)] M = jm [(18, c), (21, b), (20, a)] M := by
  show jx_st (jx_st (jx_st M 18 c) 20 a) 21 b = jx_st (jx_st (jx_st M 20 a) 21 b) 18 c
  rw [jx_st_sw M (by decide : 20 ≠ 18), jx_st_sw _ (by decide : 21 ≠ 18)]
theorem t_list_l {d ln sz bc dp c : Nat} {pt : Bool} {tx cs : Nat → Nat} {wr : Nat → Option Nat} (hl : ln ≤ 40) (ht : ∀ j, tx j < 128) (hs : sz < 40) : ∀ {k i ps el : Nat} {z : Option Value} {M : jx_M}, i + k = 3 → ps + 2 * k ≤ 58 → M.1 18 = rO ln ps pt sz bc dp → M.1 19 = .inl (1, 40, .inl (ja tx)) → M.1 20 = .inl (0, 40, .inl (ja cs)) → M.1 21 = .inl (0, 40, .inl (jao wr)) → jc M → jZ (d + 4) 30 11 [some (.ref 18), some (.int (jn c)), some (.int (jn el)), some (.int (jn i)), z] [] M (jA M ln pt sz bc dp cs wr (sp_list tx ln k ps el)) := by
  intro k
  induction k with
  | zero =>
    intro i ps el z M hk hp h18 h19 h20 h21 hj
    refine z_go 12 _ [.int (jn i)] _ c_30_11 rfl ?_
    refine z_go 13 _ [.int (jn 3), .int (jn i)] _ c_30_12 rfl ?_
    refine z_ige 66 16 c_30_13 rfl (by omega) (by omega) (fun hi => ?_) (fun hi => ?_)
    · omega
    · refine z_go 67 _ [.ref 18] _ c_30_66 rfl ?_
      refine z_go 69 _ [.int (jn 93), .ref 18] _ c_30_67 rfl ?_
      by_cases h93 : sp_here tx ln ps = 93
      · refine z_callv 72 3 26 1 18 c_30_69 rfl ⟨Nat.le_of_ble_eq_true rfl, Nat.le_of_ble_eq_true rfl⟩ rfl h18 [.ref 18, .int (jn 93)] rfl rfl [some (.ref 18), some (.int (jn 93)), none] rfl rfl (t_takes1 (ps := ps) h18 h19 hl (by omega) ht (by decide) (by decide) h93) ?_
        show jZ _ _ _ _ [.int (jb true)] _ _
        refine z_ifeq 92 75 c_30_72 rfl jb_t (fun hq => ?_) (fun hq => ?_)
        · exact absurd hq (by decide)
        · refine z_go 76 _ [.ref 18] _ c_30_75 rfl ?_
          refine z_go 79 _ [.int (jn 16384), .ref 18] _ c_30_76 rfl ?_
          refine z_go 80 _ [.int (jn el), .int (jn 16384), .ref 18] _ c_30_79 rfl ?_
          refine z_go 81 _ [.int ((jn 16384) + (jn el)), .ref 18] _ c_30_80 rfl ?_
          refine z_v (jn_add _ _) ?_
          refine z_go 82 _ [.int (jo none), .int (jn (16384 + el)), .ref 18] _ c_30_81 rfl ?_
          refine z_callv 85 3 31 2 18 c_30_82 rfl ⟨Nat.le_of_ble_eq_true rfl, Nat.le_of_ble_eq_true rfl⟩ rfl rfl [.ref 18, .int (jn (16384 + el)), .int (jo none)] rfl rfl [some (.ref 18), some (.int (jn (16384 + el))), some (.int (jo none))] rfl rfl (t_add rfl h19 h20 h21 hs) ?_
          show jZ _ _ _ _ [.int (jb true)] _ _
          refine z_m (M' := jm [(21, .inl (0, 40, .inl (jao (nu wr sz none)))), (20, .inl (0, 40, .inl (ja (nu cs sz (16384 + el))))), (18, rO ln (ps + 1) pt (sz + 1) bc dp)] M) (jm_jw _ _ _) ?_
          refine z_ifeq 92 88 c_30_85 rfl jb_t (fun hq2 => ?_) (fun hq2 => ?_)
          · cases hq2
          · refine z_go 89 _ [.int (jn 1)] _ c_30_88 rfl ?_
            refine z_go 93 _ [.int (jn 1)] _ c_30_89 rfl ?_
            refine z_zret (b := true) c_30_93 ?_
            rw [show sp_list tx ln 0 ps el = some (16384 + el, none, ps + 1) by rw [sp_list, if_pos h93]]
            exact ⟨rfl, jm_312⟩
      · refine z_callv 72 3 26 1 18 c_30_69 rfl ⟨Nat.le_of_ble_eq_true rfl, Nat.le_of_ble_eq_true rfl⟩ rfl h18 [.ref 18, .int (jn 93)] rfl rfl [some (.ref 18), some (.int (jn 93)), none] rfl rfl (t_takes0 (ps := ps) h18 h19 hl (by omega) ht (by decide) h93) ?_
        show jZ _ _ _ _ [.int (jb false)] _ _
        refine z_ifeq 92 75 c_30_72 rfl jb_t (fun hq => ?_) (fun hq => ?_)
        · refine z_go 93 _ [.int (jn 0)] _ c_30_92 rfl ?_
          refine z_zret (b := false) c_30_93 ?_
          rw [show sp_list tx ln 0 ps el = none by rw [sp_list, if_neg h93]]
          exact ⟨rfl, ps, (jx_st_id h18).symm⟩
        · exact absurd hq (by decide)
  | succ k ih =>
    intro i ps el z M hk hp h18 h19 h20 h21 hj
    refine z_go 12 _ [.int (jn i)] _ c_30_11 rfl ?_
    refine z_go 13 _ [.int (jn 3), .int (jn i)] _ c_30_12 rfl ?_
    refine z_ige 66 16 c_30_13 rfl (by omega) (by omega) (fun hi => ?_) (fun hi => ?_)
    · refine z_go 17 _ [.ref 18] _ c_30_16 rfl ?_
      refine z_go 19 _ [.int (jn 44), .ref 18] _ c_30_17 rfl ?_
      by_cases h44 : sp_here tx ln ps = 44
      · refine z_callv 22 3 26 1 18 c_30_19 rfl ⟨Nat.le_of_ble_eq_true rfl, Nat.le_of_ble_eq_true rfl⟩ rfl h18 [.ref 18, .int (jn 44)] rfl rfl [some (.ref 18), some (.int (jn 44)), none] rfl rfl (t_takes1 (ps := ps) h18 h19 hl (by omega) ht (by decide) (by decide) h44) ?_
        show jZ _ _ _ _ [.int (jb true)] _ _
        refine z_ifeq 66 25 c_30_22 rfl jb_t (fun hq => ?_) (fun hq => ?_)
        · exact absurd hq (by decide)
        · refine z_go 27 _ [.ref 2] _ c_30_25 rfl ?_
          refine z_go 28 _ [.ref 18, .ref 2] _ c_30_27 rfl ?_
          refine z_callv 31 3 28 0 18 c_30_28 rfl ⟨Nat.le_of_ble_eq_true rfl, Nat.le_of_ble_eq_true rfl⟩ rfl rfl [.ref 18] rfl rfl [some (.ref 18)] rfl rfl (t_here' (ps := ps + 1) rfl h19 hl (by omega) ht) ?_
          show jZ _ _ _ _ [.int (jn (sp_here tx ln (ps + 1))), .ref 2] _ _
          refine z_callv 34 200 125 1 2 c_30_31 rfl ⟨Nat.le_of_ble_eq_true rfl, Nat.le_of_ble_eq_true rfl⟩ rfl hj.1.1 [.ref 2, .int (jn (sp_here tx ln (ps + 1)))] rfl rfl [some (.ref 2), some (.int (jn (sp_here tx ln (ps + 1))))] rfl rfl (t_el (M := jm [(18, rO ln (ps + 1) pt sz bc dp)] M) hj (sp_here_lt ht)) ?_
          show jZ _ _ _ _ [.int (jo (sp_el (sp_here tx ln (ps + 1))))] _ _
          refine z_go 36 [some (.ref 18), some (.int (jn c)), some (.int (jn el)), some (.int (jn i)), some (.int (jo (sp_el (sp_here tx ln (ps + 1)))))] [] _ c_30_34 rfl ?_
          refine z_go 38 _ [.int (jo (sp_el (sp_here tx ln (ps + 1))))] _ c_30_36 rfl ?_
          refine z_ifge 43 41 c_30_38 rfl (jo_lt (by first | omega | exact sp_el_lt | exact sp_ar_lt | assumption)) (fun he => ?_) (fun he => ?_)
          · refine z_go 42 _ [.int (jn 0)] _ c_30_41 rfl ?_
            refine z_zret (b := false) c_30_42 ?_
            rw [show sp_list tx ln (k + 1) ps el = none by rw [sp_list, if_pos h44, he]]
            exact ⟨rfl, ps + 1, rfl⟩
          · obtain ⟨x, hx⟩ := Option.ne_none_iff_exists'.mp he
            rw [hx]
            have hx5 := sp_el_5 hx
            refine z_go 44 _ [.int (jn el)] _ c_30_43 rfl ?_
            refine z_go 45 _ [.int (jn 1), .int (jn el)] _ c_30_44 rfl ?_
            refine z_go 47 _ [.int (jo (some x)), .int (jn 1), .int (jn el)] _ c_30_45 rfl ?_
            refine z_go 48 _ [.int ((fun x y : Int32 => x <<< (y &&& 31)) (jn 1) (jo (some x))), .int (jn el)] _ c_30_47 rfl ?_
            refine z_v (jn_sh x hx5) ?_
            refine z_go 49 _ [.int ((jn el) ||| (jn (2 ^ x)))] _ c_30_48 rfl ?_
            refine z_v (jn_or _ _) ?_
            refine z_go 50 [some (.ref 18), some (.int (jn c)), some (.int (jn (el ||| (2 ^ x)))), some (.int (jn i)), some (.int (jo (some x)))] [] _ c_30_49 rfl ?_
            refine z_go 51 _ [.ref 18] _ c_30_50 rfl ?_
            refine z_go 52 _ [.ref 18, .ref 18] _ c_30_51 rfl ?_
            refine z_getf (v := .int (jn (ps + 1))) 55 c_30_52 rfl rfl rfl ?_
            refine z_go 56 _ [.int (jn 1), .int (jn (ps + 1)), .ref 18] _ c_30_55 rfl ?_
            refine z_go 57 _ [.int ((jn (ps + 1)) + (jn 1)), .ref 18] _ c_30_56 rfl ?_
            refine z_v (jn_add _ _) ?_
            refine z_putf (M' := jm [(18, rO ln ((ps + 1) + 1) pt sz bc dp)] M) 60 c_30_57 rfl rfl (rfl) (Nat.le_of_ble_eq_true rfl) (jm_w rfl) ?_
            refine z_iinc 63 [some (.ref 18), some (.int (jn c)), some (.int (jn (el ||| (2 ^ x)))), some (.int (jn (i + 1))), some (.int (jo (some x)))] c_30_60 rfl rfl (jn_add _ _) rfl ?_
            refine z_go 11 _ [] _ c_30_63 rfl ?_
            have := ih (i := i + 1) (ps := ps + 2) (el := el ||| 2 ^ x) (M := jm [(18, rO ln ((ps + 1) + 1) pt sz bc dp)] M) (z := some (.int (jo (some x)))) (by omega) (by omega) rfl h19 h20 h21 hj
            refine this.mono fun r M1 q => ?_
            rw [show sp_list tx ln (k + 1) ps el = sp_list tx ln k (ps + 2) (el ||| 2 ^ x) by rw [sp_list, if_pos h44, hx]]
            exact jA_sh q
      · refine z_callv 22 3 26 1 18 c_30_19 rfl ⟨Nat.le_of_ble_eq_true rfl, Nat.le_of_ble_eq_true rfl⟩ rfl h18 [.ref 18, .int (jn 44)] rfl rfl [some (.ref 18), some (.int (jn 44)), none] rfl rfl (t_takes0 (ps := ps) h18 h19 hl (by omega) ht (by decide) h44) ?_
        show jZ _ _ _ _ [.int (jb false)] _ _
        refine z_ifeq 66 25 c_30_22 rfl jb_t (fun hq => ?_) (fun hq => ?_)
        · refine z_go 67 _ [.ref 18] _ c_30_66 rfl ?_
          refine z_go 69 _ [.int (jn 93), .ref 18] _ c_30_67 rfl ?_
          by_cases h93 : sp_here tx ln ps = 93
          · refine z_callv 72 3 26 1 18 c_30_69 rfl ⟨Nat.le_of_ble_eq_true rfl, Nat.le_of_ble_eq_true rfl⟩ rfl h18 [.ref 18, .int (jn 93)] rfl rfl [some (.ref 18), some (.int (jn 93)), none] rfl rfl (t_takes1 (ps := ps) h18 h19 hl (by omega) ht (by decide) (by decide) h93) ?_
            show jZ _ _ _ _ [.int (jb true)] _ _
            refine z_ifeq 92 75 c_30_72 rfl jb_t (fun hq => ?_) (fun hq => ?_)
            · exact absurd hq (by decide)
            · refine z_go 76 _ [.ref 18] _ c_30_75 rfl ?_
              refine z_go 79 _ [.int (jn 16384), .ref 18] _ c_30_76 rfl ?_
              refine z_go 80 _ [.int (jn el), .int (jn 16384), .ref 18] _ c_30_79 rfl ?_
              refine z_go 81 _ [.int ((jn 16384) + (jn el)), .ref 18] _ c_30_80 rfl ?_
              refine z_v (jn_add _ _) ?_
              refine z_go 82 _ [.int (jo none), .int (jn (16384 + el)), .ref 18] _ c_30_81 rfl ?_
              refine z_callv 85 3 31 2 18 c_30_82 rfl ⟨Nat.le_of_ble_eq_true rfl, Nat.le_of_ble_eq_true rfl⟩ rfl rfl [.ref 18, .int (jn (16384 + el)), .int (jo none)] rfl rfl [some (.ref 18), some (.int (jn (16384 + el))), some (.int (jo none))] rfl rfl (t_add rfl h19 h20 h21 hs) ?_
              show jZ _ _ _ _ [.int (jb true)] _ _
              refine z_m (M' := jm [(21, .inl (0, 40, .inl (jao (nu wr sz none)))), (20, .inl (0, 40, .inl (ja (nu cs sz (16384 + el))))), (18, rO ln (ps + 1) pt (sz + 1) bc dp)] M) (jm_jw _ _ _) ?_
              refine z_ifeq 92 88 c_30_85 rfl jb_t (fun hq2 => ?_) (fun hq2 => ?_)
              · cases hq2
              · refine z_go 89 _ [.int (jn 1)] _ c_30_88 rfl ?_
                refine z_go 93 _ [.int (jn 1)] _ c_30_89 rfl ?_
                refine z_zret (b := true) c_30_93 ?_
                rw [show sp_list tx ln (k + 1) ps el = some (16384 + el, none, ps + 1) by rw [sp_list, if_neg h44, if_pos h93]]
                exact ⟨rfl, jm_312⟩
          · refine z_callv 72 3 26 1 18 c_30_69 rfl ⟨Nat.le_of_ble_eq_true rfl, Nat.le_of_ble_eq_true rfl⟩ rfl h18 [.ref 18, .int (jn 93)] rfl rfl [some (.ref 18), some (.int (jn 93)), none] rfl rfl (t_takes0 (ps := ps) h18 h19 hl (by omega) ht (by decide) h93) ?_
            show jZ _ _ _ _ [.int (jb false)] _ _
            refine z_ifeq 92 75 c_30_72 rfl jb_t (fun hq => ?_) (fun hq => ?_)
            · refine z_go 93 _ [.int (jn 0)] _ c_30_92 rfl ?_
              refine z_zret (b := false) c_30_93 ?_
              rw [show sp_list tx ln (k + 1) ps el = none by rw [sp_list, if_neg h44, if_neg h93]]
              exact ⟨rfl, ps, (jx_st_id h18).symm⟩
            · exact absurd hq (by decide)
        · exact absurd hq (by decide)
    · omega
theorem t_list {d ln ps sz bc dp : Nat} {pt : Bool} {tx : Nat → Nat} {M : jx_M} {cs : Nat → Nat} {wr : Nat → Option Nat} {c x : Nat} (h18 : M.1 18 = rO ln ps pt sz bc dp) (h19 : M.1 19 = .inl (1, 40, .inl (ja tx))) (h20 : M.1 20 = .inl (0, 40, .inl (ja cs))) (h21 : M.1 21 = .inl (0, 40, .inl (jao wr))) (hj : jc M) (hl : ln ≤ 40) (ht : ∀ j, tx j < 128) (hs : sz < 40) (hp : ps ≤ 52) (hc : c < 128) (he : sp_el c = some x) : jZ (d + 4) 30 0 [some (.ref 18), some (.int (jn c)), none, none, none] [] M (jA M ln pt sz bc dp cs wr (sp_list tx ln 3 ps (2 ^ x))) := by
  refine z_go 1 _ [.int (jn 1)] _ c_30_0 rfl ?_
  refine z_go 3 _ [.ref 2, .int (jn 1)] _ c_30_1 rfl ?_
  refine z_go 4 _ [.int (jn c), .ref 2, .int (jn 1)] _ c_30_3 rfl ?_
  refine z_callv 7 200 125 1 2 c_30_4 rfl ⟨Nat.le_of_ble_eq_true rfl, Nat.le_of_ble_eq_true rfl⟩ rfl hj.1.1 [.ref 2, .int (jn c)] rfl rfl [some (.ref 2), some (.int (jn c))] rfl rfl (t_el hj hc) ?_
  show jZ _ _ _ _ [.int (jo (sp_el c)), .int (jn 1)] _ _
  rw [he]
  have hx5 := sp_el_5 he
  refine z_go 8 _ [.int ((fun x y : Int32 => x <<< (y &&& 31)) (jn 1) (jo (some x)))] _ c_30_7 rfl ?_
  refine z_v (jn_sh x hx5) ?_
  refine z_go 9 [some (.ref 18), some (.int (jn c)), some (.int (jn (2 ^ x))), none, none] [] _ c_30_8 rfl ?_
  refine z_go 10 _ [.int (jn 0)] _ c_30_9 rfl ?_
  refine z_go 11 [some (.ref 18), some (.int (jn c)), some (.int (jn (2 ^ x))), some (.int (jn 0)), none] [] _ c_30_10 rfl ?_
  exact t_list_l hl ht hs (by omega) (by omega) h18 h19 h20 h21 hj
def sp_brk (tx : Nat → Nat) (ln : Nat) (pt : Bool) (ps : Nat) : Option (Nat × Option Nat × Nat) := match sp_el (sp_here tx ln ps) with
  | none => none
  | some x => if pt = true ∧ sp_here tx ln (ps + 1) = 44 then sp_list tx ln 3 (ps + 1) (2 ^ x) else
    if sp_here tx ln (ps + 1 + sp_hyp (sp_here tx ln (ps + 1)) (sp_here tx ln (ps + 1 + 1)) + sp_chp (sp_here tx ln (ps + 1 + sp_hyp (sp_here tx ln (ps + 1)) (sp_here tx ln (ps + 1 + 1))))) = 93
    then some (sp_here tx ln ps + sp_chg (sp_here tx ln (ps + 1 + sp_hyp (sp_here tx ln (ps + 1)) (sp_here tx ln (ps + 1 + 1)))), some (sp_hyd (sp_here tx ln (ps + 1)) (sp_here tx ln (ps + 1 + 1))), ps + 1 + sp_hyp (sp_here tx ln (ps + 1)) (sp_here tx ln (ps + 1 + 1)) + sp_chp (sp_here tx ln (ps + 1 + sp_hyp (sp_here tx ln (ps + 1)) (sp_here tx ln (ps + 1 + 1)))) + 1) else none
theorem sp_hyp_2 (a b : Nat) : sp_hyp a b ≤ 2 := by
  unfold sp_hyp
  repeat' split
  all_goals decide
theorem sp_chp_1 (a : Nat) : sp_chp a ≤ 1 := by
  unfold sp_chp
  split <;> decide
theorem t_brk {d ln ps sz bc dp : Nat} {pt : Bool} {tx : Nat → Nat} {M : jx_M} {cs : Nat → Nat} {wr : Nat → Option Nat} (h18 : M.1 18 = rO ln ps pt sz bc dp) (h19 : M.1 19 = .inl (1, 40, .inl (ja tx))) (h20 : M.1 20 = .inl (0, 40, .inl (ja cs))) (h21 : M.1 21 = .inl (0, 40, .inl (jao wr))) (hj : jc M) (hl : ln ≤ 40) (ht : ∀ j, tx j < 128) (hs : sz < 40) (hp : ps ≤ 50) : jZ (d + 5) 29 0 [some (.ref 18), none, none, none] [] M (jA M ln pt sz bc dp cs wr (sp_brk tx ln pt ps)) := by
  refine z_go 1 _ [.ref 18] _ c_29_0 rfl ?_
  refine z_callv 4 3 28 0 18 c_29_1 rfl ⟨Nat.le_of_ble_eq_true rfl, Nat.le_of_ble_eq_true rfl⟩ rfl h18 [.ref 18] rfl rfl [some (.ref 18)] rfl rfl (t_here' h18 h19 hl (by omega) ht) ?_
  show jZ _ _ _ _ [.int (jn (sp_here tx ln ps))] _ _
  have hcl := sp_here_lt (tx := tx) (ln := ln) (ps := ps) ht
  refine z_go 5 [some (.ref 18), some (.int (jn (sp_here tx ln ps))), none, none] [] _ c_29_4 rfl ?_
  refine z_go 7 _ [.ref 2] _ c_29_5 rfl ?_
  refine z_go 8 _ [.int (jn (sp_here tx ln ps)), .ref 2] _ c_29_7 rfl ?_
  refine z_callv 11 200 125 1 2 c_29_8 rfl ⟨Nat.le_of_ble_eq_true rfl, Nat.le_of_ble_eq_true rfl⟩ rfl hj.1.1 [.ref 2, .int (jn (sp_here tx ln ps))] rfl rfl [some (.ref 2), some (.int (jn (sp_here tx ln ps)))] rfl rfl (t_el hj hcl) ?_
  show jZ _ _ _ _ [.int (jo (sp_el (sp_here tx ln ps)))] _ _
  refine z_ifge 16 14 c_29_11 rfl (jo_lt (by first | omega | exact sp_el_lt | exact sp_ar_lt | assumption)) (fun he => ?_) (fun he => ?_)
  · refine z_go 15 _ [.int (jn 0)] _ c_29_14 rfl ?_
    refine z_zret (b := false) c_29_15 ?_
    rw [sp_brk, he]
    exact ⟨rfl, ps, (jx_st_id h18).symm⟩
  · obtain ⟨x, hx⟩ := Option.ne_none_iff_exists'.mp he
    have hx5 := sp_el_5 hx
    refine z_go 17 _ [.ref 18] _ c_29_16 rfl ?_
    refine z_go 18 _ [.ref 18, .ref 18] _ c_29_17 rfl ?_
    refine z_getf (v := .int (jn ps)) 21 c_29_18 rfl h18 rfl ?_
    refine z_go 22 _ [.int (jn 1), .int (jn ps), .ref 18] _ c_29_21 rfl ?_
    refine z_go 23 _ [.int ((jn ps) + (jn 1)), .ref 18] _ c_29_22 rfl ?_
    refine z_v (jn_add _ _) ?_
    refine z_putf (M' := jm [(18, rO ln (ps + 1) pt sz bc dp)] M) 26 c_29_23 rfl h18 (rfl) (Nat.le_of_ble_eq_true rfl) rfl ?_
    refine z_go 27 _ [.ref 18] _ c_29_26 rfl ?_
    refine z_getf (v := .int (jb pt)) 30 c_29_27 rfl rfl rfl ?_
    refine z_ifeq 48 33 c_29_30 rfl jb_t (fun hpt => ?_) (fun hpt => ?_)
    · have hh2 := sp_hyp_2 (sp_here tx ln (ps + 1)) (sp_here tx ln (ps + 1 + 1))
      have hc1 := sp_chp_1 (sp_here tx ln (ps + 1 + sp_hyp (sp_here tx ln (ps + 1)) (sp_here tx ln (ps + 1 + 1))))
      refine z_go 49 _ [.ref 18] _ c_29_48 rfl ?_
      refine z_callv 52 3 32 0 18 c_29_49 rfl ⟨Nat.le_of_ble_eq_true rfl, Nat.le_of_ble_eq_true rfl⟩ rfl rfl [.ref 18] rfl rfl [some (.ref 18), none] rfl rfl (t_hyd (ps := ps + 1) rfl h19 hl (by omega) ht (by omega)) ?_
      show jZ _ _ _ _ [.int (jn (sp_hyd (sp_here tx ln (ps + 1)) (sp_here tx ln (ps + 1 + 1))))] _ _
      refine z_m (M' := jm [(18, rO ln (ps + 1 + sp_hyp (sp_here tx ln (ps + 1)) (sp_here tx ln (ps + 1 + 1))) pt sz bc dp)] M) (jm_jw _ _ _) ?_
      refine z_go 53 [some (.ref 18), some (.int (jn (sp_here tx ln ps))), some (.int (jn (sp_hyd (sp_here tx ln (ps + 1)) (sp_here tx ln (ps + 1 + 1))))), none] [] _ c_29_52 rfl ?_
      refine z_go 54 _ [.ref 18] _ c_29_53 rfl ?_
      refine z_callv 57 3 33 0 18 c_29_54 rfl ⟨Nat.le_of_ble_eq_true rfl, Nat.le_of_ble_eq_true rfl⟩ rfl rfl [.ref 18] rfl rfl [some (.ref 18)] rfl rfl (t_chg (ps := ps + 1 + sp_hyp (sp_here tx ln (ps + 1)) (sp_here tx ln (ps + 1 + 1))) rfl h19 hl (by omega) ht) ?_
      show jZ _ _ _ _ [.int (jn (sp_chg (sp_here tx ln (ps + 1 + sp_hyp (sp_here tx ln (ps + 1)) (sp_here tx ln (ps + 1 + 1))))))] _ _
      refine z_m (M' := jm [(18, rO ln (ps + 1 + sp_hyp (sp_here tx ln (ps + 1)) (sp_here tx ln (ps + 1 + 1)) + sp_chp (sp_here tx ln (ps + 1 + sp_hyp (sp_here tx ln (ps + 1)) (sp_here tx ln (ps + 1 + 1))))) pt sz bc dp)] M) (jm_jw _ _ _) ?_
      refine z_go 58 [some (.ref 18), some (.int (jn (sp_here tx ln ps))), some (.int (jn (sp_hyd (sp_here tx ln (ps + 1)) (sp_here tx ln (ps + 1 + 1))))), some (.int (jn (sp_chg (sp_here tx ln (ps + 1 + sp_hyp (sp_here tx ln (ps + 1)) (sp_here tx ln (ps + 1 + 1)))))))] [] _ c_29_57 rfl ?_
      refine z_go 59 _ [.ref 18] _ c_29_58 rfl ?_
      refine z_go 61 _ [.int (jn 93), .ref 18] _ c_29_59 rfl ?_
      by_cases h93 : sp_here tx ln (ps + 1 + sp_hyp (sp_here tx ln (ps + 1)) (sp_here tx ln (ps + 1 + 1)) + sp_chp (sp_here tx ln (ps + 1 + sp_hyp (sp_here tx ln (ps + 1)) (sp_here tx ln (ps + 1 + 1))))) = 93
      · refine z_callv 64 3 26 1 18 c_29_61 rfl ⟨Nat.le_of_ble_eq_true rfl, Nat.le_of_ble_eq_true rfl⟩ rfl rfl [.ref 18, .int (jn 93)] rfl rfl [some (.ref 18), some (.int (jn 93)), none] rfl rfl (t_takes1 (ps := ps + 1 + sp_hyp (sp_here tx ln (ps + 1)) (sp_here tx ln (ps + 1 + 1)) + sp_chp (sp_here tx ln (ps + 1 + sp_hyp (sp_here tx ln (ps + 1)) (sp_here tx ln (ps + 1 + 1))))) rfl h19 hl (by omega) ht (by decide) (by decide) h93) ?_
        show jZ _ _ _ _ [.int (jb true)] _ _
        refine z_m (M' := jm [(18, rO ln (ps + 1 + sp_hyp (sp_here tx ln (ps + 1)) (sp_here tx ln (ps + 1 + 1)) + sp_chp (sp_here tx ln (ps + 1 + sp_hyp (sp_here tx ln (ps + 1)) (sp_here tx ln (ps + 1 + 1)))) + 1) pt sz bc dp)] M) (jm_jw _ _ _) ?_
        refine z_ifeq 82 67 c_29_64 rfl jb_t (fun hq => ?_) (fun hq => ?_)
        · exact absurd hq (by decide)
        · refine z_go 68 _ [.ref 18] _ c_29_67 rfl ?_
          refine z_go 69 _ [.int (jn (sp_here tx ln ps)), .ref 18] _ c_29_68 rfl ?_
          refine z_go 70 _ [.int (jn (sp_chg (sp_here tx ln (ps + 1 + sp_hyp (sp_here tx ln (ps + 1)) (sp_here tx ln (ps + 1 + 1)))))), .int (jn (sp_here tx ln ps)), .ref 18] _ c_29_69 rfl ?_
          refine z_go 71 _ [.int ((jn (sp_here tx ln ps)) + (jn (sp_chg (sp_here tx ln (ps + 1 + sp_hyp (sp_here tx ln (ps + 1)) (sp_here tx ln (ps + 1 + 1))))))), .ref 18] _ c_29_70 rfl ?_
          refine z_v (jn_add _ _) ?_
          refine z_go 72 _ [.int (jn (sp_hyd (sp_here tx ln (ps + 1)) (sp_here tx ln (ps + 1 + 1)))), .int (jn ((sp_here tx ln ps) + (sp_chg (sp_here tx ln (ps + 1 + sp_hyp (sp_here tx ln (ps + 1)) (sp_here tx ln (ps + 1 + 1))))))), .ref 18] _ c_29_71 rfl ?_
          show jZ _ _ _ _ ([.int (jo (some (sp_hyd (sp_here tx ln (ps + 1)) (sp_here tx ln (ps + 1 + 1))))), .int (jn ((sp_here tx ln ps) + (sp_chg (sp_here tx ln (ps + 1 + sp_hyp (sp_here tx ln (ps + 1)) (sp_here tx ln (ps + 1 + 1))))))), .ref 18]) _ _
          refine z_callv 75 3 31 2 18 c_29_72 rfl ⟨Nat.le_of_ble_eq_true rfl, Nat.le_of_ble_eq_true rfl⟩ rfl rfl [.ref 18, .int (jn ((sp_here tx ln ps) + (sp_chg (sp_here tx ln (ps + 1 + sp_hyp (sp_here tx ln (ps + 1)) (sp_here tx ln (ps + 1 + 1))))))), .int (jo (some (sp_hyd (sp_here tx ln (ps + 1)) (sp_here tx ln (ps + 1 + 1)))))] rfl rfl [some (.ref 18), some (.int (jn ((sp_here tx ln ps) + (sp_chg (sp_here tx ln (ps + 1 + sp_hyp (sp_here tx ln (ps + 1)) (sp_here tx ln (ps + 1 + 1)))))))), some (.int (jo (some (sp_hyd (sp_here tx ln (ps + 1)) (sp_here tx ln (ps + 1 + 1))))))] rfl rfl (t_add rfl h19 h20 h21 hs) ?_
          show jZ _ _ _ _ [.int (jb true)] _ _
          refine z_m (M' := jm [(21, .inl (0, 40, .inl (jao (nu wr sz (some (sp_hyd (sp_here tx ln (ps + 1)) (sp_here tx ln (ps + 1 + 1)))))))), (20, .inl (0, 40, .inl (ja (nu cs sz (sp_here tx ln ps + sp_chg (sp_here tx ln (ps + 1 + sp_hyp (sp_here tx ln (ps + 1)) (sp_here tx ln (ps + 1 + 1))))))))), (18, rO ln (ps + 1 + sp_hyp (sp_here tx ln (ps + 1)) (sp_here tx ln (ps + 1 + 1)) + sp_chp (sp_here tx ln (ps + 1 + sp_hyp (sp_here tx ln (ps + 1)) (sp_here tx ln (ps + 1 + 1)))) + 1) pt (sz + 1) bc dp)] M) (jm_jw _ _ _) ?_
          refine z_ifeq 82 78 c_29_75 rfl jb_t (fun hq2 => ?_) (fun hq2 => ?_)
          · cases hq2
          · refine z_go 79 _ [.int (jn 1)] _ c_29_78 rfl ?_
            refine z_go 83 _ [.int (jn 1)] _ c_29_79 rfl ?_
            refine z_zret (b := true) c_29_83 ?_
            rw [sp_brk, hx]
            dsimp only
            rw [if_neg (fun q => by rw [q.1] at hpt; cases hpt), if_pos h93]
            exact ⟨rfl, jm_312⟩
      · refine z_callv 64 3 26 1 18 c_29_61 rfl ⟨Nat.le_of_ble_eq_true rfl, Nat.le_of_ble_eq_true rfl⟩ rfl rfl [.ref 18, .int (jn 93)] rfl rfl [some (.ref 18), some (.int (jn 93)), none] rfl rfl (t_takes0 (ps := ps + 1 + sp_hyp (sp_here tx ln (ps + 1)) (sp_here tx ln (ps + 1 + 1)) + sp_chp (sp_here tx ln (ps + 1 + sp_hyp (sp_here tx ln (ps + 1)) (sp_here tx ln (ps + 1 + 1))))) rfl h19 hl (by omega) ht (by decide) h93) ?_
        show jZ _ _ _ _ [.int (jb false)] _ _
        refine z_ifeq 82 67 c_29_64 rfl jb_t (fun hq => ?_) (fun hq => ?_)
        · refine z_go 83 _ [.int (jn 0)] _ c_29_82 rfl ?_
          refine z_zret (b := false) c_29_83 ?_
          rw [sp_brk, hx]
          dsimp only
          rw [if_neg (fun q => by rw [q.1] at hpt; cases hpt), if_neg h93]
          exact ⟨rfl, ps + 1 + sp_hyp (sp_here tx ln (ps + 1)) (sp_here tx ln (ps + 1 + 1)) + sp_chp (sp_here tx ln (ps + 1 + sp_hyp (sp_here tx ln (ps + 1)) (sp_here tx ln (ps + 1 + 1)))), rfl⟩
        · exact absurd hq (by decide)
    · refine z_go 34 _ [.ref 18] _ c_29_33 rfl ?_
      refine z_callv 37 3 28 0 18 c_29_34 rfl ⟨Nat.le_of_ble_eq_true rfl, Nat.le_of_ble_eq_true rfl⟩ rfl rfl [.ref 18] rfl rfl [some (.ref 18)] rfl rfl (t_here' (ps := ps + 1) rfl h19 hl (by omega) ht) ?_
      show jZ _ _ _ _ [.int (jn (sp_here tx ln (ps + 1)))] _ _
      have hcl2 := sp_here_lt (tx := tx) (ln := ln) (ps := ps + 1) ht
      refine z_go 39 _ [.int (jn 44), .int (jn (sp_here tx ln (ps + 1)))] _ c_29_37 rfl ?_
      refine z_ine 48 42 c_29_39 rfl (jn_inj (by omega) (by omega)) (fun h44 => ?_) (fun h44 => ?_)
      · refine z_go 43 _ [.ref 18] _ c_29_42 rfl ?_
        refine z_go 44 _ [.int (jn (sp_here tx ln ps)), .ref 18] _ c_29_43 rfl ?_
        refine z_tail 47 3 30 1 18 c_29_44 rfl ⟨Nat.le_of_ble_eq_true rfl, Nat.le_of_ble_eq_true rfl⟩ rfl rfl [.ref 18, .int (jn (sp_here tx ln ps))] rfl rfl [some (.ref 18), some (.int (jn (sp_here tx ln ps))), none, none, none] rfl rfl c_29_47 (t_list (ps := ps + 1) (M := jm [(18, rO ln (ps + 1) pt sz bc dp)] M) rfl h19 h20 h21 hj hl ht hs (by omega) hcl hx) ?_
        intro r1 M1 q
        refine ⟨jA_b q, ?_⟩
        rw [sp_brk, hx]
        dsimp only
        rw [if_pos ⟨by simpa using hpt, h44⟩]
        exact jA_sh q
      · have hh2 := sp_hyp_2 (sp_here tx ln (ps + 1)) (sp_here tx ln (ps + 1 + 1))
        have hc1 := sp_chp_1 (sp_here tx ln (ps + 1 + sp_hyp (sp_here tx ln (ps + 1)) (sp_here tx ln (ps + 1 + 1))))
        refine z_go 49 _ [.ref 18] _ c_29_48 rfl ?_
        refine z_callv 52 3 32 0 18 c_29_49 rfl ⟨Nat.le_of_ble_eq_true rfl, Nat.le_of_ble_eq_true rfl⟩ rfl rfl [.ref 18] rfl rfl [some (.ref 18), none] rfl rfl (t_hyd (ps := ps + 1) rfl h19 hl (by omega) ht (by omega)) ?_
        show jZ _ _ _ _ [.int (jn (sp_hyd (sp_here tx ln (ps + 1)) (sp_here tx ln (ps + 1 + 1))))] _ _
        refine z_m (M' := jm [(18, rO ln (ps + 1 + sp_hyp (sp_here tx ln (ps + 1)) (sp_here tx ln (ps + 1 + 1))) pt sz bc dp)] M) (jm_jw _ _ _) ?_
        refine z_go 53 [some (.ref 18), some (.int (jn (sp_here tx ln ps))), some (.int (jn (sp_hyd (sp_here tx ln (ps + 1)) (sp_here tx ln (ps + 1 + 1))))), none] [] _ c_29_52 rfl ?_
        refine z_go 54 _ [.ref 18] _ c_29_53 rfl ?_
        refine z_callv 57 3 33 0 18 c_29_54 rfl ⟨Nat.le_of_ble_eq_true rfl, Nat.le_of_ble_eq_true rfl⟩ rfl rfl [.ref 18] rfl rfl [some (.ref 18)] rfl rfl (t_chg (ps := ps + 1 + sp_hyp (sp_here tx ln (ps + 1)) (sp_here tx ln (ps + 1 + 1))) rfl h19 hl (by omega) ht) ?_
        show jZ _ _ _ _ [.int (jn (sp_chg (sp_here tx ln (ps + 1 + sp_hyp (sp_here tx ln (ps + 1)) (sp_here tx ln (ps + 1 + 1))))))] _ _
        refine z_m (M' := jm [(18, rO ln (ps + 1 + sp_hyp (sp_here tx ln (ps + 1)) (sp_here tx ln (ps + 1 + 1)) + sp_chp (sp_here tx ln (ps + 1 + sp_hyp (sp_here tx ln (ps + 1)) (sp_here tx ln (ps + 1 + 1))))) pt sz bc dp)] M) (jm_jw _ _ _) ?_
        refine z_go 58 [some (.ref 18), some (.int (jn (sp_here tx ln ps))), some (.int (jn (sp_hyd (sp_here tx ln (ps + 1)) (sp_here tx ln (ps + 1 + 1))))), some (.int (jn (sp_chg (sp_here tx ln (ps + 1 + sp_hyp (sp_here tx ln (ps + 1)) (sp_here tx ln (ps + 1 + 1)))))))] [] _ c_29_57 rfl ?_
        refine z_go 59 _ [.ref 18] _ c_29_58 rfl ?_
        refine z_go 61 _ [.int (jn 93), .ref 18] _ c_29_59 rfl ?_
        by_cases h93 : sp_here tx ln (ps + 1 + sp_hyp (sp_here tx ln (ps + 1)) (sp_here tx ln (ps + 1 + 1)) + sp_chp (sp_here tx ln (ps + 1 + sp_hyp (sp_here tx ln (ps + 1)) (sp_here tx ln (ps + 1 + 1))))) = 93
        · refine z_callv 64 3 26 1 18 c_29_61 rfl ⟨Nat.le_of_ble_eq_true rfl, Nat.le_of_ble_eq_true rfl⟩ rfl rfl [.ref 18, .int (jn 93)] rfl rfl [some (.ref 18), some (.int (jn 93)), none] rfl rfl (t_takes1 (ps := ps + 1 + sp_hyp (sp_here tx ln (ps + 1)) (sp_here tx ln (ps + 1 + 1)) + sp_chp (sp_here tx ln (ps + 1 + sp_hyp (sp_here tx ln (ps + 1)) (sp_here tx ln (ps + 1 + 1))))) rfl h19 hl (by omega) ht (by decide) (by decide) h93) ?_
          show jZ _ _ _ _ [.int (jb true)] _ _
          refine z_m (M' := jm [(18, rO ln (ps + 1 + sp_hyp (sp_here tx ln (ps + 1)) (sp_here tx ln (ps + 1 + 1)) + sp_chp (sp_here tx ln (ps + 1 + sp_hyp (sp_here tx ln (ps + 1)) (sp_here tx ln (ps + 1 + 1)))) + 1) pt sz bc dp)] M) (jm_jw _ _ _) ?_
          refine z_ifeq 82 67 c_29_64 rfl jb_t (fun hq => ?_) (fun hq => ?_)
          · exact absurd hq (by decide)
          · refine z_go 68 _ [.ref 18] _ c_29_67 rfl ?_
            refine z_go 69 _ [.int (jn (sp_here tx ln ps)), .ref 18] _ c_29_68 rfl ?_
            refine z_go 70 _ [.int (jn (sp_chg (sp_here tx ln (ps + 1 + sp_hyp (sp_here tx ln (ps + 1)) (sp_here tx ln (ps + 1 + 1)))))), .int (jn (sp_here tx ln ps)), .ref 18] _ c_29_69 rfl ?_
            refine z_go 71 _ [.int ((jn (sp_here tx ln ps)) + (jn (sp_chg (sp_here tx ln (ps + 1 + sp_hyp (sp_here tx ln (ps + 1)) (sp_here tx ln (ps + 1 + 1))))))), .ref 18] _ c_29_70 rfl ?_
            refine z_v (jn_add _ _) ?_
            refine z_go 72 _ [.int (jn (sp_hyd (sp_here tx ln (ps + 1)) (sp_here tx ln (ps + 1 + 1)))), .int (jn ((sp_here tx ln ps) + (sp_chg (sp_here tx ln (ps + 1 + sp_hyp (sp_here tx ln (ps + 1)) (sp_here tx ln (ps + 1 + 1))))))), .ref 18] _ c_29_71 rfl ?_
            show jZ _ _ _ _ ([.int (jo (some (sp_hyd (sp_here tx ln (ps + 1)) (sp_here tx ln (ps + 1 + 1))))), .int (jn ((sp_here tx ln ps) + (sp_chg (sp_here tx ln (ps + 1 + sp_hyp (sp_here tx ln (ps + 1)) (sp_here tx ln (ps + 1 + 1))))))), .ref 18]) _ _
            refine z_callv 75 3 31 2 18 c_29_72 rfl ⟨Nat.le_of_ble_eq_true rfl, Nat.le_of_ble_eq_true rfl⟩ rfl rfl [.ref 18, .int (jn ((sp_here tx ln ps) + (sp_chg (sp_here tx ln (ps + 1 + sp_hyp (sp_here tx ln (ps + 1)) (sp_here tx ln (ps + 1 + 1))))))), .int (jo (some (sp_hyd (sp_here tx ln (ps + 1)) (sp_here tx ln (ps + 1 + 1)))))] rfl rfl [some (.ref 18), some (.int (jn ((sp_here tx ln ps) + (sp_chg (sp_here tx ln (ps + 1 + sp_hyp (sp_here tx ln (ps + 1)) (sp_here tx ln (ps + 1 + 1)))))))), some (.int (jo (some (sp_hyd (sp_here tx ln (ps + 1)) (sp_here tx ln (ps + 1 + 1))))))] rfl rfl (t_add rfl h19 h20 h21 hs) ?_
            show jZ _ _ _ _ [.int (jb true)] _ _
            refine z_m (M' := jm [(21, .inl (0, 40, .inl (jao (nu wr sz (some (sp_hyd (sp_here tx ln (ps + 1)) (sp_here tx ln (ps + 1 + 1)))))))), (20, .inl (0, 40, .inl (ja (nu cs sz (sp_here tx ln ps + sp_chg (sp_here tx ln (ps + 1 + sp_hyp (sp_here tx ln (ps + 1)) (sp_here tx ln (ps + 1 + 1))))))))), (18, rO ln (ps + 1 + sp_hyp (sp_here tx ln (ps + 1)) (sp_here tx ln (ps + 1 + 1)) + sp_chp (sp_here tx ln (ps + 1 + sp_hyp (sp_here tx ln (ps + 1)) (sp_here tx ln (ps + 1 + 1)))) + 1) pt (sz + 1) bc dp)] M) (jm_jw _ _ _) ?_
            refine z_ifeq 82 78 c_29_75 rfl jb_t (fun hq2 => ?_) (fun hq2 => ?_)
            · cases hq2
            · refine z_go 79 _ [.int (jn 1)] _ c_29_78 rfl ?_
              refine z_go 83 _ [.int (jn 1)] _ c_29_79 rfl ?_
              refine z_zret (b := true) c_29_83 ?_
              rw [sp_brk, hx]
              dsimp only
              rw [if_neg (fun q => h44 q.2), if_pos h93]
              exact ⟨rfl, jm_312⟩
        · refine z_callv 64 3 26 1 18 c_29_61 rfl ⟨Nat.le_of_ble_eq_true rfl, Nat.le_of_ble_eq_true rfl⟩ rfl rfl [.ref 18, .int (jn 93)] rfl rfl [some (.ref 18), some (.int (jn 93)), none] rfl rfl (t_takes0 (ps := ps + 1 + sp_hyp (sp_here tx ln (ps + 1)) (sp_here tx ln (ps + 1 + 1)) + sp_chp (sp_here tx ln (ps + 1 + sp_hyp (sp_here tx ln (ps + 1)) (sp_here tx ln (ps + 1 + 1))))) rfl h19 hl (by omega) ht (by decide) h93) ?_
          show jZ _ _ _ _ [.int (jb false)] _ _
          refine z_ifeq 82 67 c_29_64 rfl jb_t (fun hq => ?_) (fun hq => ?_)
          · refine z_go 83 _ [.int (jn 0)] _ c_29_82 rfl ?_
            refine z_zret (b := false) c_29_83 ?_
            rw [sp_brk, hx]
            dsimp only
            rw [if_neg (fun q => h44 q.2), if_neg h93]
            exact ⟨rfl, ps + 1 + sp_hyp (sp_here tx ln (ps + 1)) (sp_here tx ln (ps + 1 + 1)) + sp_chp (sp_here tx ln (ps + 1 + sp_hyp (sp_here tx ln (ps + 1)) (sp_here tx ln (ps + 1 + 1)))), rfl⟩
          · exact absurd hq (by decide)
def sp_atom (tx : Nat → Nat) (ln : Nat) (pt : Bool) (ps : Nat) : Option (Nat × Option Nat × Nat) := if sp_here tx ln ps = 91 then sp_brk tx ln pt (ps + 1) else
  if pt = true ∧ sp_here tx ln ps = 42 then some (16415, none, ps + 1) else match sp_ar (sp_here tx ln ps) with
  | some _ => some (sp_here tx ln ps - 97 + 65 + 128 + 4096, none, ps + 1)
  | none => match sp_el (sp_here tx ln ps) with
    | some _ => some (sp_here tx ln ps + 4096, none, ps + 1)
    | none => none
theorem sp_ar_ge {c k : Nat} (h : sp_ar c = some k) : 97 ≤ c := by
  unfold sp_ar at h
  repeat' split at h
  all_goals first | omega | cases h
theorem t_atom {d ln ps sz bc dp : Nat} {pt : Bool} {tx : Nat → Nat} {M : jx_M} {cs : Nat → Nat} {wr : Nat → Option Nat} (h18 : M.1 18 = rO ln ps pt sz bc dp) (h19 : M.1 19 = .inl (1, 40, .inl (ja tx))) (h20 : M.1 20 = .inl (0, 40, .inl (ja cs))) (h21 : M.1 21 = .inl (0, 40, .inl (jao wr))) (hj : jc M) (hl : ln ≤ 40) (ht : ∀ j, tx j < 128) (hs : sz < 40) (hp : ps ≤ 48) : jZ (d + 6) 27 0 [some (.ref 18), none] [] M (jA M ln pt sz bc dp cs wr (sp_atom tx ln pt ps)) := by
  refine z_go 1 _ [.ref 18] _ c_27_0 rfl ?_
  refine z_callv 4 3 28 0 18 c_27_1 rfl ⟨Nat.le_of_ble_eq_true rfl, Nat.le_of_ble_eq_true rfl⟩ rfl h18 [.ref 18] rfl rfl [some (.ref 18)] rfl rfl (t_here' h18 h19 hl (by omega) ht) ?_
  show jZ _ _ _ _ [.int (jn (sp_here tx ln ps))] _ _
  have hcl := sp_here_lt (tx := tx) (ln := ln) (ps := ps) ht
  refine z_go 5 [some (.ref 18), some (.int (jn (sp_here tx ln ps)))] [] _ c_27_4 rfl ?_
  refine z_go 6 _ [.ref 18] _ c_27_5 rfl ?_
  refine z_go 8 _ [.int (jn 91), .ref 18] _ c_27_6 rfl ?_
  by_cases h91 : sp_here tx ln ps = 91
  · refine z_callv 11 3 26 1 18 c_27_8 rfl ⟨Nat.le_of_ble_eq_true rfl, Nat.le_of_ble_eq_true rfl⟩ rfl h18 [.ref 18, .int (jn 91)] rfl rfl [some (.ref 18), some (.int (jn 91)), none] rfl rfl (t_takes1 (ps := ps) h18 h19 hl (by omega) ht (by decide) (by decide) h91) ?_
    show jZ _ _ _ _ [.int (jb true)] _ _
    refine z_ifeq 19 14 c_27_11 rfl jb_t (fun hq => ?_) (fun hq => ?_)
    · exact absurd hq (by decide)
    · refine z_go 15 _ [.ref 18] _ c_27_14 rfl ?_
      refine z_tail 18 3 29 0 18 c_27_15 rfl ⟨Nat.le_of_ble_eq_true rfl, Nat.le_of_ble_eq_true rfl⟩ rfl rfl [.ref 18] rfl rfl [some (.ref 18), none, none, none] rfl rfl c_27_18 (t_brk (ps := ps + 1) (M := jm [(18, rO ln (ps + 1) pt sz bc dp)] M) rfl h19 h20 h21 hj hl ht hs (by omega)) ?_
      intro r1 M1 q
      refine ⟨jA_b q, ?_⟩
      rw [sp_atom, if_pos h91]
      exact jA_sh q
  · refine z_callv 11 3 26 1 18 c_27_8 rfl ⟨Nat.le_of_ble_eq_true rfl, Nat.le_of_ble_eq_true rfl⟩ rfl h18 [.ref 18, .int (jn 91)] rfl rfl [some (.ref 18), some (.int (jn 91)), none] rfl rfl (t_takes0 (ps := ps) h18 h19 hl (by omega) ht (by decide) h91) ?_
    show jZ _ _ _ _ [.int (jb false)] _ _
    refine z_ifeq 19 14 c_27_11 rfl jb_t (fun hq => ?_) (fun hq => ?_)
    · refine z_go 20 _ [.ref 18] _ c_27_19 rfl ?_
      refine z_getf (v := .int (jb pt)) 23 c_27_20 rfl h18 rfl ?_
      refine z_ifeq 44 26 c_27_23 rfl jb_t (fun hpt => ?_) (fun hpt => ?_)
      · refine z_go 45 _ [.ref 18] _ c_27_44 rfl ?_
        refine z_go 46 _ [.ref 18, .ref 18] _ c_27_45 rfl ?_
        refine z_getf (v := .int (jn ps)) 49 c_27_46 rfl h18 rfl ?_
        refine z_go 50 _ [.int (jn 1), .int (jn ps), .ref 18] _ c_27_49 rfl ?_
        refine z_go 51 _ [.int ((jn ps) + (jn 1)), .ref 18] _ c_27_50 rfl ?_
        refine z_v (jn_add _ _) ?_
        refine z_putf (M' := jm [(18, rO ln (ps + 1) pt sz bc dp)] M) 54 c_27_51 rfl h18 (rfl) (Nat.le_of_ble_eq_true rfl) rfl ?_
        refine z_go 56 _ [.ref 3] _ c_27_54 rfl ?_
        refine z_go 57 _ [.int (jn (sp_here tx ln ps)), .ref 3] _ c_27_56 rfl ?_
        refine z_callv 60 200 125 1 3 c_27_57 rfl ⟨Nat.le_of_ble_eq_true rfl, Nat.le_of_ble_eq_true rfl⟩ rfl hj.2.1 [.ref 3, .int (jn (sp_here tx ln ps))] rfl rfl [some (.ref 3), some (.int (jn (sp_here tx ln ps)))] rfl rfl (t_ar (M := jm [(18, rO ln (ps + 1) pt sz bc dp)] M) hj hcl) ?_
        show jZ _ _ _ _ [.int (jo (sp_ar (sp_here tx ln ps)))] _ _
        refine z_iflt 84 63 c_27_60 rfl (jo_lt (by first | omega | exact sp_el_lt | exact sp_ar_lt | assumption)) (fun ha => ?_) (fun ha => ?_)
        · refine z_go 86 _ [.ref 2] _ c_27_84 rfl ?_
          refine z_go 87 _ [.int (jn (sp_here tx ln ps)), .ref 2] _ c_27_86 rfl ?_
          refine z_callv 90 200 125 1 2 c_27_87 rfl ⟨Nat.le_of_ble_eq_true rfl, Nat.le_of_ble_eq_true rfl⟩ rfl hj.1.1 [.ref 2, .int (jn (sp_here tx ln ps))] rfl rfl [some (.ref 2), some (.int (jn (sp_here tx ln ps)))] rfl rfl (t_el (M := jm [(18, rO ln (ps + 1) pt sz bc dp)] M) hj hcl) ?_
          show jZ _ _ _ _ [.int (jo (sp_el (sp_here tx ln ps)))] _ _
          refine z_iflt 110 93 c_27_90 rfl (jo_lt (by first | omega | exact sp_el_lt | exact sp_ar_lt | assumption)) (fun he => ?_) (fun he => ?_)
          · refine z_go 111 _ [.int (jn 0)] _ c_27_110 rfl ?_
            refine z_zret (b := false) c_27_111 ?_
            rw [sp_atom, if_neg h91, if_neg (fun q => by rw [q.1] at hpt; cases hpt), ha]
            dsimp only
            rw [he]
            exact ⟨rfl, ps + 1, rfl⟩
          · obtain ⟨x, hx⟩ := Option.ne_none_iff_exists'.mp he
            refine z_go 94 _ [.ref 18] _ c_27_93 rfl ?_
            refine z_go 95 _ [.int (jn (sp_here tx ln ps)), .ref 18] _ c_27_94 rfl ?_
            refine z_go 98 _ [.int (jn 4096), .int (jn (sp_here tx ln ps)), .ref 18] _ c_27_95 rfl ?_
            refine z_go 99 _ [.int ((jn (sp_here tx ln ps)) + (jn 4096)), .ref 18] _ c_27_98 rfl ?_
            refine z_v (jn_add _ _) ?_
            refine z_go 100 _ [.int (jo none), .int (jn ((sp_here tx ln ps) + 4096)), .ref 18] _ c_27_99 rfl ?_
            refine z_callv 103 3 31 2 18 c_27_100 rfl ⟨Nat.le_of_ble_eq_true rfl, Nat.le_of_ble_eq_true rfl⟩ rfl rfl [.ref 18, .int (jn ((sp_here tx ln ps) + 4096)), .int (jo none)] rfl rfl [some (.ref 18), some (.int (jn ((sp_here tx ln ps) + 4096))), some (.int (jo none))] rfl rfl (t_add rfl h19 h20 h21 hs) ?_
            show jZ _ _ _ _ [.int (jb true)] _ _
            refine z_m (M' := jm [(21, .inl (0, 40, .inl (jao (nu wr sz none)))), (20, .inl (0, 40, .inl (ja (nu cs sz (sp_here tx ln ps + 4096))))), (18, rO ln (ps + 1) pt (sz + 1) bc dp)] M) (jm_jw _ _ _) ?_
            refine z_ifeq 110 106 c_27_103 rfl jb_t (fun hq2 => ?_) (fun hq2 => ?_)
            · cases hq2
            · refine z_go 107 _ [.int (jn 1)] _ c_27_106 rfl ?_
              refine z_go 111 _ [.int (jn 1)] _ c_27_107 rfl ?_
              refine z_zret (b := true) c_27_111 ?_
              rw [sp_atom, if_neg h91, if_neg (fun q => by rw [q.1] at hpt; cases hpt), ha]
              dsimp only
              rw [hx]
              exact ⟨rfl, jm_312⟩
        · obtain ⟨x, hx⟩ := Option.ne_none_iff_exists'.mp ha
          have hge := sp_ar_ge hx
          refine z_go 64 _ [.ref 18] _ c_27_63 rfl ?_
          refine z_go 65 _ [.int (jn (sp_here tx ln ps)), .ref 18] _ c_27_64 rfl ?_
          refine z_go 67 _ [.int (jn 97), .int (jn (sp_here tx ln ps)), .ref 18] _ c_27_65 rfl ?_
          refine z_go 68 _ [.int ((jn (sp_here tx ln ps)) - (jn 97)), .ref 18] _ c_27_67 rfl ?_
          refine z_v (jn_sub (by omega)) ?_
          refine z_go 70 _ [.int (jn 65), .int (jn ((sp_here tx ln ps) - 97)), .ref 18] _ c_27_68 rfl ?_
          refine z_go 71 _ [.int ((jn ((sp_here tx ln ps) - 97)) + (jn 65)), .ref 18] _ c_27_70 rfl ?_
          refine z_v (jn_add _ _) ?_
          refine z_go 74 _ [.int (jn 128), .int (jn (((sp_here tx ln ps) - 97) + 65)), .ref 18] _ c_27_71 rfl ?_
          refine z_go 75 _ [.int ((jn (((sp_here tx ln ps) - 97) + 65)) + (jn 128)), .ref 18] _ c_27_74 rfl ?_
          refine z_v (jn_add _ _) ?_
          refine z_go 78 _ [.int (jn 4096), .int (jn ((((sp_here tx ln ps) - 97) + 65) + 128)), .ref 18] _ c_27_75 rfl ?_
          refine z_go 79 _ [.int ((jn ((((sp_here tx ln ps) - 97) + 65) + 128)) + (jn 4096)), .ref 18] _ c_27_78 rfl ?_
          refine z_v (jn_add _ _) ?_
          refine z_go 80 _ [.int (jo none), .int (jn (((((sp_here tx ln ps) - 97) + 65) + 128) + 4096)), .ref 18] _ c_27_79 rfl ?_
          refine z_callv 83 3 31 2 18 c_27_80 rfl ⟨Nat.le_of_ble_eq_true rfl, Nat.le_of_ble_eq_true rfl⟩ rfl rfl [.ref 18, .int (jn (((((sp_here tx ln ps) - 97) + 65) + 128) + 4096)), .int (jo none)] rfl rfl [some (.ref 18), some (.int (jn (((((sp_here tx ln ps) - 97) + 65) + 128) + 4096))), some (.int (jo none))] rfl rfl (t_add rfl h19 h20 h21 hs) ?_
          show jZ _ _ _ _ [.int (jb true)] _ _
          refine z_m (M' := jm [(21, .inl (0, 40, .inl (jao (nu wr sz none)))), (20, .inl (0, 40, .inl (ja (nu cs sz (sp_here tx ln ps - 97 + 65 + 128 + 4096))))), (18, rO ln (ps + 1) pt (sz + 1) bc dp)] M) (jm_jw _ _ _) ?_
          refine z_zret (b := true) c_27_83 ?_
          rw [sp_atom, if_neg h91, if_neg (fun q => by rw [q.1] at hpt; cases hpt), hx]
          exact ⟨rfl, jm_312⟩
      · refine z_go 27 _ [.ref 18] _ c_27_26 rfl ?_
        refine z_go 29 _ [.int (jn 42), .ref 18] _ c_27_27 rfl ?_
        by_cases h42 : sp_here tx ln ps = 42
        · refine z_callv 32 3 26 1 18 c_27_29 rfl ⟨Nat.le_of_ble_eq_true rfl, Nat.le_of_ble_eq_true rfl⟩ rfl h18 [.ref 18, .int (jn 42)] rfl rfl [some (.ref 18), some (.int (jn 42)), none] rfl rfl (t_takes1 (ps := ps) h18 h19 hl (by omega) ht (by decide) (by decide) h42) ?_
          show jZ _ _ _ _ [.int (jb true)] _ _
          refine z_ifeq 44 35 c_27_32 rfl jb_t (fun hq => ?_) (fun hq => ?_)
          · exact absurd hq (by decide)
          · refine z_go 36 _ [.ref 18] _ c_27_35 rfl ?_
            refine z_go 39 _ [.int (jn 16415), .ref 18] _ c_27_36 rfl ?_
            refine z_go 40 _ [.int (jo none), .int (jn 16415), .ref 18] _ c_27_39 rfl ?_
            refine z_callv 43 3 31 2 18 c_27_40 rfl ⟨Nat.le_of_ble_eq_true rfl, Nat.le_of_ble_eq_true rfl⟩ rfl rfl [.ref 18, .int (jn 16415), .int (jo none)] rfl rfl [some (.ref 18), some (.int (jn 16415)), some (.int (jo none))] rfl rfl (t_add rfl h19 h20 h21 hs) ?_
            show jZ _ _ _ _ [.int (jb true)] _ _
            refine z_m (M' := jm [(21, .inl (0, 40, .inl (jao (nu wr sz none)))), (20, .inl (0, 40, .inl (ja (nu cs sz 16415)))), (18, rO ln (ps + 1) pt (sz + 1) bc dp)] M) (jm_jw _ _ _) ?_
            refine z_zret (b := true) c_27_43 ?_
            rw [sp_atom, if_neg h91, if_pos ⟨by simpa using hpt, h42⟩]
            exact ⟨rfl, jm_312⟩
        · refine z_callv 32 3 26 1 18 c_27_29 rfl ⟨Nat.le_of_ble_eq_true rfl, Nat.le_of_ble_eq_true rfl⟩ rfl h18 [.ref 18, .int (jn 42)] rfl rfl [some (.ref 18), some (.int (jn 42)), none] rfl rfl (t_takes0 (ps := ps) h18 h19 hl (by omega) ht (by decide) h42) ?_
          show jZ _ _ _ _ [.int (jb false)] _ _
          refine z_ifeq 44 35 c_27_32 rfl jb_t (fun hq => ?_) (fun hq => ?_)
          · refine z_go 45 _ [.ref 18] _ c_27_44 rfl ?_
            refine z_go 46 _ [.ref 18, .ref 18] _ c_27_45 rfl ?_
            refine z_getf (v := .int (jn ps)) 49 c_27_46 rfl h18 rfl ?_
            refine z_go 50 _ [.int (jn 1), .int (jn ps), .ref 18] _ c_27_49 rfl ?_
            refine z_go 51 _ [.int ((jn ps) + (jn 1)), .ref 18] _ c_27_50 rfl ?_
            refine z_v (jn_add _ _) ?_
            refine z_putf (M' := jm [(18, rO ln (ps + 1) pt sz bc dp)] M) 54 c_27_51 rfl h18 (rfl) (Nat.le_of_ble_eq_true rfl) rfl ?_
            refine z_go 56 _ [.ref 3] _ c_27_54 rfl ?_
            refine z_go 57 _ [.int (jn (sp_here tx ln ps)), .ref 3] _ c_27_56 rfl ?_
            refine z_callv 60 200 125 1 3 c_27_57 rfl ⟨Nat.le_of_ble_eq_true rfl, Nat.le_of_ble_eq_true rfl⟩ rfl hj.2.1 [.ref 3, .int (jn (sp_here tx ln ps))] rfl rfl [some (.ref 3), some (.int (jn (sp_here tx ln ps)))] rfl rfl (t_ar (M := jm [(18, rO ln (ps + 1) pt sz bc dp)] M) hj hcl) ?_
            show jZ _ _ _ _ [.int (jo (sp_ar (sp_here tx ln ps)))] _ _
            refine z_iflt 84 63 c_27_60 rfl (jo_lt (by first | omega | exact sp_el_lt | exact sp_ar_lt | assumption)) (fun ha => ?_) (fun ha => ?_)
            · refine z_go 86 _ [.ref 2] _ c_27_84 rfl ?_
              refine z_go 87 _ [.int (jn (sp_here tx ln ps)), .ref 2] _ c_27_86 rfl ?_
              refine z_callv 90 200 125 1 2 c_27_87 rfl ⟨Nat.le_of_ble_eq_true rfl, Nat.le_of_ble_eq_true rfl⟩ rfl hj.1.1 [.ref 2, .int (jn (sp_here tx ln ps))] rfl rfl [some (.ref 2), some (.int (jn (sp_here tx ln ps)))] rfl rfl (t_el (M := jm [(18, rO ln (ps + 1) pt sz bc dp)] M) hj hcl) ?_
              show jZ _ _ _ _ [.int (jo (sp_el (sp_here tx ln ps)))] _ _
              refine z_iflt 110 93 c_27_90 rfl (jo_lt (by first | omega | exact sp_el_lt | exact sp_ar_lt | assumption)) (fun he => ?_) (fun he => ?_)
              · refine z_go 111 _ [.int (jn 0)] _ c_27_110 rfl ?_
                refine z_zret (b := false) c_27_111 ?_
                rw [sp_atom, if_neg h91, if_neg (fun q => h42 q.2), ha]
                dsimp only
                rw [he]
                exact ⟨rfl, ps + 1, rfl⟩
              · obtain ⟨x, hx⟩ := Option.ne_none_iff_exists'.mp he
                refine z_go 94 _ [.ref 18] _ c_27_93 rfl ?_
                refine z_go 95 _ [.int (jn (sp_here tx ln ps)), .ref 18] _ c_27_94 rfl ?_
                refine z_go 98 _ [.int (jn 4096), .int (jn (sp_here tx ln ps)), .ref 18] _ c_27_95 rfl ?_
                refine z_go 99 _ [.int ((jn (sp_here tx ln ps)) + (jn 4096)), .ref 18] _ c_27_98 rfl ?_
                refine z_v (jn_add _ _) ?_
                refine z_go 100 _ [.int (jo none), .int (jn ((sp_here tx ln ps) + 4096)), .ref 18] _ c_27_99 rfl ?_
                refine z_callv 103 3 31 2 18 c_27_100 rfl ⟨Nat.le_of_ble_eq_true rfl, Nat.le_of_ble_eq_true rfl⟩ rfl rfl [.ref 18, .int (jn ((sp_here tx ln ps) + 4096)), .int (jo none)] rfl rfl [some (.ref 18), some (.int (jn ((sp_here tx ln ps) + 4096))), some (.int (jo none))] rfl rfl (t_add rfl h19 h20 h21 hs) ?_
                show jZ _ _ _ _ [.int (jb true)] _ _
                refine z_m (M' := jm [(21, .inl (0, 40, .inl (jao (nu wr sz none)))), (20, .inl (0, 40, .inl (ja (nu cs sz (sp_here tx ln ps + 4096))))), (18, rO ln (ps + 1) pt (sz + 1) bc dp)] M) (jm_jw _ _ _) ?_
                refine z_ifeq 110 106 c_27_103 rfl jb_t (fun hq2 => ?_) (fun hq2 => ?_)
                · cases hq2
                · refine z_go 107 _ [.int (jn 1)] _ c_27_106 rfl ?_
                  refine z_go 111 _ [.int (jn 1)] _ c_27_107 rfl ?_
                  refine z_zret (b := true) c_27_111 ?_
                  rw [sp_atom, if_neg h91, if_neg (fun q => h42 q.2), ha]
                  dsimp only
                  rw [hx]
                  exact ⟨rfl, jm_312⟩
            · obtain ⟨x, hx⟩ := Option.ne_none_iff_exists'.mp ha
              have hge := sp_ar_ge hx
              refine z_go 64 _ [.ref 18] _ c_27_63 rfl ?_
              refine z_go 65 _ [.int (jn (sp_here tx ln ps)), .ref 18] _ c_27_64 rfl ?_
              refine z_go 67 _ [.int (jn 97), .int (jn (sp_here tx ln ps)), .ref 18] _ c_27_65 rfl ?_
              refine z_go 68 _ [.int ((jn (sp_here tx ln ps)) - (jn 97)), .ref 18] _ c_27_67 rfl ?_
              refine z_v (jn_sub (by omega)) ?_
              refine z_go 70 _ [.int (jn 65), .int (jn ((sp_here tx ln ps) - 97)), .ref 18] _ c_27_68 rfl ?_
              refine z_go 71 _ [.int ((jn ((sp_here tx ln ps) - 97)) + (jn 65)), .ref 18] _ c_27_70 rfl ?_
              refine z_v (jn_add _ _) ?_
              refine z_go 74 _ [.int (jn 128), .int (jn (((sp_here tx ln ps) - 97) + 65)), .ref 18] _ c_27_71 rfl ?_
              refine z_go 75 _ [.int ((jn (((sp_here tx ln ps) - 97) + 65)) + (jn 128)), .ref 18] _ c_27_74 rfl ?_
              refine z_v (jn_add _ _) ?_
              refine z_go 78 _ [.int (jn 4096), .int (jn ((((sp_here tx ln ps) - 97) + 65) + 128)), .ref 18] _ c_27_75 rfl ?_
              refine z_go 79 _ [.int ((jn ((((sp_here tx ln ps) - 97) + 65) + 128)) + (jn 4096)), .ref 18] _ c_27_78 rfl ?_
              refine z_v (jn_add _ _) ?_
              refine z_go 80 _ [.int (jo none), .int (jn (((((sp_here tx ln ps) - 97) + 65) + 128) + 4096)), .ref 18] _ c_27_79 rfl ?_
              refine z_callv 83 3 31 2 18 c_27_80 rfl ⟨Nat.le_of_ble_eq_true rfl, Nat.le_of_ble_eq_true rfl⟩ rfl rfl [.ref 18, .int (jn (((((sp_here tx ln ps) - 97) + 65) + 128) + 4096)), .int (jo none)] rfl rfl [some (.ref 18), some (.int (jn (((((sp_here tx ln ps) - 97) + 65) + 128) + 4096))), some (.int (jo none))] rfl rfl (t_add rfl h19 h20 h21 hs) ?_
              show jZ _ _ _ _ [.int (jb true)] _ _
              refine z_m (M' := jm [(21, .inl (0, 40, .inl (jao (nu wr sz none)))), (20, .inl (0, 40, .inl (ja (nu cs sz (sp_here tx ln ps - 97 + 65 + 128 + 4096))))), (18, rO ln (ps + 1) pt (sz + 1) bc dp)] M) (jm_jw _ _ _) ?_
              refine z_zret (b := true) c_27_83 ?_
              rw [sp_atom, if_neg h91, if_neg (fun q => h42 q.2), hx]
              exact ⟨rfl, jm_312⟩
          · exact absurd hq (by decide)
    · exact absurd hq (by decide)
