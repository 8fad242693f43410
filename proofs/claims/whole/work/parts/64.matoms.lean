/-! THE REFERENCE: atoms of a text; printed by wip/whole/p64.py -/
theorem c_77_0 : jx_cd 77 0 = some (o_ild 1 1) := rfl
theorem c_77_1 : jx_cd 77 1 = some (o_ald 0 1) := rfl
theorem c_77_2 : jx_cd 77 2 = some (o_getf 6 1) := rfl
theorem c_77_5 : jx_cd 77 5 = some (o_ige 17) := rfl
theorem c_77_8 : jx_cd 77 8 = some (o_ald 0 1) := rfl
theorem c_77_9 : jx_cd 77 9 = some (o_getf 6 2) := rfl
theorem c_77_12 : jx_cd 77 12 = some (o_ild 1 1) := rfl
theorem c_77_13 : jx_cd 77 13 = some (o_iald) := rfl
theorem c_77_14 : jx_cd 77 14 = some (o_goto 18) := rfl
theorem c_77_17 : jx_cd 77 17 = some (o_push (.int 0) 1) := rfl
theorem c_77_18 : jx_cd 77 18 = some (o_iret) := rfl
theorem c_78_0 : jx_cd 78 0 = some (o_ild 0 1) := rfl
theorem c_78_1 : jx_cd 78 1 = some (o_push (.int 45) 2) := rfl
theorem c_78_3 : jx_cd 78 3 = some (o_ine 10) := rfl
theorem c_78_6 : jx_cd 78 6 = some (o_push (.int 1) 1) := rfl
theorem c_78_7 : jx_cd 78 7 = some (o_goto 45) := rfl
theorem c_78_10 : jx_cd 78 10 = some (o_ild 0 1) := rfl
theorem c_78_11 : jx_cd 78 11 = some (o_push (.int 61) 2) := rfl
theorem c_78_13 : jx_cd 78 13 = some (o_ine 20) := rfl
theorem c_78_16 : jx_cd 78 16 = some (o_push (.int 2) 1) := rfl
theorem c_78_17 : jx_cd 78 17 = some (o_goto 45) := rfl
theorem c_78_20 : jx_cd 78 20 = some (o_ild 0 1) := rfl
theorem c_78_21 : jx_cd 78 21 = some (o_push (.int 35) 2) := rfl
theorem c_78_23 : jx_cd 78 23 = some (o_ine 30) := rfl
theorem c_78_26 : jx_cd 78 26 = some (o_push (.int 3) 1) := rfl
theorem c_78_27 : jx_cd 78 27 = some (o_goto 45) := rfl
theorem c_78_30 : jx_cd 78 30 = some (o_ild 0 1) := rfl
theorem c_78_31 : jx_cd 78 31 = some (o_push (.int 126) 2) := rfl
theorem c_78_33 : jx_cd 78 33 = some (o_ine 44) := rfl
theorem c_78_36 : jx_cd 78 36 = some (o_ild 1 1) := rfl
theorem c_78_37 : jx_cd 78 37 = some (o_ifeq 44) := rfl
theorem c_78_40 : jx_cd 78 40 = some (o_push (.int 5) 1) := rfl
theorem c_78_41 : jx_cd 78 41 = some (o_goto 45) := rfl
theorem c_78_44 : jx_cd 78 44 = some (o_push (.int 0) 1) := rfl
theorem c_78_45 : jx_cd 78 45 = some (o_iret) := rfl
theorem c_80_0 : jx_cd 80 0 = some (o_ild 0 1) := rfl
theorem c_80_1 : jx_cd 80 1 = some (o_push (.int 67) 2) := rfl
theorem c_80_3 : jx_cd 80 3 = some (o_ine 10) := rfl
theorem c_80_6 : jx_cd 80 6 = some (o_push (.int 0) 1) := rfl
theorem c_80_7 : jx_cd 80 7 = some (o_goto 51) := rfl
theorem c_80_10 : jx_cd 80 10 = some (o_ild 0 1) := rfl
theorem c_80_11 : jx_cd 80 11 = some (o_push (.int 78) 2) := rfl
theorem c_80_13 : jx_cd 80 13 = some (o_ine 20) := rfl
theorem c_80_16 : jx_cd 80 16 = some (o_push (.int 1) 1) := rfl
theorem c_80_17 : jx_cd 80 17 = some (o_goto 51) := rfl
theorem c_80_20 : jx_cd 80 20 = some (o_ild 0 1) := rfl
theorem c_80_21 : jx_cd 80 21 = some (o_push (.int 79) 2) := rfl
theorem c_80_23 : jx_cd 80 23 = some (o_ine 30) := rfl
theorem c_80_26 : jx_cd 80 26 = some (o_push (.int 2) 1) := rfl
theorem c_80_27 : jx_cd 80 27 = some (o_goto 51) := rfl
theorem c_80_30 : jx_cd 80 30 = some (o_ild 0 1) := rfl
theorem c_80_31 : jx_cd 80 31 = some (o_push (.int 83) 2) := rfl
theorem c_80_33 : jx_cd 80 33 = some (o_ine 40) := rfl
theorem c_80_36 : jx_cd 80 36 = some (o_push (.int 3) 1) := rfl
theorem c_80_37 : jx_cd 80 37 = some (o_goto 51) := rfl
theorem c_80_40 : jx_cd 80 40 = some (o_ild 0 1) := rfl
theorem c_80_41 : jx_cd 80 41 = some (o_push (.int 70) 2) := rfl
theorem c_80_43 : jx_cd 80 43 = some (o_ine 50) := rfl
theorem c_80_46 : jx_cd 80 46 = some (o_push (.int 4) 1) := rfl
theorem c_80_47 : jx_cd 80 47 = some (o_goto 51) := rfl
theorem c_80_50 : jx_cd 80 50 = some (o_push (.int (-1)) 1) := rfl
theorem c_80_51 : jx_cd 80 51 = some (o_iret) := rfl
theorem c_81_0 : jx_cd 81 0 = some (o_ald 0 1) := rfl
theorem c_81_1 : jx_cd 81 1 = some (o_getf 6 5) := rfl
theorem c_81_4 : jx_cd 81 4 = some (o_ald 0 1) := rfl
theorem c_81_5 : jx_cd 81 5 = some (o_getf 6 4) := rfl
theorem c_81_8 : jx_cd 81 8 = some (o_ild 1 1) := rfl
theorem c_81_9 : jx_cd 81 9 = some (o_iast) := rfl
theorem c_81_10 : jx_cd 81 10 = some (o_ald 0 1) := rfl
theorem c_81_11 : jx_cd 81 11 = some (o_getf 6 6) := rfl
theorem c_81_14 : jx_cd 81 14 = some (o_ald 0 1) := rfl
theorem c_81_15 : jx_cd 81 15 = some (o_getf 6 4) := rfl
theorem c_81_18 : jx_cd 81 18 = some (o_ild 2 1) := rfl
theorem c_81_19 : jx_cd 81 19 = some (o_zast) := rfl
theorem c_81_20 : jx_cd 81 20 = some (o_ald 0 1) := rfl
theorem c_81_21 : jx_cd 81 21 = some (o_getf 6 7) := rfl
theorem c_81_24 : jx_cd 81 24 = some (o_ald 0 1) := rfl
theorem c_81_25 : jx_cd 81 25 = some (o_getf 6 4) := rfl
theorem c_81_28 : jx_cd 81 28 = some (o_push (.int 0) 1) := rfl
theorem c_81_29 : jx_cd 81 29 = some (o_iast) := rfl
theorem c_81_30 : jx_cd 81 30 = some (o_ald 0 1) := rfl
theorem c_81_31 : jx_cd 81 31 = some (o_getf 6 8) := rfl
theorem c_81_34 : jx_cd 81 34 = some (o_ald 0 1) := rfl
theorem c_81_35 : jx_cd 81 35 = some (o_getf 6 4) := rfl
theorem c_81_38 : jx_cd 81 38 = some (o_push (.int 0) 1) := rfl
theorem c_81_39 : jx_cd 81 39 = some (o_iast) := rfl
theorem c_81_40 : jx_cd 81 40 = some (o_ald 0 1) := rfl
theorem c_81_41 : jx_cd 81 41 = some (o_getf 6 9) := rfl
theorem c_81_44 : jx_cd 81 44 = some (o_ald 0 1) := rfl
theorem c_81_45 : jx_cd 81 45 = some (o_getf 6 4) := rfl
theorem c_81_48 : jx_cd 81 48 = some (o_push (.int 0) 1) := rfl
theorem c_81_49 : jx_cd 81 49 = some (o_zast) := rfl
theorem c_81_50 : jx_cd 81 50 = some (o_ald 0 1) := rfl
theorem c_81_51 : jx_cd 81 51 = some (o_getf 6 10) := rfl
theorem c_81_54 : jx_cd 81 54 = some (o_ald 0 1) := rfl
theorem c_81_55 : jx_cd 81 55 = some (o_getf 6 4) := rfl
theorem c_81_58 : jx_cd 81 58 = some (o_push (.int 0) 1) := rfl
theorem c_81_59 : jx_cd 81 59 = some (o_iast) := rfl
theorem c_81_60 : jx_cd 81 60 = some (o_push (.int 0) 1) := rfl
theorem c_81_61 : jx_cd 81 61 = some (o_ist 3 1) := rfl
theorem c_81_62 : jx_cd 81 62 = some (o_ild 3 1) := rfl
theorem c_81_63 : jx_cd 81 63 = some (o_ald 0 1) := rfl
theorem c_81_64 : jx_cd 81 64 = some (o_getf 6 4) := rfl
theorem c_81_67 : jx_cd 81 67 = some (o_ige 106) := rfl
theorem c_81_70 : jx_cd 81 70 = some (o_ald 0 1) := rfl
theorem c_81_71 : jx_cd 81 71 = some (o_getf 6 11) := rfl
theorem c_81_74 : jx_cd 81 74 = some (o_push (.int 40) 2) := rfl
theorem c_81_76 : jx_cd 81 76 = some (o_ald 0 1) := rfl
theorem c_81_77 : jx_cd 81 77 = some (o_getf 6 4) := rfl
theorem c_81_80 : jx_cd 81 80 = some (o_bin fun x y => x * y) := rfl
theorem c_81_81 : jx_cd 81 81 = some (o_ild 3 1) := rfl
theorem c_81_82 : jx_cd 81 82 = some (o_bin fun x y => x + y) := rfl
theorem c_81_83 : jx_cd 81 83 = some (o_push (.int 0) 1) := rfl
theorem c_81_84 : jx_cd 81 84 = some (o_iast) := rfl
theorem c_81_85 : jx_cd 81 85 = some (o_ald 0 1) := rfl
theorem c_81_86 : jx_cd 81 86 = some (o_getf 6 11) := rfl
theorem c_81_89 : jx_cd 81 89 = some (o_push (.int 40) 2) := rfl
theorem c_81_91 : jx_cd 81 91 = some (o_ild 3 1) := rfl
theorem c_81_92 : jx_cd 81 92 = some (o_bin fun x y => x * y) := rfl
theorem c_81_93 : jx_cd 81 93 = some (o_ald 0 1) := rfl
theorem c_81_94 : jx_cd 81 94 = some (o_getf 6 4) := rfl
theorem c_81_97 : jx_cd 81 97 = some (o_bin fun x y => x + y) := rfl
theorem c_81_98 : jx_cd 81 98 = some (o_push (.int 0) 1) := rfl
theorem c_81_99 : jx_cd 81 99 = some (o_iast) := rfl
theorem c_81_100 : jx_cd 81 100 = some (o_iinc 3 1) := rfl
theorem c_81_103 : jx_cd 81 103 = some (o_goto 62) := rfl
theorem c_81_106 : jx_cd 81 106 = some (o_ald 0 1) := rfl
theorem c_81_107 : jx_cd 81 107 = some (o_getf 6 11) := rfl
theorem c_81_110 : jx_cd 81 110 = some (o_push (.int 41) 2) := rfl
theorem c_81_112 : jx_cd 81 112 = some (o_ald 0 1) := rfl
theorem c_81_113 : jx_cd 81 113 = some (o_getf 6 4) := rfl
theorem c_81_116 : jx_cd 81 116 = some (o_bin fun x y => x * y) := rfl
theorem c_81_117 : jx_cd 81 117 = some (o_push (.int 0) 1) := rfl
theorem c_81_118 : jx_cd 81 118 = some (o_iast) := rfl
theorem c_81_119 : jx_cd 81 119 = some (o_ald 0 1) := rfl
theorem c_81_120 : jx_cd 81 120 = some (o_dup) := rfl
theorem c_81_121 : jx_cd 81 121 = some (o_getf 6 4) := rfl
theorem c_81_124 : jx_cd 81 124 = some (o_push (.int 1) 1) := rfl
theorem c_81_125 : jx_cd 81 125 = some (o_bin fun x y => x + y) := rfl
theorem c_81_126 : jx_cd 81 126 = some (o_putf 6 4 jx_okI) := rfl
theorem c_81_129 : jx_cd 81 129 = some (o_ret) := rfl
theorem z_cut {d mi pc : Nat} {L : jx_L} {st : List Value} {M : jx_M} {post : jx_R → jx_M → Prop} (pc' : Nat) (L' : jx_L) (st' : List Value) (h : jZ d mi pc' L' st' M post → jZ d mi pc L st M post) (k : jZ d mi pc' L' st' M post) : jZ d mi pc L st M post := h k
/-- what reading leaves alone: thrown, count, lastId, failure, down, logged, loggedId, done, storeSize, finds -/
abbrev MW : Type := Nat × Nat × Nat × Nat × Bool × Nat × Nat × Bool × Nat × Nat
def mW (w : MW) (sz at_ mn : Nat) (gd : Bool) : jx_C := mO w.1 sz at_ mn gd w.2.1 w.2.2.1 w.2.2.2.1 w.2.2.2.2.1 w.2.2.2.2.2.1 w.2.2.2.2.2.2.1 w.2.2.2.2.2.2.2.1 w.2.2.2.2.2.2.2.2.1 w.2.2.2.2.2.2.2.2.2
def aE (A : Nat → MA) (j : Nat) : Nat := (A j).1
def aR (A : Nat → MA) (j : Nat) : Bool := (A j).2.1
def aH (A : Nat → MA) (j : Nat) : Nat := (A j).2.2.1
def aQ (A : Nat → MA) (j : Nat) : Option Nat := (A j).2.2.2.1
def aB (A : Nat → MA) (j : Nat) : Bool := (A j).2.2.2.2.1
def aL (A : Nat → MA) (j : Nat) : Nat := (A j).2.2.2.2.2
theorem aE_nu {A : Nat → MA} {n : Nat} {m : MA} : aE (nu A n m) = nu (aE A) n m.1 := by funext j; unfold aE nu; split <;> rfl
theorem aR_nu {A : Nat → MA} {n : Nat} {m : MA} : aR (nu A n m) = nu (aR A) n m.2.1 := by funext j; unfold aR nu; split <;> rfl
theorem aH_nu {A : Nat → MA} {n : Nat} {m : MA} : aH (nu A n m) = nu (aH A) n m.2.2.1 := by funext j; unfold aH nu; split <;> rfl
theorem aQ_nu {A : Nat → MA} {n : Nat} {m : MA} : aQ (nu A n m) = nu (aQ A) n m.2.2.2.1 := by funext j; unfold aQ nu; split <;> rfl
theorem aB_nu {A : Nat → MA} {n : Nat} {m : MA} : aB (nu A n m) = nu (aB A) n m.2.2.2.2.1 := by funext j; unfold aB nu; split <;> rfl
theorem aL_nu {A : Nat → MA} {n : Nat} {m : MA} : aL (nu A n m) = nu (aL A) n m.2.2.2.2.2 := by funext j; unfold aL nu; split <;> rfl
/-- the atoms' cells -/
def mA (M : jx_M) (A : Nat → MA) : Prop := M.1 94 = .inl (0, 40, .inl (ja (aE A))) ∧ M.1 95 = .inl (2, 40, .inl (jab (aR A))) ∧ M.1 96 = .inl (0, 40, .inl (ja (aH A))) ∧ M.1 97 = .inl (0, 40, .inl (jao (aQ A))) ∧ M.1 98 = .inl (2, 40, .inl (jab (aB A))) ∧ M.1 99 = .inl (0, 40, .inl (ja (aL A)))
/-- the cells of the reference's reading -/
def mRd (M : jx_M) (w : MW) (tx : Nat → Nat) (ln at_ n : Nat) (gd : Bool) (A : Nat → MA) (bm bk : Nat → Nat) (oa : Nat → Option Nat) (ol : Nat → Nat) : Prop := M.1 92 = mW w ln at_ n gd ∧ M.1 93 = .inl (0, 40, .inl (ja tx)) ∧ mA M A ∧ M.1 100 = .inl (0, 1600, .inl (ja bm)) ∧ M.1 101 = .inl (0, 40, .inl (ja bk)) ∧ M.1 102 = .inl (0, 10, .inl (jao oa)) ∧ M.1 103 = .inl (0, 10, .inl (ja ol))
/-- its cells hold anything -/
def mSh (M : jx_M) (w : MW) (tx : Nat → Nat) (ln : Nat) : Prop := ∃ (at_ n : Nat) (gd : Bool) (A : Nat → MA) (bm bk : Nat → Nat) (oa : Nat → Option Nat) (ol : Nat → Nat), mRd M w tx ln at_ n gd A bm bk oa ol
/-- the new atom's bonds, from i on -/
def zp (n i : Nat) (bm : Nat → Nat) : Nat → Nat := fun x => if x < 1600 ∧ (x / 40 = n ∧ x % 40 < n ∧ i ≤ x % 40 ∨ x % 40 = n ∧ x / 40 < n ∧ i ≤ x / 40) then 0 else bm x
theorem zp_e {n : Nat} {bm : Nat → Nat} : zp n n bm = bm := by
  funext x
  unfold zp
  rw [if_neg (by omega)]
theorem zp_s {n i : Nat} {bm : Nat → Nat} (hi : i < n) (hn : n < 40) : zp n (i + 1) (nu (nu bm (40 * n + i) 0) (40 * i + n) 0) = zp n i bm := by
  funext x
  unfold zp nu
  by_cases h : x < 1600 ∧ (x / 40 = n ∧ x % 40 < n ∧ i + 1 ≤ x % 40 ∨ x % 40 = n ∧ x / 40 < n ∧ i + 1 ≤ x / 40)
  · rw [if_pos h, if_pos (by omega)]
  · rw [if_neg h]
    by_cases e1 : x = 40 * i + n
    · rw [if_pos e1, if_pos (by omega)]
    · rw [if_neg e1]
      by_cases e2 : x = 40 * n + i
      · rw [if_pos e2, if_pos (by omega)]
      · rw [if_neg e2, if_neg (by omega)]
theorem zp_f {n : Nat} {bm : Nat → Nat} (hn : n < 40) : nu (zp n 0 bm) (41 * n) 0 = sm_zb bm n := by
  funext x
  unfold zp nu sm_zb
  by_cases e : x = 41 * n
  · rw [if_pos e, if_pos (by omega)]
  · rw [if_neg e]
    dsimp only
    by_cases h : x < 1600 ∧ (x / 40 = n ∧ x % 40 < n ∧ 0 ≤ x % 40 ∨ x % 40 = n ∧ x / 40 < n ∧ 0 ≤ x / 40)
    · rw [if_pos h, if_pos (by omega)]
    · rw [if_neg h, if_neg (by omega)]
theorem t_mch {d : Nat} {w : MW} {tx : Nat → Nat} {ln at_ n p : Nat} {gd : Bool} {M : jx_M} (h92 : M.1 92 = mW w ln at_ n gd) (h93 : M.1 93 = .inl (0, 40, .inl (ja tx))) (hl : ln ≤ 40) (hp : p < 1000) : jZ d 77 0 [some (.ref 92), some (.int (jn p))] [] M (jR (some (.int (jn (sp_here tx ln p)))) M) := by
  refine z_go 1 _ [.int (jn p)] _ c_77_0 rfl ?_
  refine z_go 2 _ [.ref 92, .int (jn p)] _ c_77_1 rfl ?_
  refine z_getf (v := .int (jn ln)) 5 c_77_2 rfl h92 rfl ?_
  refine z_ige 17 8 c_77_5 rfl (by omega) (by omega) (fun h1 => ?_) (fun h1 => ?_)
  · refine z_go 9 _ [.ref 92] _ c_77_8 rfl ?_
    refine z_getf (v := .ref 93) 12 c_77_9 rfl h92 rfl ?_
    refine z_go 13 _ [.int (jn p), .ref 93] _ c_77_12 rfl ?_
    refine z_iald 14 c_77_13 rfl h93 (Or.inl rfl) (by omega) (by omega) ?_
    show jZ _ _ _ _ ([.int (jn (tx p))]) _ _
    refine z_go 18 _ [.int (jn (tx p))] _ c_77_14 rfl ?_
    refine z_iret c_77_18 ?_
    exact ⟨by rw [sp_here, if_pos h1], rfl⟩
  · refine z_go 18 _ [.int (jn 0)] _ c_77_17 rfl ?_
    refine z_iret c_77_18 ?_
    exact ⟨by rw [sp_here, if_neg h1], rfl⟩
theorem t_mpo {d c : Nat} {M : jx_M} (hc : c < 2 ^ 31) : jZ d 80 0 [some (.int (jn c))] [] M (jR (some (.int (jo (sp_el c)))) M) := by
  refine z_go 1 _ [.int (jn c)] _ c_80_0 rfl ?_
  refine z_go 3 _ [.int (jn 67), .int (jn c)] _ c_80_1 rfl ?_
  refine z_ine 10 6 c_80_3 rfl (jn_inj (by omega) (by omega)) (fun h67 => ?_) (fun h67 => ?_)
  · refine z_go 7 _ [.int (jn 0)] _ c_80_6 rfl ?_
    refine z_go 51 _ [.int (jn 0)] _ c_80_7 rfl ?_
    refine z_iret c_80_51 ?_
    exact ⟨by subst h67; rfl, rfl⟩
  · refine z_go 11 _ [.int (jn c)] _ c_80_10 rfl ?_
    refine z_go 13 _ [.int (jn 78), .int (jn c)] _ c_80_11 rfl ?_
    refine z_ine 20 16 c_80_13 rfl (jn_inj (by omega) (by omega)) (fun h78 => ?_) (fun h78 => ?_)
    · refine z_go 17 _ [.int (jn 1)] _ c_80_16 rfl ?_
      refine z_go 51 _ [.int (jn 1)] _ c_80_17 rfl ?_
      refine z_iret c_80_51 ?_
      exact ⟨by subst h78; rfl, rfl⟩
    · refine z_go 21 _ [.int (jn c)] _ c_80_20 rfl ?_
      refine z_go 23 _ [.int (jn 79), .int (jn c)] _ c_80_21 rfl ?_
      refine z_ine 30 26 c_80_23 rfl (jn_inj (by omega) (by omega)) (fun h79 => ?_) (fun h79 => ?_)
      · refine z_go 27 _ [.int (jn 2)] _ c_80_26 rfl ?_
        refine z_go 51 _ [.int (jn 2)] _ c_80_27 rfl ?_
        refine z_iret c_80_51 ?_
        exact ⟨by subst h79; rfl, rfl⟩
      · refine z_go 31 _ [.int (jn c)] _ c_80_30 rfl ?_
        refine z_go 33 _ [.int (jn 83), .int (jn c)] _ c_80_31 rfl ?_
        refine z_ine 40 36 c_80_33 rfl (jn_inj (by omega) (by omega)) (fun h83 => ?_) (fun h83 => ?_)
        · refine z_go 37 _ [.int (jn 3)] _ c_80_36 rfl ?_
          refine z_go 51 _ [.int (jn 3)] _ c_80_37 rfl ?_
          refine z_iret c_80_51 ?_
          exact ⟨by subst h83; rfl, rfl⟩
        · refine z_go 41 _ [.int (jn c)] _ c_80_40 rfl ?_
          refine z_go 43 _ [.int (jn 70), .int (jn c)] _ c_80_41 rfl ?_
          refine z_ine 50 46 c_80_43 rfl (jn_inj (by omega) (by omega)) (fun h70 => ?_) (fun h70 => ?_)
          · refine z_go 47 _ [.int (jn 4)] _ c_80_46 rfl ?_
            refine z_go 51 _ [.int (jn 4)] _ c_80_47 rfl ?_
            refine z_iret c_80_51 ?_
            exact ⟨by subst h70; rfl, rfl⟩
          · refine z_go 51 _ [.int (jo none)] _ c_80_50 rfl ?_
            refine z_iret c_80_51 ?_
            exact ⟨by rw [sp_el, if_neg (fun q => h67 q.symm), if_neg (fun q => h78 q.symm), if_neg (fun q => h79 q.symm), if_neg (fun q => h83 q.symm), if_neg (fun q => h70 q.symm)], rfl⟩
theorem t_mlk {d c : Nat} {pt : Bool} {M : jx_M} (hc : c < 2 ^ 31) : jZ d 78 0 [some (.int (jn c)), some (.int (jb pt))] [] M (jR (some (.int (jn (sp_lk c pt)))) M) := by
  refine z_go 1 _ [.int (jn c)] _ c_78_0 rfl ?_
  refine z_go 3 _ [.int (jn 45), .int (jn c)] _ c_78_1 rfl ?_
  refine z_ine 10 6 c_78_3 rfl (jn_inj (by omega) (by omega)) (fun h45 => ?_) (fun h45 => ?_)
  · refine z_go 7 _ [.int (jn 1)] _ c_78_6 rfl ?_
    refine z_go 45 _ [.int (jn 1)] _ c_78_7 rfl ?_
    refine z_iret c_78_45 ?_
    exact ⟨by subst h45; rfl, rfl⟩
  · refine z_go 11 _ [.int (jn c)] _ c_78_10 rfl ?_
    refine z_go 13 _ [.int (jn 61), .int (jn c)] _ c_78_11 rfl ?_
    refine z_ine 20 16 c_78_13 rfl (jn_inj (by omega) (by omega)) (fun h61 => ?_) (fun h61 => ?_)
    · refine z_go 17 _ [.int (jn 2)] _ c_78_16 rfl ?_
      refine z_go 45 _ [.int (jn 2)] _ c_78_17 rfl ?_
      refine z_iret c_78_45 ?_
      exact ⟨by subst h61; rfl, rfl⟩
    · refine z_go 21 _ [.int (jn c)] _ c_78_20 rfl ?_
      refine z_go 23 _ [.int (jn 35), .int (jn c)] _ c_78_21 rfl ?_
      refine z_ine 30 26 c_78_23 rfl (jn_inj (by omega) (by omega)) (fun h35 => ?_) (fun h35 => ?_)
      · refine z_go 27 _ [.int (jn 3)] _ c_78_26 rfl ?_
        refine z_go 45 _ [.int (jn 3)] _ c_78_27 rfl ?_
        refine z_iret c_78_45 ?_
        exact ⟨by subst h35; rfl, rfl⟩
      · refine z_go 31 _ [.int (jn c)] _ c_78_30 rfl ?_
        refine z_go 33 _ [.int (jn 126), .int (jn c)] _ c_78_31 rfl ?_
        refine z_ine 44 36 c_78_33 rfl (jn_inj (by omega) (by omega)) (fun h126 => ?_) (fun h126 => ?_)
        · refine z_go 37 _ [.int (jb pt)] _ c_78_36 rfl ?_
          refine z_ifeq 44 40 c_78_37 rfl jb_t (fun hpt => ?_) (fun hpt => ?_)
          · refine z_go 45 _ [.int (jn 0)] _ c_78_44 rfl ?_
            refine z_iret c_78_45 ?_
            exact ⟨by rw [sp_lk, if_neg h45, if_neg h61, if_neg h35, if_neg (fun q => by rw [hpt] at q; cases q.2)], rfl⟩
          · refine z_go 41 _ [.int (jn 5)] _ c_78_40 rfl ?_
            refine z_go 45 _ [.int (jn 5)] _ c_78_41 rfl ?_
            refine z_iret c_78_45 ?_
            exact ⟨by rw [sp_lk, if_neg h45, if_neg h61, if_neg h35, if_pos ⟨h126, by cases pt <;> simp_all⟩], rfl⟩
        · refine z_go 45 _ [.int (jn 0)] _ c_78_44 rfl ?_
          refine z_iret c_78_45 ?_
          exact ⟨by rw [sp_lk, if_neg h45, if_neg h61, if_neg h35, if_neg (fun q => h126 q.1)], rfl⟩
theorem t_na_l {d e : Nat} {ar gd : Bool} {w : MW} {ln at_ n : Nat} {post : jx_R → jx_M → Prop} (hn : n < 40) : ∀ {k i : Nat} {bm : Nat → Nat} {M : jx_M}, i + k = n → M.1 92 = mW w ln at_ n gd → M.1 100 = .inl (0, 1600, .inl (ja bm)) → (∀ z, jZ d 81 106 [some (.ref 92), some (.int (jn e)), some (.int (jb ar)), z] [] (jm [(100, .inl (0, 1600, .inl (ja (zp n i bm))))] M) post) → jZ d 81 62 [some (.ref 92), some (.int (jn e)), some (.int (jb ar)), some (.int (jn i))] [] M post := by
  intro k
  induction k with
  | zero =>
    intro i bm M hi0 h92 h100 hk
    refine z_go 63 _ [.int (jn i)] _ c_81_62 rfl ?_
    refine z_go 64 _ [.ref 92, .int (jn i)] _ c_81_63 rfl ?_
    refine z_getf (v := .int (jn n)) 67 c_81_64 rfl h92 rfl ?_
    refine z_ige 106 70 c_81_67 rfl (by omega) (by omega) (fun hi => ?_) (fun hi => ?_)
    · omega
    · have e0 : i = n := by omega
      subst e0
      have e1 : jm [(100, .inl (0, 1600, .inl (ja (zp i i bm))))] M = M := by rw [zp_e]; exact jx_st_id h100
      rw [e1] at hk
      exact hk _
  | succ k ih =>
    intro i bm M hi0 h92 h100 hk
    refine z_go 63 _ [.int (jn i)] _ c_81_62 rfl ?_
    refine z_go 64 _ [.ref 92, .int (jn i)] _ c_81_63 rfl ?_
    refine z_getf (v := .int (jn n)) 67 c_81_64 rfl h92 rfl ?_
    refine z_ige 106 70 c_81_67 rfl (by omega) (by omega) (fun hi => ?_) (fun hi => ?_)
    · refine z_go 71 _ [.ref 92] _ c_81_70 rfl ?_
      refine z_getf (v := .ref 100) 74 c_81_71 rfl h92 rfl ?_
      refine z_go 76 _ [.int (jn 40), .ref 100] _ c_81_74 rfl ?_
      refine z_go 77 _ [.ref 92, .int (jn 40), .ref 100] _ c_81_76 rfl ?_
      refine z_getf (v := .int (jn n)) 80 c_81_77 rfl h92 rfl ?_
      refine z_go 81 _ [.int ((jn 40) * (jn n)), .ref 100] _ c_81_80 rfl ?_
      refine z_v (jn_mul _ _) ?_
      refine z_go 82 _ [.int (jn i), .int (jn (40 * n)), .ref 100] _ c_81_81 rfl ?_
      refine z_go 83 _ [.int ((jn (40 * n)) + (jn i)), .ref 100] _ c_81_82 rfl ?_
      refine z_v (jn_add _ _) ?_
      refine z_go 84 _ [.int (jn 0), .int (jn ((40 * n) + i)), .ref 100] _ c_81_83 rfl ?_
      refine z_iast (M' := jm [(100, .inl (0, 1600, .inl (ja (nu bm ((40 * n) + i) 0))))] M) 85 c_81_84 rfl h100 (by omega) (by omega) (by rw [ja_upd]; exact rfl) ?_
      refine z_go 86 _ [.ref 92] _ c_81_85 rfl ?_
      refine z_getf (v := .ref 100) 89 c_81_86 rfl h92 rfl ?_
      refine z_go 91 _ [.int (jn 40), .ref 100] _ c_81_89 rfl ?_
      refine z_go 92 _ [.int (jn i), .int (jn 40), .ref 100] _ c_81_91 rfl ?_
      refine z_go 93 _ [.int ((jn 40) * (jn i)), .ref 100] _ c_81_92 rfl ?_
      refine z_v (jn_mul _ _) ?_
      refine z_go 94 _ [.ref 92, .int (jn (40 * i)), .ref 100] _ c_81_93 rfl ?_
      refine z_getf (v := .int (jn n)) 97 c_81_94 rfl h92 rfl ?_
      refine z_go 98 _ [.int ((jn (40 * i)) + (jn n)), .ref 100] _ c_81_97 rfl ?_
      refine z_v (jn_add _ _) ?_
      refine z_go 99 _ [.int (jn 0), .int (jn ((40 * i) + n)), .ref 100] _ c_81_98 rfl ?_
      refine z_iast (M' := jm [(100, .inl (0, 1600, .inl (ja (nu (nu bm ((40 * n) + i) 0) ((40 * i) + n) 0))))] M) 100 c_81_99 rfl rfl (by omega) (by omega) (by rw [ja_upd]; exact (jm_w rfl)) ?_
      refine z_iinc 103 [some (.ref 92), some (.int (jn e)), some (.int (jb ar)), some (.int (jn (i + 1)))] c_81_100 rfl rfl (jn_add _ _) rfl ?_
      refine z_go 62 _ [] _ c_81_103 rfl ?_
      refine ih (i := i + 1) (M := jm [(100, .inl (0, 1600, .inl (ja (nu (nu bm ((40 * n) + i) 0) ((40 * i) + n) 0))))] M) (by omega) h92 rfl (fun z => ?_)
      rw [zp_s hi hn]
      refine z_m (jx_st_st M 100 _ _) ?_
      exact hk z
    · omega
theorem t_na {d : Nat} {w : MW} {tx : Nat → Nat} {ln at_ n : Nat} {gd : Bool} {A : Nat → MA} {bm bk : Nat → Nat} {oa : Nat → Option Nat} {ol : Nat → Nat} {M : jx_M} {e : Nat} {ar : Bool} (H : mRd M w tx ln at_ n gd A bm bk oa ol) (hn : n < 40) : jZ d 81 0 [some (.ref 92), some (.int (jn e)), some (.int (jb ar)), none] [] M (jV none fun M' => mRd M' w tx ln at_ (n + 1) gd (nu A n (e, ar, 0, some 0, false, 0)) (sm_zb bm n) bk oa ol ∧ sm 92 103 M M') := by
  obtain ⟨h92, h93, ⟨h94, h95, h96, h97, h98, h99⟩, h100, h101, h102, h103⟩ := H
  refine z_go 1 _ [.ref 92] _ c_81_0 rfl ?_
  refine z_getf (v := .ref 94) 4 c_81_1 rfl h92 rfl ?_
  refine z_go 5 _ [.ref 92, .ref 94] _ c_81_4 rfl ?_
  refine z_getf (v := .int (jn n)) 8 c_81_5 rfl h92 rfl ?_
  refine z_go 9 _ [.int (jn e), .int (jn n), .ref 94] _ c_81_8 rfl ?_
  refine z_iast (M' := jm [(94, .inl (0, 40, .inl (ja (nu (aE A) n e))))] M) 10 c_81_9 rfl h94 (by omega) (by omega) (by rw [ja_upd]; exact rfl) ?_
  refine z_go 11 _ [.ref 92] _ c_81_10 rfl ?_
  refine z_getf (v := .ref 95) 14 c_81_11 rfl h92 rfl ?_
  refine z_go 15 _ [.ref 92, .ref 95] _ c_81_14 rfl ?_
  refine z_getf (v := .int (jn n)) 18 c_81_15 rfl h92 rfl ?_
  refine z_go 19 _ [.int (jb ar), .int (jn n), .ref 95] _ c_81_18 rfl ?_
  refine z_zast (M' := jm [(95, .inl (2, 40, .inl (jab (nu (aR A) n ar)))), (94, .inl (0, 40, .inl (ja (nu (aE A) n e))))] M) 20 c_81_19 rfl h95 (by omega) (by omega) vp_b (by rw [jab_upd]; exact rfl) ?_
  refine z_go 21 _ [.ref 92] _ c_81_20 rfl ?_
  refine z_getf (v := .ref 96) 24 c_81_21 rfl h92 rfl ?_
  refine z_go 25 _ [.ref 92, .ref 96] _ c_81_24 rfl ?_
  refine z_getf (v := .int (jn n)) 28 c_81_25 rfl h92 rfl ?_
  refine z_go 29 _ [.int (jn 0), .int (jn n), .ref 96] _ c_81_28 rfl ?_
  refine z_iast (M' := jm [(96, .inl (0, 40, .inl (ja (nu (aH A) n 0)))), (95, .inl (2, 40, .inl (jab (nu (aR A) n ar)))), (94, .inl (0, 40, .inl (ja (nu (aE A) n e))))] M) 30 c_81_29 rfl h96 (by omega) (by omega) (by rw [ja_upd]; exact rfl) ?_
  refine z_go 31 _ [.ref 92] _ c_81_30 rfl ?_
  refine z_getf (v := .ref 97) 34 c_81_31 rfl h92 rfl ?_
  refine z_go 35 _ [.ref 92, .ref 97] _ c_81_34 rfl ?_
  refine z_getf (v := .int (jn n)) 38 c_81_35 rfl h92 rfl ?_
  refine z_go 39 _ [.int (jn 0), .int (jn n), .ref 97] _ c_81_38 rfl ?_
  refine z_iast (M' := jm [(97, .inl (0, 40, .inl (jao (nu (aQ A) n (some 0))))), (96, .inl (0, 40, .inl (ja (nu (aH A) n 0)))), (95, .inl (2, 40, .inl (jab (nu (aR A) n ar)))), (94, .inl (0, 40, .inl (ja (nu (aE A) n e))))] M) 40 c_81_39 rfl h97 (by omega) (by omega) ((congrArg (fun f => jx_st _ 97 (.inl (0, 40, .inl f))) (jao_upd (f := aQ A) (k := n) (x := some 0))).trans rfl) ?_
  refine z_go 41 _ [.ref 92] _ c_81_40 rfl ?_
  refine z_getf (v := .ref 98) 44 c_81_41 rfl h92 rfl ?_
  refine z_go 45 _ [.ref 92, .ref 98] _ c_81_44 rfl ?_
  refine z_getf (v := .int (jn n)) 48 c_81_45 rfl h92 rfl ?_
  refine z_go 49 _ [.int (jn 0), .int (jn n), .ref 98] _ c_81_48 rfl ?_
  refine z_zast (M' := jm [(98, .inl (2, 40, .inl (jab (nu (aB A) n false)))), (97, .inl (0, 40, .inl (jao (nu (aQ A) n (some 0))))), (96, .inl (0, 40, .inl (ja (nu (aH A) n 0)))), (95, .inl (2, 40, .inl (jab (nu (aR A) n ar)))), (94, .inl (0, 40, .inl (ja (nu (aE A) n e))))] M) 50 c_81_49 rfl h98 (by omega) (by omega) (show vp_nar .boolean (jn 0) = jb false by decide) (by rw [jab_upd]; exact rfl) ?_
  refine z_go 51 _ [.ref 92] _ c_81_50 rfl ?_
  refine z_getf (v := .ref 99) 54 c_81_51 rfl h92 rfl ?_
  refine z_go 55 _ [.ref 92, .ref 99] _ c_81_54 rfl ?_
  refine z_getf (v := .int (jn n)) 58 c_81_55 rfl h92 rfl ?_
  refine z_go 59 _ [.int (jn 0), .int (jn n), .ref 99] _ c_81_58 rfl ?_
  refine z_iast (M' := jm [(99, .inl (0, 40, .inl (ja (nu (aL A) n 0)))), (98, .inl (2, 40, .inl (jab (nu (aB A) n false)))), (97, .inl (0, 40, .inl (jao (nu (aQ A) n (some 0))))), (96, .inl (0, 40, .inl (ja (nu (aH A) n 0)))), (95, .inl (2, 40, .inl (jab (nu (aR A) n ar)))), (94, .inl (0, 40, .inl (ja (nu (aE A) n e))))] M) 60 c_81_59 rfl h99 (by omega) (by omega) (by rw [ja_upd]; exact rfl) ?_
  refine z_go 61 _ [.int (jn 0)] _ c_81_60 rfl ?_
  refine z_go 62 [some (.ref 92), some (.int (jn e)), some (.int (jb ar)), some (.int (jn 0))] [] _ c_81_61 rfl ?_
  refine t_na_l (k := n) hn (by omega) h92 h100 (fun z => ?_)
  show jZ _ _ _ _ _ (jm [(100, .inl (0, 1600, .inl (ja (zp n 0 bm)))), (99, .inl (0, 40, .inl (ja (nu (aL A) n 0)))), (98, .inl (2, 40, .inl (jab (nu (aB A) n false)))), (97, .inl (0, 40, .inl (jao (nu (aQ A) n (some 0))))), (96, .inl (0, 40, .inl (ja (nu (aH A) n 0)))), (95, .inl (2, 40, .inl (jab (nu (aR A) n ar)))), (94, .inl (0, 40, .inl (ja (nu (aE A) n e))))] M) _
  refine z_go 107 _ [.ref 92] _ c_81_106 rfl ?_
  refine z_getf (v := .ref 100) 110 c_81_107 rfl h92 rfl ?_
  refine z_go 112 _ [.int (jn 41), .ref 100] _ c_81_110 rfl ?_
  refine z_go 113 _ [.ref 92, .int (jn 41), .ref 100] _ c_81_112 rfl ?_
  refine z_getf (v := .int (jn n)) 116 c_81_113 rfl h92 rfl ?_
  refine z_go 117 _ [.int ((jn 41) * (jn n)), .ref 100] _ c_81_116 rfl ?_
  refine z_v (jn_mul _ _) ?_
  refine z_go 118 _ [.int (jn 0), .int (jn (41 * n)), .ref 100] _ c_81_117 rfl ?_
  refine z_iast (M' := jm [(100, .inl (0, 1600, .inl (ja (nu (zp n 0 bm) (41 * n) 0)))), (99, .inl (0, 40, .inl (ja (nu (aL A) n 0)))), (98, .inl (2, 40, .inl (jab (nu (aB A) n false)))), (97, .inl (0, 40, .inl (jao (nu (aQ A) n (some 0))))), (96, .inl (0, 40, .inl (ja (nu (aH A) n 0)))), (95, .inl (2, 40, .inl (jab (nu (aR A) n ar)))), (94, .inl (0, 40, .inl (ja (nu (aE A) n e))))] M) 119 c_81_118 rfl rfl (by omega) (by omega) (by rw [ja_upd]; exact (jm_w rfl)) ?_
  refine z_go 120 _ [.ref 92] _ c_81_119 rfl ?_
  refine z_go 121 _ [.ref 92, .ref 92] _ c_81_120 rfl ?_
  refine z_getf (v := .int (jn n)) 124 c_81_121 rfl h92 rfl ?_
  refine z_go 125 _ [.int (jn 1), .int (jn n), .ref 92] _ c_81_124 rfl ?_
  refine z_go 126 _ [.int ((jn n) + (jn 1)), .ref 92] _ c_81_125 rfl ?_
  refine z_v (jn_add _ _) ?_
  refine z_putf (M' := jm [(92, mW w ln at_ (n + 1) gd), (100, .inl (0, 1600, .inl (ja (nu (zp n 0 bm) (41 * n) 0)))), (99, .inl (0, 40, .inl (ja (nu (aL A) n 0)))), (98, .inl (2, 40, .inl (jab (nu (aB A) n false)))), (97, .inl (0, 40, .inl (jao (nu (aQ A) n (some 0))))), (96, .inl (0, 40, .inl (ja (nu (aH A) n 0)))), (95, .inl (2, 40, .inl (jab (nu (aR A) n ar)))), (94, .inl (0, 40, .inl (ja (nu (aE A) n e))))] M) 129 c_81_126 rfl h92 (rfl) (Nat.le_of_ble_eq_true rfl) rfl ?_
  refine z_ret c_81_129 ?_
  refine ⟨rfl, ⟨rfl, h93, ⟨?_, ?_, ?_, ?_, ?_, ?_⟩, ?_, h101, h102, h103⟩, sm_jm rfl⟩
  · rw [aE_nu]; rfl
  · rw [aR_nu]; rfl
  · rw [aH_nu]; rfl
  · rw [aQ_nu]; rfl
  · rw [aB_nu]; rfl
  · rw [aL_nu]; rfl
  · rw [← zp_f hn]; rfl
