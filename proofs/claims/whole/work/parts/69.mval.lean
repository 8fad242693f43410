/-! THE REFERENCE: valences; printed by wip/whole/p69.py -/
theorem c_86_0 : jx_cd 86 0 = some (o_push (.int 1) 1) := rfl
theorem c_86_1 : jx_cd 86 1 = some (o_ist 1 1) := rfl
theorem c_86_2 : jx_cd 86 2 = some (o_push (.int 0) 1) := rfl
theorem c_86_3 : jx_cd 86 3 = some (o_ist 2 1) := rfl
theorem c_86_4 : jx_cd 86 4 = some (o_ild 2 1) := rfl
theorem c_86_5 : jx_cd 86 5 = some (o_ald 0 1) := rfl
theorem c_86_6 : jx_cd 86 6 = some (o_getf 6 4) := rfl
theorem c_86_9 : jx_cd 86 9 = some (o_ige 135) := rfl
theorem c_86_12 : jx_cd 86 12 = some (o_ald 0 1) := rfl
theorem c_86_13 : jx_cd 86 13 = some (o_ild 2 1) := rfl
theorem c_86_14 : jx_cd 86 14 = some (o_callv 6 87 1) := rfl
theorem c_86_17 : jx_cd 86 17 = some (o_ist 3 1) := rfl
theorem c_86_18 : jx_cd 86 18 = some (o_ald 0 1) := rfl
theorem c_86_19 : jx_cd 86 19 = some (o_ild 2 1) := rfl
theorem c_86_20 : jx_cd 86 20 = some (o_callv 6 88 1) := rfl
theorem c_86_23 : jx_cd 86 23 = some (o_ist 4 2) := rfl
theorem c_86_25 : jx_cd 86 25 = some (o_ald 0 1) := rfl
theorem c_86_26 : jx_cd 86 26 = some (o_getf 6 9) := rfl
theorem c_86_29 : jx_cd 86 29 = some (o_ild 2 1) := rfl
theorem c_86_30 : jx_cd 86 30 = some (o_xald 2) := rfl
theorem c_86_31 : jx_cd 86 31 = some (o_ifeq 103) := rfl
theorem c_86_34 : jx_cd 86 34 = some (o_ald 0 1) := rfl
theorem c_86_35 : jx_cd 86 35 = some (o_getf 6 8) := rfl
theorem c_86_38 : jx_cd 86 38 = some (o_ild 2 1) := rfl
theorem c_86_39 : jx_cd 86 39 = some (o_iald) := rfl
theorem c_86_40 : jx_cd 86 40 = some (o_ifne 48) := rfl
theorem c_86_43 : jx_cd 86 43 = some (o_ild 4 2) := rfl
theorem c_86_45 : jx_cd 86 45 = some (o_goto 75) := rfl
theorem c_86_48 : jx_cd 86 48 = some (o_ald 0 1) := rfl
theorem c_86_49 : jx_cd 86 49 = some (o_getf 6 5) := rfl
theorem c_86_52 : jx_cd 86 52 = some (o_ild 2 1) := rfl
theorem c_86_53 : jx_cd 86 53 = some (o_iald) := rfl
theorem c_86_54 : jx_cd 86 54 = some (o_push (.int 67) 2) := rfl
theorem c_86_56 : jx_cd 86 56 = some (o_ine 66) := rfl
theorem c_86_59 : jx_cd 86 59 = some (o_ild 4 2) := rfl
theorem c_86_61 : jx_cd 86 61 = some (o_push (.int 1) 1) := rfl
theorem c_86_62 : jx_cd 86 62 = some (o_bin fun x y => x - y) := rfl
theorem c_86_63 : jx_cd 86 63 = some (o_goto 75) := rfl
theorem c_86_66 : jx_cd 86 66 = some (o_ild 4 2) := rfl
theorem c_86_68 : jx_cd 86 68 = some (o_ald 0 1) := rfl
theorem c_86_69 : jx_cd 86 69 = some (o_getf 6 8) := rfl
theorem c_86_72 : jx_cd 86 72 = some (o_ild 2 1) := rfl
theorem c_86_73 : jx_cd 86 73 = some (o_iald) := rfl
theorem c_86_74 : jx_cd 86 74 = some (o_bin fun x y => x + y) := rfl
theorem c_86_75 : jx_cd 86 75 = some (o_ist 5 2) := rfl
theorem c_86_77 : jx_cd 86 77 = some (o_ild 1 1) := rfl
theorem c_86_78 : jx_cd 86 78 = some (o_ifeq 98) := rfl
theorem c_86_81 : jx_cd 86 81 = some (o_ald 0 1) := rfl
theorem c_86_82 : jx_cd 86 82 = some (o_getf 6 7) := rfl
theorem c_86_85 : jx_cd 86 85 = some (o_ild 2 1) := rfl
theorem c_86_86 : jx_cd 86 86 = some (o_iald) := rfl
theorem c_86_87 : jx_cd 86 87 = some (o_ild 3 1) := rfl
theorem c_86_88 : jx_cd 86 88 = some (o_bin fun x y => x + y) := rfl
theorem c_86_89 : jx_cd 86 89 = some (o_ild 5 2) := rfl
theorem c_86_91 : jx_cd 86 91 = some (o_ine 98) := rfl
theorem c_86_94 : jx_cd 86 94 = some (o_push (.int 1) 1) := rfl
theorem c_86_95 : jx_cd 86 95 = some (o_goto 99) := rfl
theorem c_86_98 : jx_cd 86 98 = some (o_push (.int 0) 1) := rfl
theorem c_86_99 : jx_cd 86 99 = some (o_ist 1 1) := rfl
theorem c_86_100 : jx_cd 86 100 = some (o_goto 129) := rfl
theorem c_86_103 : jx_cd 86 103 = some (o_ild 1 1) := rfl
theorem c_86_104 : jx_cd 86 104 = some (o_ifeq 117) := rfl
theorem c_86_107 : jx_cd 86 107 = some (o_ild 3 1) := rfl
theorem c_86_108 : jx_cd 86 108 = some (o_ild 4 2) := rfl
theorem c_86_110 : jx_cd 86 110 = some (o_igt 117) := rfl
theorem c_86_113 : jx_cd 86 113 = some (o_push (.int 1) 1) := rfl
theorem c_86_114 : jx_cd 86 114 = some (o_goto 118) := rfl
theorem c_86_117 : jx_cd 86 117 = some (o_push (.int 0) 1) := rfl
theorem c_86_118 : jx_cd 86 118 = some (o_ist 1 1) := rfl
theorem c_86_119 : jx_cd 86 119 = some (o_ald 0 1) := rfl
theorem c_86_120 : jx_cd 86 120 = some (o_getf 6 7) := rfl
theorem c_86_123 : jx_cd 86 123 = some (o_ild 2 1) := rfl
theorem c_86_124 : jx_cd 86 124 = some (o_ild 4 2) := rfl
theorem c_86_126 : jx_cd 86 126 = some (o_ild 3 1) := rfl
theorem c_86_127 : jx_cd 86 127 = some (o_bin fun x y => x - y) := rfl
theorem c_86_128 : jx_cd 86 128 = some (o_iast) := rfl
theorem c_86_129 : jx_cd 86 129 = some (o_iinc 2 1) := rfl
theorem c_86_132 : jx_cd 86 132 = some (o_goto 4) := rfl
theorem c_86_135 : jx_cd 86 135 = some (o_ild 1 1) := rfl
theorem c_86_136 : jx_cd 86 136 = some (o_zret) := rfl
theorem c_87_0 : jx_cd 87 0 = some (o_push (.int 0) 1) := rfl
theorem c_87_1 : jx_cd 87 1 = some (o_ist 2 1) := rfl
theorem c_87_2 : jx_cd 87 2 = some (o_push (.int 0) 1) := rfl
theorem c_87_3 : jx_cd 87 3 = some (o_ist 3 1) := rfl
theorem c_87_4 : jx_cd 87 4 = some (o_push (.int 0) 1) := rfl
theorem c_87_5 : jx_cd 87 5 = some (o_ist 4 2) := rfl
theorem c_87_7 : jx_cd 87 7 = some (o_ild 4 2) := rfl
theorem c_87_9 : jx_cd 87 9 = some (o_ald 0 1) := rfl
theorem c_87_10 : jx_cd 87 10 = some (o_getf 6 4) := rfl
theorem c_87_13 : jx_cd 87 13 = some (o_ige 67) := rfl
theorem c_87_16 : jx_cd 87 16 = some (o_ald 0 1) := rfl
theorem c_87_17 : jx_cd 87 17 = some (o_getf 6 11) := rfl
theorem c_87_20 : jx_cd 87 20 = some (o_push (.int 40) 2) := rfl
theorem c_87_22 : jx_cd 87 22 = some (o_ild 1 1) := rfl
theorem c_87_23 : jx_cd 87 23 = some (o_bin fun x y => x * y) := rfl
theorem c_87_24 : jx_cd 87 24 = some (o_ild 4 2) := rfl
theorem c_87_26 : jx_cd 87 26 = some (o_bin fun x y => x + y) := rfl
theorem c_87_27 : jx_cd 87 27 = some (o_iald) := rfl
theorem c_87_28 : jx_cd 87 28 = some (o_ist 5 2) := rfl
theorem c_87_30 : jx_cd 87 30 = some (o_ild 2 1) := rfl
theorem c_87_31 : jx_cd 87 31 = some (o_ild 5 2) := rfl
theorem c_87_33 : jx_cd 87 33 = some (o_push (.int 4) 1) := rfl
theorem c_87_34 : jx_cd 87 34 = some (o_ine 41) := rfl
theorem c_87_37 : jx_cd 87 37 = some (o_push (.int 1) 1) := rfl
theorem c_87_38 : jx_cd 87 38 = some (o_goto 43) := rfl
theorem c_87_41 : jx_cd 87 41 = some (o_ild 5 2) := rfl
theorem c_87_43 : jx_cd 87 43 = some (o_bin fun x y => x + y) := rfl
theorem c_87_44 : jx_cd 87 44 = some (o_ist 2 1) := rfl
theorem c_87_45 : jx_cd 87 45 = some (o_ild 3 1) := rfl
theorem c_87_46 : jx_cd 87 46 = some (o_ifne 55) := rfl
theorem c_87_49 : jx_cd 87 49 = some (o_ild 5 2) := rfl
theorem c_87_51 : jx_cd 87 51 = some (o_push (.int 4) 1) := rfl
theorem c_87_52 : jx_cd 87 52 = some (o_ine 59) := rfl
theorem c_87_55 : jx_cd 87 55 = some (o_push (.int 1) 1) := rfl
theorem c_87_56 : jx_cd 87 56 = some (o_goto 60) := rfl
theorem c_87_59 : jx_cd 87 59 = some (o_push (.int 0) 1) := rfl
theorem c_87_60 : jx_cd 87 60 = some (o_ist 3 1) := rfl
theorem c_87_61 : jx_cd 87 61 = some (o_iinc 4 1) := rfl
theorem c_87_64 : jx_cd 87 64 = some (o_goto 7) := rfl
theorem c_87_67 : jx_cd 87 67 = some (o_ild 3 1) := rfl
theorem c_87_68 : jx_cd 87 68 = some (o_ifeq 108) := rfl
theorem c_87_71 : jx_cd 87 71 = some (o_ald 0 1) := rfl
theorem c_87_72 : jx_cd 87 72 = some (o_getf 6 6) := rfl
theorem c_87_75 : jx_cd 87 75 = some (o_ild 1 1) := rfl
theorem c_87_76 : jx_cd 87 76 = some (o_xald 2) := rfl
theorem c_87_77 : jx_cd 87 77 = some (o_ifeq 108) := rfl
theorem c_87_80 : jx_cd 87 80 = some (o_ald 0 1) := rfl
theorem c_87_81 : jx_cd 87 81 = some (o_getf 6 5) := rfl
theorem c_87_84 : jx_cd 87 84 = some (o_ild 1 1) := rfl
theorem c_87_85 : jx_cd 87 85 = some (o_iald) := rfl
theorem c_87_86 : jx_cd 87 86 = some (o_push (.int 67) 2) := rfl
theorem c_87_88 : jx_cd 87 88 = some (o_ieq 102) := rfl
theorem c_87_91 : jx_cd 87 91 = some (o_ald 0 1) := rfl
theorem c_87_92 : jx_cd 87 92 = some (o_getf 6 5) := rfl
theorem c_87_95 : jx_cd 87 95 = some (o_ild 1 1) := rfl
theorem c_87_96 : jx_cd 87 96 = some (o_iald) := rfl
theorem c_87_97 : jx_cd 87 97 = some (o_push (.int 78) 2) := rfl
theorem c_87_99 : jx_cd 87 99 = some (o_ine 108) := rfl
theorem c_87_102 : jx_cd 87 102 = some (o_ild 2 1) := rfl
theorem c_87_103 : jx_cd 87 103 = some (o_push (.int 1) 1) := rfl
theorem c_87_104 : jx_cd 87 104 = some (o_bin fun x y => x + y) := rfl
theorem c_87_105 : jx_cd 87 105 = some (o_goto 109) := rfl
theorem c_87_108 : jx_cd 87 108 = some (o_ild 2 1) := rfl
theorem c_87_109 : jx_cd 87 109 = some (o_iret) := rfl
theorem c_88_0 : jx_cd 88 0 = some (o_ald 0 1) := rfl
theorem c_88_1 : jx_cd 88 1 = some (o_getf 6 5) := rfl
theorem c_88_4 : jx_cd 88 4 = some (o_ild 1 1) := rfl
theorem c_88_5 : jx_cd 88 5 = some (o_iald) := rfl
theorem c_88_6 : jx_cd 88 6 = some (o_ist 2 1) := rfl
theorem c_88_7 : jx_cd 88 7 = some (o_ild 2 1) := rfl
theorem c_88_8 : jx_cd 88 8 = some (o_push (.int 67) 2) := rfl
theorem c_88_10 : jx_cd 88 10 = some (o_ine 17) := rfl
theorem c_88_13 : jx_cd 88 13 = some (o_push (.int 4) 1) := rfl
theorem c_88_14 : jx_cd 88 14 = some (o_goto 38) := rfl
theorem c_88_17 : jx_cd 88 17 = some (o_ild 2 1) := rfl
theorem c_88_18 : jx_cd 88 18 = some (o_push (.int 78) 2) := rfl
theorem c_88_20 : jx_cd 88 20 = some (o_ine 27) := rfl
theorem c_88_23 : jx_cd 88 23 = some (o_push (.int 3) 1) := rfl
theorem c_88_24 : jx_cd 88 24 = some (o_goto 38) := rfl
theorem c_88_27 : jx_cd 88 27 = some (o_ild 2 1) := rfl
theorem c_88_28 : jx_cd 88 28 = some (o_push (.int 70) 2) := rfl
theorem c_88_30 : jx_cd 88 30 = some (o_ine 37) := rfl
theorem c_88_33 : jx_cd 88 33 = some (o_push (.int 1) 1) := rfl
theorem c_88_34 : jx_cd 88 34 = some (o_goto 38) := rfl
theorem c_88_37 : jx_cd 88 37 = some (o_push (.int 2) 1) := rfl
theorem c_88_38 : jx_cd 88 38 = some (o_iret) := rfl
theorem c_90_0 : jx_cd 90 0 = some (o_ald 0 1) := rfl
theorem c_90_1 : jx_cd 90 1 = some (o_getf 6 6) := rfl
theorem c_90_4 : jx_cd 90 4 = some (o_ild 1 1) := rfl
theorem c_90_5 : jx_cd 90 5 = some (o_xald 2) := rfl
theorem c_90_6 : jx_cd 90 6 = some (o_ifeq 35) := rfl
theorem c_90_9 : jx_cd 90 9 = some (o_ald 0 1) := rfl
theorem c_90_10 : jx_cd 90 10 = some (o_getf 6 5) := rfl
theorem c_90_13 : jx_cd 90 13 = some (o_ild 1 1) := rfl
theorem c_90_14 : jx_cd 90 14 = some (o_iald) := rfl
theorem c_90_15 : jx_cd 90 15 = some (o_push (.int 67) 2) := rfl
theorem c_90_17 : jx_cd 90 17 = some (o_ieq 31) := rfl
theorem c_90_20 : jx_cd 90 20 = some (o_ald 0 1) := rfl
theorem c_90_21 : jx_cd 90 21 = some (o_getf 6 5) := rfl
theorem c_90_24 : jx_cd 90 24 = some (o_ild 1 1) := rfl
theorem c_90_25 : jx_cd 90 25 = some (o_iald) := rfl
theorem c_90_26 : jx_cd 90 26 = some (o_push (.int 78) 2) := rfl
theorem c_90_28 : jx_cd 90 28 = some (o_ine 35) := rfl
theorem c_90_31 : jx_cd 90 31 = some (o_push (.int 1) 1) := rfl
theorem c_90_32 : jx_cd 90 32 = some (o_goto 36) := rfl
theorem c_90_35 : jx_cd 90 35 = some (o_push (.int 0) 1) := rfl
theorem c_90_36 : jx_cd 90 36 = some (o_zret) := rfl
theorem nu_self {α : Type} {f : Nat → α} {k : Nat} : nu f k (f k) = f := by
  funext j
  unfold nu
  split
  · rename_i h; rw [h]
  · rfl
theorem sm_or_le {b : Nat → Nat} : ∀ {n : Nat}, (∀ j, j < n → b j < 8) → sm_or b n ≤ 8 * n := by
  intro n
  induction n with
  | zero => intro _; exact Nat.le_refl _
  | succ n ih =>
    intro h
    have h1 := ih fun j hj => h j (by omega)
    have h2 := h n (by omega)
    rw [sm_or]
    split <;> omega
theorem sm_mo_le (e : Nat) : 1 ≤ sm_mo e ∧ sm_mo e ≤ 4 := by
  unfold sm_mo
  repeat' split
  all_goals omega
theorem jn_hv {m o : Nat} (hm : m < 100) (ho : o < 1000) : jn m - jn o = jn (if o ≤ m then m - o else 4294967296 + m - o) := by
  by_cases h : o ≤ m
  · rw [if_pos h, jn_sub h]
  · rw [if_neg h, show 4294967296 + m - o = (4294967296 + m) - o by omega, ← jn_sub (by omega)]
    have e : jn (4294967296 + m) = jn m := by
      rw [← jn_add]
      have : jn 4294967296 = 0 := by decide
      rw [this]
      exact Int32.zero_add _
    rw [e]
theorem jn_m1a {m : Nat} (h : 1 ≤ m) : jn m + jo none = jn (m - 1) := by
  rw [← jn_sub h]
  show jn m + (-1) = jn m - jn 1
  rw [Int32.sub_eq_add_neg]
  rfl
theorem t_mpr {d : Nat} {w : MW} {tx : Nat → Nat} {ln at_ n : Nat} {gd : Bool} {A : Nat → MA} {bm bk : Nat → Nat} {oa : Nat → Option Nat} {ol : Nat → Nat} {M : jx_M} {i : Nat} (H : mRd M w tx ln at_ n gd A bm bk oa ol) (hn : n ≤ 40) (hi : i < n) (hA : ∀ q, q < n → aE A q < 128) : jZ d 90 0 [some (.ref 92), some (.int (jn i))] [] M (jR (some (.int (jb (sm_pr (A i))))) M) := by
  obtain ⟨h92, h93, ⟨h94, h95, h96, h97, h98, h99⟩, h100, h101, h102, h103⟩ := H
  have hE := hA i hi
  have eP : sm_pr (A i) = (aR A i && (decide (aE A i = 67) || decide (aE A i = 78))) := rfl
  refine z_go 1 _ [.ref 92] _ c_90_0 rfl ?_
  refine z_getf (v := .ref 95) 4 c_90_1 rfl h92 rfl ?_
  refine z_go 5 _ [.int (jn i), .ref 95] _ c_90_4 rfl ?_
  refine z_xald 6 c_90_5 rfl h95 (by omega) (by omega) ?_
  show jZ _ _ _ _ ([.int (jb ((aR A) i))]) _ _
  refine z_ifeq 35 9 c_90_6 rfl jb_t (fun h1 => ?_) (fun h1 => ?_)
  · refine z_go 36 _ [.int (jn 0)] _ c_90_35 rfl ?_
    refine z_zret (b := false) c_90_36 ?_
    exact ⟨by rw [eP, h1]; rfl, rfl⟩
  · have h1t : aR A i = true := by cases h : aR A i <;> simp_all
    refine z_go 10 _ [.ref 92] _ c_90_9 rfl ?_
    refine z_getf (v := .ref 94) 13 c_90_10 rfl h92 rfl ?_
    refine z_go 14 _ [.int (jn i), .ref 94] _ c_90_13 rfl ?_
    refine z_iald 15 c_90_14 rfl h94 (Or.inl rfl) (by omega) (by omega) ?_
    show jZ _ _ _ _ ([.int (jn ((aE A) i))]) _ _
    refine z_go 17 _ [.int (jn 67), .int (jn ((aE A) i))] _ c_90_15 rfl ?_
    refine z_ieq 31 20 c_90_17 rfl (jn_inj (by omega) (by omega)) (fun h2 => ?_) (fun h2 => ?_)
    · refine z_go 32 _ [.int (jn 1)] _ c_90_31 rfl ?_
      refine z_go 36 _ [.int (jn 1)] _ c_90_32 rfl ?_
      refine z_zret (b := true) c_90_36 ?_
      exact ⟨by rw [eP, h1t, decide_eq_true h2]; rfl, rfl⟩
    · refine z_go 21 _ [.ref 92] _ c_90_20 rfl ?_
      refine z_getf (v := .ref 94) 24 c_90_21 rfl h92 rfl ?_
      refine z_go 25 _ [.int (jn i), .ref 94] _ c_90_24 rfl ?_
      refine z_iald 26 c_90_25 rfl h94 (Or.inl rfl) (by omega) (by omega) ?_
      show jZ _ _ _ _ ([.int (jn ((aE A) i))]) _ _
      refine z_go 28 _ [.int (jn 78), .int (jn ((aE A) i))] _ c_90_26 rfl ?_
      refine z_ine 35 31 c_90_28 rfl (jn_inj (by omega) (by omega)) (fun h3 => ?_) (fun h3 => ?_)
      · refine z_go 32 _ [.int (jn 1)] _ c_90_31 rfl ?_
        refine z_go 36 _ [.int (jn 1)] _ c_90_32 rfl ?_
        refine z_zret (b := true) c_90_36 ?_
        exact ⟨by rw [eP, h1t, decide_eq_false h2, decide_eq_true h3]; rfl, rfl⟩
      · refine z_go 36 _ [.int (jn 0)] _ c_90_35 rfl ?_
        refine z_zret (b := false) c_90_36 ?_
        exact ⟨by rw [eP, h1t, decide_eq_false h2, decide_eq_false h3]; rfl, rfl⟩
theorem t_mmo {d : Nat} {w : MW} {tx : Nat → Nat} {ln at_ n : Nat} {gd : Bool} {A : Nat → MA} {bm bk : Nat → Nat} {oa : Nat → Option Nat} {ol : Nat → Nat} {M : jx_M} {i : Nat} (H : mRd M w tx ln at_ n gd A bm bk oa ol) (hn : n ≤ 40) (hi : i < n) (hA : ∀ q, q < n → aE A q < 128) : jZ d 88 0 [some (.ref 92), some (.int (jn i)), none] [] M (jR (some (.int (jn (sm_mo (aE A i))))) M) := by
  obtain ⟨h92, h93, ⟨h94, h95, h96, h97, h98, h99⟩, h100, h101, h102, h103⟩ := H
  have hE := hA i hi
  refine z_go 1 _ [.ref 92] _ c_88_0 rfl ?_
  refine z_getf (v := .ref 94) 4 c_88_1 rfl h92 rfl ?_
  refine z_go 5 _ [.int (jn i), .ref 94] _ c_88_4 rfl ?_
  refine z_iald 6 c_88_5 rfl h94 (Or.inl rfl) (by omega) (by omega) ?_
  show jZ _ _ _ _ ([.int (jn ((aE A) i))]) _ _
  refine z_go 7 [some (.ref 92), some (.int (jn i)), some (.int (jn ((aE A) i)))] [] _ c_88_6 rfl ?_
  refine z_go 8 _ [.int (jn ((aE A) i))] _ c_88_7 rfl ?_
  refine z_go 10 _ [.int (jn 67), .int (jn ((aE A) i))] _ c_88_8 rfl ?_
  refine z_ine 17 13 c_88_10 rfl (jn_inj (by omega) (by omega)) (fun h67 => ?_) (fun h67 => ?_)
  · refine z_go 14 _ [.int (jn 4)] _ c_88_13 rfl ?_
    refine z_go 38 _ [.int (jn 4)] _ c_88_14 rfl ?_
    refine z_iret c_88_38 ?_
    exact ⟨by rw [sm_mo, if_pos h67], rfl⟩
  · refine z_go 18 _ [.int (jn ((aE A) i))] _ c_88_17 rfl ?_
    refine z_go 20 _ [.int (jn 78), .int (jn ((aE A) i))] _ c_88_18 rfl ?_
    refine z_ine 27 23 c_88_20 rfl (jn_inj (by omega) (by omega)) (fun h78 => ?_) (fun h78 => ?_)
    · refine z_go 24 _ [.int (jn 3)] _ c_88_23 rfl ?_
      refine z_go 38 _ [.int (jn 3)] _ c_88_24 rfl ?_
      refine z_iret c_88_38 ?_
      exact ⟨by rw [sm_mo, if_neg h67, if_pos h78], rfl⟩
    · refine z_go 28 _ [.int (jn ((aE A) i))] _ c_88_27 rfl ?_
      refine z_go 30 _ [.int (jn 70), .int (jn ((aE A) i))] _ c_88_28 rfl ?_
      refine z_ine 37 33 c_88_30 rfl (jn_inj (by omega) (by omega)) (fun h70 => ?_) (fun h70 => ?_)
      · refine z_go 34 _ [.int (jn 1)] _ c_88_33 rfl ?_
        refine z_go 38 _ [.int (jn 1)] _ c_88_34 rfl ?_
        refine z_iret c_88_38 ?_
        exact ⟨by rw [sm_mo, if_neg h67, if_neg h78, if_pos h70], rfl⟩
      · refine z_go 38 _ [.int (jn 2)] _ c_88_37 rfl ?_
        refine z_iret c_88_38 ?_
        exact ⟨by rw [sm_mo, if_neg h67, if_neg h78, if_neg h70], rfl⟩
theorem t_mor_l {d : Nat} {w : MW} {tx : Nat → Nat} {ln at_ n i : Nat} {gd : Bool} {A : Nat → MA} {bm bk : Nat → Nat} {oa : Nat → Option Nat} {ol : Nat → Nat} {M : jx_M} {post : jx_R → jx_M → Prop} (hn : n ≤ 40) (hi : i < n) (hbm : bmS n bm) : ∀ {k j s : Nat} {r : Bool} {z5 : Option Value}, j + k = n → s = sm_or (fun j => bm (40 * i + j)) j → r = sm_rg (fun j => bm (40 * i + j)) j → mRd M w tx ln at_ n gd A bm bk oa ol → (∀ z4 z5, jZ d 87 67 [some (.ref 92), some (.int (jn i)), some (.int (jn (sm_or (fun j => bm (40 * i + j)) n))), some (.int (jb (sm_rg (fun j => bm (40 * i + j)) n))), z4, z5] [] M post) → jZ d 87 7 [some (.ref 92), some (.int (jn i)), some (.int (jn s)), some (.int (jb r)), some (.int (jn j)), z5] [] M post := by
  intro k
  induction k with
  | zero =>
    intro j s r z5 hjk hs hr H hk
    subst hs
    subst hr
    obtain ⟨h92, h93, ⟨h94, h95, h96, h97, h98, h99⟩, h100, h101, h102, h103⟩ := H
    refine z_go 9 _ [.int (jn j)] _ c_87_7 rfl ?_
    refine z_go 10 _ [.ref 92, .int (jn j)] _ c_87_9 rfl ?_
    refine z_getf (v := .int (jn n)) 13 c_87_10 rfl h92 rfl ?_
    refine z_ige 67 16 c_87_13 rfl (by omega) (by omega) (fun hj => ?_) (fun hj => ?_)
    · omega
    · have e0 : j = n := by omega
      subst e0
      exact hk _ _
  | succ k ih =>
    intro j s r z5 hjk hs hr H hk
    have H0 := H
    obtain ⟨h92, h93, ⟨h94, h95, h96, h97, h98, h99⟩, h100, h101, h102, h103⟩ := H
    refine z_go 9 _ [.int (jn j)] _ c_87_7 rfl ?_
    refine z_go 10 _ [.ref 92, .int (jn j)] _ c_87_9 rfl ?_
    refine z_getf (v := .int (jn n)) 13 c_87_10 rfl h92 rfl ?_
    refine z_ige 67 16 c_87_13 rfl (by omega) (by omega) (fun hj => ?_) (fun hj => ?_)
    · have hb8 := hbm i j hi hj
      have hsl := sm_or_le (b := (fun j => bm (40 * i + j))) (n := j) (fun q hq => hbm i q hi (by omega))
      refine z_go 17 _ [.ref 92] _ c_87_16 rfl ?_
      refine z_getf (v := .ref 100) 20 c_87_17 rfl h92 rfl ?_
      refine z_go 22 _ [.int (jn 40), .ref 100] _ c_87_20 rfl ?_
      refine z_go 23 _ [.int (jn i), .int (jn 40), .ref 100] _ c_87_22 rfl ?_
      refine z_go 24 _ [.int ((jn 40) * (jn i)), .ref 100] _ c_87_23 rfl ?_
      refine z_v (jn_mul _ _) ?_
      refine z_go 26 _ [.int (jn j), .int (jn (40 * i)), .ref 100] _ c_87_24 rfl ?_
      refine z_go 27 _ [.int ((jn (40 * i)) + (jn j)), .ref 100] _ c_87_26 rfl ?_
      refine z_v (jn_add _ _) ?_
      refine z_iald 28 c_87_27 rfl h100 (Or.inl rfl) (by omega) (by omega) ?_
      show jZ _ _ _ _ ([.int (jn (bm ((40 * i) + j)))]) _ _
      refine z_go 30 [some (.ref 92), some (.int (jn i)), some (.int (jn s)), some (.int (jb r)), some (.int (jn j)), some (.int (jn (bm ((40 * i) + j))))] [] _ c_87_28 rfl ?_
      refine z_go 31 _ [.int (jn s)] _ c_87_30 rfl ?_
      refine z_cut 43 [some (.ref 92), some (.int (jn i)), some (.int (jn s)), some (.int (jb r)), some (.int (jn j)), some (.int (jn (bm ((40 * i) + j))))] [.int (jn (if bm (40 * i + j) = 4 then 1 else bm (40 * i + j))), .int (jn s)] (fun kc => ?_) ?_
      · refine z_go 33 _ [.int (jn (bm ((40 * i) + j))), .int (jn s)] _ c_87_31 rfl ?_
        refine z_go 34 _ [.int (jn 4), .int (jn (bm ((40 * i) + j))), .int (jn s)] _ c_87_33 rfl ?_
        refine z_ine 41 37 c_87_34 rfl (jn_inj (by omega) (by omega)) (fun g => ?_) (fun g => ?_)
        · refine z_go 38 _ [.int (jn 1), .int (jn s)] _ c_87_37 rfl ?_
          refine z_go 43 _ [.int (jn 1), .int (jn s)] _ c_87_38 rfl ?_
          exact z_v (by rw [if_pos g]) kc
        · refine z_go 43 _ [.int (jn (bm ((40 * i) + j))), .int (jn s)] _ c_87_41 rfl ?_
          exact z_v (by rw [if_neg g]) kc
      refine z_go 44 _ [.int ((jn s) + (jn (if bm (40 * i + j) = 4 then 1 else bm (40 * i + j))))] _ c_87_43 rfl ?_
      refine z_v (jn_add _ _) ?_
      refine z_go 45 [some (.ref 92), some (.int (jn i)), some (.int (jn (s + (if bm (40 * i + j) = 4 then 1 else bm (40 * i + j))))), some (.int (jb r)), some (.int (jn j)), some (.int (jn (bm ((40 * i) + j))))] [] _ c_87_44 rfl ?_
      refine z_cut 60 [some (.ref 92), some (.int (jn i)), some (.int (jn (s + (if bm (40 * i + j) = 4 then 1 else bm (40 * i + j))))), some (.int (jb r)), some (.int (jn j)), some (.int (jn (bm ((40 * i) + j))))] [.int (jb (r || decide (bm (40 * i + j) = 4)))] (fun kc => ?_) ?_
      · refine z_go 46 _ [.int (jb r)] _ c_87_45 rfl ?_
        refine z_ifne 55 49 c_87_46 rfl jb_t (fun g => ?_) (fun g => ?_)
        · refine z_go 51 _ [.int (jn (bm ((40 * i) + j)))] _ c_87_49 rfl ?_
          refine z_go 52 _ [.int (jn 4), .int (jn (bm ((40 * i) + j)))] _ c_87_51 rfl ?_
          refine z_ine 59 55 c_87_52 rfl (jn_inj (by omega) (by omega)) (fun g2 => ?_) (fun g2 => ?_)
          · refine z_go 56 _ [.int (jn 1)] _ c_87_55 rfl ?_
            refine z_go 60 _ [.int (jn 1)] _ c_87_56 rfl ?_
            exact z_v (by rw [g, decide_eq_true g2]; rfl) kc
          · refine z_go 60 _ [.int (jn 0)] _ c_87_59 rfl ?_
            exact z_v (by rw [g, decide_eq_false g2]; rfl) kc
        · have gt : r = true := by cases r <;> simp_all
          refine z_go 56 _ [.int (jn 1)] _ c_87_55 rfl ?_
          refine z_go 60 _ [.int (jn 1)] _ c_87_56 rfl ?_
          exact z_v (by rw [gt]; rfl) kc
      refine z_go 61 [some (.ref 92), some (.int (jn i)), some (.int (jn (s + (if bm (40 * i + j) = 4 then 1 else bm (40 * i + j))))), some (.int (jb (r || decide (bm (40 * i + j) = 4)))), some (.int (jn j)), some (.int (jn (bm ((40 * i) + j))))] [] _ c_87_60 rfl ?_
      refine z_iinc 64 [some (.ref 92), some (.int (jn i)), some (.int (jn (s + (if bm (40 * i + j) = 4 then 1 else bm (40 * i + j))))), some (.int (jb (r || decide (bm (40 * i + j) = 4)))), some (.int (jn (j + 1))), some (.int (jn (bm ((40 * i) + j))))] c_87_61 rfl rfl (jn_add _ _) rfl ?_
      refine z_go 7 _ [] _ c_87_64 rfl ?_
      exact ih (j := j + 1) (by omega) (by rw [sm_or, hs]) (by rw [sm_rg, hr]) H0 hk
    · omega
theorem t_mord {d : Nat} {w : MW} {tx : Nat → Nat} {ln at_ n : Nat} {gd : Bool} {A : Nat → MA} {bm bk : Nat → Nat} {oa : Nat → Option Nat} {ol : Nat → Nat} {M : jx_M} {i : Nat} (H : mRd M w tx ln at_ n gd A bm bk oa ol) (hn : n ≤ 40) (hi : i < n) (hbm : bmS n bm) (hA : ∀ q, q < n → aE A q < 128) : jZ d 87 0 [some (.ref 92), some (.int (jn i)), none, none, none, none] [] M (jR (some (.int (jn (sm_o1 (A i) (fun j => bm (40 * i + j)) n)))) M) := by
  have H0 := H
  obtain ⟨h92, h93, ⟨h94, h95, h96, h97, h98, h99⟩, h100, h101, h102, h103⟩ := H
  have hE := hA i hi
  have eP : sm_pr (A i) = (aR A i && (decide (aE A i = 67) || decide (aE A i = 78))) := rfl
  refine z_go 1 _ [.int (jn 0)] _ c_87_0 rfl ?_
  refine z_go 2 [some (.ref 92), some (.int (jn i)), some (.int (jn 0)), none, none, none] [] _ c_87_1 rfl ?_
  refine z_go 3 _ [.int (jn 0)] _ c_87_2 rfl ?_
  refine z_go 4 [some (.ref 92), some (.int (jn i)), some (.int (jn 0)), some (.int (jn 0)), none, none] [] _ c_87_3 rfl ?_
  show jZ _ _ _ [some (.ref 92), some (.int (jn i)), some (.int (jn 0)), some (.int (jb false)), none, none] _ _ _
  refine z_go 5 _ [.int (jn 0)] _ c_87_4 rfl ?_
  refine z_go 7 [some (.ref 92), some (.int (jn i)), some (.int (jn 0)), some (.int (jb false)), some (.int (jn 0)), none] [] _ c_87_5 rfl ?_
  refine t_mor_l (k := n) (j := 0) hn hi hbm (by omega) rfl rfl H0 (fun z4 z5 => ?_)
  have hsl := sm_or_le (b := (fun j => bm (40 * i + j))) (n := n) (fun q hq => hbm i q hi hq)
  refine z_go 68 _ [.int (jb (sm_rg (fun j => bm (40 * i + j)) n))] _ c_87_67 rfl ?_
  refine z_ifeq 108 71 c_87_68 rfl jb_t (fun g1 => ?_) (fun g1 => ?_)
  · refine z_go 109 _ [.int (jn (sm_or (fun j => bm (40 * i + j)) n))] _ c_87_108 rfl ?_
    refine z_iret c_87_109 ?_
    exact ⟨by rw [show sm_o1 (A i) (fun j => bm (40 * i + j)) n = sm_or (fun j => bm (40 * i + j)) n from by unfold sm_o1; rw [if_neg (fun q => by rw [g1] at q; cases q.1)]; exact Nat.add_zero _], rfl⟩
  · have g1t : sm_rg (fun j => bm (40 * i + j)) n = true := by cases h : sm_rg (fun j => bm (40 * i + j)) n <;> simp_all
    refine z_go 72 _ [.ref 92] _ c_87_71 rfl ?_
    refine z_getf (v := .ref 95) 75 c_87_72 rfl h92 rfl ?_
    refine z_go 76 _ [.int (jn i), .ref 95] _ c_87_75 rfl ?_
    refine z_xald 77 c_87_76 rfl h95 (by omega) (by omega) ?_
    show jZ _ _ _ _ ([.int (jb ((aR A) i))]) _ _
    refine z_ifeq 108 80 c_87_77 rfl jb_t (fun g2 => ?_) (fun g2 => ?_)
    · refine z_go 109 _ [.int (jn (sm_or (fun j => bm (40 * i + j)) n))] _ c_87_108 rfl ?_
      refine z_iret c_87_109 ?_
      exact ⟨by rw [show sm_o1 (A i) (fun j => bm (40 * i + j)) n = sm_or (fun j => bm (40 * i + j)) n from by unfold sm_o1; rw [if_neg (fun q => by rw [eP, g2] at q; cases q.2)]; exact Nat.add_zero _], rfl⟩
    · have g2t : aR A i = true := by cases h : aR A i <;> simp_all
      refine z_go 81 _ [.ref 92] _ c_87_80 rfl ?_
      refine z_getf (v := .ref 94) 84 c_87_81 rfl h92 rfl ?_
      refine z_go 85 _ [.int (jn i), .ref 94] _ c_87_84 rfl ?_
      refine z_iald 86 c_87_85 rfl h94 (Or.inl rfl) (by omega) (by omega) ?_
      show jZ _ _ _ _ ([.int (jn ((aE A) i))]) _ _
      refine z_go 88 _ [.int (jn 67), .int (jn ((aE A) i))] _ c_87_86 rfl ?_
      refine z_ieq 102 91 c_87_88 rfl (jn_inj (by omega) (by omega)) (fun g3 => ?_) (fun g3 => ?_)
      · refine z_go 103 _ [.int (jn (sm_or (fun j => bm (40 * i + j)) n))] _ c_87_102 rfl ?_
        refine z_go 104 _ [.int (jn 1), .int (jn (sm_or (fun j => bm (40 * i + j)) n))] _ c_87_103 rfl ?_
        refine z_go 105 _ [.int ((jn (sm_or (fun j => bm (40 * i + j)) n)) + (jn 1))] _ c_87_104 rfl ?_
        refine z_v (jn_add _ _) ?_
        refine z_go 109 _ [.int (jn ((sm_or (fun j => bm (40 * i + j)) n) + 1))] _ c_87_105 rfl ?_
        refine z_iret c_87_109 ?_
        exact ⟨by rw [show sm_o1 (A i) (fun j => bm (40 * i + j)) n = sm_or (fun j => bm (40 * i + j)) n + 1 from by unfold sm_o1; rw [if_pos ⟨g1t, by rw [eP, g2t, decide_eq_true g3]; rfl⟩]], rfl⟩
      · refine z_go 92 _ [.ref 92] _ c_87_91 rfl ?_
        refine z_getf (v := .ref 94) 95 c_87_92 rfl h92 rfl ?_
        refine z_go 96 _ [.int (jn i), .ref 94] _ c_87_95 rfl ?_
        refine z_iald 97 c_87_96 rfl h94 (Or.inl rfl) (by omega) (by omega) ?_
        show jZ _ _ _ _ ([.int (jn ((aE A) i))]) _ _
        refine z_go 99 _ [.int (jn 78), .int (jn ((aE A) i))] _ c_87_97 rfl ?_
        refine z_ine 108 102 c_87_99 rfl (jn_inj (by omega) (by omega)) (fun g4 => ?_) (fun g4 => ?_)
        · refine z_go 103 _ [.int (jn (sm_or (fun j => bm (40 * i + j)) n))] _ c_87_102 rfl ?_
          refine z_go 104 _ [.int (jn 1), .int (jn (sm_or (fun j => bm (40 * i + j)) n))] _ c_87_103 rfl ?_
          refine z_go 105 _ [.int ((jn (sm_or (fun j => bm (40 * i + j)) n)) + (jn 1))] _ c_87_104 rfl ?_
          refine z_v (jn_add _ _) ?_
          refine z_go 109 _ [.int (jn ((sm_or (fun j => bm (40 * i + j)) n) + 1))] _ c_87_105 rfl ?_
          refine z_iret c_87_109 ?_
          exact ⟨by rw [show sm_o1 (A i) (fun j => bm (40 * i + j)) n = sm_or (fun j => bm (40 * i + j)) n + 1 from by unfold sm_o1; rw [if_pos ⟨g1t, by rw [eP, g2t, decide_eq_false g3, decide_eq_true g4]; rfl⟩]], rfl⟩
        · refine z_go 109 _ [.int (jn (sm_or (fun j => bm (40 * i + j)) n))] _ c_87_108 rfl ?_
          refine z_iret c_87_109 ?_
          exact ⟨by rw [show sm_o1 (A i) (fun j => bm (40 * i + j)) n = sm_or (fun j => bm (40 * i + j)) n from by unfold sm_o1; rw [if_neg (fun q => by rw [eP, g2t, decide_eq_false g3, decide_eq_false g4] at q; cases q.2)]; exact Nat.add_zero _], rfl⟩
theorem sm_o1_le {m : MA} {b : Nat → Nat} {n : Nat} (h : ∀ j, j < n → b j < 8) : sm_o1 m b n ≤ 8 * n + 1 := by
  have := sm_or_le h
  unfold sm_o1
  split <;> omega
theorem t_mvl_l {d : Nat} {w : MW} {tx : Nat → Nat} {ln at_ n : Nat} {gd : Bool} {bm bk : Nat → Nat} {oa : Nat → Option Nat} {ol : Nat → Nat} (hn : n ≤ 40) (hbm : bmS n bm) : ∀ {k i : Nat} {r : Bool} {A : Nat → MA} {z3 z4 z5 : Option Value} {M : jx_M}, i + k = n → (∀ q, q < n → aE A q < 128) → (∀ j, i ≤ j → j < n → okA false (A j)) → mRd M w tx ln at_ n gd A bm bk oa ol → jZ (d + 1) 86 4 [some (.ref 92), some (.int (jb r)), some (.int (jn i)), z3, z4, z5] [] M (jV (some (.int (jb (sm_vl bm n k i r A).1))) fun M' => mRd M' w tx ln at_ n gd (sm_vl bm n k i r A).2 bm bk oa ol ∧ sm 92 103 M M') := by
  intro k
  induction k with
  | zero =>
    intro i r A z3 z4 z5 M hk hE hok H
    have H0 := H
    obtain ⟨h92, h93, ⟨h94, h95, h96, h97, h98, h99⟩, h100, h101, h102, h103⟩ := H
    refine z_go 5 _ [.int (jn i)] _ c_86_4 rfl ?_
    refine z_go 6 _ [.ref 92, .int (jn i)] _ c_86_5 rfl ?_
    refine z_getf (v := .int (jn n)) 9 c_86_6 rfl h92 rfl ?_
    refine z_ige 135 12 c_86_9 rfl (by omega) (by omega) (fun hi => ?_) (fun hi => ?_)
    · omega
    · refine z_go 136 _ [.int (jb r)] _ c_86_135 rfl ?_
      refine z_zret (b := r) c_86_136 ?_
      exact ⟨rfl, H0, sm_r _ _ M⟩
  | succ k ih =>
    intro i r A z3 z4 z5 M hk hE hok H
    have H0 := H
    obtain ⟨h92, h93, ⟨h94, h95, h96, h97, h98, h99⟩, h100, h101, h102, h103⟩ := H
    refine z_go 5 _ [.int (jn i)] _ c_86_4 rfl ?_
    refine z_go 6 _ [.ref 92, .int (jn i)] _ c_86_5 rfl ?_
    refine z_getf (v := .int (jn n)) 9 c_86_6 rfl h92 rfl ?_
    refine z_ige 135 12 c_86_9 rfl (by omega) (by omega) (fun hi => ?_) (fun hi => ?_)
    · obtain ⟨o1, o2, o3, o4⟩ := hok i (Nat.le_refl _) hi
      have hol := sm_o1_le (m := A i) (b := (fun j => bm (40 * i + j))) (n := n) (fun q hq => hbm i q hi hq)
      have hmo := sm_mo_le (aE A i)
      refine z_go 13 _ [.ref 92] _ c_86_12 rfl ?_
      refine z_go 14 _ [.int (jn i), .ref 92] _ c_86_13 rfl ?_
      refine z_callv 17 6 87 1 92 c_86_14 rfl ⟨Nat.le_of_ble_eq_true rfl, Nat.le_of_ble_eq_true rfl⟩ rfl h92 [.ref 92, .int (jn i)] rfl rfl [some (.ref 92), some (.int (jn i)), none, none, none, none] rfl rfl (t_mord H0 hn hi hbm hE) ?_
      show jZ _ _ _ _ [.int (jn (sm_o1 (A i) (fun j => bm (40 * i + j)) n))] _ _
      generalize hO : sm_o1 (A i) (fun j => bm (40 * i + j)) n = o at *
      refine z_go 18 [some (.ref 92), some (.int (jb r)), some (.int (jn i)), some (.int (jn o)), z4, z5] [] _ c_86_17 rfl ?_
      refine z_go 19 _ [.ref 92] _ c_86_18 rfl ?_
      refine z_go 20 _ [.int (jn i), .ref 92] _ c_86_19 rfl ?_
      refine z_callv 23 6 88 1 92 c_86_20 rfl ⟨Nat.le_of_ble_eq_true rfl, Nat.le_of_ble_eq_true rfl⟩ rfl h92 [.ref 92, .int (jn i)] rfl rfl [some (.ref 92), some (.int (jn i)), none] rfl rfl (t_mmo H0 hn hi hE) ?_
      show jZ _ _ _ _ [.int (jn (sm_mo (aE A i)))] _ _
      refine z_go 25 [some (.ref 92), some (.int (jb r)), some (.int (jn i)), some (.int (jn o)), some (.int (jn (sm_mo (aE A i)))), z5] [] _ c_86_23 rfl ?_
      refine z_go 26 _ [.ref 92] _ c_86_25 rfl ?_
      refine z_getf (v := .ref 98) 29 c_86_26 rfl h92 rfl ?_
      refine z_go 30 _ [.int (jn i), .ref 98] _ c_86_29 rfl ?_
      refine z_xald 31 c_86_30 rfl h98 (by omega) (by omega) ?_
      show jZ _ _ _ _ ([.int (jb ((aB A) i))]) _ _
      have hvl : sm_vl bm n (k + 1) i r A = sm_vl bm n k (i + 1) (r && sm_v1 (A i) o) (nu A i (sm_h1 (A i) o)) := by rw [sm_vl, hO]
      rw [hvl]
      refine z_ifeq 103 34 c_86_31 rfl jb_t (fun g0 => ?_) (fun g0 => ?_)
      · have eV : sm_v1 (A i) o = decide (o ≤ sm_mo (aE A i)) := if_neg (fun q => by have q : aB A i = true := q; rw [g0] at q; cases q)
        have eH : sm_h1 (A i) o = ((A i).1, (A i).2.1, (if o ≤ sm_mo (aE A i) then sm_mo (aE A i) - o else 4294967296 + sm_mo (aE A i) - o), (A i).2.2.2) := if_neg (fun q => by have q : aB A i = true := q; rw [g0] at q; cases q)
        refine z_cut 118 [some (.ref 92), some (.int (jb r)), some (.int (jn i)), some (.int (jn o)), some (.int (jn (sm_mo (aE A i)))), z5] [.int (jb (r && decide (o ≤ sm_mo (aE A i))))] (fun kc => ?_) ?_
        · refine z_go 104 _ [.int (jb r)] _ c_86_103 rfl ?_
          refine z_ifeq 117 107 c_86_104 rfl jb_t (fun g1 => ?_) (fun g1 => ?_)
          · refine z_go 118 _ [.int (jn 0)] _ c_86_117 rfl ?_
            exact z_v (by rw [g1]; rfl) kc
          · have g1t : r = true := by cases r <;> simp_all
            refine z_go 108 _ [.int (jn o)] _ c_86_107 rfl ?_
            refine z_go 110 _ [.int (jn (sm_mo (aE A i))), .int (jn o)] _ c_86_108 rfl ?_
            refine z_igt 117 113 c_86_110 rfl (by omega) (by omega) (fun g2 => ?_) (fun g2 => ?_)
            · refine z_go 118 _ [.int (jn 0)] _ c_86_117 rfl ?_
              exact z_v (by rw [decide_eq_false (by omega), Bool.and_false]; rfl) kc
            · refine z_go 114 _ [.int (jn 1)] _ c_86_113 rfl ?_
              refine z_go 118 _ [.int (jn 1)] _ c_86_114 rfl ?_
              exact z_v (by rw [g1t, decide_eq_true (by omega)]; rfl) kc
        refine z_go 119 [some (.ref 92), some (.int (jb (r && decide (o ≤ sm_mo (aE A i))))), some (.int (jn i)), some (.int (jn o)), some (.int (jn (sm_mo (aE A i)))), z5] [] _ c_86_118 rfl ?_
        refine z_go 120 _ [.ref 92] _ c_86_119 rfl ?_
        refine z_getf (v := .ref 96) 123 c_86_120 rfl h92 rfl ?_
        refine z_go 124 _ [.int (jn i), .ref 96] _ c_86_123 rfl ?_
        refine z_go 126 _ [.int (jn (sm_mo (aE A i))), .int (jn i), .ref 96] _ c_86_124 rfl ?_
        refine z_go 127 _ [.int (jn o), .int (jn (sm_mo (aE A i))), .int (jn i), .ref 96] _ c_86_126 rfl ?_
        refine z_go 128 _ [.int (((jn (sm_mo (aE A i)))) - ((jn o))), .int (jn i), .ref 96] _ c_86_127 rfl ?_
        refine z_v (jn_hv (by omega) (by omega)) ?_
        refine z_iast (M' := jm [(96, .inl (0, 40, .inl (ja (nu (aH A) i (if o ≤ sm_mo (aE A i) then sm_mo (aE A i) - o else 4294967296 + sm_mo (aE A i) - o)))))] M) 129 c_86_128 rfl h96 (by omega) (by omega) (by rw [ja_upd]; exact rfl) ?_
        refine z_iinc 132 [some (.ref 92), some (.int (jb (r && decide (o ≤ sm_mo (aE A i))))), some (.int (jn (i + 1))), some (.int (jn o)), some (.int (jn (sm_mo (aE A i)))), z5] c_86_129 rfl rfl (jn_add _ _) rfl ?_
        refine z_go 4 _ [] _ c_86_132 rfl ?_
        have hA2 : mA (jm [(96, .inl (0, 40, .inl (ja (nu (aH A) i (if o ≤ sm_mo (aE A i) then sm_mo (aE A i) - o else 4294967296 + sm_mo (aE A i) - o)))))] M) (nu A i (sm_h1 (A i) o)) := by
          rw [mA_nu, eH]
          refine ⟨?_, ?_, rfl, ?_, ?_, ?_⟩
          · exact (show (jm [(96, .inl (0, 40, .inl (ja (nu (aH A) i (if o ≤ sm_mo (aE A i) then sm_mo (aE A i) - o else 4294967296 + sm_mo (aE A i) - o)))))] M).1 94 = _ from h94).trans (by rw [show nu (aE A) i ((A i).1) = aE A from nu_self])
          · exact (show (jm [(96, .inl (0, 40, .inl (ja (nu (aH A) i (if o ≤ sm_mo (aE A i) then sm_mo (aE A i) - o else 4294967296 + sm_mo (aE A i) - o)))))] M).1 95 = _ from h95).trans (by rw [show nu (aR A) i ((A i).2.1) = aR A from nu_self])
          · exact (show (jm [(96, .inl (0, 40, .inl (ja (nu (aH A) i (if o ≤ sm_mo (aE A i) then sm_mo (aE A i) - o else 4294967296 + sm_mo (aE A i) - o)))))] M).1 97 = _ from h97).trans (by rw [show nu (aQ A) i ((A i).2.2.2.1) = aQ A from nu_self])
          · exact (show (jm [(96, .inl (0, 40, .inl (ja (nu (aH A) i (if o ≤ sm_mo (aE A i) then sm_mo (aE A i) - o else 4294967296 + sm_mo (aE A i) - o)))))] M).1 98 = _ from h98).trans (by rw [show nu (aB A) i ((A i).2.2.2.2.1) = aB A from nu_self])
          · exact (show (jm [(96, .inl (0, 40, .inl (ja (nu (aH A) i (if o ≤ sm_mo (aE A i) then sm_mo (aE A i) - o else 4294967296 + sm_mo (aE A i) - o)))))] M).1 99 = _ from h99).trans (by rw [show nu (aL A) i ((A i).2.2.2.2.2) = aL A from nu_self])
        rw [eV]
        refine (ih (i := i + 1) (M := jm [(96, .inl (0, 40, .inl (ja (nu (aH A) i (if o ≤ sm_mo (aE A i) then sm_mo (aE A i) - o else 4294967296 + sm_mo (aE A i) - o)))))] M) (by omega) (fun q hqn => ?_) (fun j h1 h2 => by rw [nu_ne (by omega)]; exact hok j (by omega) h2) ⟨h92, h93, hA2, h100, h101, h102, h103⟩).mono fun r1 M1 q => ⟨q.1, q.2.1, (sm_jm rfl).tr q.2.2⟩
        show (nu A i (sm_h1 (A i) o) q).1 < 128
        by_cases e : q = i
        · subst e; rw [nu_at', show (sm_h1 (A q) o).1 = (A q).1 by unfold sm_h1; split <;> rfl]; exact hE q hqn
        · rw [nu_ne e]; exact hE q hqn
      · have g0t : aB A i = true := by cases h : aB A i <;> simp_all
        have eV : sm_v1 (A i) o = decide (aH A i + o = sm_due (A i)) := if_pos g0t
        have eH : sm_h1 (A i) o = A i := if_pos g0t
        have hh4 : aH A i ≤ 4 := o1
        refine z_go 35 _ [.ref 92] _ c_86_34 rfl ?_
        refine z_getf (v := .ref 97) 38 c_86_35 rfl h92 rfl ?_
        refine z_go 39 _ [.int (jn i), .ref 97] _ c_86_38 rfl ?_
        refine z_iald 40 c_86_39 rfl h97 (Or.inl rfl) (by omega) (by omega) ?_
        show jZ _ _ _ _ ([.int (jo ((aQ A) i))]) _ _
        rcases o3 with hq | hq | hq
        · have hq : aQ A i = none := hq
          rw [hq]
          show jZ _ _ _ _ [.int (jo none)] _ _
          refine z_ifne 48 43 c_86_40 rfl Iff.rfl (fun h => absurd h (by decide)) (fun _ => ?_)
          have hEi := hE i hi
          refine z_go 49 _ [.ref 92] _ c_86_48 rfl ?_
          refine z_getf (v := .ref 94) 52 c_86_49 rfl h92 rfl ?_
          refine z_go 53 _ [.int (jn i), .ref 94] _ c_86_52 rfl ?_
          refine z_iald 54 c_86_53 rfl h94 (Or.inl rfl) (by omega) (by omega) ?_
          show jZ _ _ _ _ ([.int (jn ((aE A) i))]) _ _
          refine z_go 56 _ [.int (jn 67), .int (jn ((aE A) i))] _ c_86_54 rfl ?_
          refine z_ine 66 59 c_86_56 rfl (jn_inj (by omega) (by omega)) (fun gC => ?_) (fun gC => ?_)
          · refine z_go 61 _ [.int (jn (sm_mo (aE A i)))] _ c_86_59 rfl ?_
            refine z_go 62 _ [.int (jn 1), .int (jn (sm_mo (aE A i)))] _ c_86_61 rfl ?_
            refine z_go 63 _ [.int ((jn (sm_mo (aE A i))) - (jn 1))] _ c_86_62 rfl ?_
            refine z_v (jn_sub (by omega)) ?_
            refine z_go 75 _ [.int (jn ((sm_mo (aE A i)) - 1))] _ c_86_63 rfl ?_
            have eD : sm_due (A i) = sm_mo (aE A i) - 1 := by unfold sm_due; rw [show (A i).2.2.2.1 = none from hq]; rfl
            refine z_v (congrArg jn eD.symm) ?_
            have hdl : sm_due (A i) ≤ 4 := by omega
            refine z_go 77 [some (.ref 92), some (.int (jb r)), some (.int (jn i)), some (.int (jn o)), some (.int (jn (sm_mo (aE A i)))), some (.int (jn (sm_due (A i))))] [] _ c_86_75 rfl ?_
            refine z_cut 99 [some (.ref 92), some (.int (jb r)), some (.int (jn i)), some (.int (jn o)), some (.int (jn (sm_mo (aE A i)))), some (.int (jn (sm_due (A i))))] [.int (jb (r && decide (aH A i + o = sm_due (A i))))] (fun kc => ?_) ?_
            · refine z_go 78 _ [.int (jb r)] _ c_86_77 rfl ?_
              refine z_ifeq 98 81 c_86_78 rfl jb_t (fun g1 => ?_) (fun g1 => ?_)
              · refine z_go 99 _ [.int (jn 0)] _ c_86_98 rfl ?_
                exact z_v (by rw [g1]; rfl) kc
              · have g1t : r = true := by cases r <;> simp_all
                refine z_go 82 _ [.ref 92] _ c_86_81 rfl ?_
                refine z_getf (v := .ref 96) 85 c_86_82 rfl h92 rfl ?_
                refine z_go 86 _ [.int (jn i), .ref 96] _ c_86_85 rfl ?_
                refine z_iald 87 c_86_86 rfl h96 (Or.inl rfl) (by omega) (by omega) ?_
                show jZ _ _ _ _ ([.int (jn ((aH A) i))]) _ _
                refine z_go 88 _ [.int (jn o), .int (jn ((aH A) i))] _ c_86_87 rfl ?_
                refine z_go 89 _ [.int ((jn ((aH A) i)) + (jn o))] _ c_86_88 rfl ?_
                refine z_v (jn_add _ _) ?_
                refine z_go 91 _ [.int (jn (sm_due (A i))), .int (jn (((aH A) i) + o))] _ c_86_89 rfl ?_
                refine z_ine 98 94 c_86_91 rfl (jn_inj (by omega) (by omega)) (fun g2 => ?_) (fun g2 => ?_)
                · refine z_go 95 _ [.int (jn 1)] _ c_86_94 rfl ?_
                  refine z_go 99 _ [.int (jn 1)] _ c_86_95 rfl ?_
                  exact z_v (by rw [g1t, decide_eq_true g2]; rfl) kc
                · refine z_go 99 _ [.int (jn 0)] _ c_86_98 rfl ?_
                  exact z_v (by rw [decide_eq_false g2, Bool.and_false]; rfl) kc
            refine z_go 100 [some (.ref 92), some (.int (jb (r && decide (aH A i + o = sm_due (A i))))), some (.int (jn i)), some (.int (jn o)), some (.int (jn (sm_mo (aE A i)))), some (.int (jn (sm_due (A i))))] [] _ c_86_99 rfl ?_
            refine z_go 129 _ [] _ c_86_100 rfl ?_
            refine z_iinc 132 [some (.ref 92), some (.int (jb (r && decide (aH A i + o = sm_due (A i))))), some (.int (jn (i + 1))), some (.int (jn o)), some (.int (jn (sm_mo (aE A i)))), some (.int (jn (sm_due (A i))))] c_86_129 rfl rfl (jn_add _ _) rfl ?_
            refine z_go 4 _ [] _ c_86_132 rfl ?_
            rw [eV]
            refine (ih (i := i + 1) (M := M) (by omega) (fun q hqn => ?_) (fun j h1 h2 => by rw [nu_ne (by omega)]; exact hok j (by omega) h2) ⟨h92, h93, (by rw [eH, nu_self]; exact ⟨h94, h95, h96, h97, h98, h99⟩), h100, h101, h102, h103⟩).mono fun r1 M1 q => ⟨q.1, q.2.1, q.2.2⟩
            show (nu A i (sm_h1 (A i) o) q).1 < 128
            by_cases e : q = i
            · subst e; rw [nu_at', show (sm_h1 (A q) o).1 = (A q).1 by unfold sm_h1; split <;> rfl]; exact hE q hqn
            · rw [nu_ne e]; exact hE q hqn
          · refine z_go 68 _ [.int (jn (sm_mo (aE A i)))] _ c_86_66 rfl ?_
            refine z_go 69 _ [.ref 92, .int (jn (sm_mo (aE A i)))] _ c_86_68 rfl ?_
            refine z_getf (v := .ref 97) 72 c_86_69 rfl h92 rfl ?_
            refine z_go 73 _ [.int (jn i), .ref 97, .int (jn (sm_mo (aE A i)))] _ c_86_72 rfl ?_
            refine z_iald 74 c_86_73 rfl h97 (Or.inl rfl) (by omega) (by omega) ?_
            show jZ _ _ _ _ ([.int (jo ((aQ A) i)), .int (jn (sm_mo (aE A i)))]) _ _
            rw [hq]
            show jZ _ _ _ _ [.int (jo none), .int (jn (sm_mo (aE A i)))] _ _
            refine z_go 75 _ [.int (((jn (sm_mo (aE A i)))) + ((jo none)))] _ c_86_74 rfl ?_
            refine z_v (jn_m1a hmo.1) ?_
            have eD : sm_due (A i) = sm_mo (aE A i) - 1 := by unfold sm_due; rw [show (A i).2.2.2.1 = none from hq]; rfl
            refine z_v (congrArg jn eD.symm) ?_
            have hdl : sm_due (A i) ≤ 5 := by omega
            refine z_go 77 [some (.ref 92), some (.int (jb r)), some (.int (jn i)), some (.int (jn o)), some (.int (jn (sm_mo (aE A i)))), some (.int (jn (sm_due (A i))))] [] _ c_86_75 rfl ?_
            refine z_cut 99 [some (.ref 92), some (.int (jb r)), some (.int (jn i)), some (.int (jn o)), some (.int (jn (sm_mo (aE A i)))), some (.int (jn (sm_due (A i))))] [.int (jb (r && decide (aH A i + o = sm_due (A i))))] (fun kc => ?_) ?_
            · refine z_go 78 _ [.int (jb r)] _ c_86_77 rfl ?_
              refine z_ifeq 98 81 c_86_78 rfl jb_t (fun g1 => ?_) (fun g1 => ?_)
              · refine z_go 99 _ [.int (jn 0)] _ c_86_98 rfl ?_
                exact z_v (by rw [g1]; rfl) kc
              · have g1t : r = true := by cases r <;> simp_all
                refine z_go 82 _ [.ref 92] _ c_86_81 rfl ?_
                refine z_getf (v := .ref 96) 85 c_86_82 rfl h92 rfl ?_
                refine z_go 86 _ [.int (jn i), .ref 96] _ c_86_85 rfl ?_
                refine z_iald 87 c_86_86 rfl h96 (Or.inl rfl) (by omega) (by omega) ?_
                show jZ _ _ _ _ ([.int (jn ((aH A) i))]) _ _
                refine z_go 88 _ [.int (jn o), .int (jn ((aH A) i))] _ c_86_87 rfl ?_
                refine z_go 89 _ [.int ((jn ((aH A) i)) + (jn o))] _ c_86_88 rfl ?_
                refine z_v (jn_add _ _) ?_
                refine z_go 91 _ [.int (jn (sm_due (A i))), .int (jn (((aH A) i) + o))] _ c_86_89 rfl ?_
                refine z_ine 98 94 c_86_91 rfl (jn_inj (by omega) (by omega)) (fun g2 => ?_) (fun g2 => ?_)
                · refine z_go 95 _ [.int (jn 1)] _ c_86_94 rfl ?_
                  refine z_go 99 _ [.int (jn 1)] _ c_86_95 rfl ?_
                  exact z_v (by rw [g1t, decide_eq_true g2]; rfl) kc
                · refine z_go 99 _ [.int (jn 0)] _ c_86_98 rfl ?_
                  exact z_v (by rw [decide_eq_false g2, Bool.and_false]; rfl) kc
            refine z_go 100 [some (.ref 92), some (.int (jb (r && decide (aH A i + o = sm_due (A i))))), some (.int (jn i)), some (.int (jn o)), some (.int (jn (sm_mo (aE A i)))), some (.int (jn (sm_due (A i))))] [] _ c_86_99 rfl ?_
            refine z_go 129 _ [] _ c_86_100 rfl ?_
            refine z_iinc 132 [some (.ref 92), some (.int (jb (r && decide (aH A i + o = sm_due (A i))))), some (.int (jn (i + 1))), some (.int (jn o)), some (.int (jn (sm_mo (aE A i)))), some (.int (jn (sm_due (A i))))] c_86_129 rfl rfl (jn_add _ _) rfl ?_
            refine z_go 4 _ [] _ c_86_132 rfl ?_
            rw [eV]
            refine (ih (i := i + 1) (M := M) (by omega) (fun q hqn => ?_) (fun j h1 h2 => by rw [nu_ne (by omega)]; exact hok j (by omega) h2) ⟨h92, h93, (by rw [eH, nu_self]; exact ⟨h94, h95, h96, h97, h98, h99⟩), h100, h101, h102, h103⟩).mono fun r1 M1 q => ⟨q.1, q.2.1, q.2.2⟩
            show (nu A i (sm_h1 (A i) o) q).1 < 128
            by_cases e : q = i
            · subst e; rw [nu_at', show (sm_h1 (A q) o).1 = (A q).1 by unfold sm_h1; split <;> rfl]; exact hE q hqn
            · rw [nu_ne e]; exact hE q hqn
        · have hq : aQ A i = some 0 := hq
          rw [hq]
          show jZ _ _ _ _ [.int (jn 0)] _ _
          refine z_ifne 48 43 c_86_40 rfl (jn_z (by decide)) (fun _ => ?_) (fun h => absurd rfl h)
          refine z_go 45 _ [.int (jn (sm_mo (aE A i)))] _ c_86_43 rfl ?_
          refine z_go 75 _ [.int (jn (sm_mo (aE A i)))] _ c_86_45 rfl ?_
          have eD : sm_due (A i) = sm_mo (aE A i) := by unfold sm_due; rw [show (A i).2.2.2.1 = some 0 from hq]; rfl
          refine z_v (congrArg jn eD.symm) ?_
          have hdl : sm_due (A i) ≤ 4 := by omega
          refine z_go 77 [some (.ref 92), some (.int (jb r)), some (.int (jn i)), some (.int (jn o)), some (.int (jn (sm_mo (aE A i)))), some (.int (jn (sm_due (A i))))] [] _ c_86_75 rfl ?_
          refine z_cut 99 [some (.ref 92), some (.int (jb r)), some (.int (jn i)), some (.int (jn o)), some (.int (jn (sm_mo (aE A i)))), some (.int (jn (sm_due (A i))))] [.int (jb (r && decide (aH A i + o = sm_due (A i))))] (fun kc => ?_) ?_
          · refine z_go 78 _ [.int (jb r)] _ c_86_77 rfl ?_
            refine z_ifeq 98 81 c_86_78 rfl jb_t (fun g1 => ?_) (fun g1 => ?_)
            · refine z_go 99 _ [.int (jn 0)] _ c_86_98 rfl ?_
              exact z_v (by rw [g1]; rfl) kc
            · have g1t : r = true := by cases r <;> simp_all
              refine z_go 82 _ [.ref 92] _ c_86_81 rfl ?_
              refine z_getf (v := .ref 96) 85 c_86_82 rfl h92 rfl ?_
              refine z_go 86 _ [.int (jn i), .ref 96] _ c_86_85 rfl ?_
              refine z_iald 87 c_86_86 rfl h96 (Or.inl rfl) (by omega) (by omega) ?_
              show jZ _ _ _ _ ([.int (jn ((aH A) i))]) _ _
              refine z_go 88 _ [.int (jn o), .int (jn ((aH A) i))] _ c_86_87 rfl ?_
              refine z_go 89 _ [.int ((jn ((aH A) i)) + (jn o))] _ c_86_88 rfl ?_
              refine z_v (jn_add _ _) ?_
              refine z_go 91 _ [.int (jn (sm_due (A i))), .int (jn (((aH A) i) + o))] _ c_86_89 rfl ?_
              refine z_ine 98 94 c_86_91 rfl (jn_inj (by omega) (by omega)) (fun g2 => ?_) (fun g2 => ?_)
              · refine z_go 95 _ [.int (jn 1)] _ c_86_94 rfl ?_
                refine z_go 99 _ [.int (jn 1)] _ c_86_95 rfl ?_
                exact z_v (by rw [g1t, decide_eq_true g2]; rfl) kc
              · refine z_go 99 _ [.int (jn 0)] _ c_86_98 rfl ?_
                exact z_v (by rw [decide_eq_false g2, Bool.and_false]; rfl) kc
          refine z_go 100 [some (.ref 92), some (.int (jb (r && decide (aH A i + o = sm_due (A i))))), some (.int (jn i)), some (.int (jn o)), some (.int (jn (sm_mo (aE A i)))), some (.int (jn (sm_due (A i))))] [] _ c_86_99 rfl ?_
          refine z_go 129 _ [] _ c_86_100 rfl ?_
          refine z_iinc 132 [some (.ref 92), some (.int (jb (r && decide (aH A i + o = sm_due (A i))))), some (.int (jn (i + 1))), some (.int (jn o)), some (.int (jn (sm_mo (aE A i)))), some (.int (jn (sm_due (A i))))] c_86_129 rfl rfl (jn_add _ _) rfl ?_
          refine z_go 4 _ [] _ c_86_132 rfl ?_
          rw [eV]
          refine (ih (i := i + 1) (M := M) (by omega) (fun q hqn => ?_) (fun j h1 h2 => by rw [nu_ne (by omega)]; exact hok j (by omega) h2) ⟨h92, h93, (by rw [eH, nu_self]; exact ⟨h94, h95, h96, h97, h98, h99⟩), h100, h101, h102, h103⟩).mono fun r1 M1 q => ⟨q.1, q.2.1, q.2.2⟩
          show (nu A i (sm_h1 (A i) o) q).1 < 128
          by_cases e : q = i
          · subst e; rw [nu_at', show (sm_h1 (A q) o).1 = (A q).1 by unfold sm_h1; split <;> rfl]; exact hE q hqn
          · rw [nu_ne e]; exact hE q hqn
        · have hq : aQ A i = some 1 := hq
          rw [hq]
          show jZ _ _ _ _ [.int (jn 1)] _ _
          refine z_ifne 48 43 c_86_40 rfl (jn_z (by decide)) (fun h => absurd h (by decide)) (fun _ => ?_)
          have hEi := hE i hi
          refine z_go 49 _ [.ref 92] _ c_86_48 rfl ?_
          refine z_getf (v := .ref 94) 52 c_86_49 rfl h92 rfl ?_
          refine z_go 53 _ [.int (jn i), .ref 94] _ c_86_52 rfl ?_
          refine z_iald 54 c_86_53 rfl h94 (Or.inl rfl) (by omega) (by omega) ?_
          show jZ _ _ _ _ ([.int (jn ((aE A) i))]) _ _
          refine z_go 56 _ [.int (jn 67), .int (jn ((aE A) i))] _ c_86_54 rfl ?_
          refine z_ine 66 59 c_86_56 rfl (jn_inj (by omega) (by omega)) (fun gC => ?_) (fun gC => ?_)
          · refine z_go 61 _ [.int (jn (sm_mo (aE A i)))] _ c_86_59 rfl ?_
            refine z_go 62 _ [.int (jn 1), .int (jn (sm_mo (aE A i)))] _ c_86_61 rfl ?_
            refine z_go 63 _ [.int ((jn (sm_mo (aE A i))) - (jn 1))] _ c_86_62 rfl ?_
            refine z_v (jn_sub (by omega)) ?_
            refine z_go 75 _ [.int (jn ((sm_mo (aE A i)) - 1))] _ c_86_63 rfl ?_
            have eD : sm_due (A i) = sm_mo (aE A i) - 1 := by unfold sm_due; rw [show (A i).2.2.2.1 = some 1 from hq]; dsimp only; rw [if_neg (by decide), if_pos (show (A i).1 = 67 from gC)]; rfl
            refine z_v (congrArg jn eD.symm) ?_
            have hdl : sm_due (A i) ≤ 4 := by omega
            refine z_go 77 [some (.ref 92), some (.int (jb r)), some (.int (jn i)), some (.int (jn o)), some (.int (jn (sm_mo (aE A i)))), some (.int (jn (sm_due (A i))))] [] _ c_86_75 rfl ?_
            refine z_cut 99 [some (.ref 92), some (.int (jb r)), some (.int (jn i)), some (.int (jn o)), some (.int (jn (sm_mo (aE A i)))), some (.int (jn (sm_due (A i))))] [.int (jb (r && decide (aH A i + o = sm_due (A i))))] (fun kc => ?_) ?_
            · refine z_go 78 _ [.int (jb r)] _ c_86_77 rfl ?_
              refine z_ifeq 98 81 c_86_78 rfl jb_t (fun g1 => ?_) (fun g1 => ?_)
              · refine z_go 99 _ [.int (jn 0)] _ c_86_98 rfl ?_
                exact z_v (by rw [g1]; rfl) kc
              · have g1t : r = true := by cases r <;> simp_all
                refine z_go 82 _ [.ref 92] _ c_86_81 rfl ?_
                refine z_getf (v := .ref 96) 85 c_86_82 rfl h92 rfl ?_
                refine z_go 86 _ [.int (jn i), .ref 96] _ c_86_85 rfl ?_
                refine z_iald 87 c_86_86 rfl h96 (Or.inl rfl) (by omega) (by omega) ?_
                show jZ _ _ _ _ ([.int (jn ((aH A) i))]) _ _
                refine z_go 88 _ [.int (jn o), .int (jn ((aH A) i))] _ c_86_87 rfl ?_
                refine z_go 89 _ [.int ((jn ((aH A) i)) + (jn o))] _ c_86_88 rfl ?_
                refine z_v (jn_add _ _) ?_
                refine z_go 91 _ [.int (jn (sm_due (A i))), .int (jn (((aH A) i) + o))] _ c_86_89 rfl ?_
                refine z_ine 98 94 c_86_91 rfl (jn_inj (by omega) (by omega)) (fun g2 => ?_) (fun g2 => ?_)
                · refine z_go 95 _ [.int (jn 1)] _ c_86_94 rfl ?_
                  refine z_go 99 _ [.int (jn 1)] _ c_86_95 rfl ?_
                  exact z_v (by rw [g1t, decide_eq_true g2]; rfl) kc
                · refine z_go 99 _ [.int (jn 0)] _ c_86_98 rfl ?_
                  exact z_v (by rw [decide_eq_false g2, Bool.and_false]; rfl) kc
            refine z_go 100 [some (.ref 92), some (.int (jb (r && decide (aH A i + o = sm_due (A i))))), some (.int (jn i)), some (.int (jn o)), some (.int (jn (sm_mo (aE A i)))), some (.int (jn (sm_due (A i))))] [] _ c_86_99 rfl ?_
            refine z_go 129 _ [] _ c_86_100 rfl ?_
            refine z_iinc 132 [some (.ref 92), some (.int (jb (r && decide (aH A i + o = sm_due (A i))))), some (.int (jn (i + 1))), some (.int (jn o)), some (.int (jn (sm_mo (aE A i)))), some (.int (jn (sm_due (A i))))] c_86_129 rfl rfl (jn_add _ _) rfl ?_
            refine z_go 4 _ [] _ c_86_132 rfl ?_
            rw [eV]
            refine (ih (i := i + 1) (M := M) (by omega) (fun q hqn => ?_) (fun j h1 h2 => by rw [nu_ne (by omega)]; exact hok j (by omega) h2) ⟨h92, h93, (by rw [eH, nu_self]; exact ⟨h94, h95, h96, h97, h98, h99⟩), h100, h101, h102, h103⟩).mono fun r1 M1 q => ⟨q.1, q.2.1, q.2.2⟩
            show (nu A i (sm_h1 (A i) o) q).1 < 128
            by_cases e : q = i
            · subst e; rw [nu_at', show (sm_h1 (A q) o).1 = (A q).1 by unfold sm_h1; split <;> rfl]; exact hE q hqn
            · rw [nu_ne e]; exact hE q hqn
          · refine z_go 68 _ [.int (jn (sm_mo (aE A i)))] _ c_86_66 rfl ?_
            refine z_go 69 _ [.ref 92, .int (jn (sm_mo (aE A i)))] _ c_86_68 rfl ?_
            refine z_getf (v := .ref 97) 72 c_86_69 rfl h92 rfl ?_
            refine z_go 73 _ [.int (jn i), .ref 97, .int (jn (sm_mo (aE A i)))] _ c_86_72 rfl ?_
            refine z_iald 74 c_86_73 rfl h97 (Or.inl rfl) (by omega) (by omega) ?_
            show jZ _ _ _ _ ([.int (jo ((aQ A) i)), .int (jn (sm_mo (aE A i)))]) _ _
            rw [hq]
            show jZ _ _ _ _ [.int (jn 1), .int (jn (sm_mo (aE A i)))] _ _
            refine z_go 75 _ [.int ((jn (sm_mo (aE A i))) + (jn 1))] _ c_86_74 rfl ?_
            refine z_v (jn_add _ _) ?_
            have eD : sm_due (A i) = sm_mo (aE A i) + 1 := by unfold sm_due; rw [show (A i).2.2.2.1 = some 1 from hq]; dsimp only; rw [if_neg (by decide), if_neg (show ¬ (A i).1 = 67 from gC)]; rfl
            refine z_v (congrArg jn eD.symm) ?_
            have hdl : sm_due (A i) ≤ 5 := by omega
            refine z_go 77 [some (.ref 92), some (.int (jb r)), some (.int (jn i)), some (.int (jn o)), some (.int (jn (sm_mo (aE A i)))), some (.int (jn (sm_due (A i))))] [] _ c_86_75 rfl ?_
            refine z_cut 99 [some (.ref 92), some (.int (jb r)), some (.int (jn i)), some (.int (jn o)), some (.int (jn (sm_mo (aE A i)))), some (.int (jn (sm_due (A i))))] [.int (jb (r && decide (aH A i + o = sm_due (A i))))] (fun kc => ?_) ?_
            · refine z_go 78 _ [.int (jb r)] _ c_86_77 rfl ?_
              refine z_ifeq 98 81 c_86_78 rfl jb_t (fun g1 => ?_) (fun g1 => ?_)
              · refine z_go 99 _ [.int (jn 0)] _ c_86_98 rfl ?_
                exact z_v (by rw [g1]; rfl) kc
              · have g1t : r = true := by cases r <;> simp_all
                refine z_go 82 _ [.ref 92] _ c_86_81 rfl ?_
                refine z_getf (v := .ref 96) 85 c_86_82 rfl h92 rfl ?_
                refine z_go 86 _ [.int (jn i), .ref 96] _ c_86_85 rfl ?_
                refine z_iald 87 c_86_86 rfl h96 (Or.inl rfl) (by omega) (by omega) ?_
                show jZ _ _ _ _ ([.int (jn ((aH A) i))]) _ _
                refine z_go 88 _ [.int (jn o), .int (jn ((aH A) i))] _ c_86_87 rfl ?_
                refine z_go 89 _ [.int ((jn ((aH A) i)) + (jn o))] _ c_86_88 rfl ?_
                refine z_v (jn_add _ _) ?_
                refine z_go 91 _ [.int (jn (sm_due (A i))), .int (jn (((aH A) i) + o))] _ c_86_89 rfl ?_
                refine z_ine 98 94 c_86_91 rfl (jn_inj (by omega) (by omega)) (fun g2 => ?_) (fun g2 => ?_)
                · refine z_go 95 _ [.int (jn 1)] _ c_86_94 rfl ?_
                  refine z_go 99 _ [.int (jn 1)] _ c_86_95 rfl ?_
                  exact z_v (by rw [g1t, decide_eq_true g2]; rfl) kc
                · refine z_go 99 _ [.int (jn 0)] _ c_86_98 rfl ?_
                  exact z_v (by rw [decide_eq_false g2, Bool.and_false]; rfl) kc
            refine z_go 100 [some (.ref 92), some (.int (jb (r && decide (aH A i + o = sm_due (A i))))), some (.int (jn i)), some (.int (jn o)), some (.int (jn (sm_mo (aE A i)))), some (.int (jn (sm_due (A i))))] [] _ c_86_99 rfl ?_
            refine z_go 129 _ [] _ c_86_100 rfl ?_
            refine z_iinc 132 [some (.ref 92), some (.int (jb (r && decide (aH A i + o = sm_due (A i))))), some (.int (jn (i + 1))), some (.int (jn o)), some (.int (jn (sm_mo (aE A i)))), some (.int (jn (sm_due (A i))))] c_86_129 rfl rfl (jn_add _ _) rfl ?_
            refine z_go 4 _ [] _ c_86_132 rfl ?_
            rw [eV]
            refine (ih (i := i + 1) (M := M) (by omega) (fun q hqn => ?_) (fun j h1 h2 => by rw [nu_ne (by omega)]; exact hok j (by omega) h2) ⟨h92, h93, (by rw [eH, nu_self]; exact ⟨h94, h95, h96, h97, h98, h99⟩), h100, h101, h102, h103⟩).mono fun r1 M1 q => ⟨q.1, q.2.1, q.2.2⟩
            show (nu A i (sm_h1 (A i) o) q).1 < 128
            by_cases e : q = i
            · subst e; rw [nu_at', show (sm_h1 (A q) o).1 = (A q).1 by unfold sm_h1; split <;> rfl]; exact hE q hqn
            · rw [nu_ne e]; exact hE q hqn
    · omega
theorem okA_E {pt : Bool} {m : MA} (h : okA pt m) : m.1 < 128 := by
  rcases h.2.2.2 with q | q
  · rcases q.2.1 with e | e | e | e | e <;> rw [e] <;> decide
  · rw [q.2.1]; decide
theorem t_mvl {d : Nat} {w : MW} {tx : Nat → Nat} {ln at_ n : Nat} {gd : Bool} {A : Nat → MA} {bm bk : Nat → Nat} {oa : Nat → Option Nat} {ol : Nat → Nat} {M : jx_M} (H : mRd M w tx ln at_ n gd A bm bk oa ol) (hn : n ≤ 40) (hbm : bmS n bm) (hok : ∀ j, j < n → okA false (A j)) : jZ (d + 1) 86 0 [some (.ref 92), none, none, none, none, none] [] M (jV (some (.int (jb (sm_vl bm n n 0 true A).1))) fun M' => mRd M' w tx ln at_ n gd (sm_vl bm n n 0 true A).2 bm bk oa ol ∧ sm 92 103 M M') := by
  refine z_go 1 _ [.int (jn 1)] _ c_86_0 rfl ?_
  refine z_go 2 [some (.ref 92), some (.int (jn 1)), none, none, none, none] [] _ c_86_1 rfl ?_
  show jZ _ _ _ [some (.ref 92), some (.int (jb true)), none, none, none, none] _ _ _
  refine z_go 3 _ [.int (jn 0)] _ c_86_2 rfl ?_
  refine z_go 4 [some (.ref 92), some (.int (jb true)), some (.int (jn 0)), none, none, none] [] _ c_86_3 rfl ?_
  exact t_mvl_l hn hbm (by omega) (fun q hq => okA_E (hok q hq)) (fun j _ h => hok j h) H
