/-! THE READER: bonds, closures, parts; printed by wip/whole/p45.py -/
theorem c_34_0 : jx_cd 34 0 = some (o_ald 0 1) := rfl
theorem c_34_1 : jx_cd 34 1 = some (o_ild 1 1) := rfl
theorem c_34_2 : jx_cd 34 2 = some (o_ild 2 1) := rfl
theorem c_34_3 : jx_cd 34 3 = some (o_ild 3 1) := rfl
theorem c_34_4 : jx_cd 34 4 = some (o_callv 3 35 3) := rfl
theorem c_34_7 : jx_cd 34 7 = some (o_ist 4 2) := rfl
theorem c_34_9 : jx_cd 34 9 = some (o_ild 1 1) := rfl
theorem c_34_10 : jx_cd 34 10 = some (o_ild 2 1) := rfl
theorem c_34_11 : jx_cd 34 11 = some (o_ieq 37) := rfl
theorem c_34_14 : jx_cd 34 14 = some (o_ild 4 2) := rfl
theorem c_34_16 : jx_cd 34 16 = some (o_ifeq 37) := rfl
theorem c_34_19 : jx_cd 34 19 = some (o_ald 0 1) := rfl
theorem c_34_20 : jx_cd 34 20 = some (o_ild 1 1) := rfl
theorem c_34_21 : jx_cd 34 21 = some (o_ild 2 1) := rfl
theorem c_34_22 : jx_cd 34 22 = some (o_callv 3 36 2) := rfl
theorem c_34_25 : jx_cd 34 25 = some (o_ifne 37) := rfl
theorem c_34_28 : jx_cd 34 28 = some (o_ald 0 1) := rfl
theorem c_34_29 : jx_cd 34 29 = some (o_getf 3 10) := rfl
theorem c_34_32 : jx_cd 34 32 = some (o_push (.int 40) 2) := rfl
theorem c_34_34 : jx_cd 34 34 = some (o_ilt 39) := rfl
theorem c_34_37 : jx_cd 34 37 = some (o_push (.int 0) 1) := rfl
theorem c_34_38 : jx_cd 34 38 = some (o_zret) := rfl
theorem c_34_39 : jx_cd 34 39 = some (o_ald 0 1) := rfl
theorem c_34_40 : jx_cd 34 40 = some (o_getf 3 7) := rfl
theorem c_34_43 : jx_cd 34 43 = some (o_ald 0 1) := rfl
theorem c_34_44 : jx_cd 34 44 = some (o_getf 3 10) := rfl
theorem c_34_47 : jx_cd 34 47 = some (o_ild 1 1) := rfl
theorem c_34_48 : jx_cd 34 48 = some (o_iast) := rfl
theorem c_34_49 : jx_cd 34 49 = some (o_ald 0 1) := rfl
theorem c_34_50 : jx_cd 34 50 = some (o_getf 3 8) := rfl
theorem c_34_53 : jx_cd 34 53 = some (o_ald 0 1) := rfl
theorem c_34_54 : jx_cd 34 54 = some (o_getf 3 10) := rfl
theorem c_34_57 : jx_cd 34 57 = some (o_ild 2 1) := rfl
theorem c_34_58 : jx_cd 34 58 = some (o_iast) := rfl
theorem c_34_59 : jx_cd 34 59 = some (o_ald 0 1) := rfl
theorem c_34_60 : jx_cd 34 60 = some (o_getf 3 9) := rfl
theorem c_34_63 : jx_cd 34 63 = some (o_ald 0 1) := rfl
theorem c_34_64 : jx_cd 34 64 = some (o_getf 3 10) := rfl
theorem c_34_67 : jx_cd 34 67 = some (o_ild 4 2) := rfl
theorem c_34_69 : jx_cd 34 69 = some (o_iast) := rfl
theorem c_34_70 : jx_cd 34 70 = some (o_ald 0 1) := rfl
theorem c_34_71 : jx_cd 34 71 = some (o_dup) := rfl
theorem c_34_72 : jx_cd 34 72 = some (o_getf 3 10) := rfl
theorem c_34_75 : jx_cd 34 75 = some (o_push (.int 1) 1) := rfl
theorem c_34_76 : jx_cd 34 76 = some (o_bin fun x y => x + y) := rfl
theorem c_34_77 : jx_cd 34 77 = some (o_putf 3 10 jx_okI) := rfl
theorem c_34_80 : jx_cd 34 80 = some (o_push (.int 1) 1) := rfl
theorem c_34_81 : jx_cd 34 81 = some (o_zret) := rfl
theorem c_35_0 : jx_cd 35 0 = some (o_ald 0 1) := rfl
theorem c_35_1 : jx_cd 35 1 = some (o_getf 3 4) := rfl
theorem c_35_4 : jx_cd 35 4 = some (o_ild 1 1) := rfl
theorem c_35_5 : jx_cd 35 5 = some (o_iald) := rfl
theorem c_35_6 : jx_cd 35 6 = some (o_ald 0 1) := rfl
theorem c_35_7 : jx_cd 35 7 = some (o_getf 3 4) := rfl
theorem c_35_10 : jx_cd 35 10 = some (o_ild 2 1) := rfl
theorem c_35_11 : jx_cd 35 11 = some (o_iald) := rfl
theorem c_35_12 : jx_cd 35 12 = some (o_bin fun x y => x ||| y) := rfl
theorem c_35_13 : jx_cd 35 13 = some (o_ist 4 2) := rfl
theorem c_35_15 : jx_cd 35 15 = some (o_ild 3 1) := rfl
theorem c_35_16 : jx_cd 35 16 = some (o_ifne 45) := rfl
theorem c_35_19 : jx_cd 35 19 = some (o_ald 0 1) := rfl
theorem c_35_20 : jx_cd 35 20 = some (o_getf 3 4) := rfl
theorem c_35_23 : jx_cd 35 23 = some (o_ild 1 1) := rfl
theorem c_35_24 : jx_cd 35 24 = some (o_iald) := rfl
theorem c_35_25 : jx_cd 35 25 = some (o_ald 0 1) := rfl
theorem c_35_26 : jx_cd 35 26 = some (o_getf 3 4) := rfl
theorem c_35_29 : jx_cd 35 29 = some (o_ild 2 1) := rfl
theorem c_35_30 : jx_cd 35 30 = some (o_iald) := rfl
theorem c_35_31 : jx_cd 35 31 = some (o_bin fun x y => x &&& y) := rfl
theorem c_35_32 : jx_cd 35 32 = some (o_push (.int 128) 3) := rfl
theorem c_35_35 : jx_cd 35 35 = some (o_bin fun x y => x &&& y) := rfl
theorem c_35_36 : jx_cd 35 36 = some (o_ifeq 43) := rfl
theorem c_35_39 : jx_cd 35 39 = some (o_push (.int 4) 1) := rfl
theorem c_35_40 : jx_cd 35 40 = some (o_goto 44) := rfl
theorem c_35_43 : jx_cd 35 43 = some (o_push (.int 1) 1) := rfl
theorem c_35_44 : jx_cd 35 44 = some (o_iret) := rfl
theorem c_35_45 : jx_cd 35 45 = some (o_ild 3 1) := rfl
theorem c_35_46 : jx_cd 35 46 = some (o_push (.int 2) 1) := rfl
theorem c_35_47 : jx_cd 35 47 = some (o_ieq 55) := rfl
theorem c_35_50 : jx_cd 35 50 = some (o_ild 3 1) := rfl
theorem c_35_51 : jx_cd 35 51 = some (o_push (.int 3) 1) := rfl
theorem c_35_52 : jx_cd 35 52 = some (o_ine 79) := rfl
theorem c_35_55 : jx_cd 35 55 = some (o_ild 4 2) := rfl
theorem c_35_57 : jx_cd 35 57 = some (o_push (.int 128) 3) := rfl
theorem c_35_60 : jx_cd 35 60 = some (o_bin fun x y => x &&& y) := rfl
theorem c_35_61 : jx_cd 35 61 = some (o_ifeq 77) := rfl
theorem c_35_64 : jx_cd 35 64 = some (o_ild 4 2) := rfl
theorem c_35_66 : jx_cd 35 66 = some (o_push (.int 16384) 3) := rfl
theorem c_35_69 : jx_cd 35 69 = some (o_bin fun x y => x &&& y) := rfl
theorem c_35_70 : jx_cd 35 70 = some (o_ifne 77) := rfl
theorem c_35_73 : jx_cd 35 73 = some (o_push (.int 0) 1) := rfl
theorem c_35_74 : jx_cd 35 74 = some (o_goto 78) := rfl
theorem c_35_77 : jx_cd 35 77 = some (o_ild 3 1) := rfl
theorem c_35_78 : jx_cd 35 78 = some (o_iret) := rfl
theorem c_35_79 : jx_cd 35 79 = some (o_ild 3 1) := rfl
theorem c_35_80 : jx_cd 35 80 = some (o_iret) := rfl
theorem c_36_0 : jx_cd 36 0 = some (o_push (.int 0) 1) := rfl
theorem c_36_1 : jx_cd 36 1 = some (o_ist 3 1) := rfl
theorem c_36_2 : jx_cd 36 2 = some (o_ild 3 1) := rfl
theorem c_36_3 : jx_cd 36 3 = some (o_ald 0 1) := rfl
theorem c_36_4 : jx_cd 36 4 = some (o_getf 3 10) := rfl
theorem c_36_7 : jx_cd 36 7 = some (o_ige 70) := rfl
theorem c_36_10 : jx_cd 36 10 = some (o_ald 0 1) := rfl
theorem c_36_11 : jx_cd 36 11 = some (o_getf 3 7) := rfl
theorem c_36_14 : jx_cd 36 14 = some (o_ild 3 1) := rfl
theorem c_36_15 : jx_cd 36 15 = some (o_iald) := rfl
theorem c_36_16 : jx_cd 36 16 = some (o_ild 1 1) := rfl
theorem c_36_17 : jx_cd 36 17 = some (o_ine 34) := rfl
theorem c_36_20 : jx_cd 36 20 = some (o_ald 0 1) := rfl
theorem c_36_21 : jx_cd 36 21 = some (o_getf 3 8) := rfl
theorem c_36_24 : jx_cd 36 24 = some (o_ild 3 1) := rfl
theorem c_36_25 : jx_cd 36 25 = some (o_iald) := rfl
theorem c_36_26 : jx_cd 36 26 = some (o_ild 2 1) := rfl
theorem c_36_27 : jx_cd 36 27 = some (o_ine 34) := rfl
theorem c_36_30 : jx_cd 36 30 = some (o_push (.int 1) 1) := rfl
theorem c_36_31 : jx_cd 36 31 = some (o_goto 35) := rfl
theorem c_36_34 : jx_cd 36 34 = some (o_push (.int 0) 1) := rfl
theorem c_36_35 : jx_cd 36 35 = some (o_ist 4 2) := rfl
theorem c_36_37 : jx_cd 36 37 = some (o_ild 4 2) := rfl
theorem c_36_39 : jx_cd 36 39 = some (o_ifne 62) := rfl
theorem c_36_42 : jx_cd 36 42 = some (o_ald 0 1) := rfl
theorem c_36_43 : jx_cd 36 43 = some (o_getf 3 7) := rfl
theorem c_36_46 : jx_cd 36 46 = some (o_ild 3 1) := rfl
theorem c_36_47 : jx_cd 36 47 = some (o_iald) := rfl
theorem c_36_48 : jx_cd 36 48 = some (o_ild 2 1) := rfl
theorem c_36_49 : jx_cd 36 49 = some (o_ine 64) := rfl
theorem c_36_52 : jx_cd 36 52 = some (o_ald 0 1) := rfl
theorem c_36_53 : jx_cd 36 53 = some (o_getf 3 8) := rfl
theorem c_36_56 : jx_cd 36 56 = some (o_ild 3 1) := rfl
theorem c_36_57 : jx_cd 36 57 = some (o_iald) := rfl
theorem c_36_58 : jx_cd 36 58 = some (o_ild 1 1) := rfl
theorem c_36_59 : jx_cd 36 59 = some (o_ine 64) := rfl
theorem c_36_62 : jx_cd 36 62 = some (o_push (.int 1) 1) := rfl
theorem c_36_63 : jx_cd 36 63 = some (o_zret) := rfl
theorem c_36_64 : jx_cd 36 64 = some (o_iinc 3 1) := rfl
theorem c_36_67 : jx_cd 36 67 = some (o_goto 2) := rfl
theorem c_36_70 : jx_cd 36 70 = some (o_push (.int 0) 1) := rfl
theorem c_36_71 : jx_cd 36 71 = some (o_zret) := rfl
def sp_kf (ca cb link : Nat) : Nat := if link = 0 then (if ca &&& cb &&& 128 = 0 then 1 else 4) else if link = 2 ∨ link = 3 then (if (ca ||| cb) &&& 128 = 0 then link else if (ca ||| cb) &&& 16384 = 0 then 0 else link) else link
theorem and_lt (a : Nat) {b : Nat} (h : b < 2 ^ 31) : a &&& b < 2 ^ 31 := Nat.lt_of_le_of_lt Nat.and_le_right h
theorem t_kf {d ln ps sz bc dp a b link : Nat} {pt : Bool} {cs : Nat → Nat} {M : jx_M} (h18 : M.1 18 = rO ln ps pt sz bc dp) (h20 : M.1 20 = .inl (0, 40, .inl (ja cs))) (ha : a < 40) (hb : b < 40) (hl : link < 8) : jZ d 35 0 [some (.ref 18), some (.int (jn a)), some (.int (jn b)), some (.int (jn link)), none] [] M (jR (some (.int (jn (sp_kf (cs a) (cs b) link)))) M) := by
  refine z_go 1 _ [.ref 18] _ c_35_0 rfl ?_
  refine z_getf (v := .ref 20) 4 c_35_1 rfl h18 rfl ?_
  refine z_go 5 _ [.int (jn a), .ref 20] _ c_35_4 rfl ?_
  refine z_iald 6 c_35_5 rfl h20 (Or.inl rfl) (by omega) (by omega) ?_
  show jZ _ _ _ _ ([.int (jn (cs a))]) _ _
  refine z_go 7 _ [.ref 18, .int (jn (cs a))] _ c_35_6 rfl ?_
  refine z_getf (v := .ref 20) 10 c_35_7 rfl h18 rfl ?_
  refine z_go 11 _ [.int (jn b), .ref 20, .int (jn (cs a))] _ c_35_10 rfl ?_
  refine z_iald 12 c_35_11 rfl h20 (Or.inl rfl) (by omega) (by omega) ?_
  show jZ _ _ _ _ ([.int (jn (cs b)), .int (jn (cs a))]) _ _
  refine z_go 13 _ [.int ((jn (cs a)) ||| (jn (cs b)))] _ c_35_12 rfl ?_
  refine z_v (jn_or _ _) ?_
  refine z_go 15 [some (.ref 18), some (.int (jn a)), some (.int (jn b)), some (.int (jn link)), some (.int (jn ((cs a) ||| (cs b))))] [] _ c_35_13 rfl ?_
  refine z_go 16 _ [.int (jn link)] _ c_35_15 rfl ?_
  refine z_ifne 45 19 c_35_16 rfl (jn_z (by omega)) (fun h0 => ?_) (fun h0 => ?_)
  · refine z_go 20 _ [.ref 18] _ c_35_19 rfl ?_
    refine z_getf (v := .ref 20) 23 c_35_20 rfl h18 rfl ?_
    refine z_go 24 _ [.int (jn a), .ref 20] _ c_35_23 rfl ?_
    refine z_iald 25 c_35_24 rfl h20 (Or.inl rfl) (by omega) (by omega) ?_
    show jZ _ _ _ _ ([.int (jn (cs a))]) _ _
    refine z_go 26 _ [.ref 18, .int (jn (cs a))] _ c_35_25 rfl ?_
    refine z_getf (v := .ref 20) 29 c_35_26 rfl h18 rfl ?_
    refine z_go 30 _ [.int (jn b), .ref 20, .int (jn (cs a))] _ c_35_29 rfl ?_
    refine z_iald 31 c_35_30 rfl h20 (Or.inl rfl) (by omega) (by omega) ?_
    show jZ _ _ _ _ ([.int (jn (cs b)), .int (jn (cs a))]) _ _
    refine z_go 32 _ [.int ((jn (cs a)) &&& (jn (cs b)))] _ c_35_31 rfl ?_
    refine z_v (jn_and _ _) ?_
    refine z_go 35 _ [.int (jn 128), .int (jn ((cs a) &&& (cs b)))] _ c_35_32 rfl ?_
    refine z_go 36 _ [.int ((jn ((cs a) &&& (cs b))) &&& (jn 128))] _ c_35_35 rfl ?_
    refine z_v (jn_and _ _) ?_
    refine z_ifeq 43 39 c_35_36 rfl (jn_z (and_lt _ (by decide))) (fun h1 => ?_) (fun h1 => ?_)
    · refine z_go 44 _ [.int (jn 1)] _ c_35_43 rfl ?_
      refine z_iret c_35_44 ?_
      exact ⟨by rw [show sp_kf (cs a) (cs b) link = 1 by simp [sp_kf, h0, h1]], rfl⟩
    · refine z_go 40 _ [.int (jn 4)] _ c_35_39 rfl ?_
      refine z_go 44 _ [.int (jn 4)] _ c_35_40 rfl ?_
      refine z_iret c_35_44 ?_
      exact ⟨by rw [show sp_kf (cs a) (cs b) link = 4 by simp [sp_kf, h0, h1]], rfl⟩
  · refine z_go 46 _ [.int (jn link)] _ c_35_45 rfl ?_
    refine z_go 47 _ [.int (jn 2), .int (jn link)] _ c_35_46 rfl ?_
    refine z_ieq 55 50 c_35_47 rfl (jn_inj (by omega) (by omega)) (fun h2 => ?_) (fun h2 => ?_)
    · refine z_go 57 _ [.int (jn ((cs a) ||| (cs b)))] _ c_35_55 rfl ?_
      refine z_go 60 _ [.int (jn 128), .int (jn ((cs a) ||| (cs b)))] _ c_35_57 rfl ?_
      refine z_go 61 _ [.int ((jn ((cs a) ||| (cs b))) &&& (jn 128))] _ c_35_60 rfl ?_
      refine z_v (jn_and _ _) ?_
      refine z_ifeq 77 64 c_35_61 rfl (jn_z (and_lt _ (by decide))) (fun h5 => ?_) (fun h5 => ?_)
      · refine z_go 78 _ [.int (jn link)] _ c_35_77 rfl ?_
        refine z_iret c_35_78 ?_
        exact ⟨by rw [show sp_kf (cs a) (cs b) link = link by simp [sp_kf, h5, h2]], rfl⟩
      · refine z_go 66 _ [.int (jn ((cs a) ||| (cs b)))] _ c_35_64 rfl ?_
        refine z_go 69 _ [.int (jn 16384), .int (jn ((cs a) ||| (cs b)))] _ c_35_66 rfl ?_
        refine z_go 70 _ [.int ((jn ((cs a) ||| (cs b))) &&& (jn 16384))] _ c_35_69 rfl ?_
        refine z_v (jn_and _ _) ?_
        refine z_ifne 77 73 c_35_70 rfl (jn_z (and_lt _ (by decide))) (fun h6 => ?_) (fun h6 => ?_)
        · refine z_go 74 _ [.int (jn 0)] _ c_35_73 rfl ?_
          refine z_go 78 _ [.int (jn 0)] _ c_35_74 rfl ?_
          refine z_iret c_35_78 ?_
          exact ⟨by rw [show sp_kf (cs a) (cs b) link = 0 by simp [sp_kf, h5, h6, h2]], rfl⟩
        · refine z_go 78 _ [.int (jn link)] _ c_35_77 rfl ?_
          refine z_iret c_35_78 ?_
          exact ⟨by rw [show sp_kf (cs a) (cs b) link = link by simp [sp_kf, h5, h6, h2]], rfl⟩
    · refine z_go 51 _ [.int (jn link)] _ c_35_50 rfl ?_
      refine z_go 52 _ [.int (jn 3), .int (jn link)] _ c_35_51 rfl ?_
      refine z_ine 79 55 c_35_52 rfl (jn_inj (by omega) (by omega)) (fun h3 => ?_) (fun h3 => ?_)
      · refine z_go 57 _ [.int (jn ((cs a) ||| (cs b)))] _ c_35_55 rfl ?_
        refine z_go 60 _ [.int (jn 128), .int (jn ((cs a) ||| (cs b)))] _ c_35_57 rfl ?_
        refine z_go 61 _ [.int ((jn ((cs a) ||| (cs b))) &&& (jn 128))] _ c_35_60 rfl ?_
        refine z_v (jn_and _ _) ?_
        refine z_ifeq 77 64 c_35_61 rfl (jn_z (and_lt _ (by decide))) (fun h5 => ?_) (fun h5 => ?_)
        · refine z_go 78 _ [.int (jn link)] _ c_35_77 rfl ?_
          refine z_iret c_35_78 ?_
          exact ⟨by rw [show sp_kf (cs a) (cs b) link = link by simp [sp_kf, h5, h3]], rfl⟩
        · refine z_go 66 _ [.int (jn ((cs a) ||| (cs b)))] _ c_35_64 rfl ?_
          refine z_go 69 _ [.int (jn 16384), .int (jn ((cs a) ||| (cs b)))] _ c_35_66 rfl ?_
          refine z_go 70 _ [.int ((jn ((cs a) ||| (cs b))) &&& (jn 16384))] _ c_35_69 rfl ?_
          refine z_v (jn_and _ _) ?_
          refine z_ifne 77 73 c_35_70 rfl (jn_z (and_lt _ (by decide))) (fun h6 => ?_) (fun h6 => ?_)
          · refine z_go 74 _ [.int (jn 0)] _ c_35_73 rfl ?_
            refine z_go 78 _ [.int (jn 0)] _ c_35_74 rfl ?_
            refine z_iret c_35_78 ?_
            exact ⟨by rw [show sp_kf (cs a) (cs b) link = 0 by simp [sp_kf, h5, h6, h3]], rfl⟩
          · refine z_go 78 _ [.int (jn link)] _ c_35_77 rfl ?_
            refine z_iret c_35_78 ?_
            exact ⟨by rw [show sp_kf (cs a) (cs b) link = link by simp [sp_kf, h5, h6, h3]], rfl⟩
      · refine z_go 80 _ [.int (jn link)] _ c_35_79 rfl ?_
        refine z_iret c_35_80 ?_
        exact ⟨by rw [show sp_kf (cs a) (cs b) link = link by simp [sp_kf, h0, h2, h3]], rfl⟩
def sp_bd (bf bs : Nat → Nat) (a b : Nat) : Nat → Nat → Bool
  | 0, _ => false
  | k + 1, i => if bf i = a ∧ bs i = b ∨ bf i = b ∧ bs i = a then true else sp_bd bf bs a b k (i + 1)
theorem t_bd_l {d ln ps sz bc dp a b : Nat} {pt : Bool} {bf bs : Nat → Nat} {M : jx_M} (h18 : M.1 18 = rO ln ps pt sz bc dp) (h22 : M.1 22 = .inl (0, 40, .inl (ja bf))) (h23 : M.1 23 = .inl (0, 40, .inl (ja bs))) (ha : a < 40) (hb : b < 40) (hbc : bc ≤ 40) (hbf : ∀ j, bf j < 64) (hbs : ∀ j, bs j < 64) : ∀ {k i : Nat} {z : Option Value}, i + k = bc → jZ d 36 2 [some (.ref 18), some (.int (jn a)), some (.int (jn b)), some (.int (jn i)), z] [] M (jR (some (.int (jb (sp_bd bf bs a b k i)))) M) := by
  intro k
  induction k with
  | zero =>
    intro i z hk
    refine z_go 3 _ [.int (jn i)] _ c_36_2 rfl ?_
    refine z_go 4 _ [.ref 18, .int (jn i)] _ c_36_3 rfl ?_
    refine z_getf (v := .int (jn bc)) 7 c_36_4 rfl h18 rfl ?_
    refine z_ige 70 10 c_36_7 rfl (by omega) (by omega) (fun hi => ?_) (fun hi => ?_)
    · omega
    · refine z_go 71 _ [.int (jn 0)] _ c_36_70 rfl ?_
      refine z_zret (b := false) c_36_71 ?_
      exact ⟨rfl, rfl⟩
  | succ k ih =>
    intro i z hk
    refine z_go 3 _ [.int (jn i)] _ c_36_2 rfl ?_
    refine z_go 4 _ [.ref 18, .int (jn i)] _ c_36_3 rfl ?_
    refine z_getf (v := .int (jn bc)) 7 c_36_4 rfl h18 rfl ?_
    refine z_ige 70 10 c_36_7 rfl (by omega) (by omega) (fun hi => ?_) (fun hi => ?_)
    · have hf := hbf i
      have hg := hbs i
      refine z_go 11 _ [.ref 18] _ c_36_10 rfl ?_
      refine z_getf (v := .ref 22) 14 c_36_11 rfl h18 rfl ?_
      refine z_go 15 _ [.int (jn i), .ref 22] _ c_36_14 rfl ?_
      refine z_iald 16 c_36_15 rfl h22 (Or.inl rfl) (by omega) (by omega) ?_
      show jZ _ _ _ _ ([.int (jn (bf i))]) _ _
      refine z_go 17 _ [.int (jn a), .int (jn (bf i))] _ c_36_16 rfl ?_
      refine z_ine 34 20 c_36_17 rfl (jn_inj (by omega) (by omega)) (fun h1 => ?_) (fun h1 => ?_)
      · refine z_go 21 _ [.ref 18] _ c_36_20 rfl ?_
        refine z_getf (v := .ref 23) 24 c_36_21 rfl h18 rfl ?_
        refine z_go 25 _ [.int (jn i), .ref 23] _ c_36_24 rfl ?_
        refine z_iald 26 c_36_25 rfl h23 (Or.inl rfl) (by omega) (by omega) ?_
        show jZ _ _ _ _ ([.int (jn (bs i))]) _ _
        refine z_go 27 _ [.int (jn b), .int (jn (bs i))] _ c_36_26 rfl ?_
        refine z_ine 34 30 c_36_27 rfl (jn_inj (by omega) (by omega)) (fun h2 => ?_) (fun h2 => ?_)
        · refine z_go 31 _ [.int (jn 1)] _ c_36_30 rfl ?_
          refine z_go 35 _ [.int (jn 1)] _ c_36_31 rfl ?_
          refine z_go 37 [some (.ref 18), some (.int (jn a)), some (.int (jn b)), some (.int (jn i)), some (.int (jn 1))] [] _ c_36_35 rfl ?_
          refine z_go 39 _ [.int (jn 1)] _ c_36_37 rfl ?_
          refine z_ifne 62 42 c_36_39 rfl (jn_z (by decide)) (fun h => absurd h (by decide)) (fun _ => ?_)
          refine z_go 63 _ [.int (jn 1)] _ c_36_62 rfl ?_
          refine z_zret (b := true) c_36_63 ?_
          exact ⟨by rw [sp_bd, if_pos (by omega)], rfl⟩
        · refine z_go 35 _ [.int (jn 0)] _ c_36_34 rfl ?_
          refine z_go 37 [some (.ref 18), some (.int (jn a)), some (.int (jn b)), some (.int (jn i)), some (.int (jn 0))] [] _ c_36_35 rfl ?_
          refine z_go 39 _ [.int (jn 0)] _ c_36_37 rfl ?_
          refine z_ifne 62 42 c_36_39 rfl (jn_z (by decide)) (fun _ => ?_) (fun h => absurd rfl h)
          refine z_go 43 _ [.ref 18] _ c_36_42 rfl ?_
          refine z_getf (v := .ref 22) 46 c_36_43 rfl h18 rfl ?_
          refine z_go 47 _ [.int (jn i), .ref 22] _ c_36_46 rfl ?_
          refine z_iald 48 c_36_47 rfl h22 (Or.inl rfl) (by omega) (by omega) ?_
          show jZ _ _ _ _ ([.int (jn (bf i))]) _ _
          refine z_go 49 _ [.int (jn b), .int (jn (bf i))] _ c_36_48 rfl ?_
          refine z_ine 64 52 c_36_49 rfl (jn_inj (by omega) (by omega)) (fun h3 => ?_) (fun h3 => ?_)
          · refine z_go 53 _ [.ref 18] _ c_36_52 rfl ?_
            refine z_getf (v := .ref 23) 56 c_36_53 rfl h18 rfl ?_
            refine z_go 57 _ [.int (jn i), .ref 23] _ c_36_56 rfl ?_
            refine z_iald 58 c_36_57 rfl h23 (Or.inl rfl) (by omega) (by omega) ?_
            show jZ _ _ _ _ ([.int (jn (bs i))]) _ _
            refine z_go 59 _ [.int (jn a), .int (jn (bs i))] _ c_36_58 rfl ?_
            refine z_ine 64 62 c_36_59 rfl (jn_inj (by omega) (by omega)) (fun h4 => ?_) (fun h4 => ?_)
            · refine z_go 63 _ [.int (jn 1)] _ c_36_62 rfl ?_
              refine z_zret (b := true) c_36_63 ?_
              exact ⟨by rw [sp_bd, if_pos (by omega)], rfl⟩
            · refine z_iinc 67 [some (.ref 18), some (.int (jn a)), some (.int (jn b)), some (.int (jn (i + 1))), some (.int (jn 0))] c_36_64 rfl rfl (jn_add _ _) rfl ?_
              refine z_go 2 _ [] _ c_36_67 rfl ?_
              refine (ih (i := i + 1) (by omega)).mono fun r M1 q => ⟨q.1.trans ?_, q.2⟩
              rw [sp_bd, if_neg (by omega)]
          · refine z_iinc 67 [some (.ref 18), some (.int (jn a)), some (.int (jn b)), some (.int (jn (i + 1))), some (.int (jn 0))] c_36_64 rfl rfl (jn_add _ _) rfl ?_
            refine z_go 2 _ [] _ c_36_67 rfl ?_
            refine (ih (i := i + 1) (by omega)).mono fun r M1 q => ⟨q.1.trans ?_, q.2⟩
            rw [sp_bd, if_neg (by omega)]
      · refine z_go 35 _ [.int (jn 0)] _ c_36_34 rfl ?_
        refine z_go 37 [some (.ref 18), some (.int (jn a)), some (.int (jn b)), some (.int (jn i)), some (.int (jn 0))] [] _ c_36_35 rfl ?_
        refine z_go 39 _ [.int (jn 0)] _ c_36_37 rfl ?_
        refine z_ifne 62 42 c_36_39 rfl (jn_z (by decide)) (fun _ => ?_) (fun h => absurd rfl h)
        refine z_go 43 _ [.ref 18] _ c_36_42 rfl ?_
        refine z_getf (v := .ref 22) 46 c_36_43 rfl h18 rfl ?_
        refine z_go 47 _ [.int (jn i), .ref 22] _ c_36_46 rfl ?_
        refine z_iald 48 c_36_47 rfl h22 (Or.inl rfl) (by omega) (by omega) ?_
        show jZ _ _ _ _ ([.int (jn (bf i))]) _ _
        refine z_go 49 _ [.int (jn b), .int (jn (bf i))] _ c_36_48 rfl ?_
        refine z_ine 64 52 c_36_49 rfl (jn_inj (by omega) (by omega)) (fun h3 => ?_) (fun h3 => ?_)
        · refine z_go 53 _ [.ref 18] _ c_36_52 rfl ?_
          refine z_getf (v := .ref 23) 56 c_36_53 rfl h18 rfl ?_
          refine z_go 57 _ [.int (jn i), .ref 23] _ c_36_56 rfl ?_
          refine z_iald 58 c_36_57 rfl h23 (Or.inl rfl) (by omega) (by omega) ?_
          show jZ _ _ _ _ ([.int (jn (bs i))]) _ _
          refine z_go 59 _ [.int (jn a), .int (jn (bs i))] _ c_36_58 rfl ?_
          refine z_ine 64 62 c_36_59 rfl (jn_inj (by omega) (by omega)) (fun h4 => ?_) (fun h4 => ?_)
          · refine z_go 63 _ [.int (jn 1)] _ c_36_62 rfl ?_
            refine z_zret (b := true) c_36_63 ?_
            exact ⟨by rw [sp_bd, if_pos (by omega)], rfl⟩
          · refine z_iinc 67 [some (.ref 18), some (.int (jn a)), some (.int (jn b)), some (.int (jn (i + 1))), some (.int (jn 0))] c_36_64 rfl rfl (jn_add _ _) rfl ?_
            refine z_go 2 _ [] _ c_36_67 rfl ?_
            refine (ih (i := i + 1) (by omega)).mono fun r M1 q => ⟨q.1.trans ?_, q.2⟩
            rw [sp_bd, if_neg (by omega)]
        · refine z_iinc 67 [some (.ref 18), some (.int (jn a)), some (.int (jn b)), some (.int (jn (i + 1))), some (.int (jn 0))] c_36_64 rfl rfl (jn_add _ _) rfl ?_
          refine z_go 2 _ [] _ c_36_67 rfl ?_
          refine (ih (i := i + 1) (by omega)).mono fun r M1 q => ⟨q.1.trans ?_, q.2⟩
          rw [sp_bd, if_neg (by omega)]
    · omega
theorem t_bd {d ln ps sz bc dp a b : Nat} {pt : Bool} {bf bs : Nat → Nat} {M : jx_M} (h18 : M.1 18 = rO ln ps pt sz bc dp) (h22 : M.1 22 = .inl (0, 40, .inl (ja bf))) (h23 : M.1 23 = .inl (0, 40, .inl (ja bs))) (ha : a < 40) (hb : b < 40) (hbc : bc ≤ 40) (hbf : ∀ j, bf j < 64) (hbs : ∀ j, bs j < 64) : jZ d 36 0 [some (.ref 18), some (.int (jn a)), some (.int (jn b)), none, none] [] M (jR (some (.int (jb (sp_bd bf bs a b bc 0)))) M) := by
  refine z_go 1 _ [.int (jn 0)] _ c_36_0 rfl ?_
  refine z_go 2 [some (.ref 18), some (.int (jn a)), some (.int (jn b)), some (.int (jn 0)), none] [] _ c_36_1 rfl ?_
  exact t_bd_l h18 h22 h23 ha hb hbc hbf hbs (by omega)
def sp_bind (cs bf bs : Nat → Nat) (bc a b link : Nat) : Option Nat := if a = b ∨ sp_kf (cs a) (cs b) link = 0 ∨ sp_bd bf bs a b bc 0 = true ∨ 40 ≤ bc then none else some (sp_kf (cs a) (cs b) link)
theorem sp_kf_lt {ca cb link : Nat} (h : link < 8) : sp_kf ca cb link < 8 := by
  unfold sp_kf
  repeat' split
  all_goals omega
def jB (M : jx_M) (ln : Nat) (pt : Bool) (ps sz bc dp : Nat) (bf bs bk : Nat → Nat) (a b : Nat) (o : Option Nat) : jx_R → jx_M → Prop := fun r M' => match o with
  | none => r = .inl (some (.int (jb false))) ∧ M' = M
  | some k => r = .inl (some (.int (jb true))) ∧ M' = jm [(18, rO ln ps pt sz (bc + 1) dp), (24, .inl (0, 40, .inl (ja (nu bk bc k)))), (23, .inl (0, 40, .inl (ja (nu bs bc b)))), (22, .inl (0, 40, .inl (ja (nu bf bc a))))] M
theorem jB_b {M : jx_M} {ln : Nat} {pt : Bool} {ps sz bc dp : Nat} {bf bs bk : Nat → Nat} {a b : Nat} {o : Option Nat} {r : jx_R} {M' : jx_M} (h : jB M ln pt ps sz bc dp bf bs bk a b o r M') : ∃ b, r = .inl (some (.int (jb b))) := by
  unfold jB at h
  split at h
  · exact ⟨false, h.1⟩
  · exact ⟨true, h.1⟩
theorem t_bind {d ln ps sz bc dp a b link : Nat} {pt : Bool} {cs bf bs bk : Nat → Nat} {M : jx_M} (h18 : M.1 18 = rO ln ps pt sz bc dp) (h20 : M.1 20 = .inl (0, 40, .inl (ja cs))) (h22 : M.1 22 = .inl (0, 40, .inl (ja bf))) (h23 : M.1 23 = .inl (0, 40, .inl (ja bs))) (h24 : M.1 24 = .inl (0, 40, .inl (ja bk))) (ha : a < 40) (hb : b < 40) (hl : link < 8) (hbc : bc ≤ 40) (hbf : ∀ j, bf j < 64) (hbs : ∀ j, bs j < 64) : jZ (d + 1) 34 0 [some (.ref 18), some (.int (jn a)), some (.int (jn b)), some (.int (jn link)), none] [] M (jB M ln pt ps sz bc dp bf bs bk a b (sp_bind cs bf bs bc a b link)) := by
  refine z_go 1 _ [.ref 18] _ c_34_0 rfl ?_
  refine z_go 2 _ [.int (jn a), .ref 18] _ c_34_1 rfl ?_
  refine z_go 3 _ [.int (jn b), .int (jn a), .ref 18] _ c_34_2 rfl ?_
  refine z_go 4 _ [.int (jn link), .int (jn b), .int (jn a), .ref 18] _ c_34_3 rfl ?_
  refine z_callv 7 3 35 3 18 c_34_4 rfl ⟨Nat.le_of_ble_eq_true rfl, Nat.le_of_ble_eq_true rfl⟩ rfl h18 [.ref 18, .int (jn a), .int (jn b), .int (jn link)] rfl rfl [some (.ref 18), some (.int (jn a)), some (.int (jn b)), some (.int (jn link)), none] rfl rfl (t_kf h18 h20 ha hb hl) ?_
  show jZ _ _ _ _ [.int (jn (sp_kf (cs a) (cs b) link))] _ _
  have hk := sp_kf_lt (ca := cs a) (cb := cs b) hl
  refine z_go 9 [some (.ref 18), some (.int (jn a)), some (.int (jn b)), some (.int (jn link)), some (.int (jn (sp_kf (cs a) (cs b) link)))] [] _ c_34_7 rfl ?_
  refine z_go 10 _ [.int (jn a)] _ c_34_9 rfl ?_
  refine z_go 11 _ [.int (jn b), .int (jn a)] _ c_34_10 rfl ?_
  refine z_ieq 37 14 c_34_11 rfl (jn_inj (by omega) (by omega)) (fun h1 => ?_) (fun h1 => ?_)
  · refine z_go 38 _ [.int (jn 0)] _ c_34_37 rfl ?_
    refine z_zret (b := false) c_34_38 ?_
    rw [sp_bind, if_pos (by simp [h1])]
    exact ⟨rfl, rfl⟩
  · refine z_go 16 _ [.int (jn (sp_kf (cs a) (cs b) link))] _ c_34_14 rfl ?_
    refine z_ifeq 37 19 c_34_16 rfl (jn_z (by omega)) (fun h2 => ?_) (fun h2 => ?_)
    · refine z_go 38 _ [.int (jn 0)] _ c_34_37 rfl ?_
      refine z_zret (b := false) c_34_38 ?_
      rw [sp_bind, if_pos (by simp [h2])]
      exact ⟨rfl, rfl⟩
    · refine z_go 20 _ [.ref 18] _ c_34_19 rfl ?_
      refine z_go 21 _ [.int (jn a), .ref 18] _ c_34_20 rfl ?_
      refine z_go 22 _ [.int (jn b), .int (jn a), .ref 18] _ c_34_21 rfl ?_
      refine z_callv 25 3 36 2 18 c_34_22 rfl ⟨Nat.le_of_ble_eq_true rfl, Nat.le_of_ble_eq_true rfl⟩ rfl h18 [.ref 18, .int (jn a), .int (jn b)] rfl rfl [some (.ref 18), some (.int (jn a)), some (.int (jn b)), none, none] rfl rfl (t_bd h18 h22 h23 ha hb hbc hbf hbs) ?_
      show jZ _ _ _ _ [.int (jb (sp_bd bf bs a b bc 0))] _ _
      refine z_ifne 37 28 c_34_25 rfl jb_t (fun h3 => ?_) (fun h3 => ?_)
      · refine z_go 29 _ [.ref 18] _ c_34_28 rfl ?_
        refine z_getf (v := .int (jn bc)) 32 c_34_29 rfl h18 rfl ?_
        refine z_go 34 _ [.int (jn 40), .int (jn bc)] _ c_34_32 rfl ?_
        refine z_ilt 39 37 c_34_34 rfl (by omega) (by omega) (fun h4 => ?_) (fun h4 => ?_)
        · refine z_go 40 _ [.ref 18] _ c_34_39 rfl ?_
          refine z_getf (v := .ref 22) 43 c_34_40 rfl h18 rfl ?_
          refine z_go 44 _ [.ref 18, .ref 22] _ c_34_43 rfl ?_
          refine z_getf (v := .int (jn bc)) 47 c_34_44 rfl h18 rfl ?_
          refine z_go 48 _ [.int (jn a), .int (jn bc), .ref 22] _ c_34_47 rfl ?_
          refine z_iast (M' := jm [(22, .inl (0, 40, .inl (ja (nu bf bc a))))] M) 49 c_34_48 rfl h22 (by omega) (by omega) (by rw [ja_upd]; exact rfl) ?_
          refine z_go 50 _ [.ref 18] _ c_34_49 rfl ?_
          refine z_getf (v := .ref 23) 53 c_34_50 rfl h18 rfl ?_
          refine z_go 54 _ [.ref 18, .ref 23] _ c_34_53 rfl ?_
          refine z_getf (v := .int (jn bc)) 57 c_34_54 rfl h18 rfl ?_
          refine z_go 58 _ [.int (jn b), .int (jn bc), .ref 23] _ c_34_57 rfl ?_
          refine z_iast (M' := jm [(23, .inl (0, 40, .inl (ja (nu bs bc b)))), (22, .inl (0, 40, .inl (ja (nu bf bc a))))] M) 59 c_34_58 rfl h23 (by omega) (by omega) (by rw [ja_upd]; exact rfl) ?_
          refine z_go 60 _ [.ref 18] _ c_34_59 rfl ?_
          refine z_getf (v := .ref 24) 63 c_34_60 rfl h18 rfl ?_
          refine z_go 64 _ [.ref 18, .ref 24] _ c_34_63 rfl ?_
          refine z_getf (v := .int (jn bc)) 67 c_34_64 rfl h18 rfl ?_
          refine z_go 69 _ [.int (jn (sp_kf (cs a) (cs b) link)), .int (jn bc), .ref 24] _ c_34_67 rfl ?_
          refine z_iast (M' := jm [(24, .inl (0, 40, .inl (ja (nu bk bc (sp_kf (cs a) (cs b) link))))), (23, .inl (0, 40, .inl (ja (nu bs bc b)))), (22, .inl (0, 40, .inl (ja (nu bf bc a))))] M) 70 c_34_69 rfl h24 (by omega) (by omega) (by rw [ja_upd]; exact rfl) ?_
          refine z_go 71 _ [.ref 18] _ c_34_70 rfl ?_
          refine z_go 72 _ [.ref 18, .ref 18] _ c_34_71 rfl ?_
          refine z_getf (v := .int (jn bc)) 75 c_34_72 rfl h18 rfl ?_
          refine z_go 76 _ [.int (jn 1), .int (jn bc), .ref 18] _ c_34_75 rfl ?_
          refine z_go 77 _ [.int ((jn bc) + (jn 1)), .ref 18] _ c_34_76 rfl ?_
          refine z_v (jn_add _ _) ?_
          refine z_putf (M' := jm [(18, rO ln ps pt sz (bc + 1) dp), (24, .inl (0, 40, .inl (ja (nu bk bc (sp_kf (cs a) (cs b) link))))), (23, .inl (0, 40, .inl (ja (nu bs bc b)))), (22, .inl (0, 40, .inl (ja (nu bf bc a))))] M) 80 c_34_77 rfl h18 (rfl) (Nat.le_of_ble_eq_true rfl) rfl ?_
          refine z_go 81 _ [.int (jn 1)] _ c_34_80 rfl ?_
          refine z_zret (b := true) c_34_81 ?_
          rw [sp_bind, if_neg (by rintro (q | q | q | q) <;> first | exact h1 q | exact h2 q | (rw [h3] at q; cases q) | omega)]
          exact ⟨rfl, rfl⟩
        · refine z_go 38 _ [.int (jn 0)] _ c_34_37 rfl ?_
          refine z_zret (b := false) c_34_38 ?_
          rw [sp_bind, if_pos (Or.inr (Or.inr (Or.inr (by omega))))]
          exact ⟨rfl, rfl⟩
      · refine z_go 38 _ [.int (jn 0)] _ c_34_37 rfl ?_
        refine z_zret (b := false) c_34_38 ?_
        rw [sp_bind, if_pos (by simp [show sp_bd bf bs a b bc 0 = true by simpa using h3])]
        exact ⟨rfl, rfl⟩
