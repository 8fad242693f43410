/-! THE CHEMISTRY; printed by wip/whole/p51.py -/
theorem c_112_0 : jx_cd 112 0 = some (o_push (.ref 2) 2) := rfl
theorem c_112_2 : jx_cd 112 2 = some (o_ild 0 1) := rfl
theorem c_112_3 : jx_cd 112 3 = some (o_push (.int 127) 2) := rfl
theorem c_112_5 : jx_cd 112 5 = some (o_bin fun x y => x &&& y) := rfl
theorem c_112_6 : jx_cd 112 6 = some (o_un fun x => (x.toUInt32 % 65536).toInt32) := rfl
theorem c_112_7 : jx_cd 112 7 = some (o_callv 200 125 1) := rfl
theorem c_112_10 : jx_cd 112 10 = some (o_ist 1 1) := rfl
theorem c_112_11 : jx_cd 112 11 = some (o_ild 1 1) := rfl
theorem c_112_12 : jx_cd 112 12 = some (o_ifge 19) := rfl
theorem c_112_19 : jx_cd 112 19 = some (o_push (.ref 1) 3) := rfl
theorem c_112_22 : jx_cd 112 22 = some (o_ild 1 1) := rfl
theorem c_112_23 : jx_cd 112 23 = some (o_iald) := rfl
theorem c_112_24 : jx_cd 112 24 = some (o_ist 2 1) := rfl
theorem c_112_25 : jx_cd 112 25 = some (o_ild 0 1) := rfl
theorem c_112_26 : jx_cd 112 26 = some (o_push (.int 12288) 3) := rfl
theorem c_112_29 : jx_cd 112 29 = some (o_bin fun x y => x &&& y) := rfl
theorem c_112_30 : jx_cd 112 30 = some (o_ist 3 1) := rfl
theorem c_112_31 : jx_cd 112 31 = some (o_ild 3 1) := rfl
theorem c_112_32 : jx_cd 112 32 = some (o_push (.int 4096) 3) := rfl
theorem c_112_35 : jx_cd 112 35 = some (o_ine 40) := rfl
theorem c_112_38 : jx_cd 112 38 = some (o_ild 2 1) := rfl
theorem c_112_39 : jx_cd 112 39 = some (o_iret) := rfl
theorem c_112_40 : jx_cd 112 40 = some (o_ild 3 1) := rfl
theorem c_112_41 : jx_cd 112 41 = some (o_push (.int 8192) 3) := rfl
theorem c_112_44 : jx_cd 112 44 = some (o_ine 62) := rfl
theorem c_112_47 : jx_cd 112 47 = some (o_ild 0 1) := rfl
theorem c_112_48 : jx_cd 112 48 = some (o_push (.int 127) 2) := rfl
theorem c_112_50 : jx_cd 112 50 = some (o_bin fun x y => x &&& y) := rfl
theorem c_112_51 : jx_cd 112 51 = some (o_push (.int 67) 2) := rfl
theorem c_112_53 : jx_cd 112 53 = some (o_ieq 62) := rfl
theorem c_112_56 : jx_cd 112 56 = some (o_ild 2 1) := rfl
theorem c_112_57 : jx_cd 112 57 = some (o_push (.int 1) 1) := rfl
theorem c_112_58 : jx_cd 112 58 = some (o_bin fun x y => x + y) := rfl
theorem c_112_59 : jx_cd 112 59 = some (o_goto 65) := rfl
theorem c_112_62 : jx_cd 112 62 = some (o_ild 2 1) := rfl
theorem c_112_63 : jx_cd 112 63 = some (o_push (.int 1) 1) := rfl
theorem c_112_64 : jx_cd 112 64 = some (o_bin fun x y => x - y) := rfl
theorem c_112_65 : jx_cd 112 65 = some (o_iret) := rfl
theorem c_113_0 : jx_cd 113 0 = some (o_ald 0 1) := rfl
theorem c_113_1 : jx_cd 113 1 = some (o_ild 1 1) := rfl
theorem c_113_2 : jx_cd 113 2 = some (o_push (.int 4) 1) := rfl
theorem c_113_3 : jx_cd 113 3 = some (o_callv 0 9 2) := rfl
theorem c_113_6 : jx_cd 113 6 = some (o_ist 2 1) := rfl
theorem c_113_7 : jx_cd 113 7 = some (o_ild 2 1) := rfl
theorem c_113_8 : jx_cd 113 8 = some (o_ifle 27) := rfl
theorem c_113_11 : jx_cd 113 11 = some (o_ald 0 1) := rfl
theorem c_113_12 : jx_cd 113 12 = some (o_getf 0 0) := rfl
theorem c_113_15 : jx_cd 113 15 = some (o_ild 1 1) := rfl
theorem c_113_16 : jx_cd 113 16 = some (o_iald) := rfl
theorem c_113_17 : jx_cd 113 17 = some (o_call 114 1) := rfl
theorem c_113_20 : jx_cd 113 20 = some (o_ifeq 27) := rfl
theorem c_113_23 : jx_cd 113 23 = some (o_push (.int 1) 1) := rfl
theorem c_113_24 : jx_cd 113 24 = some (o_goto 28) := rfl
theorem c_113_27 : jx_cd 113 27 = some (o_push (.int 0) 1) := rfl
theorem c_113_28 : jx_cd 113 28 = some (o_ist 3 1) := rfl
theorem c_113_29 : jx_cd 113 29 = some (o_ald 0 1) := rfl
theorem c_113_30 : jx_cd 113 30 = some (o_ild 1 1) := rfl
theorem c_113_31 : jx_cd 113 31 = some (o_push (.int 1) 1) := rfl
theorem c_113_32 : jx_cd 113 32 = some (o_callv 0 9 2) := rfl
theorem c_113_35 : jx_cd 113 35 = some (o_push (.int 2) 1) := rfl
theorem c_113_36 : jx_cd 113 36 = some (o_ald 0 1) := rfl
theorem c_113_37 : jx_cd 113 37 = some (o_ild 1 1) := rfl
theorem c_113_38 : jx_cd 113 38 = some (o_push (.int 2) 1) := rfl
theorem c_113_39 : jx_cd 113 39 = some (o_callv 0 9 2) := rfl
theorem c_113_42 : jx_cd 113 42 = some (o_bin fun x y => x * y) := rfl
theorem c_113_43 : jx_cd 113 43 = some (o_bin fun x y => x + y) := rfl
theorem c_113_44 : jx_cd 113 44 = some (o_push (.int 3) 1) := rfl
theorem c_113_45 : jx_cd 113 45 = some (o_ald 0 1) := rfl
theorem c_113_46 : jx_cd 113 46 = some (o_ild 1 1) := rfl
theorem c_113_47 : jx_cd 113 47 = some (o_push (.int 3) 1) := rfl
theorem c_113_48 : jx_cd 113 48 = some (o_callv 0 9 2) := rfl
theorem c_113_51 : jx_cd 113 51 = some (o_bin fun x y => x * y) := rfl
theorem c_113_52 : jx_cd 113 52 = some (o_bin fun x y => x + y) := rfl
theorem c_113_53 : jx_cd 113 53 = some (o_ild 2 1) := rfl
theorem c_113_54 : jx_cd 113 54 = some (o_bin fun x y => x + y) := rfl
theorem c_113_55 : jx_cd 113 55 = some (o_ild 3 1) := rfl
theorem c_113_56 : jx_cd 113 56 = some (o_bin fun x y => x + y) := rfl
theorem c_113_57 : jx_cd 113 57 = some (o_iret) := rfl
theorem c_114_0 : jx_cd 114 0 = some (o_ild 0 1) := rfl
theorem c_114_1 : jx_cd 114 1 = some (o_push (.int 127) 2) := rfl
theorem c_114_3 : jx_cd 114 3 = some (o_bin fun x y => x &&& y) := rfl
theorem c_114_4 : jx_cd 114 4 = some (o_ist 1 1) := rfl
theorem c_114_5 : jx_cd 114 5 = some (o_ild 0 1) := rfl
theorem c_114_6 : jx_cd 114 6 = some (o_push (.int 128) 3) := rfl
theorem c_114_9 : jx_cd 114 9 = some (o_bin fun x y => x &&& y) := rfl
theorem c_114_10 : jx_cd 114 10 = some (o_ifeq 29) := rfl
theorem c_114_13 : jx_cd 114 13 = some (o_ild 1 1) := rfl
theorem c_114_14 : jx_cd 114 14 = some (o_push (.int 67) 2) := rfl
theorem c_114_16 : jx_cd 114 16 = some (o_ieq 25) := rfl
theorem c_114_19 : jx_cd 114 19 = some (o_ild 1 1) := rfl
theorem c_114_20 : jx_cd 114 20 = some (o_push (.int 78) 2) := rfl
theorem c_114_22 : jx_cd 114 22 = some (o_ine 29) := rfl
theorem c_114_25 : jx_cd 114 25 = some (o_push (.int 1) 1) := rfl
theorem c_114_26 : jx_cd 114 26 = some (o_goto 30) := rfl
theorem c_114_29 : jx_cd 114 29 = some (o_push (.int 0) 1) := rfl
theorem c_114_30 : jx_cd 114 30 = some (o_zret) := rfl
theorem c_115_0 : jx_cd 115 0 = some (o_push (.int 0) 1) := rfl
theorem c_115_1 : jx_cd 115 1 = some (o_ist 1 1) := rfl
theorem c_115_2 : jx_cd 115 2 = some (o_push (.int 0) 1) := rfl
theorem c_115_3 : jx_cd 115 3 = some (o_ist 2 1) := rfl
theorem c_115_4 : jx_cd 115 4 = some (o_ild 2 1) := rfl
theorem c_115_5 : jx_cd 115 5 = some (o_ald 0 1) := rfl
theorem c_115_6 : jx_cd 115 6 = some (o_getf 0 3) := rfl
theorem c_115_9 : jx_cd 115 9 = some (o_ige 36) := rfl
theorem c_115_12 : jx_cd 115 12 = some (o_ald 0 1) := rfl
theorem c_115_13 : jx_cd 115 13 = some (o_getf 0 0) := rfl
theorem c_115_16 : jx_cd 115 16 = some (o_ild 2 1) := rfl
theorem c_115_17 : jx_cd 115 17 = some (o_iald) := rfl
theorem c_115_18 : jx_cd 115 18 = some (o_call 114 1) := rfl
theorem c_115_21 : jx_cd 115 21 = some (o_ifeq 30) := rfl
theorem c_115_24 : jx_cd 115 24 = some (o_ild 1 1) := rfl
theorem c_115_25 : jx_cd 115 25 = some (o_push (.int 1) 1) := rfl
theorem c_115_26 : jx_cd 115 26 = some (o_ild 2 1) := rfl
theorem c_115_27 : jx_cd 115 27 = some (o_bin fun x y => x <<< (y &&& 31)) := rfl
theorem c_115_28 : jx_cd 115 28 = some (o_bin fun x y => x ||| y) := rfl
theorem c_115_29 : jx_cd 115 29 = some (o_ist 1 1) := rfl
theorem c_115_30 : jx_cd 115 30 = some (o_iinc 2 1) := rfl
theorem c_115_33 : jx_cd 115 33 = some (o_goto 4) := rfl
theorem c_115_36 : jx_cd 115 36 = some (o_ild 1 1) := rfl
theorem c_115_37 : jx_cd 115 37 = some (o_iret) := rfl
def sp_pairs (c : Nat) : Bool := decide (¬ c &&& 128 = 0 ∧ (c &&& 127 = 67 ∨ c &&& 127 = 78))
theorem and127 (c : Nat) : c &&& 127 < 128 := Nat.lt_of_le_of_lt Nat.and_le_right (by decide)
theorem and128 (c : Nat) : c &&& 128 ≤ 128 := Nat.and_le_right
theorem jn_c16 : ∀ x, x < 128 → (fun x : Int32 => (x.toUInt32 % 65536).toInt32) (jn x) = jn x := by decide +kernel
theorem sp_bits_le (x : Nat) : sp_bits x ≤ 10 := Nat.le_trans (List.length_filter_le _ _) (by decide)
def fV (j : Nat) : Nat := [4, 3, 2, 2, 1].getD j 0
theorem fV_le : ∀ j, fV j ≤ 4
  | 0 => by decide
  | 1 => by decide
  | 2 => by decide
  | 3 => by decide
  | 4 => by decide
  | _ + 5 => (by decide : 0 ≤ 4)
theorem fV_ge : ∀ j, j < 5 → 1 ≤ fV j := by decide
theorem t_pairs {d c : Nat} {M : jx_M} : jZ d 114 0 [some (.int (jn c)), none] [] M (jR (some (.int (jb (sp_pairs c)))) M) := by
  have h127 := and127 c
  refine z_go 1 _ [.int (jn c)] _ c_114_0 rfl ?_
  refine z_go 3 _ [.int (jn 127), .int (jn c)] _ c_114_1 rfl ?_
  refine z_go 4 _ [.int ((jn c) &&& (jn 127))] _ c_114_3 rfl ?_
  refine z_v (jn_and _ _) ?_
  refine z_go 5 [some (.int (jn c)), some (.int (jn (c &&& 127)))] [] _ c_114_4 rfl ?_
  refine z_go 6 _ [.int (jn c)] _ c_114_5 rfl ?_
  refine z_go 9 _ [.int (jn 128), .int (jn c)] _ c_114_6 rfl ?_
  refine z_go 10 _ [.int ((jn c) &&& (jn 128))] _ c_114_9 rfl ?_
  refine z_v (jn_and _ _) ?_
  refine z_ifeq 29 13 c_114_10 rfl (jn_z (and_lt _ (by decide))) (fun h1 => ?_) (fun h1 => ?_)
  · refine z_go 30 _ [.int (jn 0)] _ c_114_29 rfl ?_
    refine z_zret (b := false) c_114_30 ?_
    exact ⟨by rw [show sp_pairs c = false by simp [sp_pairs, h1]], rfl⟩
  · refine z_go 14 _ [.int (jn (c &&& 127))] _ c_114_13 rfl ?_
    refine z_go 16 _ [.int (jn 67), .int (jn (c &&& 127))] _ c_114_14 rfl ?_
    refine z_ieq 25 19 c_114_16 rfl (jn_inj (by omega) (by omega)) (fun h2 => ?_) (fun h2 => ?_)
    · refine z_go 26 _ [.int (jn 1)] _ c_114_25 rfl ?_
      refine z_go 30 _ [.int (jn 1)] _ c_114_26 rfl ?_
      refine z_zret (b := true) c_114_30 ?_
      exact ⟨by rw [show sp_pairs c = true by simp [sp_pairs, h1, h2]], rfl⟩
    · refine z_go 20 _ [.int (jn (c &&& 127))] _ c_114_19 rfl ?_
      refine z_go 22 _ [.int (jn 78), .int (jn (c &&& 127))] _ c_114_20 rfl ?_
      refine z_ine 29 25 c_114_22 rfl (jn_inj (by omega) (by omega)) (fun h3 => ?_) (fun h3 => ?_)
      · refine z_go 26 _ [.int (jn 1)] _ c_114_25 rfl ?_
        refine z_go 30 _ [.int (jn 1)] _ c_114_26 rfl ?_
        refine z_zret (b := true) c_114_30 ?_
        exact ⟨by rw [show sp_pairs c = true by simp [sp_pairs, h1, h3]], rfl⟩
      · refine z_go 30 _ [.int (jn 0)] _ c_114_29 rfl ?_
        refine z_zret (b := false) c_114_30 ?_
        exact ⟨by rw [show sp_pairs c = false by simp [sp_pairs, h2, h3]], rfl⟩
def sp_cap (c e : Nat) : Nat := if c &&& 12288 = 4096 then fV e else if c &&& 12288 = 8192 ∧ ¬ c &&& 127 = 67 then fV e + 1 else fV e - 1
theorem t_cap {d c x : Nat} {M : jx_M} (hj : jc M) (h1 : M.1 1 = .inl (9, 5, .inl (ja fV))) (he : sp_el (c &&& 127) = some x) : jZ (d + 4) 112 0 [some (.int (jn c)), none, none, none] [] M (jR (some (.int (jn (sp_cap c x)))) M) := by
  have h127 := and127 c
  have hle := fV_le x
  have hx5 := sp_el_5 he
  have hge := fV_ge x hx5
  have hch : c &&& 12288 ≤ 12288 := Nat.and_le_right
  refine z_go 2 _ [.ref 2] _ c_112_0 rfl ?_
  refine z_go 3 _ [.int (jn c), .ref 2] _ c_112_2 rfl ?_
  refine z_go 5 _ [.int (jn 127), .int (jn c), .ref 2] _ c_112_3 rfl ?_
  refine z_go 6 _ [.int ((jn c) &&& (jn 127)), .ref 2] _ c_112_5 rfl ?_
  refine z_v (jn_and _ _) ?_
  refine z_go 7 _ [.int ((fun x : Int32 => (x.toUInt32 % 65536).toInt32) (jn (c &&& 127))), .ref 2] _ c_112_6 rfl ?_
  refine z_v (jn_c16 _ h127) ?_
  refine z_callv 10 200 125 1 2 c_112_7 rfl ⟨Nat.le_of_ble_eq_true rfl, Nat.le_of_ble_eq_true rfl⟩ rfl hj.1.1 [.ref 2, .int (jn (c &&& 127))] rfl rfl [some (.ref 2), some (.int (jn (c &&& 127)))] rfl rfl (t_el hj h127) ?_
  show jZ _ _ _ _ [.int (jo (sp_el (c &&& 127)))] _ _
  rw [he]
  show jZ _ _ _ _ [.int (jn x)] _ _
  refine z_go 11 [some (.int (jn c)), some (.int (jn x)), none, none] [] _ c_112_10 rfl ?_
  refine z_go 12 _ [.int (jn x)] _ c_112_11 rfl ?_
  refine z_ifge 19 15 c_112_12 rfl (jn_nl (by omega)) (fun hx => ?_) (fun hx => ?_)
  · exact hx.elim
  · refine z_go 22 _ [.ref 1] _ c_112_19 rfl ?_
    refine z_go 23 _ [.int (jn x), .ref 1] _ c_112_22 rfl ?_
    refine z_iald 24 c_112_23 rfl h1 (Or.inr rfl) (by omega) (by omega) ?_
    show jZ _ _ _ _ ([.int (jn (fV x))]) _ _
    refine z_go 25 [some (.int (jn c)), some (.int (jn x)), some (.int (jn (fV x))), none] [] _ c_112_24 rfl ?_
    refine z_go 26 _ [.int (jn c)] _ c_112_25 rfl ?_
    refine z_go 29 _ [.int (jn 12288), .int (jn c)] _ c_112_26 rfl ?_
    refine z_go 30 _ [.int ((jn c) &&& (jn 12288))] _ c_112_29 rfl ?_
    refine z_v (jn_and _ _) ?_
    refine z_go 31 [some (.int (jn c)), some (.int (jn x)), some (.int (jn (fV x))), some (.int (jn (c &&& 12288)))] [] _ c_112_30 rfl ?_
    refine z_go 32 _ [.int (jn (c &&& 12288))] _ c_112_31 rfl ?_
    refine z_go 35 _ [.int (jn 4096), .int (jn (c &&& 12288))] _ c_112_32 rfl ?_
    refine z_ine 40 38 c_112_35 rfl (jn_inj (by omega) (by omega)) (fun h2 => ?_) (fun h2 => ?_)
    · refine z_go 39 _ [.int (jn (fV x))] _ c_112_38 rfl ?_
      refine z_iret c_112_39 ?_
      exact ⟨by rw [sp_cap, if_pos h2], rfl⟩
    · refine z_go 41 _ [.int (jn (c &&& 12288))] _ c_112_40 rfl ?_
      refine z_go 44 _ [.int (jn 8192), .int (jn (c &&& 12288))] _ c_112_41 rfl ?_
      refine z_ine 62 47 c_112_44 rfl (jn_inj (by omega) (by omega)) (fun h3 => ?_) (fun h3 => ?_)
      · refine z_go 48 _ [.int (jn c)] _ c_112_47 rfl ?_
        refine z_go 50 _ [.int (jn 127), .int (jn c)] _ c_112_48 rfl ?_
        refine z_go 51 _ [.int ((jn c) &&& (jn 127))] _ c_112_50 rfl ?_
        refine z_v (jn_and _ _) ?_
        refine z_go 53 _ [.int (jn 67), .int (jn (c &&& 127))] _ c_112_51 rfl ?_
        refine z_ieq 62 56 c_112_53 rfl (jn_inj (by omega) (by omega)) (fun h4 => ?_) (fun h4 => ?_)
        · refine z_go 63 _ [.int (jn (fV x))] _ c_112_62 rfl ?_
          refine z_go 64 _ [.int (jn 1), .int (jn (fV x))] _ c_112_63 rfl ?_
          refine z_go 65 _ [.int ((jn (fV x)) - (jn 1))] _ c_112_64 rfl ?_
          refine z_v (jn_sub (by omega)) ?_
          refine z_iret c_112_65 ?_
          exact ⟨by rw [sp_cap, if_neg h2, if_neg (fun q => q.2 h4)], rfl⟩
        · refine z_go 57 _ [.int (jn (fV x))] _ c_112_56 rfl ?_
          refine z_go 58 _ [.int (jn 1), .int (jn (fV x))] _ c_112_57 rfl ?_
          refine z_go 59 _ [.int ((jn (fV x)) + (jn 1))] _ c_112_58 rfl ?_
          refine z_v (jn_add _ _) ?_
          refine z_go 65 _ [.int (jn ((fV x) + 1))] _ c_112_59 rfl ?_
          refine z_iret c_112_65 ?_
          exact ⟨by rw [sp_cap, if_neg h2, if_pos ⟨h3, h4⟩], rfl⟩
      · refine z_go 63 _ [.int (jn (fV x))] _ c_112_62 rfl ?_
        refine z_go 64 _ [.int (jn 1), .int (jn (fV x))] _ c_112_63 rfl ?_
        refine z_go 65 _ [.int ((jn (fV x)) - (jn 1))] _ c_112_64 rfl ?_
        refine z_v (jn_sub (by omega)) ?_
        refine z_iret c_112_65 ?_
        exact ⟨by rw [sp_cap, if_neg h2, if_neg (fun q => h3 q.1)], rfl⟩
def sp_ord (cs nr : Nat → Nat) (a : Nat) : Nat := sp_bits (nr (1 * 10 + a)) + 2 * sp_bits (nr (2 * 10 + a)) + 3 * sp_bits (nr (3 * 10 + a)) + sp_bits (nr (4 * 10 + a)) + (if 0 < sp_bits (nr (4 * 10 + a)) ∧ sp_pairs (cs a) = true then 1 else 0)
theorem t_ord {d g n bc a : Nat} {cs ks nr : Nat → Nat} {M : jx_M} (hg : jg M g n bc cs ks nr) (ha : a < 10) (hb : ∀ j, nr j < 1024) : jZ (d + 2) 113 0 [some (.ref g), some (.int (jn a)), none, none] [] M (jR (some (.int (jn (sp_ord cs nr a)))) M) := by
  have hb4 := sp_bits_le (nr (4 * 10 + a))
  refine z_go 1 _ [.ref g] _ c_113_0 rfl ?_
  refine z_go 2 _ [.int (jn a), .ref g] _ c_113_1 rfl ?_
  refine z_go 3 _ [.int (jn 4), .int (jn a), .ref g] _ c_113_2 rfl ?_
  refine z_callv 6 0 9 2 g c_113_3 rfl ⟨Nat.le_of_ble_eq_true rfl, Nat.le_of_ble_eq_true rfl⟩ rfl hg.1 [.ref g, .int (jn a), .int (jn 4)] rfl rfl [some (.ref g), some (.int (jn a)), some (.int (jn 4))] rfl rfl (t_degree hg (by omega) (hb _)) ?_
  show jZ _ _ _ _ [.int (jn (sp_bits (nr (4 * 10 + a))))] _ _
  refine z_go 7 [some (.ref g), some (.int (jn a)), some (.int (jn (sp_bits (nr (4 * 10 + a))))), none] [] _ c_113_6 rfl ?_
  refine z_go 8 _ [.int (jn (sp_bits (nr (4 * 10 + a))))] _ c_113_7 rfl ?_
  refine z_ifle 27 11 c_113_8 rfl (jn_pos (by omega)) (fun h1 => ?_) (fun h1 => ?_)
  · refine z_go 12 _ [.ref g] _ c_113_11 rfl ?_
    refine z_getf (v := .ref (g + 1)) 15 c_113_12 rfl hg.1 rfl ?_
    refine z_go 16 _ [.int (jn a), .ref (g + 1)] _ c_113_15 rfl ?_
    refine z_iald 17 c_113_16 rfl hg.2.1 (Or.inl rfl) (by omega) (by omega) ?_
    show jZ _ _ _ _ ([.int (jn (cs a))]) _ _
    refine z_call 20 114 1 c_113_17 rfl ⟨Nat.le_of_ble_eq_true rfl, Nat.le_of_ble_eq_true rfl⟩ [.int (jn (cs a))] rfl rfl [some (.int (jn (cs a))), none] rfl rfl (t_pairs) ?_
    show jZ _ _ _ _ [.int (jb (sp_pairs (cs a)))] _ _
    refine z_ifeq 27 23 c_113_20 rfl jb_t (fun h2 => ?_) (fun h2 => ?_)
    · refine z_go 28 _ [.int (jn 0)] _ c_113_27 rfl ?_
      refine z_go 29 [some (.ref g), some (.int (jn a)), some (.int (jn (sp_bits (nr (4 * 10 + a))))), some (.int (jn 0))] [] _ c_113_28 rfl ?_
      refine z_go 30 _ [.ref g] _ c_113_29 rfl ?_
      refine z_go 31 _ [.int (jn a), .ref g] _ c_113_30 rfl ?_
      refine z_go 32 _ [.int (jn 1), .int (jn a), .ref g] _ c_113_31 rfl ?_
      refine z_callv 35 0 9 2 g c_113_32 rfl ⟨Nat.le_of_ble_eq_true rfl, Nat.le_of_ble_eq_true rfl⟩ rfl hg.1 [.ref g, .int (jn a), .int (jn 1)] rfl rfl [some (.ref g), some (.int (jn a)), some (.int (jn 1))] rfl rfl (t_degree hg (by omega) (hb _)) ?_
      show jZ _ _ _ _ [.int (jn (sp_bits (nr (1 * 10 + a))))] _ _
      refine z_go 36 _ [.int (jn 2), .int (jn (sp_bits (nr (1 * 10 + a))))] _ c_113_35 rfl ?_
      refine z_go 37 _ [.ref g, .int (jn 2), .int (jn (sp_bits (nr (1 * 10 + a))))] _ c_113_36 rfl ?_
      refine z_go 38 _ [.int (jn a), .ref g, .int (jn 2), .int (jn (sp_bits (nr (1 * 10 + a))))] _ c_113_37 rfl ?_
      refine z_go 39 _ [.int (jn 2), .int (jn a), .ref g, .int (jn 2), .int (jn (sp_bits (nr (1 * 10 + a))))] _ c_113_38 rfl ?_
      refine z_callv 42 0 9 2 g c_113_39 rfl ⟨Nat.le_of_ble_eq_true rfl, Nat.le_of_ble_eq_true rfl⟩ rfl hg.1 [.ref g, .int (jn a), .int (jn 2)] rfl rfl [some (.ref g), some (.int (jn a)), some (.int (jn 2))] rfl rfl (t_degree hg (by omega) (hb _)) ?_
      show jZ _ _ _ _ [.int (jn (sp_bits (nr (2 * 10 + a)))), .int (jn 2), .int (jn (sp_bits (nr (1 * 10 + a))))] _ _
      refine z_go 43 _ [.int ((jn 2) * (jn (sp_bits (nr (2 * 10 + a))))), .int (jn (sp_bits (nr (1 * 10 + a))))] _ c_113_42 rfl ?_
      refine z_v (jn_mul _ _) ?_
      refine z_go 44 _ [.int ((jn (sp_bits (nr (1 * 10 + a)))) + (jn (2 * (sp_bits (nr (2 * 10 + a))))))] _ c_113_43 rfl ?_
      refine z_v (jn_add _ _) ?_
      refine z_go 45 _ [.int (jn 3), .int (jn ((sp_bits (nr (1 * 10 + a))) + (2 * (sp_bits (nr (2 * 10 + a))))))] _ c_113_44 rfl ?_
      refine z_go 46 _ [.ref g, .int (jn 3), .int (jn ((sp_bits (nr (1 * 10 + a))) + (2 * (sp_bits (nr (2 * 10 + a))))))] _ c_113_45 rfl ?_
      refine z_go 47 _ [.int (jn a), .ref g, .int (jn 3), .int (jn ((sp_bits (nr (1 * 10 + a))) + (2 * (sp_bits (nr (2 * 10 + a))))))] _ c_113_46 rfl ?_
      refine z_go 48 _ [.int (jn 3), .int (jn a), .ref g, .int (jn 3), .int (jn ((sp_bits (nr (1 * 10 + a))) + (2 * (sp_bits (nr (2 * 10 + a))))))] _ c_113_47 rfl ?_
      refine z_callv 51 0 9 2 g c_113_48 rfl ⟨Nat.le_of_ble_eq_true rfl, Nat.le_of_ble_eq_true rfl⟩ rfl hg.1 [.ref g, .int (jn a), .int (jn 3)] rfl rfl [some (.ref g), some (.int (jn a)), some (.int (jn 3))] rfl rfl (t_degree hg (by omega) (hb _)) ?_
      show jZ _ _ _ _ [.int (jn (sp_bits (nr (3 * 10 + a)))), .int (jn 3), .int (jn ((sp_bits (nr (1 * 10 + a))) + (2 * (sp_bits (nr (2 * 10 + a))))))] _ _
      refine z_go 52 _ [.int ((jn 3) * (jn (sp_bits (nr (3 * 10 + a))))), .int (jn ((sp_bits (nr (1 * 10 + a))) + (2 * (sp_bits (nr (2 * 10 + a))))))] _ c_113_51 rfl ?_
      refine z_v (jn_mul _ _) ?_
      refine z_go 53 _ [.int ((jn ((sp_bits (nr (1 * 10 + a))) + (2 * (sp_bits (nr (2 * 10 + a)))))) + (jn (3 * (sp_bits (nr (3 * 10 + a))))))] _ c_113_52 rfl ?_
      refine z_v (jn_add _ _) ?_
      refine z_go 54 _ [.int (jn (sp_bits (nr (4 * 10 + a)))), .int (jn (((sp_bits (nr (1 * 10 + a))) + (2 * (sp_bits (nr (2 * 10 + a))))) + (3 * (sp_bits (nr (3 * 10 + a))))))] _ c_113_53 rfl ?_
      refine z_go 55 _ [.int ((jn (((sp_bits (nr (1 * 10 + a))) + (2 * (sp_bits (nr (2 * 10 + a))))) + (3 * (sp_bits (nr (3 * 10 + a)))))) + (jn (sp_bits (nr (4 * 10 + a)))))] _ c_113_54 rfl ?_
      refine z_v (jn_add _ _) ?_
      refine z_go 56 _ [.int (jn 0), .int (jn ((((sp_bits (nr (1 * 10 + a))) + (2 * (sp_bits (nr (2 * 10 + a))))) + (3 * (sp_bits (nr (3 * 10 + a))))) + (sp_bits (nr (4 * 10 + a)))))] _ c_113_55 rfl ?_
      refine z_go 57 _ [.int ((jn ((((sp_bits (nr (1 * 10 + a))) + (2 * (sp_bits (nr (2 * 10 + a))))) + (3 * (sp_bits (nr (3 * 10 + a))))) + (sp_bits (nr (4 * 10 + a))))) + (jn 0))] _ c_113_56 rfl ?_
      refine z_v (jn_add _ _) ?_
      refine z_iret c_113_57 ?_
      exact ⟨by rw [sp_ord, if_neg (fun q => by rw [h2] at q; cases q.2)], rfl⟩
    · refine z_go 24 _ [.int (jn 1)] _ c_113_23 rfl ?_
      refine z_go 28 _ [.int (jn 1)] _ c_113_24 rfl ?_
      refine z_go 29 [some (.ref g), some (.int (jn a)), some (.int (jn (sp_bits (nr (4 * 10 + a))))), some (.int (jn 1))] [] _ c_113_28 rfl ?_
      refine z_go 30 _ [.ref g] _ c_113_29 rfl ?_
      refine z_go 31 _ [.int (jn a), .ref g] _ c_113_30 rfl ?_
      refine z_go 32 _ [.int (jn 1), .int (jn a), .ref g] _ c_113_31 rfl ?_
      refine z_callv 35 0 9 2 g c_113_32 rfl ⟨Nat.le_of_ble_eq_true rfl, Nat.le_of_ble_eq_true rfl⟩ rfl hg.1 [.ref g, .int (jn a), .int (jn 1)] rfl rfl [some (.ref g), some (.int (jn a)), some (.int (jn 1))] rfl rfl (t_degree hg (by omega) (hb _)) ?_
      show jZ _ _ _ _ [.int (jn (sp_bits (nr (1 * 10 + a))))] _ _
      refine z_go 36 _ [.int (jn 2), .int (jn (sp_bits (nr (1 * 10 + a))))] _ c_113_35 rfl ?_
      refine z_go 37 _ [.ref g, .int (jn 2), .int (jn (sp_bits (nr (1 * 10 + a))))] _ c_113_36 rfl ?_
      refine z_go 38 _ [.int (jn a), .ref g, .int (jn 2), .int (jn (sp_bits (nr (1 * 10 + a))))] _ c_113_37 rfl ?_
      refine z_go 39 _ [.int (jn 2), .int (jn a), .ref g, .int (jn 2), .int (jn (sp_bits (nr (1 * 10 + a))))] _ c_113_38 rfl ?_
      refine z_callv 42 0 9 2 g c_113_39 rfl ⟨Nat.le_of_ble_eq_true rfl, Nat.le_of_ble_eq_true rfl⟩ rfl hg.1 [.ref g, .int (jn a), .int (jn 2)] rfl rfl [some (.ref g), some (.int (jn a)), some (.int (jn 2))] rfl rfl (t_degree hg (by omega) (hb _)) ?_
      show jZ _ _ _ _ [.int (jn (sp_bits (nr (2 * 10 + a)))), .int (jn 2), .int (jn (sp_bits (nr (1 * 10 + a))))] _ _
      refine z_go 43 _ [.int ((jn 2) * (jn (sp_bits (nr (2 * 10 + a))))), .int (jn (sp_bits (nr (1 * 10 + a))))] _ c_113_42 rfl ?_
      refine z_v (jn_mul _ _) ?_
      refine z_go 44 _ [.int ((jn (sp_bits (nr (1 * 10 + a)))) + (jn (2 * (sp_bits (nr (2 * 10 + a))))))] _ c_113_43 rfl ?_
      refine z_v (jn_add _ _) ?_
      refine z_go 45 _ [.int (jn 3), .int (jn ((sp_bits (nr (1 * 10 + a))) + (2 * (sp_bits (nr (2 * 10 + a))))))] _ c_113_44 rfl ?_
      refine z_go 46 _ [.ref g, .int (jn 3), .int (jn ((sp_bits (nr (1 * 10 + a))) + (2 * (sp_bits (nr (2 * 10 + a))))))] _ c_113_45 rfl ?_
      refine z_go 47 _ [.int (jn a), .ref g, .int (jn 3), .int (jn ((sp_bits (nr (1 * 10 + a))) + (2 * (sp_bits (nr (2 * 10 + a))))))] _ c_113_46 rfl ?_
      refine z_go 48 _ [.int (jn 3), .int (jn a), .ref g, .int (jn 3), .int (jn ((sp_bits (nr (1 * 10 + a))) + (2 * (sp_bits (nr (2 * 10 + a))))))] _ c_113_47 rfl ?_
      refine z_callv 51 0 9 2 g c_113_48 rfl ⟨Nat.le_of_ble_eq_true rfl, Nat.le_of_ble_eq_true rfl⟩ rfl hg.1 [.ref g, .int (jn a), .int (jn 3)] rfl rfl [some (.ref g), some (.int (jn a)), some (.int (jn 3))] rfl rfl (t_degree hg (by omega) (hb _)) ?_
      show jZ _ _ _ _ [.int (jn (sp_bits (nr (3 * 10 + a)))), .int (jn 3), .int (jn ((sp_bits (nr (1 * 10 + a))) + (2 * (sp_bits (nr (2 * 10 + a))))))] _ _
      refine z_go 52 _ [.int ((jn 3) * (jn (sp_bits (nr (3 * 10 + a))))), .int (jn ((sp_bits (nr (1 * 10 + a))) + (2 * (sp_bits (nr (2 * 10 + a))))))] _ c_113_51 rfl ?_
      refine z_v (jn_mul _ _) ?_
      refine z_go 53 _ [.int ((jn ((sp_bits (nr (1 * 10 + a))) + (2 * (sp_bits (nr (2 * 10 + a)))))) + (jn (3 * (sp_bits (nr (3 * 10 + a))))))] _ c_113_52 rfl ?_
      refine z_v (jn_add _ _) ?_
      refine z_go 54 _ [.int (jn (sp_bits (nr (4 * 10 + a)))), .int (jn (((sp_bits (nr (1 * 10 + a))) + (2 * (sp_bits (nr (2 * 10 + a))))) + (3 * (sp_bits (nr (3 * 10 + a))))))] _ c_113_53 rfl ?_
      refine z_go 55 _ [.int ((jn (((sp_bits (nr (1 * 10 + a))) + (2 * (sp_bits (nr (2 * 10 + a))))) + (3 * (sp_bits (nr (3 * 10 + a)))))) + (jn (sp_bits (nr (4 * 10 + a)))))] _ c_113_54 rfl ?_
      refine z_v (jn_add _ _) ?_
      refine z_go 56 _ [.int (jn 1), .int (jn ((((sp_bits (nr (1 * 10 + a))) + (2 * (sp_bits (nr (2 * 10 + a))))) + (3 * (sp_bits (nr (3 * 10 + a))))) + (sp_bits (nr (4 * 10 + a)))))] _ c_113_55 rfl ?_
      refine z_go 57 _ [.int ((jn ((((sp_bits (nr (1 * 10 + a))) + (2 * (sp_bits (nr (2 * 10 + a))))) + (3 * (sp_bits (nr (3 * 10 + a))))) + (sp_bits (nr (4 * 10 + a))))) + (jn 1))] _ c_113_56 rfl ?_
      refine z_v (jn_add _ _) ?_
      refine z_iret c_113_57 ?_
      exact ⟨by rw [sp_ord, if_pos ⟨h1, by simpa using h2⟩], rfl⟩
  · refine z_go 28 _ [.int (jn 0)] _ c_113_27 rfl ?_
    refine z_go 29 [some (.ref g), some (.int (jn a)), some (.int (jn (sp_bits (nr (4 * 10 + a))))), some (.int (jn 0))] [] _ c_113_28 rfl ?_
    refine z_go 30 _ [.ref g] _ c_113_29 rfl ?_
    refine z_go 31 _ [.int (jn a), .ref g] _ c_113_30 rfl ?_
    refine z_go 32 _ [.int (jn 1), .int (jn a), .ref g] _ c_113_31 rfl ?_
    refine z_callv 35 0 9 2 g c_113_32 rfl ⟨Nat.le_of_ble_eq_true rfl, Nat.le_of_ble_eq_true rfl⟩ rfl hg.1 [.ref g, .int (jn a), .int (jn 1)] rfl rfl [some (.ref g), some (.int (jn a)), some (.int (jn 1))] rfl rfl (t_degree hg (by omega) (hb _)) ?_
    show jZ _ _ _ _ [.int (jn (sp_bits (nr (1 * 10 + a))))] _ _
    refine z_go 36 _ [.int (jn 2), .int (jn (sp_bits (nr (1 * 10 + a))))] _ c_113_35 rfl ?_
    refine z_go 37 _ [.ref g, .int (jn 2), .int (jn (sp_bits (nr (1 * 10 + a))))] _ c_113_36 rfl ?_
    refine z_go 38 _ [.int (jn a), .ref g, .int (jn 2), .int (jn (sp_bits (nr (1 * 10 + a))))] _ c_113_37 rfl ?_
    refine z_go 39 _ [.int (jn 2), .int (jn a), .ref g, .int (jn 2), .int (jn (sp_bits (nr (1 * 10 + a))))] _ c_113_38 rfl ?_
    refine z_callv 42 0 9 2 g c_113_39 rfl ⟨Nat.le_of_ble_eq_true rfl, Nat.le_of_ble_eq_true rfl⟩ rfl hg.1 [.ref g, .int (jn a), .int (jn 2)] rfl rfl [some (.ref g), some (.int (jn a)), some (.int (jn 2))] rfl rfl (t_degree hg (by omega) (hb _)) ?_
    show jZ _ _ _ _ [.int (jn (sp_bits (nr (2 * 10 + a)))), .int (jn 2), .int (jn (sp_bits (nr (1 * 10 + a))))] _ _
    refine z_go 43 _ [.int ((jn 2) * (jn (sp_bits (nr (2 * 10 + a))))), .int (jn (sp_bits (nr (1 * 10 + a))))] _ c_113_42 rfl ?_
    refine z_v (jn_mul _ _) ?_
    refine z_go 44 _ [.int ((jn (sp_bits (nr (1 * 10 + a)))) + (jn (2 * (sp_bits (nr (2 * 10 + a))))))] _ c_113_43 rfl ?_
    refine z_v (jn_add _ _) ?_
    refine z_go 45 _ [.int (jn 3), .int (jn ((sp_bits (nr (1 * 10 + a))) + (2 * (sp_bits (nr (2 * 10 + a))))))] _ c_113_44 rfl ?_
    refine z_go 46 _ [.ref g, .int (jn 3), .int (jn ((sp_bits (nr (1 * 10 + a))) + (2 * (sp_bits (nr (2 * 10 + a))))))] _ c_113_45 rfl ?_
    refine z_go 47 _ [.int (jn a), .ref g, .int (jn 3), .int (jn ((sp_bits (nr (1 * 10 + a))) + (2 * (sp_bits (nr (2 * 10 + a))))))] _ c_113_46 rfl ?_
    refine z_go 48 _ [.int (jn 3), .int (jn a), .ref g, .int (jn 3), .int (jn ((sp_bits (nr (1 * 10 + a))) + (2 * (sp_bits (nr (2 * 10 + a))))))] _ c_113_47 rfl ?_
    refine z_callv 51 0 9 2 g c_113_48 rfl ⟨Nat.le_of_ble_eq_true rfl, Nat.le_of_ble_eq_true rfl⟩ rfl hg.1 [.ref g, .int (jn a), .int (jn 3)] rfl rfl [some (.ref g), some (.int (jn a)), some (.int (jn 3))] rfl rfl (t_degree hg (by omega) (hb _)) ?_
    show jZ _ _ _ _ [.int (jn (sp_bits (nr (3 * 10 + a)))), .int (jn 3), .int (jn ((sp_bits (nr (1 * 10 + a))) + (2 * (sp_bits (nr (2 * 10 + a))))))] _ _
    refine z_go 52 _ [.int ((jn 3) * (jn (sp_bits (nr (3 * 10 + a))))), .int (jn ((sp_bits (nr (1 * 10 + a))) + (2 * (sp_bits (nr (2 * 10 + a))))))] _ c_113_51 rfl ?_
    refine z_v (jn_mul _ _) ?_
    refine z_go 53 _ [.int ((jn ((sp_bits (nr (1 * 10 + a))) + (2 * (sp_bits (nr (2 * 10 + a)))))) + (jn (3 * (sp_bits (nr (3 * 10 + a))))))] _ c_113_52 rfl ?_
    refine z_v (jn_add _ _) ?_
    refine z_go 54 _ [.int (jn (sp_bits (nr (4 * 10 + a)))), .int (jn (((sp_bits (nr (1 * 10 + a))) + (2 * (sp_bits (nr (2 * 10 + a))))) + (3 * (sp_bits (nr (3 * 10 + a))))))] _ c_113_53 rfl ?_
    refine z_go 55 _ [.int ((jn (((sp_bits (nr (1 * 10 + a))) + (2 * (sp_bits (nr (2 * 10 + a))))) + (3 * (sp_bits (nr (3 * 10 + a)))))) + (jn (sp_bits (nr (4 * 10 + a)))))] _ c_113_54 rfl ?_
    refine z_v (jn_add _ _) ?_
    refine z_go 56 _ [.int (jn 0), .int (jn ((((sp_bits (nr (1 * 10 + a))) + (2 * (sp_bits (nr (2 * 10 + a))))) + (3 * (sp_bits (nr (3 * 10 + a))))) + (sp_bits (nr (4 * 10 + a)))))] _ c_113_55 rfl ?_
    refine z_go 57 _ [.int ((jn ((((sp_bits (nr (1 * 10 + a))) + (2 * (sp_bits (nr (2 * 10 + a))))) + (3 * (sp_bits (nr (3 * 10 + a))))) + (sp_bits (nr (4 * 10 + a))))) + (jn 0))] _ c_113_56 rfl ?_
    refine z_v (jn_add _ _) ?_
    refine z_iret c_113_57 ?_
    exact ⟨by rw [sp_ord, if_neg (fun q => h1 q.1)], rfl⟩
def sp_pg (cs : Nat → Nat) : Nat → Nat → Nat → Nat
  | 0, _, s => s
  | k + 1, i, s => sp_pg cs k (i + 1) (if sp_pairs (cs i) = true then s ||| 2 ^ i else s)
theorem t_pg_l {d g n bc : Nat} {cs ks nr : Nat → Nat} {M : jx_M} (hg : jg M g n bc cs ks nr) (hn : n ≤ 10) : ∀ {k i s : Nat}, i + k = n → jZ (d + 1) 115 4 [some (.ref g), some (.int (jn s)), some (.int (jn i))] [] M (jR (some (.int (jn (sp_pg cs k i s)))) M) := by
  intro k
  induction k with
  | zero =>
    intro i s hk
    refine z_go 5 _ [.int (jn i)] _ c_115_4 rfl ?_
    refine z_go 6 _ [.ref g, .int (jn i)] _ c_115_5 rfl ?_
    refine z_getf (v := .int (jn n)) 9 c_115_6 rfl hg.1 rfl ?_
    refine z_ige 36 12 c_115_9 rfl (by omega) (by omega) (fun hi => ?_) (fun hi => ?_)
    · omega
    · refine z_go 37 _ [.int (jn s)] _ c_115_36 rfl ?_
      refine z_iret c_115_37 ?_
      exact ⟨rfl, rfl⟩
  | succ k ih =>
    intro i s hk
    refine z_go 5 _ [.int (jn i)] _ c_115_4 rfl ?_
    refine z_go 6 _ [.ref g, .int (jn i)] _ c_115_5 rfl ?_
    refine z_getf (v := .int (jn n)) 9 c_115_6 rfl hg.1 rfl ?_
    refine z_ige 36 12 c_115_9 rfl (by omega) (by omega) (fun hi => ?_) (fun hi => ?_)
    · refine z_go 13 _ [.ref g] _ c_115_12 rfl ?_
      refine z_getf (v := .ref (g + 1)) 16 c_115_13 rfl hg.1 rfl ?_
      refine z_go 17 _ [.int (jn i), .ref (g + 1)] _ c_115_16 rfl ?_
      refine z_iald 18 c_115_17 rfl hg.2.1 (Or.inl rfl) (by omega) (by omega) ?_
      show jZ _ _ _ _ ([.int (jn (cs i))]) _ _
      refine z_call 21 114 1 c_115_18 rfl ⟨Nat.le_of_ble_eq_true rfl, Nat.le_of_ble_eq_true rfl⟩ [.int (jn (cs i))] rfl rfl [some (.int (jn (cs i))), none] rfl rfl (t_pairs) ?_
      show jZ _ _ _ _ [.int (jb (sp_pairs (cs i)))] _ _
      refine z_ifeq 30 24 c_115_21 rfl jb_t (fun h2 => ?_) (fun h2 => ?_)
      · refine z_iinc 33 [some (.ref g), some (.int (jn s)), some (.int (jn (i + 1)))] c_115_30 rfl rfl (jn_add _ _) rfl ?_
        refine z_go 4 _ [] _ c_115_33 rfl ?_
        refine (ih (i := i + 1) (by omega)).mono fun r M1 q => ⟨q.1.trans ?_, q.2⟩
        rw [sp_pg, if_neg (by rw [h2]; decide)]
      · refine z_go 25 _ [.int (jn s)] _ c_115_24 rfl ?_
        refine z_go 26 _ [.int (jn 1), .int (jn s)] _ c_115_25 rfl ?_
        refine z_go 27 _ [.int (jn i), .int (jn 1), .int (jn s)] _ c_115_26 rfl ?_
        refine z_go 28 _ [.int ((fun x y : Int32 => x <<< (y &&& 31)) (jn 1) (jn i)), .int (jn s)] _ c_115_27 rfl ?_
        refine z_v (jn_shb i (by omega)) ?_
        refine z_go 29 _ [.int ((jn s) ||| (jn (2 ^ i)))] _ c_115_28 rfl ?_
        refine z_v (jn_or _ _) ?_
        refine z_go 30 [some (.ref g), some (.int (jn (s ||| (2 ^ i)))), some (.int (jn i))] [] _ c_115_29 rfl ?_
        refine z_iinc 33 [some (.ref g), some (.int (jn (s ||| (2 ^ i)))), some (.int (jn (i + 1)))] c_115_30 rfl rfl (jn_add _ _) rfl ?_
        refine z_go 4 _ [] _ c_115_33 rfl ?_
        refine (ih (i := i + 1) (by omega)).mono fun r M1 q => ⟨q.1.trans ?_, q.2⟩
        rw [sp_pg, if_pos (by simpa using h2)]
    · omega
theorem t_pg {d g n bc : Nat} {cs ks nr : Nat → Nat} {M : jx_M} (hg : jg M g n bc cs ks nr) (hn : n ≤ 10) : jZ (d + 1) 115 0 [some (.ref g), none, none] [] M (jR (some (.int (jn (sp_pg cs n 0 0)))) M) := by
  refine z_go 1 _ [.int (jn 0)] _ c_115_0 rfl ?_
  refine z_go 2 [some (.ref g), some (.int (jn 0)), none] [] _ c_115_1 rfl ?_
  refine z_go 3 _ [.int (jn 0)] _ c_115_2 rfl ?_
  refine z_go 4 [some (.ref g), some (.int (jn 0)), some (.int (jn 0))] [] _ c_115_3 rfl ?_
  exact t_pg_l hg hn (by omega)
