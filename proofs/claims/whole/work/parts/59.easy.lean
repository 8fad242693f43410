/-! THE REGISTRY: what needs no text and no change; printed by wip/whole/p59.py -/
theorem c_48_0 : jx_cd 48 0 = some (o_push (.int 0) 1) := rfl
theorem c_48_1 : jx_cd 48 1 = some (o_ist 3 1) := rfl
theorem c_48_2 : jx_cd 48 2 = some (o_push (.int 56) 2) := rfl
theorem c_48_4 : jx_cd 48 4 = some (o_ist 4 2) := rfl
theorem c_48_6 : jx_cd 48 6 = some (o_ild 4 2) := rfl
theorem c_48_8 : jx_cd 48 8 = some (o_iflt 54) := rfl
theorem c_48_11 : jx_cd 48 11 = some (o_lld 1 1) := rfl
theorem c_48_12 : jx_cd 48 12 = some (o_ild 4 2) := rfl
theorem c_48_14 : jx_cd 48 14 = some (o_call 49 2) := rfl
theorem c_48_17 : jx_cd 48 17 = some (o_ist 5 2) := rfl
theorem c_48_19 : jx_cd 48 19 = some (o_ild 5 2) := rfl
theorem c_48_21 : jx_cd 48 21 = some (o_ifeq 40) := rfl
theorem c_48_24 : jx_cd 48 24 = some (o_ild 5 2) := rfl
theorem c_48_26 : jx_cd 48 26 = some (o_push (.int 33) 2) := rfl
theorem c_48_28 : jx_cd 48 28 = some (o_ilt 38) := rfl
theorem c_48_31 : jx_cd 48 31 = some (o_ild 5 2) := rfl
theorem c_48_33 : jx_cd 48 33 = some (o_push (.int 126) 2) := rfl
theorem c_48_35 : jx_cd 48 35 = some (o_ile 40) := rfl
theorem c_48_38 : jx_cd 48 38 = some (o_push (.int 0) 1) := rfl
theorem c_48_39 : jx_cd 48 39 = some (o_zret) := rfl
theorem c_48_40 : jx_cd 48 40 = some (o_ild 5 2) := rfl
theorem c_48_42 : jx_cd 48 42 = some (o_ifeq 48) := rfl
theorem c_48_45 : jx_cd 48 45 = some (o_iinc 3 1) := rfl
theorem c_48_48 : jx_cd 48 48 = some (o_iinc 4 (-8)) := rfl
theorem c_48_51 : jx_cd 48 51 = some (o_goto 6) := rfl
theorem c_48_54 : jx_cd 48 54 = some (o_ald 0 1) := rfl
theorem c_48_55 : jx_cd 48 55 = some (o_getf 5 1) := rfl
theorem c_48_58 : jx_cd 48 58 = some (o_ild 3 1) := rfl
theorem c_48_59 : jx_cd 48 59 = some (o_bin fun x y => x + y) := rfl
theorem c_48_60 : jx_cd 48 60 = some (o_push (.int 40) 2) := rfl
theorem c_48_62 : jx_cd 48 62 = some (o_ile 67) := rfl
theorem c_48_65 : jx_cd 48 65 = some (o_push (.int 0) 1) := rfl
theorem c_48_66 : jx_cd 48 66 = some (o_zret) := rfl
theorem c_48_67 : jx_cd 48 67 = some (o_ald 0 1) := rfl
theorem c_48_68 : jx_cd 48 68 = some (o_lld 1 1) := rfl
theorem c_48_69 : jx_cd 48 69 = some (o_callv 5 50 1) := rfl
theorem c_48_72 : jx_cd 48 72 = some (o_push (.int 1) 1) := rfl
theorem c_48_73 : jx_cd 48 73 = some (o_zret) := rfl
theorem c_49_0 : jx_cd 49 0 = some (o_lld 0 1) := rfl
theorem c_49_1 : jx_cd 49 1 = some (o_ild 2 1) := rfl
theorem c_49_2 : jx_cd 49 2 = some (o_shl fun x y => (x.toUInt64 >>> (y.toInt64.toUInt64 &&& Int64.toUInt64 63)).toInt64) := rfl
theorem c_49_3 : jx_cd 49 3 = some (o_l2i) := rfl
theorem c_49_4 : jx_cd 49 4 = some (o_push (.int 255) 3) := rfl
theorem c_49_7 : jx_cd 49 7 = some (o_bin fun x y => x &&& y) := rfl
theorem c_49_8 : jx_cd 49 8 = some (o_iret) := rfl
theorem c_50_0 : jx_cd 50 0 = some (o_push (.int 56) 2) := rfl
theorem c_50_2 : jx_cd 50 2 = some (o_ist 3 1) := rfl
theorem c_50_3 : jx_cd 50 3 = some (o_ild 3 1) := rfl
theorem c_50_4 : jx_cd 50 4 = some (o_iflt 56) := rfl
theorem c_50_7 : jx_cd 50 7 = some (o_lld 1 1) := rfl
theorem c_50_8 : jx_cd 50 8 = some (o_ild 3 1) := rfl
theorem c_50_9 : jx_cd 50 9 = some (o_call 49 2) := rfl
theorem c_50_12 : jx_cd 50 12 = some (o_ist 4 2) := rfl
theorem c_50_14 : jx_cd 50 14 = some (o_ild 4 2) := rfl
theorem c_50_16 : jx_cd 50 16 = some (o_ifeq 50) := rfl
theorem c_50_19 : jx_cd 50 19 = some (o_ald 0 1) := rfl
theorem c_50_20 : jx_cd 50 20 = some (o_getf 5 1) := rfl
theorem c_50_23 : jx_cd 50 23 = some (o_push (.int 40) 2) := rfl
theorem c_50_25 : jx_cd 50 25 = some (o_ige 50) := rfl
theorem c_50_28 : jx_cd 50 28 = some (o_ald 0 1) := rfl
theorem c_50_29 : jx_cd 50 29 = some (o_getf 5 0) := rfl
theorem c_50_32 : jx_cd 50 32 = some (o_ald 0 1) := rfl
theorem c_50_33 : jx_cd 50 33 = some (o_getf 5 1) := rfl
theorem c_50_36 : jx_cd 50 36 = some (o_ild 4 2) := rfl
theorem c_50_38 : jx_cd 50 38 = some (o_un fun x => (x.toUInt32 % 65536).toInt32) := rfl
theorem c_50_39 : jx_cd 50 39 = some (o_cast) := rfl
theorem c_50_40 : jx_cd 50 40 = some (o_ald 0 1) := rfl
theorem c_50_41 : jx_cd 50 41 = some (o_dup) := rfl
theorem c_50_42 : jx_cd 50 42 = some (o_getf 5 1) := rfl
theorem c_50_45 : jx_cd 50 45 = some (o_push (.int 1) 1) := rfl
theorem c_50_46 : jx_cd 50 46 = some (o_bin fun x y => x + y) := rfl
theorem c_50_47 : jx_cd 50 47 = some (o_putf 5 1 jx_okI) := rfl
theorem c_50_50 : jx_cd 50 50 = some (o_iinc 3 (-8)) := rfl
theorem c_50_53 : jx_cd 50 53 = some (o_goto 3) := rfl
theorem c_50_56 : jx_cd 50 56 = some (o_ret) := rfl
theorem c_51_0 : jx_cd 51 0 = some (o_ald 0 1) := rfl
theorem c_51_1 : jx_cd 51 1 = some (o_push (.int 0) 1) := rfl
theorem c_51_2 : jx_cd 51 2 = some (o_putf 5 1 jx_okI) := rfl
theorem c_51_5 : jx_cd 51 5 = some (o_ret) := rfl
theorem c_52_0 : jx_cd 52 0 = some (o_ild 1 1) := rfl
theorem c_52_1 : jx_cd 52 1 = some (o_iflt 21) := rfl
theorem c_52_4 : jx_cd 52 4 = some (o_ild 1 1) := rfl
theorem c_52_5 : jx_cd 52 5 = some (o_ald 0 1) := rfl
theorem c_52_6 : jx_cd 52 6 = some (o_getf 5 8) := rfl
theorem c_52_9 : jx_cd 52 9 = some (o_ige 21) := rfl
theorem c_52_12 : jx_cd 52 12 = some (o_ald 0 1) := rfl
theorem c_52_13 : jx_cd 52 13 = some (o_getf 5 7) := rfl
theorem c_52_16 : jx_cd 52 16 = some (o_ild 1 1) := rfl
theorem c_52_17 : jx_cd 52 17 = some (o_iald) := rfl
theorem c_52_18 : jx_cd 52 18 = some (o_goto 22) := rfl
theorem c_52_21 : jx_cd 52 21 = some (o_push (.int 0) 1) := rfl
theorem c_52_22 : jx_cd 52 22 = some (o_iret) := rfl
theorem c_53_0 : jx_cd 53 0 = some (o_ald 0 1) := rfl
theorem c_53_1 : jx_cd 53 1 = some (o_getf 5 10) := rfl
theorem c_53_4 : jx_cd 53 4 = some (o_ifne 16) := rfl
theorem c_53_7 : jx_cd 53 7 = some (o_ild 1 1) := rfl
theorem c_53_8 : jx_cd 53 8 = some (o_iflt 16) := rfl
theorem c_53_11 : jx_cd 53 11 = some (o_ild 1 1) := rfl
theorem c_53_12 : jx_cd 53 12 = some (o_push (.int 4) 1) := rfl
theorem c_53_13 : jx_cd 53 13 = some (o_ile 18) := rfl
theorem c_53_16 : jx_cd 53 16 = some (o_push (.int 0) 1) := rfl
theorem c_53_17 : jx_cd 53 17 = some (o_zret) := rfl
theorem c_53_18 : jx_cd 53 18 = some (o_ald 0 1) := rfl
theorem c_53_19 : jx_cd 53 19 = some (o_ild 1 1) := rfl
theorem c_53_20 : jx_cd 53 20 = some (o_putf 5 9 jx_okI) := rfl
theorem c_53_23 : jx_cd 53 23 = some (o_push (.int 1) 1) := rfl
theorem c_53_24 : jx_cd 53 24 = some (o_zret) := rfl
theorem c_56_0 : jx_cd 56 0 = some (o_ald 0 1) := rfl
theorem c_56_1 : jx_cd 56 1 = some (o_getf 5 10) := rfl
theorem c_56_4 : jx_cd 56 4 = some (o_ifeq 11) := rfl
theorem c_56_7 : jx_cd 56 7 = some (o_push (.int (-1)) 1) := rfl
theorem c_56_8 : jx_cd 56 8 = some (o_goto 18) := rfl
theorem c_56_11 : jx_cd 56 11 = some (o_ald 0 1) := rfl
theorem c_56_12 : jx_cd 56 12 = some (o_getf 5 5) := rfl
theorem c_56_15 : jx_cd 56 15 = some (o_getf 4 2) := rfl
theorem c_56_18 : jx_cd 56 18 = some (o_iret) := rfl
theorem c_57_0 : jx_cd 57 0 = some (o_ald 0 1) := rfl
theorem c_57_1 : jx_cd 57 1 = some (o_ild 1 1) := rfl
theorem c_57_2 : jx_cd 57 2 = some (o_callv 5 58 1) := rfl
theorem c_57_5 : jx_cd 57 5 = some (o_ast 2 1) := rfl
theorem c_57_6 : jx_cd 57 6 = some (o_ald 2 1) := rfl
theorem c_57_7 : jx_cd 57 7 = some (o_ifnonnull 14) := rfl
theorem c_57_10 : jx_cd 57 10 = some (o_push (.int 0) 1) := rfl
theorem c_57_11 : jx_cd 57 11 = some (o_goto 18) := rfl
theorem c_57_14 : jx_cd 57 14 = some (o_ald 2 1) := rfl
theorem c_57_15 : jx_cd 57 15 = some (o_getf 0 3) := rfl
theorem c_57_18 : jx_cd 57 18 = some (o_iret) := rfl
theorem c_58_0 : jx_cd 58 0 = some (o_ald 0 1) := rfl
theorem c_58_1 : jx_cd 58 1 = some (o_getf 5 10) := rfl
theorem c_58_4 : jx_cd 58 4 = some (o_ifeq 11) := rfl
theorem c_58_7 : jx_cd 58 7 = some (o_push (.int (-1)) 1) := rfl
theorem c_58_8 : jx_cd 58 8 = some (o_goto 19) := rfl
theorem c_58_11 : jx_cd 58 11 = some (o_ald 0 1) := rfl
theorem c_58_12 : jx_cd 58 12 = some (o_getf 5 5) := rfl
theorem c_58_15 : jx_cd 58 15 = some (o_ild 1 1) := rfl
theorem c_58_16 : jx_cd 58 16 = some (o_callv 4 44 1) := rfl
theorem c_58_19 : jx_cd 58 19 = some (o_ist 2 1) := rfl
theorem c_58_20 : jx_cd 58 20 = some (o_ild 2 1) := rfl
theorem c_58_21 : jx_cd 58 21 = some (o_push (.int (-1)) 1) := rfl
theorem c_58_22 : jx_cd 58 22 = some (o_ine 29) := rfl
theorem c_58_25 : jx_cd 58 25 = some (o_push .null 1) := rfl
theorem c_58_26 : jx_cd 58 26 = some (o_goto 38) := rfl
theorem c_58_29 : jx_cd 58 29 = some (o_ald 0 1) := rfl
theorem c_58_30 : jx_cd 58 30 = some (o_getf 5 5) := rfl
theorem c_58_33 : jx_cd 58 33 = some (o_getf 4 0) := rfl
theorem c_58_36 : jx_cd 58 36 = some (o_ild 2 1) := rfl
theorem c_58_37 : jx_cd 58 37 = some (o_aald) := rfl
theorem c_58_38 : jx_cd 58 38 = some (o_aret) := rfl
theorem c_59_0 : jx_cd 59 0 = some (o_ald 0 1) := rfl
theorem c_59_1 : jx_cd 59 1 = some (o_ild 1 1) := rfl
theorem c_59_2 : jx_cd 59 2 = some (o_callv 5 58 1) := rfl
theorem c_59_5 : jx_cd 59 5 = some (o_ast 3 1) := rfl
theorem c_59_6 : jx_cd 59 6 = some (o_ald 3 1) := rfl
theorem c_59_7 : jx_cd 59 7 = some (o_ifnull 18) := rfl
theorem c_59_10 : jx_cd 59 10 = some (o_ald 3 1) := rfl
theorem c_59_11 : jx_cd 59 11 = some (o_ild 2 1) := rfl
theorem c_59_12 : jx_cd 59 12 = some (o_callv 0 3 1) := rfl
theorem c_59_15 : jx_cd 59 15 = some (o_ifne 22) := rfl
theorem c_59_18 : jx_cd 59 18 = some (o_push (.int 0) 1) := rfl
theorem c_59_19 : jx_cd 59 19 = some (o_goto 28) := rfl
theorem c_59_22 : jx_cd 59 22 = some (o_ald 3 1) := rfl
theorem c_59_23 : jx_cd 59 23 = some (o_getf 0 0) := rfl
theorem c_59_26 : jx_cd 59 26 = some (o_ild 2 1) := rfl
theorem c_59_27 : jx_cd 59 27 = some (o_iald) := rfl
theorem c_59_28 : jx_cd 59 28 = some (o_iret) := rfl
theorem c_60_0 : jx_cd 60 0 = some (o_ald 0 1) := rfl
theorem c_60_1 : jx_cd 60 1 = some (o_ild 1 1) := rfl
theorem c_60_2 : jx_cd 60 2 = some (o_callv 5 58 1) := rfl
theorem c_60_5 : jx_cd 60 5 = some (o_ast 4 2) := rfl
theorem c_60_7 : jx_cd 60 7 = some (o_ald 4 2) := rfl
theorem c_60_9 : jx_cd 60 9 = some (o_ifnull 30) := rfl
theorem c_60_12 : jx_cd 60 12 = some (o_ald 4 2) := rfl
theorem c_60_14 : jx_cd 60 14 = some (o_ild 2 1) := rfl
theorem c_60_15 : jx_cd 60 15 = some (o_callv 0 3 1) := rfl
theorem c_60_18 : jx_cd 60 18 = some (o_ifeq 30) := rfl
theorem c_60_21 : jx_cd 60 21 = some (o_ald 4 2) := rfl
theorem c_60_23 : jx_cd 60 23 = some (o_ild 3 1) := rfl
theorem c_60_24 : jx_cd 60 24 = some (o_callv 0 3 1) := rfl
theorem c_60_27 : jx_cd 60 27 = some (o_ifne 34) := rfl
theorem c_60_30 : jx_cd 60 30 = some (o_push (.int 0) 1) := rfl
theorem c_60_31 : jx_cd 60 31 = some (o_goto 41) := rfl
theorem c_60_34 : jx_cd 60 34 = some (o_ald 4 2) := rfl
theorem c_60_36 : jx_cd 60 36 = some (o_ild 2 1) := rfl
theorem c_60_37 : jx_cd 60 37 = some (o_ild 3 1) := rfl
theorem c_60_38 : jx_cd 60 38 = some (o_callv 0 4 2) := rfl
theorem c_60_41 : jx_cd 60 41 = some (o_iret) := rfl
/-- a byte of a long -/
def by_ (e : Int64) (s : Int32) : Int32 := (((fun (x : Int64) (y : Int32) => (x.toUInt64 >>> (y.toInt64.toUInt64 &&& Int64.toUInt64 63)).toInt64) e s).toInt32) &&& (jn 255)
theorem and255 (y : Int32) : ∃ k, k < 256 ∧ y &&& (jn 255) = jn k := by
  refine ⟨(y.toBitVec &&& 255#32).toNat, ?_, ?_⟩
  · rw [BitVec.toNat_and]
    exact Nat.lt_of_le_of_lt Nat.and_le_right (by decide)
  · apply Int32.toBitVec_inj.mp
    rw [Int32.toBitVec_and]
    show y.toBitVec &&& 255#32 = BitVec.ofNat 32 _
    rw [BitVec.ofNat_toNat, BitVec.setWidth_eq]
def bt (e : Int64) (k : Nat) : Nat := (by_ e (jn (8 * k) - jn 8)).toNatClampNeg
theorem bt_lt (e : Int64) (k : Nat) : bt e k < 256 := by
  unfold bt by_
  obtain ⟨q, h1, h2⟩ := and255 (((fun (x : Int64) (y : Int32) => (x.toUInt64 >>> (y.toInt64.toUInt64 &&& Int64.toUInt64 63)).toInt64) e (jn (8 * k) - jn 8)).toInt32)
  rw [h2, jn_cl (by omega)]
  exact h1
theorem bt_eq (e : Int64) (k : Nat) : by_ e (jn (8 * k) - jn 8) = jn (bt e k) := by
  unfold bt by_
  obtain ⟨q, h1, h2⟩ := and255 (((fun (x : Int64) (y : Int32) => (x.toUInt64 >>> (y.toInt64.toUInt64 &&& Int64.toUInt64 63)).toInt64) e (jn (8 * k) - jn 8)).toInt32)
  rw [h2, jn_cl (by omega)]
theorem sh_lt {k : Nat} (h : k < 9) : (jn (8 * k) - jn 8) < 0 ↔ k = 0 := (by decide +kernel : ∀ k, k < 9 → ((jn (8 * k) - jn 8) < 0 ↔ k = 0)) k h
theorem sh_st {k : Nat} (h : k < 8) : jn (8 * (k + 1)) - jn 8 + -8 = jn (8 * k) - jn 8 := (by decide +kernel : ∀ k, k < 8 → jn (8 * (k + 1)) - jn 8 + -8 = jn (8 * k) - jn 8) k h
theorem i2c_n {a : Nat} (h : a < 256) : (fun x : Int32 => (x.toUInt32 % 65536).toInt32) (jn a) = jn a := (by decide +kernel : ∀ a, a < 256 → (fun x : Int32 => (x.toUInt32 % 65536).toInt32) (jn a) = jn a) a h
/-- whether the bytes can be typed; how many; the text then -/
def sp_tok (e : Int64) : Nat → Bool
  | 0 => true
  | k + 1 => decide (bt e (k + 1) = 0 ∨ 33 ≤ bt e (k + 1) ∧ bt e (k + 1) ≤ 126) && sp_tok e k
def sp_tn (e : Int64) : Nat → Nat
  | 0 => 0
  | k + 1 => (if bt e (k + 1) = 0 then 0 else 1) + sp_tn e k
def sp_ap (e : Int64) : Nat → Nat × (Nat → Nat) → Nat × (Nat → Nat)
  | 0, T => T
  | k + 1, T => sp_ap e k (if bt e (k + 1) = 0 then T else (T.1 + 1, nu T.2 T.1 (bt e (k + 1))))
def sp_ty (e : Int64) (T : Nat × (Nat → Nat)) : Bool × Nat × (Nat → Nat) := if sp_tok e 8 = true ∧ T.1 + sp_tn e 8 ≤ 40 then (true, sp_ap e 8 T) else (false, T)
theorem sp_tn_le (e : Int64) : ∀ k, sp_tn e k ≤ k := by
  intro k
  induction k with
  | zero => exact Nat.le_refl _
  | succ k ih =>
    unfold sp_tn
    split <;> omega
theorem jn_nn {x : Int32} (h : ¬ x < 0) : ∃ k, k < 2 ^ 31 ∧ x = jn k := by
  refine ⟨x.toNatClampNeg, Int32.toNatClampNeg_lt x, ?_⟩
  have h0 : 0 ≤ x := Int32.not_lt.mp h
  have h1 : (0 : Int) ≤ x.toInt := Int32.le_iff_toInt_le.mp h0
  apply Int32.toInt_inj.mp
  show x.toInt = (Int32.ofNat x.toNatClampNeg).toInt
  have h2 := Int32.toNatClampNeg_lt x
  rw [Int32.toInt_ofNat_of_lt h2]
  show x.toInt = ((x.toInt.toNat : Nat) : Int)
  rw [Int.toNat_of_nonneg h1]
theorem t_byte {d : Nat} {e : Int64} {s : Int32} {M : jx_M} : jZ d 49 0 [some (.long e), none, some (.int s)] [] M (jR (some (.int (by_ e s))) M) := by
  refine z_go 1 _ [.long e] _ c_49_0 rfl ?_
  refine z_go 2 _ [.int s, .long e] _ c_49_1 rfl ?_
  refine z_go 3 _ [.long ((fun (x : Int64) (y : Int32) => (x.toUInt64 >>> (y.toInt64.toUInt64 &&& Int64.toUInt64 63)).toInt64) e s)] _ c_49_2 rfl ?_
  refine z_go 4 _ [.int (((fun (x : Int64) (y : Int32) => (x.toUInt64 >>> (y.toInt64.toUInt64 &&& Int64.toUInt64 63)).toInt64) e s).toInt32)] _ c_49_3 rfl ?_
  refine z_go 7 _ [.int (jn 255), .int (((fun (x : Int64) (y : Int32) => (x.toUInt64 >>> (y.toInt64.toUInt64 &&& Int64.toUInt64 63)).toInt64) e s).toInt32)] _ c_49_4 rfl ?_
  refine z_go 8 _ [.int (((((fun (x : Int64) (y : Int32) => (x.toUInt64 >>> (y.toInt64.toUInt64 &&& Int64.toUInt64 63)).toInt64) e s).toInt32)) &&& (jn 255))] _ c_49_7 rfl ?_
  refine z_iret c_49_8 ?_
  exact ⟨rfl, rfl⟩
theorem t_app_l {d hc tf : Nat} {dn : Bool} {e : Int64} : ∀ {k ty : Nat} {tx : Nat → Nat} {z4 : Option Value} {M : jx_M}, k < 9 → ty + sp_tn e k ≤ 40 → M.1 16 = xO ty hc tf dn → M.1 17 = .inl (1, 40, .inl (ja tx)) → jZ (d + 1) 50 3 [some (.ref 16), some (.long e), none, some (.int (jn (8 * k) - jn 8)), z4] [] M (jV none fun M' => M'.1 16 = xO (sp_ap e k (ty, tx)).1 hc tf dn ∧ M'.1 17 = .inl (1, 40, .inl (ja (sp_ap e k (ty, tx)).2)) ∧ sm 16 17 M M') := by
  intro k
  induction k with
  | zero =>
    intro ty tx z4 M hk hn h16 h17
    refine z_go 4 _ [.int (jn (8 * 0) - jn 8)] _ c_50_3 rfl ?_
    refine z_iflt 56 7 c_50_4 rfl (sh_lt (by decide)) (fun hs => ?_) (fun hs => ?_)
    · refine z_ret c_50_56 ?_
      exact ⟨rfl, h16, h17, sm_r _ _ M⟩
    · exact absurd rfl hs
  | succ k ih =>
    intro ty tx z4 M hk hn h16 h17
    have hb := bt_lt e (k + 1)
    refine z_go 4 _ [.int (jn (8 * (k + 1)) - jn 8)] _ c_50_3 rfl ?_
    refine z_iflt 56 7 c_50_4 rfl (sh_lt (by omega)) (fun hs => ?_) (fun hs => ?_)
    · omega
    · refine z_go 8 _ [.long e] _ c_50_7 rfl ?_
      refine z_go 9 _ [.int (jn (8 * (k + 1)) - jn 8), .long e] _ c_50_8 rfl ?_
      refine z_call 12 49 2 c_50_9 rfl ⟨Nat.le_of_ble_eq_true rfl, Nat.le_of_ble_eq_true rfl⟩ [.long e, .int (jn (8 * (k + 1)) - jn 8)] rfl rfl [some (.long e), none, some (.int (jn (8 * (k + 1)) - jn 8))] rfl rfl (t_byte) ?_
      show jZ _ _ _ _ [.int (by_ e (jn (8 * (k + 1)) - jn 8))] _ _
      refine z_v (bt_eq e (k + 1)) ?_
      refine z_go 14 [some (.ref 16), some (.long e), none, some (.int (jn (8 * (k + 1)) - jn 8)), some (.int (jn (bt e (k + 1))))] [] _ c_50_12 rfl ?_
      refine z_go 16 _ [.int (jn (bt e (k + 1)))] _ c_50_14 rfl ?_
      refine z_ifeq 50 19 c_50_16 rfl (jn_z (by omega)) (fun h1 => ?_) (fun h1 => ?_)
      · refine z_iinc 53 [some (.ref 16), some (.long e), none, some (.int ((jn (8 * (k + 1)) - jn 8) + -8)), some (.int (jn (bt e (k + 1))))] c_50_50 rfl rfl rfl rfl ?_
        refine z_go 3 _ [] _ c_50_53 rfl ?_
        rw [sh_st (by omega)]
        have e1 : sp_ap e (k + 1) (ty, tx) = sp_ap e k (ty, tx) := by rw [sp_ap, if_pos h1]
        rw [e1]
        have e2 : sp_tn e (k + 1) = 0 + sp_tn e k := by rw [sp_tn, if_pos h1]
        exact (ih (M := M) (by omega) (by omega) h16 h17).mono fun r M1 q => ⟨q.1, q.2.1, q.2.2.1, q.2.2.2⟩
      · have e0 : sp_tn e (k + 1) = 1 + sp_tn e k := by rw [sp_tn, if_neg h1]
        refine z_go 20 _ [.ref 16] _ c_50_19 rfl ?_
        refine z_getf (v := .int (jn ty)) 23 c_50_20 rfl h16 rfl ?_
        refine z_go 25 _ [.int (jn 40), .int (jn ty)] _ c_50_23 rfl ?_
        refine z_ige 50 28 c_50_25 rfl (by omega) (by omega) (fun h2 => ?_) (fun h2 => ?_)
        · refine z_go 29 _ [.ref 16] _ c_50_28 rfl ?_
          refine z_getf (v := .ref 17) 32 c_50_29 rfl h16 rfl ?_
          refine z_go 33 _ [.ref 16, .ref 17] _ c_50_32 rfl ?_
          refine z_getf (v := .int (jn ty)) 36 c_50_33 rfl h16 rfl ?_
          refine z_go 38 _ [.int (jn (bt e (k + 1))), .int (jn ty), .ref 17] _ c_50_36 rfl ?_
          refine z_go 39 _ [.int ((fun x : Int32 => (x.toUInt32 % 65536).toInt32) (jn (bt e (k + 1)))), .int (jn ty), .ref 17] _ c_50_38 rfl ?_
          refine z_v (i2c_n hb) ?_
          refine z_cast (M' := jm [(17, .inl (1, 40, .inl (ja (nu tx ty (bt e (k + 1))))))] M) 40 c_50_39 rfl h17 (by omega) (by omega) (vp_c (by omega)) (by rw [ja_upd]; exact rfl) ?_
          refine z_go 41 _ [.ref 16] _ c_50_40 rfl ?_
          refine z_go 42 _ [.ref 16, .ref 16] _ c_50_41 rfl ?_
          refine z_getf (v := .int (jn ty)) 45 c_50_42 rfl h16 rfl ?_
          refine z_go 46 _ [.int (jn 1), .int (jn ty), .ref 16] _ c_50_45 rfl ?_
          refine z_go 47 _ [.int ((jn ty) + (jn 1)), .ref 16] _ c_50_46 rfl ?_
          refine z_v (jn_add _ _) ?_
          refine z_putf (M' := jm [(16, xO (ty + 1) hc tf dn), (17, .inl (1, 40, .inl (ja (nu tx ty (bt e (k + 1))))))] M) 50 c_50_47 rfl h16 (rfl) (Nat.le_of_ble_eq_true rfl) rfl ?_
          refine z_iinc 53 [some (.ref 16), some (.long e), none, some (.int ((jn (8 * (k + 1)) - jn 8) + -8)), some (.int (jn (bt e (k + 1))))] c_50_50 rfl rfl rfl rfl ?_
          refine z_go 3 _ [] _ c_50_53 rfl ?_
          rw [sh_st (by omega)]
          have e1 : sp_ap e (k + 1) (ty, tx) = sp_ap e k (ty + 1, nu tx ty (bt e (k + 1))) := by rw [sp_ap, if_neg h1]
          rw [e1]
          have e2 : sp_tn e (k + 1) = 1 + sp_tn e k := by rw [sp_tn, if_neg h1]
          exact (ih (M := jm [(16, xO (ty + 1) hc tf dn), (17, .inl (1, 40, .inl (ja (nu tx ty (bt e (k + 1))))))] M) (by omega) (by omega) rfl rfl).mono fun r M1 q => ⟨q.1, q.2.1, q.2.2.1, (sm_jm rfl).tr (q.2.2.2)⟩
        · omega
theorem t_app {d ty hc tf : Nat} {dn : Bool} {M : jx_M} (h16 : M.1 16 = xO ty hc tf dn) {tx : Nat → Nat} (h17 : M.1 17 = .inl (1, 40, .inl (ja tx))) {e : Int64} (hn : ty + sp_tn e 8 ≤ 40) : jZ (d + 1) 50 0 [some (.ref 16), some (.long e), none, none, none] [] M (jV none fun M' => M'.1 16 = xO (sp_ap e 8 (ty, tx)).1 hc tf dn ∧ M'.1 17 = .inl (1, 40, .inl (ja (sp_ap e 8 (ty, tx)).2)) ∧ sm 16 17 M M') := by
  refine z_go 2 _ [.int (jn 56)] _ c_50_0 rfl ?_
  refine z_go 3 [some (.ref 16), some (.long e), none, some (.int (jn 56)), none] [] _ c_50_2 rfl ?_
  exact t_app_l (k := 8) (by decide) hn h16 h17
theorem t_type_l {d : Nat} {e : Int64} {M : jx_M} {post : jx_R → jx_M → Prop} : ∀ {k m : Nat} {z5 : Option Value}, k < 9 → (sp_tok e k = false → post (.inl (some (.int (jb false)))) M) → (sp_tok e k = true → ∀ z4 z5, jZ (d + 1) 48 54 [some (.ref 16), some (.long e), none, some (.int (jn (m + sp_tn e k))), z4, z5] [] M post) → jZ (d + 1) 48 6 [some (.ref 16), some (.long e), none, some (.int (jn m)), some (.int (jn (8 * k) - jn 8)), z5] [] M post := by
  intro k
  induction k with
  | zero =>
    intro m z5 hk h0 h1
    refine z_go 8 _ [.int (jn (8 * 0) - jn 8)] _ c_48_6 rfl ?_
    refine z_iflt 54 11 c_48_8 rfl (sh_lt (by decide)) (fun hs => ?_) (fun hs => ?_)
    · exact h1 rfl _ _
    · exact absurd rfl hs
  | succ k ih =>
    intro m z5 hk h0 h1
    have hb := bt_lt e (k + 1)
    refine z_go 8 _ [.int (jn (8 * (k + 1)) - jn 8)] _ c_48_6 rfl ?_
    refine z_iflt 54 11 c_48_8 rfl (sh_lt (by omega)) (fun hs => ?_) (fun hs => ?_)
    · omega
    · refine z_go 12 _ [.long e] _ c_48_11 rfl ?_
      refine z_go 14 _ [.int (jn (8 * (k + 1)) - jn 8), .long e] _ c_48_12 rfl ?_
      refine z_call 17 49 2 c_48_14 rfl ⟨Nat.le_of_ble_eq_true rfl, Nat.le_of_ble_eq_true rfl⟩ [.long e, .int (jn (8 * (k + 1)) - jn 8)] rfl rfl [some (.long e), none, some (.int (jn (8 * (k + 1)) - jn 8))] rfl rfl (t_byte) ?_
      show jZ _ _ _ _ [.int (by_ e (jn (8 * (k + 1)) - jn 8))] _ _
      refine z_v (bt_eq e (k + 1)) ?_
      refine z_go 19 [some (.ref 16), some (.long e), none, some (.int (jn m)), some (.int (jn (8 * (k + 1)) - jn 8)), some (.int (jn (bt e (k + 1))))] [] _ c_48_17 rfl ?_
      refine z_go 21 _ [.int (jn (bt e (k + 1)))] _ c_48_19 rfl ?_
      refine z_ifeq 40 24 c_48_21 rfl (jn_z (by omega)) (fun hz => ?_) (fun hz => ?_)
      · refine z_go 42 _ [.int (jn (bt e (k + 1)))] _ c_48_40 rfl ?_
        refine z_ifeq 48 45 c_48_42 rfl (jn_z (by omega)) (fun hz2 => ?_) (fun hz2 => ?_)
        · refine z_iinc 51 [some (.ref 16), some (.long e), none, some (.int (jn m)), some (.int ((jn (8 * (k + 1)) - jn 8) + -8)), some (.int (jn (bt e (k + 1))))] c_48_48 rfl rfl rfl rfl ?_
          refine z_go 6 _ [] _ c_48_51 rfl ?_
          rw [sh_st (by omega)]
          have e1 : sp_tok e (k + 1) = sp_tok e k := by rw [sp_tok, decide_eq_true (by omega), Bool.true_and]
          have e2 : m + sp_tn e (k + 1) = m + sp_tn e k := by rw [sp_tn, if_pos hz]; omega
          rw [e1] at h0 h1
          rw [e2] at h1
          exact ih (by omega) h0 h1
        · exact absurd hz hz2
      · refine z_go 26 _ [.int (jn (bt e (k + 1)))] _ c_48_24 rfl ?_
        refine z_go 28 _ [.int (jn 33), .int (jn (bt e (k + 1)))] _ c_48_26 rfl ?_
        refine z_ilt 38 31 c_48_28 rfl (by omega) (by omega) (fun h33 => ?_) (fun h33 => ?_)
        · refine z_go 39 _ [.int (jn 0)] _ c_48_38 rfl ?_
          refine z_zret (b := false) c_48_39 ?_
          exact h0 (by rw [sp_tok, decide_eq_false (by omega), Bool.false_and])
        · refine z_go 33 _ [.int (jn (bt e (k + 1)))] _ c_48_31 rfl ?_
          refine z_go 35 _ [.int (jn 126), .int (jn (bt e (k + 1)))] _ c_48_33 rfl ?_
          refine z_ile 40 38 c_48_35 rfl (by omega) (by omega) (fun h126 => ?_) (fun h126 => ?_)
          · refine z_go 39 _ [.int (jn 0)] _ c_48_38 rfl ?_
            refine z_zret (b := false) c_48_39 ?_
            exact h0 (by rw [sp_tok, decide_eq_false (by omega), Bool.false_and])
          · refine z_go 42 _ [.int (jn (bt e (k + 1)))] _ c_48_40 rfl ?_
            refine z_ifeq 48 45 c_48_42 rfl (jn_z (by omega)) (fun hz2 => ?_) (fun hz2 => ?_)
            · exact absurd hz2 hz
            · refine z_iinc 48 [some (.ref 16), some (.long e), none, some (.int (jn (m + 1))), some (.int (jn (8 * (k + 1)) - jn 8)), some (.int (jn (bt e (k + 1))))] c_48_45 rfl rfl (jn_add _ _) rfl ?_
              refine z_iinc 51 [some (.ref 16), some (.long e), none, some (.int (jn (m + 1))), some (.int ((jn (8 * (k + 1)) - jn 8) + -8)), some (.int (jn (bt e (k + 1))))] c_48_48 rfl rfl rfl rfl ?_
              refine z_go 6 _ [] _ c_48_51 rfl ?_
              rw [sh_st (by omega)]
              have e1 : sp_tok e (k + 1) = sp_tok e k := by rw [sp_tok, decide_eq_true (by omega), Bool.true_and]
              have e2 : m + sp_tn e (k + 1) = (m + 1) + sp_tn e k := by rw [sp_tn, if_neg hz]; omega
              rw [e1] at h0 h1
              rw [e2] at h1
              exact ih (by omega) h0 h1
theorem t_type {d ty hc tf : Nat} {dn : Bool} {M : jx_M} (h16 : M.1 16 = xO ty hc tf dn) {tx : Nat → Nat} (h17 : M.1 17 = .inl (1, 40, .inl (ja tx))) {e : Int64} (hty : ty ≤ 40) : jZ (d + 2) 48 0 [some (.ref 16), some (.long e), none, none, none, none] [] M (jV (some (.int (jb (sp_ty e (ty, tx)).1)) ) fun M' => M'.1 16 = xO (sp_ty e (ty, tx)).2.1 hc tf dn ∧ M'.1 17 = .inl (1, 40, .inl (ja (sp_ty e (ty, tx)).2.2)) ∧ sm 16 17 M M') := by
  refine z_go 1 _ [.int (jn 0)] _ c_48_0 rfl ?_
  refine z_go 2 [some (.ref 16), some (.long e), none, some (.int (jn 0)), none, none] [] _ c_48_1 rfl ?_
  refine z_go 4 _ [.int (jn 56)] _ c_48_2 rfl ?_
  refine z_go 6 [some (.ref 16), some (.long e), none, some (.int (jn 0)), some (.int (jn 56)), none] [] _ c_48_4 rfl ?_
  refine t_type_l (k := 8) (by decide) (fun h => ?_) (fun h z4 z5 => ?_)
  · rw [sp_ty, if_neg (fun q => by rw [h] at q; cases q.1)]
    exact ⟨rfl, h16, h17, sm_r _ _ M⟩
  · have hn8 := sp_tn_le e 8
    refine z_go 55 _ [.ref 16] _ c_48_54 rfl ?_
    refine z_getf (v := .int (jn ty)) 58 c_48_55 rfl h16 rfl ?_
    refine z_go 59 _ [.int (jn (0 + sp_tn e 8)), .int (jn ty)] _ c_48_58 rfl ?_
    refine z_go 60 _ [.int ((jn ty) + (jn (0 + sp_tn e 8)))] _ c_48_59 rfl ?_
    refine z_v (jn_add _ _) ?_
    refine z_go 62 _ [.int (jn 40), .int (jn (ty + (0 + sp_tn e 8)))] _ c_48_60 rfl ?_
    refine z_ile 67 65 c_48_62 rfl (by omega) (by omega) (fun h2 => ?_) (fun h2 => ?_)
    · refine z_go 66 _ [.int (jn 0)] _ c_48_65 rfl ?_
      refine z_zret (b := false) c_48_66 ?_
      rw [sp_ty, if_neg (fun q => by have q2 : ty + sp_tn e 8 ≤ 40 := q.2; omega)]
      exact ⟨rfl, h16, h17, sm_r _ _ M⟩
    · have hn : ty + sp_tn e 8 ≤ 40 := by omega
      refine z_go 68 _ [.ref 16] _ c_48_67 rfl ?_
      refine z_go 69 _ [.long e, .ref 16] _ c_48_68 rfl ?_
      refine z_callvV 72 5 50 1 16 c_48_69 rfl ⟨Nat.le_of_ble_eq_true rfl, Nat.le_of_ble_eq_true rfl⟩ rfl h16 [.ref 16, .long e] rfl rfl [some (.ref 16), some (.long e), none, none, none] rfl rfl (t_app h16 h17 hn) ?_
      intro M1 ⟨q1, q2, q3⟩
      show jZ _ _ _ _ [] _ _
      refine z_go 73 _ [.int (jn 1)] _ c_48_72 rfl ?_
      refine z_zret (b := true) c_48_73 ?_
      rw [sp_ty, if_pos ⟨h, hn⟩]
      exact ⟨rfl, q1, q2, q3⟩
theorem t_wipe {d ty hc tf : Nat} {dn : Bool} {M : jx_M} (h16 : M.1 16 = xO ty hc tf dn) : jZ d 51 0 [some (.ref 16)] [] M (jR none (jm [(16, xO 0 hc tf dn)] M)) := by
  refine z_go 1 _ [.ref 16] _ c_51_0 rfl ?_
  refine z_go 2 _ [.int (jn 0), .ref 16] _ c_51_1 rfl ?_
  refine z_putf (M' := jm [(16, xO 0 hc tf dn)] M) 5 c_51_2 rfl h16 (rfl) (Nat.le_of_ble_eq_true rfl) rfl ?_
  refine z_ret c_51_5 ?_
  exact ⟨rfl, rfl⟩
def sp_fd (hc : Nat) (hit : Nat → Nat) (x : Int32) : Int32 := if ¬ x < 0 ∧ x < jn hc then jn (hit x.toNatClampNeg) else 0
def sp_fl (dn : Bool) (x : Int32) : Bool := decide (dn = false ∧ ¬ x < 0 ∧ ¬ 4 < x)
theorem t_found {d ty hc tf : Nat} {dn : Bool} {M : jx_M} (h16 : M.1 16 = xO ty hc tf dn) {x : Int32} {hit : Nat → Nat} (h91 : M.1 91 = .inl (0, 12, .inl (ja hit))) (hhc : hc ≤ 12) : jZ d 52 0 [some (.ref 16), some (.int x)] [] M (jR (some (.int (sp_fd hc hit x))) M) := by
  refine z_go 1 _ [.int x] _ c_52_0 rfl ?_
  refine z_iflt 21 4 c_52_1 rfl Iff.rfl (fun h1 => ?_) (fun h1 => ?_)
  · refine z_go 22 _ [.int (jn 0)] _ c_52_21 rfl ?_
    refine z_iret c_52_22 ?_
    exact ⟨by rw [sp_fd, if_neg (fun q => q.1 h1)]; rfl, rfl⟩
  · refine z_go 5 _ [.int x] _ c_52_4 rfl ?_
    refine z_go 6 _ [.ref 16, .int x] _ c_52_5 rfl ?_
    refine z_getf (v := .int (jn hc)) 9 c_52_6 rfl h16 rfl ?_
    refine z_igeR 21 12 c_52_9 rfl Iff.rfl (fun h2 => ?_) (fun h2 => ?_)
    · obtain ⟨k, hk, rfl⟩ := jn_nn h1
      have h2n := (jn_lt hk (by omega)).mp h2
      refine z_go 13 _ [.ref 16] _ c_52_12 rfl ?_
      refine z_getf (v := .ref 91) 16 c_52_13 rfl h16 rfl ?_
      refine z_go 17 _ [.int (jn k), .ref 91] _ c_52_16 rfl ?_
      refine z_iald 18 c_52_17 rfl h91 (Or.inl rfl) (by omega) (by omega) ?_
      show jZ _ _ _ _ ([.int (jn (hit k))]) _ _
      refine z_go 22 _ [.int (jn (hit k))] _ c_52_18 rfl ?_
      refine z_iret c_52_22 ?_
      exact ⟨by rw [sp_fd, if_pos ⟨h1, h2⟩, jn_cl hk], rfl⟩
    · refine z_go 22 _ [.int (jn 0)] _ c_52_21 rfl ?_
      refine z_iret c_52_22 ?_
      exact ⟨by rw [sp_fd, if_neg (fun q => h2 q.2)]; rfl, rfl⟩
theorem t_fail {d ty hc tf : Nat} {dn : Bool} {M : jx_M} (h16 : M.1 16 = xO ty hc tf dn) {x : Int32} : jZ d 53 0 [some (.ref 16), some (.int x)] [] M (jV (some (.int (jb (sp_fl dn x)))) fun M' => M'.1 16 = xO ty hc (if sp_fl dn x = true then x.toNatClampNeg else tf) dn ∧ sm 16 16 M M') := by
  refine z_go 1 _ [.ref 16] _ c_53_0 rfl ?_
  refine z_getf (v := .int (jb dn)) 4 c_53_1 rfl h16 rfl ?_
  refine z_ifne 16 7 c_53_4 rfl jb_t (fun h1 => ?_) (fun h1 => ?_)
  · refine z_go 8 _ [.int x] _ c_53_7 rfl ?_
    refine z_iflt 16 11 c_53_8 rfl Iff.rfl (fun h2 => ?_) (fun h2 => ?_)
    · refine z_go 17 _ [.int (jn 0)] _ c_53_16 rfl ?_
      refine z_zret (b := false) c_53_17 ?_
      have e1 : sp_fl dn x = false := decide_eq_false (fun q => q.2.1 h2)
      rw [e1]
      exact ⟨rfl, h16, sm_r _ _ M⟩
    · refine z_go 12 _ [.int x] _ c_53_11 rfl ?_
      refine z_go 13 _ [.int (jn 4), .int x] _ c_53_12 rfl ?_
      refine z_ileR 18 16 c_53_13 rfl Iff.rfl (fun h3 => ?_) (fun h3 => ?_)
      · refine z_go 17 _ [.int (jn 0)] _ c_53_16 rfl ?_
        refine z_zret (b := false) c_53_17 ?_
        have e1 : sp_fl dn x = false := decide_eq_false (fun q => q.2.2 h3)
        rw [e1]
        exact ⟨rfl, h16, sm_r _ _ M⟩
      · have e1 : sp_fl dn x = true := decide_eq_true ⟨h1, h2, h3⟩
        rw [e1]
        obtain ⟨k, hk, rfl⟩ := jn_nn h2
        refine z_go 19 _ [.ref 16] _ c_53_18 rfl ?_
        refine z_go 20 _ [.int (jn k), .ref 16] _ c_53_19 rfl ?_
        refine z_putf (M' := jm [(16, xO ty hc k dn)] M) 23 c_53_20 rfl h16 (rfl) (Nat.le_of_ble_eq_true rfl) rfl ?_
        refine z_go 24 _ [.int (jn 1)] _ c_53_23 rfl ?_
        refine z_zret (b := true) c_53_24 ?_
        rw [jn_cl hk]
        exact ⟨rfl, rfl, sm_jm rfl⟩
  · refine z_go 17 _ [.int (jn 0)] _ c_53_16 rfl ?_
    refine z_zret (b := false) c_53_17 ?_
    have e1 : sp_fl dn x = false := decide_eq_false (fun q => h1 q.1)
    rw [e1]
    exact ⟨rfl, h16, sm_r _ _ M⟩
theorem t_count {d ty hc tf : Nat} {dn : Bool} {M : jx_M} (h16 : M.1 16 = xO ty hc tf dn) {sz li : Nat} (h35 : M.1 35 = sO sz li) : jZ d 56 0 [some (.ref 16)] [] M (jR (some (.int (if dn = true then -1 else jn sz))) M) := by
  refine z_go 1 _ [.ref 16] _ c_56_0 rfl ?_
  refine z_getf (v := .int (jb dn)) 4 c_56_1 rfl h16 rfl ?_
  refine z_ifeq 11 7 c_56_4 rfl jb_t (fun h1 => ?_) (fun h1 => ?_)
  · refine z_go 12 _ [.ref 16] _ c_56_11 rfl ?_
    refine z_getf (v := .ref 35) 15 c_56_12 rfl h16 rfl ?_
    refine z_getf (v := .int (jn sz)) 18 c_56_15 rfl h35 rfl ?_
    refine z_iret c_56_18 ?_
    exact ⟨by rw [if_neg (by rw [h1]; decide)], rfl⟩
  · refine z_go 8 _ [.int (jo none)] _ c_56_7 rfl ?_
    refine z_go 18 _ [.int (jo none)] _ c_56_8 rfl ?_
    refine z_iret c_56_18 ?_
    exact ⟨by rw [if_pos (by cases dn <;> simp_all)]; rfl, rfl⟩
def sp_vis (dn : Bool) (ids : Nat → Nat) (x : Int32) (sz : Nat) : Option Nat := if dn = true then none else sp_sl ids x sz 0
theorem t_vis0 {d ty hc tf : Nat} {dn : Bool} {M : jx_M} (h16 : M.1 16 = xO ty hc tf dn) {sz li : Nat} {p ids : Nat → Nat} {G : Nat → GR} {x : Int32} (hS : jsh M p sz li ids G) (hsz : sz ≤ 12) (hv : sp_vis dn ids x sz = none) : jZ (d + 1) 58 0 [some (.ref 16), some (.int x), none] [] M (jR (some .null) M) := by
  obtain ⟨h35, h36, h37, hp, hij, hG⟩ := hS
  refine z_go 1 _ [.ref 16] _ c_58_0 rfl ?_
  refine z_getf (v := .int (jb dn)) 4 c_58_1 rfl h16 rfl ?_
  refine z_ifeq 11 7 c_58_4 rfl jb_t (fun h1 => ?_) (fun h1 => ?_)
  · rw [sp_vis, if_neg (by rw [h1]; decide)] at hv
    refine z_go 12 _ [.ref 16] _ c_58_11 rfl ?_
    refine z_getf (v := .ref 35) 15 c_58_12 rfl h16 rfl ?_
    refine z_go 16 _ [.int x, .ref 35] _ c_58_15 rfl ?_
    refine z_callv 19 4 44 1 35 c_58_16 rfl ⟨Nat.le_of_ble_eq_true rfl, Nat.le_of_ble_eq_true rfl⟩ rfl h35 [.ref 35, .int x] rfl rfl [some (.ref 35), some (.int x), none] rfl rfl (t_slot h35 h37 hsz) ?_
    show jZ _ _ _ _ [.int (jo (sp_sl ids x sz 0))] _ _
    rw [hv]
    show jZ _ _ _ _ [.int (jo none)] _ _
    refine z_go 20 [some (.ref 16), some (.int x), some (.int (jo none))] [] _ c_58_19 rfl ?_
    refine z_go 21 _ [.int (jo none)] _ c_58_20 rfl ?_
    refine z_go 22 _ [.int (jo none), .int (jo none)] _ c_58_21 rfl ?_
    refine z_ine 29 25 c_58_22 rfl Iff.rfl (fun _ => ?_) (fun h => absurd rfl h)
    refine z_go 26 _ [.null] _ c_58_25 rfl ?_
    refine z_go 38 _ [.null] _ c_58_26 rfl ?_
    refine z_aretn c_58_38 ?_
    exact ⟨rfl, rfl⟩
  · refine z_go 8 _ [.int (jo none)] _ c_58_7 rfl ?_
    refine z_go 19 _ [.int (jo none)] _ c_58_8 rfl ?_
    refine z_go 20 [some (.ref 16), some (.int x), some (.int (jo none))] [] _ c_58_19 rfl ?_
    refine z_go 21 _ [.int (jo none)] _ c_58_20 rfl ?_
    refine z_go 22 _ [.int (jo none), .int (jo none)] _ c_58_21 rfl ?_
    refine z_ine 29 25 c_58_22 rfl Iff.rfl (fun _ => ?_) (fun h => absurd rfl h)
    refine z_go 26 _ [.null] _ c_58_25 rfl ?_
    refine z_go 38 _ [.null] _ c_58_26 rfl ?_
    refine z_aretn c_58_38 ?_
    exact ⟨rfl, rfl⟩
theorem t_vis1 {d ty hc tf : Nat} {dn : Bool} {M : jx_M} (h16 : M.1 16 = xO ty hc tf dn) {sz li : Nat} {p ids : Nat → Nat} {G : Nat → GR} {x : Int32} (hS : jsh M p sz li ids G) (hsz : sz ≤ 12) {g : Nat} (hv : sp_vis dn ids x sz = some g) : jZ (d + 1) 58 0 [some (.ref 16), some (.int x), none] [] M (jR (some (.ref (p g))) M) := by
  obtain ⟨h35, h36, h37, hp, hij, hG⟩ := hS
  refine z_go 1 _ [.ref 16] _ c_58_0 rfl ?_
  refine z_getf (v := .int (jb dn)) 4 c_58_1 rfl h16 rfl ?_
  refine z_ifeq 11 7 c_58_4 rfl jb_t (fun h1 => ?_) (fun h1 => ?_)
  · rw [sp_vis, if_neg (by rw [h1]; decide)] at hv
    obtain ⟨-, hgo, -⟩ := sp_sl_some hv
    refine z_go 12 _ [.ref 16] _ c_58_11 rfl ?_
    refine z_getf (v := .ref 35) 15 c_58_12 rfl h16 rfl ?_
    refine z_go 16 _ [.int x, .ref 35] _ c_58_15 rfl ?_
    refine z_callv 19 4 44 1 35 c_58_16 rfl ⟨Nat.le_of_ble_eq_true rfl, Nat.le_of_ble_eq_true rfl⟩ rfl h35 [.ref 35, .int x] rfl rfl [some (.ref 35), some (.int x), none] rfl rfl (t_slot h35 h37 hsz) ?_
    show jZ _ _ _ _ [.int (jo (sp_sl ids x sz 0))] _ _
    rw [hv]
    show jZ _ _ _ _ [.int (jn g)] _ _
    refine z_go 20 [some (.ref 16), some (.int x), some (.int (jn g))] [] _ c_58_19 rfl ?_
    refine z_go 21 _ [.int (jn g)] _ c_58_20 rfl ?_
    refine z_go 22 _ [.int (jo none), .int (jn g)] _ c_58_21 rfl ?_
    refine z_ine 29 25 c_58_22 rfl (jn_m1 (by omega)) (fun h => h.elim) (fun _ => ?_)
    refine z_go 30 _ [.ref 16] _ c_58_29 rfl ?_
    refine z_getf (v := .ref 35) 33 c_58_30 rfl h16 rfl ?_
    refine z_getf (v := .ref 36) 36 c_58_33 rfl h35 rfl ?_
    refine z_go 37 _ [.int (jn g), .ref 36] _ c_58_36 rfl ?_
    refine z_aaldq 38 c_58_37 rfl h36 (by omega) ?_
    refine z_aret c_58_38 ?_
    exact ⟨rfl, rfl⟩
  · unfold sp_vis at hv
    cases dn <;> simp_all
theorem sp_vis_lt {dn : Bool} {ids : Nat → Nat} {x : Int32} {sz g : Nat} (h : sp_vis dn ids x sz = some g) : g < sz := by
  unfold sp_vis at h
  split at h
  · cases h
  · have := (sp_sl_some h).2.1
    omega
theorem t_atoms {d ty hc tf : Nat} {dn : Bool} {M : jx_M} (h16 : M.1 16 = xO ty hc tf dn) {sz li : Nat} {p ids : Nat → Nat} {G : Nat → GR} {x : Int32} (hS : jsh M p sz li ids G) (hsz : sz ≤ 12) : jZ (d + 2) 57 0 [some (.ref 16), some (.int x), none] [] M (jR (some (.int (match sp_vis dn ids x sz with | none => 0 | some g => jn (G g).1))) M) := by
  have hS0 := hS
  obtain ⟨h35, h36, h37, hp, hij, hG⟩ := hS
  cases hv : sp_vis dn ids x sz with
  | none =>
    refine z_go 1 _ [.ref 16] _ c_57_0 rfl ?_
    refine z_go 2 _ [.int x, .ref 16] _ c_57_1 rfl ?_
    refine z_callv 5 5 58 1 16 c_57_2 rfl ⟨Nat.le_of_ble_eq_true rfl, Nat.le_of_ble_eq_true rfl⟩ rfl h16 [.ref 16, .int x] rfl rfl [some (.ref 16), some (.int x), none] rfl rfl (t_vis0 h16 hS0 hsz hv) ?_
    show jZ _ _ _ _ [.null] _ _
    refine z_go 6 [some (.ref 16), some (.int x), some (.null)] [] _ c_57_5 rfl ?_
    refine z_go 7 _ [.null] _ c_57_6 rfl ?_
    refine z_go 10 _ [] _ c_57_7 rfl ?_
    refine z_go 11 _ [.int (jn 0)] _ c_57_10 rfl ?_
    refine z_go 18 _ [.int (jn 0)] _ c_57_11 rfl ?_
    refine z_iret c_57_18 ?_
    exact ⟨rfl, rfl⟩
  | some g =>
    dsimp only
    have hg := sp_vis_lt hv
    have hGg := (hG g (by omega)).1
    refine z_go 1 _ [.ref 16] _ c_57_0 rfl ?_
    refine z_go 2 _ [.int x, .ref 16] _ c_57_1 rfl ?_
    refine z_callv 5 5 58 1 16 c_57_2 rfl ⟨Nat.le_of_ble_eq_true rfl, Nat.le_of_ble_eq_true rfl⟩ rfl h16 [.ref 16, .int x] rfl rfl [some (.ref 16), some (.int x), none] rfl rfl (t_vis1 h16 hS0 hsz hv) ?_
    show jZ _ _ _ _ [.ref (p g)] _ _
    refine z_go 6 [some (.ref 16), some (.int x), some (.ref (p g))] [] _ c_57_5 rfl ?_
    refine z_go 7 _ [.ref (p g)] _ c_57_6 rfl ?_
    refine z_go 14 _ [] _ c_57_7 rfl ?_
    refine z_go 15 _ [.ref (p g)] _ c_57_14 rfl ?_
    refine z_getf (v := .int (jn ((G g).1))) 18 c_57_15 rfl hGg.1 rfl ?_
    refine z_iret c_57_18 ?_
    exact ⟨rfl, rfl⟩
theorem sp_has_k {x : Int32} {n : Nat} (hn : n < 2 ^ 31) (h : sp_has x n = true) : ∃ k, k < n ∧ x = jn k := by
  unfold sp_has at h
  have h := of_decide_eq_true h
  obtain ⟨k, hk, rfl⟩ := jn_nn h.1
  exact ⟨k, (jn_lt hk hn).mp h.2, rfl⟩
theorem t_atom_ {d ty hc tf : Nat} {dn : Bool} {M : jx_M} (h16 : M.1 16 = xO ty hc tf dn) {sz li : Nat} {p ids : Nat → Nat} {G : Nat → GR} {x : Int32} (hS : jsh M p sz li ids G) (hsz : sz ≤ 12) {y : Int32} (hn : ∀ g, g < sz → (G g).1 ≤ 10) : jZ (d + 2) 59 0 [some (.ref 16), some (.int x), some (.int y), none] [] M (jR (some (.int (match sp_vis dn ids x sz with | none => 0 | some g => if sp_has y (G g).1 = true then jn ((G g).2.2.1 y.toNatClampNeg) else 0))) M) := by
  have hS0 := hS
  obtain ⟨h35, h36, h37, hp, hij, hG⟩ := hS
  cases hv : sp_vis dn ids x sz with
  | none =>
    refine z_go 1 _ [.ref 16] _ c_59_0 rfl ?_
    refine z_go 2 _ [.int x, .ref 16] _ c_59_1 rfl ?_
    refine z_callv 5 5 58 1 16 c_59_2 rfl ⟨Nat.le_of_ble_eq_true rfl, Nat.le_of_ble_eq_true rfl⟩ rfl h16 [.ref 16, .int x] rfl rfl [some (.ref 16), some (.int x), none] rfl rfl (t_vis0 h16 hS0 hsz hv) ?_
    show jZ _ _ _ _ [.null] _ _
    refine z_go 6 [some (.ref 16), some (.int x), some (.int y), some (.null)] [] _ c_59_5 rfl ?_
    refine z_go 7 _ [.null] _ c_59_6 rfl ?_
    refine z_go 18 _ [] _ c_59_7 rfl ?_
    refine z_go 19 _ [.int (jn 0)] _ c_59_18 rfl ?_
    refine z_go 28 _ [.int (jn 0)] _ c_59_19 rfl ?_
    refine z_iret c_59_28 ?_
    exact ⟨rfl, rfl⟩
  | some g =>
    dsimp only
    have hg := sp_vis_lt hv
    have hGg := (hG g (by omega)).1
    refine z_go 1 _ [.ref 16] _ c_59_0 rfl ?_
    refine z_go 2 _ [.int x, .ref 16] _ c_59_1 rfl ?_
    refine z_callv 5 5 58 1 16 c_59_2 rfl ⟨Nat.le_of_ble_eq_true rfl, Nat.le_of_ble_eq_true rfl⟩ rfl h16 [.ref 16, .int x] rfl rfl [some (.ref 16), some (.int x), none] rfl rfl (t_vis1 h16 hS0 hsz hv) ?_
    show jZ _ _ _ _ [.ref (p g)] _ _
    have hng := hn g hg
    refine z_go 6 [some (.ref 16), some (.int x), some (.int y), some (.ref (p g))] [] _ c_59_5 rfl ?_
    refine z_go 7 _ [.ref (p g)] _ c_59_6 rfl ?_
    refine z_go 10 _ [] _ c_59_7 rfl ?_
    refine z_go 11 _ [.ref (p g)] _ c_59_10 rfl ?_
    refine z_go 12 _ [.int y, .ref (p g)] _ c_59_11 rfl ?_
    refine z_callv 15 0 3 1 (p g) c_59_12 rfl ⟨Nat.le_of_ble_eq_true rfl, Nat.le_of_ble_eq_true rfl⟩ rfl hGg.1 [.ref (p g), .int y] rfl rfl [some (.ref (p g)), some (.int y)] rfl rfl (t_has hGg) ?_
    show jZ _ _ _ _ [.int (jb (sp_has y (G g).1))] _ _
    refine z_ifne 22 18 c_59_15 rfl jb_t (fun h2 => ?_) (fun h2 => ?_)
    · refine z_go 19 _ [.int (jn 0)] _ c_59_18 rfl ?_
      refine z_go 28 _ [.int (jn 0)] _ c_59_19 rfl ?_
      refine z_iret c_59_28 ?_
      exact ⟨by rw [if_neg (by rw [h2]; decide)]; rfl, rfl⟩
    · have h3 : sp_has y (G g).1 = true := by cases hh : sp_has y (G g).1 <;> simp_all
      rw [if_pos h3]
      obtain ⟨k, hk, rfl⟩ := sp_has_k (by omega) h3
      refine z_go 23 _ [.ref (p g)] _ c_59_22 rfl ?_
      refine z_getf (v := .ref (p g + 1)) 26 c_59_23 rfl hGg.1 rfl ?_
      refine z_go 27 _ [.int (jn k), .ref (p g + 1)] _ c_59_26 rfl ?_
      refine z_iald 28 c_59_27 rfl hGg.2.1 (Or.inl rfl) (by omega) (by omega) ?_
      show jZ _ _ _ _ ([.int (jn (((G g).2.2.1) k))]) _ _
      refine z_iret c_59_28 ?_
      exact ⟨by rw [jn_cl (by omega)], rfl⟩
theorem t_bond_ {d ty hc tf : Nat} {dn : Bool} {M : jx_M} (h16 : M.1 16 = xO ty hc tf dn) {sz li : Nat} {p ids : Nat → Nat} {G : Nat → GR} {x : Int32} (hS : jsh M p sz li ids G) (hsz : sz ≤ 12) {y z : Int32} (hn : ∀ g, g < sz → (G g).1 ≤ 10) : jZ (d + 2) 60 0 [some (.ref 16), some (.int x), some (.int y), some (.int z), none] [] M (jR (some (.int (match sp_vis dn ids x sz with | none => 0 | some g => if sp_has y (G g).1 = true ∧ sp_has z (G g).1 = true then jn ((G g).2.2.2.1 (y.toNatClampNeg * 10 + z.toNatClampNeg)) else 0))) M) := by
  have hS0 := hS
  obtain ⟨h35, h36, h37, hp, hij, hG⟩ := hS
  cases hv : sp_vis dn ids x sz with
  | none =>
    refine z_go 1 _ [.ref 16] _ c_60_0 rfl ?_
    refine z_go 2 _ [.int x, .ref 16] _ c_60_1 rfl ?_
    refine z_callv 5 5 58 1 16 c_60_2 rfl ⟨Nat.le_of_ble_eq_true rfl, Nat.le_of_ble_eq_true rfl⟩ rfl h16 [.ref 16, .int x] rfl rfl [some (.ref 16), some (.int x), none] rfl rfl (t_vis0 h16 hS0 hsz hv) ?_
    show jZ _ _ _ _ [.null] _ _
    refine z_go 7 [some (.ref 16), some (.int x), some (.int y), some (.int z), some (.null)] [] _ c_60_5 rfl ?_
    refine z_go 9 _ [.null] _ c_60_7 rfl ?_
    refine z_go 30 _ [] _ c_60_9 rfl ?_
    refine z_go 31 _ [.int (jn 0)] _ c_60_30 rfl ?_
    refine z_go 41 _ [.int (jn 0)] _ c_60_31 rfl ?_
    refine z_iret c_60_41 ?_
    exact ⟨rfl, rfl⟩
  | some g =>
    dsimp only
    have hg := sp_vis_lt hv
    have hGg := (hG g (by omega)).1
    refine z_go 1 _ [.ref 16] _ c_60_0 rfl ?_
    refine z_go 2 _ [.int x, .ref 16] _ c_60_1 rfl ?_
    refine z_callv 5 5 58 1 16 c_60_2 rfl ⟨Nat.le_of_ble_eq_true rfl, Nat.le_of_ble_eq_true rfl⟩ rfl h16 [.ref 16, .int x] rfl rfl [some (.ref 16), some (.int x), none] rfl rfl (t_vis1 h16 hS0 hsz hv) ?_
    show jZ _ _ _ _ [.ref (p g)] _ _
    have hng := hn g hg
    refine z_go 7 [some (.ref 16), some (.int x), some (.int y), some (.int z), some (.ref (p g))] [] _ c_60_5 rfl ?_
    refine z_go 9 _ [.ref (p g)] _ c_60_7 rfl ?_
    refine z_go 12 _ [] _ c_60_9 rfl ?_
    refine z_go 14 _ [.ref (p g)] _ c_60_12 rfl ?_
    refine z_go 15 _ [.int y, .ref (p g)] _ c_60_14 rfl ?_
    refine z_callv 18 0 3 1 (p g) c_60_15 rfl ⟨Nat.le_of_ble_eq_true rfl, Nat.le_of_ble_eq_true rfl⟩ rfl hGg.1 [.ref (p g), .int y] rfl rfl [some (.ref (p g)), some (.int y)] rfl rfl (t_has hGg) ?_
    show jZ _ _ _ _ [.int (jb (sp_has y (G g).1))] _ _
    refine z_ifeq 30 21 c_60_18 rfl jb_t (fun h2 => ?_) (fun h2 => ?_)
    · refine z_go 31 _ [.int (jn 0)] _ c_60_30 rfl ?_
      refine z_go 41 _ [.int (jn 0)] _ c_60_31 rfl ?_
      refine z_iret c_60_41 ?_
      exact ⟨by rw [if_neg (fun q => by rw [h2] at q; cases q.1)]; rfl, rfl⟩
    · have h3 : sp_has y (G g).1 = true := by cases hh : sp_has y (G g).1 <;> simp_all
      refine z_go 23 _ [.ref (p g)] _ c_60_21 rfl ?_
      refine z_go 24 _ [.int z, .ref (p g)] _ c_60_23 rfl ?_
      refine z_callv 27 0 3 1 (p g) c_60_24 rfl ⟨Nat.le_of_ble_eq_true rfl, Nat.le_of_ble_eq_true rfl⟩ rfl hGg.1 [.ref (p g), .int z] rfl rfl [some (.ref (p g)), some (.int z)] rfl rfl (t_has hGg) ?_
      show jZ _ _ _ _ [.int (jb (sp_has z (G g).1))] _ _
      refine z_ifne 34 30 c_60_27 rfl jb_t (fun h4 => ?_) (fun h4 => ?_)
      · refine z_go 31 _ [.int (jn 0)] _ c_60_30 rfl ?_
        refine z_go 41 _ [.int (jn 0)] _ c_60_31 rfl ?_
        refine z_iret c_60_41 ?_
        exact ⟨by rw [if_neg (fun q => by rw [h4] at q; cases q.2)]; rfl, rfl⟩
      · have h5 : sp_has z (G g).1 = true := by cases hh : sp_has z (G g).1 <;> simp_all
        rw [if_pos ⟨h3, h5⟩]
        obtain ⟨k, hk, rfl⟩ := sp_has_k (by omega) h3
        obtain ⟨l, hl, rfl⟩ := sp_has_k (by omega) h5
        refine z_go 36 _ [.ref (p g)] _ c_60_34 rfl ?_
        refine z_go 37 _ [.int (jn k), .ref (p g)] _ c_60_36 rfl ?_
        refine z_go 38 _ [.int (jn l), .int (jn k), .ref (p g)] _ c_60_37 rfl ?_
        refine z_callv 41 0 4 2 (p g) c_60_38 rfl ⟨Nat.le_of_ble_eq_true rfl, Nat.le_of_ble_eq_true rfl⟩ rfl hGg.1 [.ref (p g), .int (jn k), .int (jn l)] rfl rfl [some (.ref (p g)), some (.int (jn k)), some (.int (jn l))] rfl rfl (t_kind hGg (by omega)) ?_
        show jZ _ _ _ _ [.int (jn ((G g).2.2.2.1 (k * 10 + l)))] _ _
        refine z_iret c_60_41 ?_
        exact ⟨by rw [jn_cl (by omega), jn_cl (by omega)], rfl⟩
