/-! THE REFERENCE: type, recover, remove; printed by wip/whole/p75.py -/
theorem c_71_0 : jx_cd 71 0 = some (o_ald 0 1) := rfl
theorem c_71_1 : jx_cd 71 1 = some (o_push (.int 0) 1) := rfl
theorem c_71_2 : jx_cd 71 2 = some (o_putf 6 0 jx_okI) := rfl
theorem c_71_5 : jx_cd 71 5 = some (o_push (.int 0) 1) := rfl
theorem c_71_6 : jx_cd 71 6 = some (o_ist 3 1) := rfl
theorem c_71_7 : jx_cd 71 7 = some (o_push (.int 1) 1) := rfl
theorem c_71_8 : jx_cd 71 8 = some (o_ist 4 2) := rfl
theorem c_71_10 : jx_cd 71 10 = some (o_push (.int 56) 2) := rfl
theorem c_71_12 : jx_cd 71 12 = some (o_ist 5 2) := rfl
theorem c_71_14 : jx_cd 71 14 = some (o_ild 5 2) := rfl
theorem c_71_16 : jx_cd 71 16 = some (o_iflt 80) := rfl
theorem c_71_19 : jx_cd 71 19 = some (o_lld 1 1) := rfl
theorem c_71_20 : jx_cd 71 20 = some (o_ild 5 2) := rfl
theorem c_71_22 : jx_cd 71 22 = some (o_shl fun x y => (x.toUInt64 >>> (y.toInt64.toUInt64 &&& Int64.toUInt64 63)).toInt64) := rfl
theorem c_71_23 : jx_cd 71 23 = some (o_l2i) := rfl
theorem c_71_24 : jx_cd 71 24 = some (o_push (.int 255) 3) := rfl
theorem c_71_27 : jx_cd 71 27 = some (o_bin fun x y => x &&& y) := rfl
theorem c_71_28 : jx_cd 71 28 = some (o_ist 6 2) := rfl
theorem c_71_30 : jx_cd 71 30 = some (o_ild 4 2) := rfl
theorem c_71_32 : jx_cd 71 32 = some (o_ifeq 58) := rfl
theorem c_71_35 : jx_cd 71 35 = some (o_ild 6 2) := rfl
theorem c_71_37 : jx_cd 71 37 = some (o_ifeq 54) := rfl
theorem c_71_40 : jx_cd 71 40 = some (o_ild 6 2) := rfl
theorem c_71_42 : jx_cd 71 42 = some (o_push (.int 33) 2) := rfl
theorem c_71_44 : jx_cd 71 44 = some (o_ilt 58) := rfl
theorem c_71_47 : jx_cd 71 47 = some (o_ild 6 2) := rfl
theorem c_71_49 : jx_cd 71 49 = some (o_push (.int 126) 2) := rfl
theorem c_71_51 : jx_cd 71 51 = some (o_igt 58) := rfl
theorem c_71_54 : jx_cd 71 54 = some (o_push (.int 1) 1) := rfl
theorem c_71_55 : jx_cd 71 55 = some (o_goto 59) := rfl
theorem c_71_58 : jx_cd 71 58 = some (o_push (.int 0) 1) := rfl
theorem c_71_59 : jx_cd 71 59 = some (o_ist 4 2) := rfl
theorem c_71_61 : jx_cd 71 61 = some (o_ild 6 2) := rfl
theorem c_71_63 : jx_cd 71 63 = some (o_ifne 70) := rfl
theorem c_71_66 : jx_cd 71 66 = some (o_ild 3 1) := rfl
theorem c_71_67 : jx_cd 71 67 = some (o_goto 73) := rfl
theorem c_71_70 : jx_cd 71 70 = some (o_ild 3 1) := rfl
theorem c_71_71 : jx_cd 71 71 = some (o_push (.int 1) 1) := rfl
theorem c_71_72 : jx_cd 71 72 = some (o_bin fun x y => x + y) := rfl
theorem c_71_73 : jx_cd 71 73 = some (o_ist 3 1) := rfl
theorem c_71_74 : jx_cd 71 74 = some (o_iinc 5 (-8)) := rfl
theorem c_71_77 : jx_cd 71 77 = some (o_goto 14) := rfl
theorem c_71_80 : jx_cd 71 80 = some (o_ild 4 2) := rfl
theorem c_71_82 : jx_cd 71 82 = some (o_ifeq 96) := rfl
theorem c_71_85 : jx_cd 71 85 = some (o_ald 0 1) := rfl
theorem c_71_86 : jx_cd 71 86 = some (o_getf 6 1) := rfl
theorem c_71_89 : jx_cd 71 89 = some (o_ild 3 1) := rfl
theorem c_71_90 : jx_cd 71 90 = some (o_bin fun x y => x + y) := rfl
theorem c_71_91 : jx_cd 71 91 = some (o_push (.int 40) 2) := rfl
theorem c_71_93 : jx_cd 71 93 = some (o_ile 98) := rfl
theorem c_71_96 : jx_cd 71 96 = some (o_push (.int 0) 1) := rfl
theorem c_71_97 : jx_cd 71 97 = some (o_zret) := rfl
theorem c_71_98 : jx_cd 71 98 = some (o_push (.int 56) 2) := rfl
theorem c_71_100 : jx_cd 71 100 = some (o_ist 5 2) := rfl
theorem c_71_102 : jx_cd 71 102 = some (o_ild 5 2) := rfl
theorem c_71_104 : jx_cd 71 104 = some (o_iflt 150) := rfl
theorem c_71_107 : jx_cd 71 107 = some (o_lld 1 1) := rfl
theorem c_71_108 : jx_cd 71 108 = some (o_ild 5 2) := rfl
theorem c_71_110 : jx_cd 71 110 = some (o_shl fun x y => (x.toUInt64 >>> (y.toInt64.toUInt64 &&& Int64.toUInt64 63)).toInt64) := rfl
theorem c_71_111 : jx_cd 71 111 = some (o_l2i) := rfl
theorem c_71_112 : jx_cd 71 112 = some (o_push (.int 255) 3) := rfl
theorem c_71_115 : jx_cd 71 115 = some (o_bin fun x y => x &&& y) := rfl
theorem c_71_116 : jx_cd 71 116 = some (o_ist 6 2) := rfl
theorem c_71_118 : jx_cd 71 118 = some (o_ild 6 2) := rfl
theorem c_71_120 : jx_cd 71 120 = some (o_ifeq 144) := rfl
theorem c_71_123 : jx_cd 71 123 = some (o_ald 0 1) := rfl
theorem c_71_124 : jx_cd 71 124 = some (o_getf 6 2) := rfl
theorem c_71_127 : jx_cd 71 127 = some (o_ald 0 1) := rfl
theorem c_71_128 : jx_cd 71 128 = some (o_getf 6 1) := rfl
theorem c_71_131 : jx_cd 71 131 = some (o_ild 6 2) := rfl
theorem c_71_133 : jx_cd 71 133 = some (o_iast) := rfl
theorem c_71_134 : jx_cd 71 134 = some (o_ald 0 1) := rfl
theorem c_71_135 : jx_cd 71 135 = some (o_dup) := rfl
theorem c_71_136 : jx_cd 71 136 = some (o_getf 6 1) := rfl
theorem c_71_139 : jx_cd 71 139 = some (o_push (.int 1) 1) := rfl
theorem c_71_140 : jx_cd 71 140 = some (o_bin fun x y => x + y) := rfl
theorem c_71_141 : jx_cd 71 141 = some (o_putf 6 1 jx_okI) := rfl
theorem c_71_144 : jx_cd 71 144 = some (o_iinc 5 (-8)) := rfl
theorem c_71_147 : jx_cd 71 147 = some (o_goto 102) := rfl
theorem c_71_150 : jx_cd 71 150 = some (o_push (.int 1) 1) := rfl
theorem c_71_151 : jx_cd 71 151 = some (o_zret) := rfl
theorem c_74_0 : jx_cd 74 0 = some (o_ald 0 1) := rfl
theorem c_74_1 : jx_cd 74 1 = some (o_ild 1 1) := rfl
theorem c_74_2 : jx_cd 74 2 = some (o_putf 6 0 jx_okI) := rfl
theorem c_74_5 : jx_cd 74 5 = some (o_push (.int 0) 1) := rfl
theorem c_74_6 : jx_cd 74 6 = some (o_iret) := rfl
theorem c_104_0 : jx_cd 104 0 = some (o_ald 0 1) := rfl
theorem c_104_1 : jx_cd 104 1 = some (o_getf 6 28) := rfl
theorem c_104_4 : jx_cd 104 4 = some (o_ifeq 13) := rfl
theorem c_104_7 : jx_cd 104 7 = some (o_ald 0 1) := rfl
theorem c_104_8 : jx_cd 104 8 = some (o_push (.int 1) 1) := rfl
theorem c_104_9 : jx_cd 104 9 = some (o_callv 6 74 1) := rfl
theorem c_104_12 : jx_cd 104 12 = some (o_iret) := rfl
theorem c_104_13 : jx_cd 104 13 = some (o_ald 0 1) := rfl
theorem c_104_14 : jx_cd 104 14 = some (o_push (.int 0) 1) := rfl
theorem c_104_15 : jx_cd 104 15 = some (o_putf 6 0 jx_okI) := rfl
theorem c_104_18 : jx_cd 104 18 = some (o_ald 0 1) := rfl
theorem c_104_19 : jx_cd 104 19 = some (o_ild 1 1) := rfl
theorem c_104_20 : jx_cd 104 20 = some (o_callv 6 99 1) := rfl
theorem c_104_23 : jx_cd 104 23 = some (o_ifge 28) := rfl
theorem c_104_26 : jx_cd 104 26 = some (o_push (.int 0) 1) := rfl
theorem c_104_27 : jx_cd 104 27 = some (o_iret) := rfl
theorem c_104_28 : jx_cd 104 28 = some (o_ald 0 1) := rfl
theorem c_104_29 : jx_cd 104 29 = some (o_push (.int 2) 1) := rfl
theorem c_104_30 : jx_cd 104 30 = some (o_ild 1 1) := rfl
theorem c_104_31 : jx_cd 104 31 = some (o_callv 6 97 2) := rfl
theorem c_104_34 : jx_cd 104 34 = some (o_ifeq 41) := rfl
theorem c_104_37 : jx_cd 104 37 = some (o_push (.int 1) 1) := rfl
theorem c_104_38 : jx_cd 104 38 = some (o_goto 43) := rfl
theorem c_104_41 : jx_cd 104 41 = some (o_push (.int (-2)) 2) := rfl
theorem c_104_43 : jx_cd 104 43 = some (o_iret) := rfl
theorem c_106_0 : jx_cd 106 0 = some (o_ald 0 1) := rfl
theorem c_106_1 : jx_cd 106 1 = some (o_push (.int 0) 1) := rfl
theorem c_106_2 : jx_cd 106 2 = some (o_putf 6 0 jx_okI) := rfl
theorem c_106_5 : jx_cd 106 5 = some (o_ald 0 1) := rfl
theorem c_106_6 : jx_cd 106 6 = some (o_getf 6 28) := rfl
theorem c_106_9 : jx_cd 106 9 = some (o_ifne 14) := rfl
theorem c_106_12 : jx_cd 106 12 = some (o_push (.int (-1)) 1) := rfl
theorem c_106_13 : jx_cd 106 13 = some (o_iret) := rfl
theorem c_106_14 : jx_cd 106 14 = some (o_ald 0 1) := rfl
theorem c_106_15 : jx_cd 106 15 = some (o_push (.int 0) 1) := rfl
theorem c_106_16 : jx_cd 106 16 = some (o_putf 6 28 jx_okZ) := rfl
theorem c_106_19 : jx_cd 106 19 = some (o_ald 0 1) := rfl
theorem c_106_20 : jx_cd 106 20 = some (o_push (.int 0) 1) := rfl
theorem c_106_21 : jx_cd 106 21 = some (o_putf 6 38 jx_okI) := rfl
theorem c_106_24 : jx_cd 106 24 = some (o_ald 0 1) := rfl
theorem c_106_25 : jx_cd 106 25 = some (o_getf 6 29) := rfl
theorem c_106_28 : jx_cd 106 28 = some (o_ifne 33) := rfl
theorem c_106_31 : jx_cd 106 31 = some (o_push (.int 0) 1) := rfl
theorem c_106_32 : jx_cd 106 32 = some (o_iret) := rfl
theorem c_106_33 : jx_cd 106 33 = some (o_ald 0 1) := rfl
theorem c_106_34 : jx_cd 106 34 = some (o_getf 6 31) := rfl
theorem c_106_37 : jx_cd 106 37 = some (o_ifne 44) := rfl
theorem c_106_40 : jx_cd 106 40 = some (o_ald 0 1) := rfl
theorem c_106_41 : jx_cd 106 41 = some (o_callv 6 98 0) := rfl
theorem c_106_44 : jx_cd 106 44 = some (o_ald 0 1) := rfl
theorem c_106_45 : jx_cd 106 45 = some (o_push (.int 0) 1) := rfl
theorem c_106_46 : jx_cd 106 46 = some (o_putf 6 29 jx_okI) := rfl
theorem c_106_49 : jx_cd 106 49 = some (o_push (.int 1) 1) := rfl
theorem c_106_50 : jx_cd 106 50 = some (o_iret) := rfl
theorem t_mty_1 {d : Nat} {e : Int64} {M : jx_M} {post : jx_R → jx_M → Prop} : ∀ {k m : Nat} {ft : Bool} {z6 : Option Value}, k < 9 → (∀ z5 z6, jZ d 71 80 [some (.ref 92), some (.long e), none, some (.int (jn (m + sp_tn e k))), some (.int (jb (ft && sp_tok e k))), z5, z6] [] M post) → jZ d 71 14 [some (.ref 92), some (.long e), none, some (.int (jn m)), some (.int (jb ft)), some (.int (jn (8 * k) - jn 8)), z6] [] M post := by
  intro k
  induction k with
  | zero =>
    intro m ft z6 hk0 hk
    refine z_go 16 _ [.int (jn (8 * 0) - jn 8)] _ c_71_14 rfl ?_
    refine z_iflt 80 19 c_71_16 rfl (sh_lt (by decide)) (fun hs => ?_) (fun hs => ?_)
    · rw [show (ft && sp_tok e 0) = ft by cases ft <;> rfl] at hk
      exact hk _ _
    · exact absurd rfl hs
  | succ k ih =>
    intro m ft z6 hk0 hk
    have hb := bt_lt e (k + 1)
    refine z_go 16 _ [.int (jn (8 * (k + 1)) - jn 8)] _ c_71_14 rfl ?_
    refine z_iflt 80 19 c_71_16 rfl (sh_lt (by omega)) (fun hs => ?_) (fun hs => ?_)
    · omega
    · refine z_go 20 _ [.long e] _ c_71_19 rfl ?_
      refine z_go 22 _ [.int (jn (8 * (k + 1)) - jn 8), .long e] _ c_71_20 rfl ?_
      refine z_go 23 _ [.long ((fun (x : Int64) (y : Int32) => (x.toUInt64 >>> (y.toInt64.toUInt64 &&& Int64.toUInt64 63)).toInt64) e ((jn (8 * (k + 1)) - jn 8)))] _ c_71_22 rfl ?_
      refine z_go 24 _ [.int (((fun (x : Int64) (y : Int32) => (x.toUInt64 >>> (y.toInt64.toUInt64 &&& Int64.toUInt64 63)).toInt64) e ((jn (8 * (k + 1)) - jn 8))).toInt32)] _ c_71_23 rfl ?_
      refine z_go 27 _ [.int (jn 255), .int (((fun (x : Int64) (y : Int32) => (x.toUInt64 >>> (y.toInt64.toUInt64 &&& Int64.toUInt64 63)).toInt64) e ((jn (8 * (k + 1)) - jn 8))).toInt32)] _ c_71_24 rfl ?_
      refine z_go 28 _ [.int (((((fun (x : Int64) (y : Int32) => (x.toUInt64 >>> (y.toInt64.toUInt64 &&& Int64.toUInt64 63)).toInt64) e ((jn (8 * (k + 1)) - jn 8))).toInt32)) &&& (jn 255))] _ c_71_27 rfl ?_
      refine z_v (bt_eq e (k + 1)) ?_
      refine z_go 30 [some (.ref 92), some (.long e), none, some (.int (jn m)), some (.int (jb ft)), some (.int (jn (8 * (k + 1)) - jn 8)), some (.int (jn (bt e (k + 1))))] [] _ c_71_28 rfl ?_
      refine z_cut 59 [some (.ref 92), some (.long e), none, some (.int (jn m)), some (.int (jb ft)), some (.int (jn (8 * (k + 1)) - jn 8)), some (.int (jn (bt e (k + 1))))] [.int (jb (ft && decide (bt e (k + 1) = 0 ∨ 33 ≤ bt e (k + 1) ∧ bt e (k + 1) ≤ 126)))] (fun kc => ?_) ?_
      · refine z_go 32 _ [.int (jb ft)] _ c_71_30 rfl ?_
        refine z_ifeq 58 35 c_71_32 rfl jb_t (fun g0 => ?_) (fun g0 => ?_)
        · refine z_go 59 _ [.int (jn 0)] _ c_71_58 rfl ?_
          exact z_v (by rw [g0]; rfl) kc
        · have g0t : ft = true := by cases ft <;> simp_all
          refine z_go 37 _ [.int (jn (bt e (k + 1)))] _ c_71_35 rfl ?_
          refine z_ifeq 54 40 c_71_37 rfl (jn_z (by omega)) (fun g1 => ?_) (fun g1 => ?_)
          · refine z_go 55 _ [.int (jn 1)] _ c_71_54 rfl ?_
            refine z_go 59 _ [.int (jn 1)] _ c_71_55 rfl ?_
            exact z_v (by rw [g0t, decide_eq_true (by omega)]; rfl) kc
          · refine z_go 42 _ [.int (jn (bt e (k + 1)))] _ c_71_40 rfl ?_
            refine z_go 44 _ [.int (jn 33), .int (jn (bt e (k + 1)))] _ c_71_42 rfl ?_
            refine z_ilt 58 47 c_71_44 rfl (by omega) (by omega) (fun g2 => ?_) (fun g2 => ?_)
            · refine z_go 59 _ [.int (jn 0)] _ c_71_58 rfl ?_
              exact z_v (by rw [decide_eq_false (by omega), Bool.and_false]; rfl) kc
            · refine z_go 49 _ [.int (jn (bt e (k + 1)))] _ c_71_47 rfl ?_
              refine z_go 51 _ [.int (jn 126), .int (jn (bt e (k + 1)))] _ c_71_49 rfl ?_
              refine z_igt 58 54 c_71_51 rfl (by omega) (by omega) (fun g3 => ?_) (fun g3 => ?_)
              · refine z_go 59 _ [.int (jn 0)] _ c_71_58 rfl ?_
                exact z_v (by rw [decide_eq_false (by omega), Bool.and_false]; rfl) kc
              · refine z_go 55 _ [.int (jn 1)] _ c_71_54 rfl ?_
                refine z_go 59 _ [.int (jn 1)] _ c_71_55 rfl ?_
                exact z_v (by rw [g0t, decide_eq_true (by omega)]; rfl) kc
      refine z_go 61 [some (.ref 92), some (.long e), none, some (.int (jn m)), some (.int (jb (ft && decide (bt e (k + 1) = 0 ∨ 33 ≤ bt e (k + 1) ∧ bt e (k + 1) ≤ 126)))), some (.int (jn (8 * (k + 1)) - jn 8)), some (.int (jn (bt e (k + 1))))] [] _ c_71_59 rfl ?_
      refine z_cut 73 [some (.ref 92), some (.long e), none, some (.int (jn m)), some (.int (jb (ft && decide (bt e (k + 1) = 0 ∨ 33 ≤ bt e (k + 1) ∧ bt e (k + 1) ≤ 126)))), some (.int (jn (8 * (k + 1)) - jn 8)), some (.int (jn (bt e (k + 1))))] [.int (jn (m + (if bt e (k + 1) = 0 then 0 else 1)))] (fun kc => ?_) ?_
      · refine z_go 63 _ [.int (jn (bt e (k + 1)))] _ c_71_61 rfl ?_
        refine z_ifne 70 66 c_71_63 rfl (jn_z (by omega)) (fun g0 => ?_) (fun g0 => ?_)
        · refine z_go 67 _ [.int (jn m)] _ c_71_66 rfl ?_
          refine z_go 73 _ [.int (jn m)] _ c_71_67 rfl ?_
          exact z_v (by rw [if_pos g0, Nat.add_zero]) kc
        · refine z_go 71 _ [.int (jn m)] _ c_71_70 rfl ?_
          refine z_go 72 _ [.int (jn 1), .int (jn m)] _ c_71_71 rfl ?_
          refine z_go 73 _ [.int ((jn m) + (jn 1))] _ c_71_72 rfl ?_
          refine z_v (jn_add _ _) ?_
          exact z_v (by rw [if_neg g0]) kc
      refine z_go 74 [some (.ref 92), some (.long e), none, some (.int (jn (m + (if bt e (k + 1) = 0 then 0 else 1)))), some (.int (jb (ft && decide (bt e (k + 1) = 0 ∨ 33 ≤ bt e (k + 1) ∧ bt e (k + 1) ≤ 126)))), some (.int (jn (8 * (k + 1)) - jn 8)), some (.int (jn (bt e (k + 1))))] [] _ c_71_73 rfl ?_
      refine z_iinc 77 [some (.ref 92), some (.long e), none, some (.int (jn (m + (if bt e (k + 1) = 0 then 0 else 1)))), some (.int (jb (ft && decide (bt e (k + 1) = 0 ∨ 33 ≤ bt e (k + 1) ∧ bt e (k + 1) ≤ 126)))), some (.int ((jn (8 * (k + 1)) - jn 8) + -8)), some (.int (jn (bt e (k + 1))))] c_71_74 rfl rfl rfl rfl ?_
      refine z_go 14 _ [] _ c_71_77 rfl ?_
      rw [sh_st (by omega)]
      refine ih (by omega) (fun z5 z6 => ?_)
      rw [show (m + (if bt e (k + 1) = 0 then 0 else 1) + sp_tn e k) = m + sp_tn e (k + 1) by rw [sp_tn]; omega, show ((ft && decide (bt e (k + 1) = 0 ∨ 33 ≤ bt e (k + 1) ∧ bt e (k + 1) ≤ 126)) && sp_tok e k) = (ft && sp_tok e (k + 1)) by rw [sp_tok, Bool.and_assoc]]
      exact hk z5 z6
theorem t_mty_2 {d : Nat} {th ct li fl lg li2 ss fd : Nat} {dn dn2 : Bool} {at_ n : Nat} {gd : Bool} {e : Int64} {y3 y4 : Int32} : ∀ {k ln : Nat} {tx : Nat → Nat} {z6 : Option Value} {M : jx_M}, k < 9 → ln + sp_tn e k ≤ 40 → M.1 92 = mW (th, ct, li, fl, dn, lg, li2, dn2, ss, fd) ln at_ n gd → M.1 93 = .inl (0, 40, .inl (ja tx)) → jZ d 71 102 [some (.ref 92), some (.long e), none, some (.int y3), some (.int y4), some (.int (jn (8 * k) - jn 8)), z6] [] M (jV (some (.int (jb true))) fun M' => M'.1 92 = mW (th, ct, li, fl, dn, lg, li2, dn2, ss, fd) (sp_ap e k (ln, tx)).1 at_ n gd ∧ M'.1 93 = .inl (0, 40, .inl (ja (sp_ap e k (ln, tx)).2)) ∧ sm 92 93 M M') := by
  intro k
  induction k with
  | zero =>
    intro ln tx z6 M hk hn h92 h93
    refine z_go 104 _ [.int (jn (8 * 0) - jn 8)] _ c_71_102 rfl ?_
    refine z_iflt 150 107 c_71_104 rfl (sh_lt (by decide)) (fun hs => ?_) (fun hs => ?_)
    · refine z_go 151 _ [.int (jn 1)] _ c_71_150 rfl ?_
      refine z_zret (b := true) c_71_151 ?_
      exact ⟨rfl, h92, h93, sm_r _ _ M⟩
    · exact absurd rfl hs
  | succ k ih =>
    intro ln tx z6 M hk hn h92 h93
    have hb := bt_lt e (k + 1)
    refine z_go 104 _ [.int (jn (8 * (k + 1)) - jn 8)] _ c_71_102 rfl ?_
    refine z_iflt 150 107 c_71_104 rfl (sh_lt (by omega)) (fun hs => ?_) (fun hs => ?_)
    · omega
    · refine z_go 108 _ [.long e] _ c_71_107 rfl ?_
      refine z_go 110 _ [.int (jn (8 * (k + 1)) - jn 8), .long e] _ c_71_108 rfl ?_
      refine z_go 111 _ [.long ((fun (x : Int64) (y : Int32) => (x.toUInt64 >>> (y.toInt64.toUInt64 &&& Int64.toUInt64 63)).toInt64) e ((jn (8 * (k + 1)) - jn 8)))] _ c_71_110 rfl ?_
      refine z_go 112 _ [.int (((fun (x : Int64) (y : Int32) => (x.toUInt64 >>> (y.toInt64.toUInt64 &&& Int64.toUInt64 63)).toInt64) e ((jn (8 * (k + 1)) - jn 8))).toInt32)] _ c_71_111 rfl ?_
      refine z_go 115 _ [.int (jn 255), .int (((fun (x : Int64) (y : Int32) => (x.toUInt64 >>> (y.toInt64.toUInt64 &&& Int64.toUInt64 63)).toInt64) e ((jn (8 * (k + 1)) - jn 8))).toInt32)] _ c_71_112 rfl ?_
      refine z_go 116 _ [.int (((((fun (x : Int64) (y : Int32) => (x.toUInt64 >>> (y.toInt64.toUInt64 &&& Int64.toUInt64 63)).toInt64) e ((jn (8 * (k + 1)) - jn 8))).toInt32)) &&& (jn 255))] _ c_71_115 rfl ?_
      refine z_v (bt_eq e (k + 1)) ?_
      refine z_go 118 [some (.ref 92), some (.long e), none, some (.int y3), some (.int y4), some (.int (jn (8 * (k + 1)) - jn 8)), some (.int (jn (bt e (k + 1))))] [] _ c_71_116 rfl ?_
      refine z_go 120 _ [.int (jn (bt e (k + 1)))] _ c_71_118 rfl ?_
      refine z_ifeq 144 123 c_71_120 rfl (jn_z (by omega)) (fun h1 => ?_) (fun h1 => ?_)
      · refine z_iinc 147 [some (.ref 92), some (.long e), none, some (.int y3), some (.int y4), some (.int ((jn (8 * (k + 1)) - jn 8) + -8)), some (.int (jn (bt e (k + 1))))] c_71_144 rfl rfl rfl rfl ?_
        refine z_go 102 _ [] _ c_71_147 rfl ?_
        rw [sh_st (by omega)]
        have e1 : sp_ap e (k + 1) (ln, tx) = sp_ap e k (ln, tx) := by rw [sp_ap, if_pos h1]
        rw [e1]
        have e2 : sp_tn e (k + 1) = 0 + sp_tn e k := by rw [sp_tn, if_pos h1]
        exact (ih (M := M) (by omega) (by omega) h92 h93).mono fun r M1 q => ⟨q.1, q.2.1, q.2.2.1, q.2.2.2⟩
      · have e0 : sp_tn e (k + 1) = 1 + sp_tn e k := by rw [sp_tn, if_neg h1]
        refine z_go 124 _ [.ref 92] _ c_71_123 rfl ?_
        refine z_getf (v := .ref 93) 127 c_71_124 rfl h92 rfl ?_
        refine z_go 128 _ [.ref 92, .ref 93] _ c_71_127 rfl ?_
        refine z_getf (v := .int (jn ln)) 131 c_71_128 rfl h92 rfl ?_
        refine z_go 133 _ [.int (jn (bt e (k + 1))), .int (jn ln), .ref 93] _ c_71_131 rfl ?_
        refine z_iast (M' := jm [(93, .inl (0, 40, .inl (ja (nu tx ln (bt e (k + 1))))))] M) 134 c_71_133 rfl h93 (by omega) (by omega) (by rw [ja_upd]; exact rfl) ?_
        refine z_go 135 _ [.ref 92] _ c_71_134 rfl ?_
        refine z_go 136 _ [.ref 92, .ref 92] _ c_71_135 rfl ?_
        refine z_getf (v := .int (jn ln)) 139 c_71_136 rfl h92 rfl ?_
        refine z_go 140 _ [.int (jn 1), .int (jn ln), .ref 92] _ c_71_139 rfl ?_
        refine z_go 141 _ [.int ((jn ln) + (jn 1)), .ref 92] _ c_71_140 rfl ?_
        refine z_v (jn_add _ _) ?_
        refine z_putf (M' := jm [(92, mO th (ln + 1) at_ n gd ct li fl dn lg li2 dn2 ss fd), (93, .inl (0, 40, .inl (ja (nu tx ln (bt e (k + 1))))))] M) 144 c_71_141 rfl h92 (rfl) (Nat.le_of_ble_eq_true rfl) rfl ?_
        refine z_iinc 147 [some (.ref 92), some (.long e), none, some (.int y3), some (.int y4), some (.int ((jn (8 * (k + 1)) - jn 8) + -8)), some (.int (jn (bt e (k + 1))))] c_71_144 rfl rfl rfl rfl ?_
        refine z_go 102 _ [] _ c_71_147 rfl ?_
        rw [sh_st (by omega)]
        have e1 : sp_ap e (k + 1) (ln, tx) = sp_ap e k (ln + 1, nu tx ln (bt e (k + 1))) := by rw [sp_ap, if_neg h1]
        rw [e1]
        have e2 : sp_tn e (k + 1) = 1 + sp_tn e k := by rw [sp_tn, if_neg h1]
        exact (ih (M := jm [(92, mO th (ln + 1) at_ n gd ct li fl dn lg li2 dn2 ss fd), (93, .inl (0, 40, .inl (ja (nu tx ln (bt e (k + 1))))))] M) (by omega) (by omega) rfl rfl).mono fun r M1 q => ⟨q.1, q.2.1, q.2.2.1, (sm_jm rfl).tr (q.2.2.2)⟩
theorem t_mtype {d : Nat} {th ct li fl lg li2 ss fd : Nat} {dn dn2 : Bool} {tx : Nat → Nat} {ln : Nat} {ids szs : Nat → Nat} {E : Nat → MA} {al : Nat → Nat} {S : Nat → MA} {sb fnd : Nat → Nat} {M : jx_M} {e : Int64} (hI : mI M (th, ct, li, fl, dn, lg, li2, dn2, ss, fd) tx ln ids szs E al S sb fnd) (hln : ln ≤ 40) : jZ d 71 0 [some (.ref 92), some (.long e), none, none, none, none, none] [] M (jV (some (.int (jb (sp_ty e (ln, tx)).1))) fun M' => mI M' (0, ct, li, fl, dn, lg, li2, dn2, ss, fd) ((sp_ty e (ln, tx)).2.2) ((sp_ty e (ln, tx)).2.1) ids szs E al S sb fnd ∧ sm 92 118 M M') := by
  have hI0 := hI
  obtain ⟨⟨at_, n, gd, A, bm, bk, oa, ol, H⟩, hK, hS, hX, h118, hal, hsb⟩ := hI
  have h92 := H.1
  have h93 := H.2.1
  refine z_go 1 _ [.ref 92] _ c_71_0 rfl ?_
  refine z_go 2 _ [.int (jn 0), .ref 92] _ c_71_1 rfl ?_
  refine z_putf (M' := jm [(92, mO 0 ln at_ n gd ct li fl dn lg li2 dn2 ss fd)] M) 5 c_71_2 rfl h92 (rfl) (Nat.le_of_ble_eq_true rfl) rfl ?_
  refine z_go 6 _ [.int (jn 0)] _ c_71_5 rfl ?_
  refine z_go 7 [some (.ref 92), some (.long e), none, some (.int (jn 0)), none, none, none] [] _ c_71_6 rfl ?_
  refine z_go 8 _ [.int (jn 1)] _ c_71_7 rfl ?_
  show jZ _ _ _ _ [.int (jb true)] _ _
  refine z_go 10 [some (.ref 92), some (.long e), none, some (.int (jn 0)), some (.int (jb true)), none, none] [] _ c_71_8 rfl ?_
  refine z_go 12 _ [.int (jn 56)] _ c_71_10 rfl ?_
  refine z_go 14 [some (.ref 92), some (.long e), none, some (.int (jn 0)), some (.int (jb true)), some (.int (jn 56)), none] [] _ c_71_12 rfl ?_
  refine t_mty_1 (k := 8) (m := 0) (ft := true) (by decide) (fun z5 z6 => ?_)
  rw [Bool.true_and, Nat.zero_add]
  have hn8 := sp_tn_le e 8
  refine z_go 82 _ [.int (jb (sp_tok e 8))] _ c_71_80 rfl ?_
  refine z_ifeq 96 85 c_71_82 rfl jb_t (fun h1 => ?_) (fun h1 => ?_)
  · refine z_go 97 _ [.int (jn 0)] _ c_71_96 rfl ?_
    refine z_zret (b := false) c_71_97 ?_
    rw [sp_ty, if_neg (fun q => by rw [h1] at q; cases q.1)]
    exact ⟨rfl, mI_x H hK hS hX h118 hal hsb (sm_jm rfl) rfl, (sm_jm rfl)⟩
  · have h1t : sp_tok e 8 = true := by cases h : sp_tok e 8 <;> simp_all
    refine z_go 86 _ [.ref 92] _ c_71_85 rfl ?_
    refine z_getf (v := .int (jn ln)) 89 c_71_86 rfl rfl rfl ?_
    refine z_go 90 _ [.int (jn (sp_tn e 8)), .int (jn ln)] _ c_71_89 rfl ?_
    refine z_go 91 _ [.int ((jn ln) + (jn (sp_tn e 8)))] _ c_71_90 rfl ?_
    refine z_v (jn_add _ _) ?_
    refine z_go 93 _ [.int (jn 40), .int (jn (ln + (sp_tn e 8)))] _ c_71_91 rfl ?_
    refine z_ile 98 96 c_71_93 rfl (by omega) (by omega) (fun h2 => ?_) (fun h2 => ?_)
    · refine z_go 97 _ [.int (jn 0)] _ c_71_96 rfl ?_
      refine z_zret (b := false) c_71_97 ?_
      rw [sp_ty, if_neg (fun q => by have q2 : ln + sp_tn e 8 ≤ 40 := q.2; omega)]
      exact ⟨rfl, mI_x H hK hS hX h118 hal hsb (sm_jm rfl) rfl, (sm_jm rfl)⟩
    · have hn : ln + sp_tn e 8 ≤ 40 := by omega
      refine z_go 100 _ [.int (jn 56)] _ c_71_98 rfl ?_
      refine z_go 102 [some (.ref 92), some (.long e), none, some (.int (jn (sp_tn e 8))), some (.int (jb (sp_tok e 8))), some (.int (jn 56)), z6] [] _ c_71_100 rfl ?_
      rw [sp_ty, if_pos ⟨h1t, hn⟩]
      refine (t_mty_2 (k := 8) (M := jm [(92, mO 0 ln at_ n gd ct li fl dn lg li2 dn2 ss fd)] M) (th := 0) (ct := ct) (li := li) (fl := fl) (dn := dn) (lg := lg) (li2 := li2) (dn2 := dn2) (ss := ss) (fd := fd) (at_ := at_) (n := n) (gd := gd) (by decide) hn rfl h93).mono fun r M1 q => ⟨q.1, ?_, (sm_jm rfl).tr (q.2.2.2.wd (by decide) (by decide))⟩
      have hf : sm 92 93 M M1 := (sm_jm rfl).tr q.2.2.2
      obtain ⟨-, -, ⟨h94, h95, h96, h97, h98, h99⟩, h100, h101, h102, h103⟩ := H
      exact ⟨⟨at_, n, gd, A, bm, bk, oa, ol, q.2.1, q.2.2.1, ⟨(hf.1 94 (by decide)).trans h94, (hf.1 95 (by decide)).trans h95, (hf.1 96 (by decide)).trans h96, (hf.1 97 (by decide)).trans h97, (hf.1 98 (by decide)).trans h98, (hf.1 99 (by decide)).trans h99⟩, (hf.1 100 (by decide)).trans h100, (hf.1 101 (by decide)).trans h101, (hf.1 102 (by decide)).trans h102, (hf.1 103 (by decide)).trans h103⟩, mKp_fr hK fun k a b => hf.1 k (by omega), mSt_fr hS fun k a b => hf.1 k (by omega), mXs_fr hX fun k a b => hf.1 k (by omega), (hf.1 118 (by decide)).trans h118, hal, hsb⟩
theorem t_mrecD {d : Nat} {th ct li fl lg li2 ss fd : Nat} {dn2 : Bool} {tx : Nat → Nat} {ln : Nat} {ids szs : Nat → Nat} {E : Nat → MA} {al : Nat → Nat} {S : Nat → MA} {sb fnd : Nat → Nat} {M : jx_M} (hI : mI M (th, ct, li, fl, false, lg, li2, dn2, ss, fd) tx ln ids szs E al S sb fnd) : jZ d 106 0 [some (.ref 92)] [] M (jV (some (.int (-1))) fun M' => mI M' (0, ct, li, fl, false, lg, li2, dn2, ss, fd) tx ln ids szs E al S sb fnd ∧ sm 92 118 M M') := by
  have hI0 := hI
  obtain ⟨⟨at_, n, gd, A, bm, bk, oa, ol, H⟩, hK, hS, hX, h118, hal, hsb⟩ := hI
  have h92 := H.1
  have h93 := H.2.1
  refine z_go 1 _ [.ref 92] _ c_106_0 rfl ?_
  refine z_go 2 _ [.int (jn 0), .ref 92] _ c_106_1 rfl ?_
  refine z_putf (M' := jm [(92, mO 0 ln at_ n gd ct li fl false lg li2 dn2 ss fd)] M) 5 c_106_2 rfl h92 (rfl) (Nat.le_of_ble_eq_true rfl) rfl ?_
  refine z_go 6 _ [.ref 92] _ c_106_5 rfl ?_
  refine z_getf (v := .int (jb false)) 9 c_106_6 rfl rfl rfl ?_
  refine z_ifne 14 12 c_106_9 rfl jb_t (fun _ => ?_) (fun h => absurd rfl h)
  refine z_go 13 _ [.int (jo none)] _ c_106_12 rfl ?_
  refine z_iret c_106_13 ?_
  exact ⟨rfl, mI_x H hK hS hX h118 hal hsb (sm_jm rfl) rfl, (sm_jm rfl)⟩
theorem t_mrec0 {d : Nat} {th ct li fl li2 ss fd : Nat} {dn2 : Bool} {tx : Nat → Nat} {ln : Nat} {ids szs : Nat → Nat} {E : Nat → MA} {al : Nat → Nat} {S : Nat → MA} {sb fnd : Nat → Nat} {M : jx_M} (hI : mI M (th, ct, li, fl, true, 0, li2, dn2, ss, fd) tx ln ids szs E al S sb fnd) : jZ d 106 0 [some (.ref 92)] [] M (jV (some (.int (jn 0))) fun M' => mI M' (0, ct, li, fl, false, 0, li2, dn2, ss, 0) tx ln ids szs E al S sb fnd ∧ sm 92 118 M M') := by
  have hI0 := hI
  obtain ⟨⟨at_, n, gd, A, bm, bk, oa, ol, H⟩, hK, hS, hX, h118, hal, hsb⟩ := hI
  have h92 := H.1
  have h93 := H.2.1
  refine z_go 1 _ [.ref 92] _ c_106_0 rfl ?_
  refine z_go 2 _ [.int (jn 0), .ref 92] _ c_106_1 rfl ?_
  refine z_putf (M' := jm [(92, mO 0 ln at_ n gd ct li fl true 0 li2 dn2 ss fd)] M) 5 c_106_2 rfl h92 (rfl) (Nat.le_of_ble_eq_true rfl) rfl ?_
  refine z_go 6 _ [.ref 92] _ c_106_5 rfl ?_
  refine z_getf (v := .int (jb true)) 9 c_106_6 rfl rfl rfl ?_
  refine z_ifne 14 12 c_106_9 rfl jb_t (fun h => absurd h (by decide)) (fun _ => ?_)
  refine z_go 15 _ [.ref 92] _ c_106_14 rfl ?_
  refine z_go 16 _ [.int (jn 0), .ref 92] _ c_106_15 rfl ?_
  refine z_putf (M' := jm [(92, mO 0 ln at_ n gd ct li fl false 0 li2 dn2 ss fd)] M) 19 c_106_16 rfl rfl (by decide) (Nat.le_of_ble_eq_true rfl) (jm_w rfl) ?_
  refine z_go 20 _ [.ref 92] _ c_106_19 rfl ?_
  refine z_go 21 _ [.int (jn 0), .ref 92] _ c_106_20 rfl ?_
  refine z_putf (M' := jm [(92, mO 0 ln at_ n gd ct li fl false 0 li2 dn2 ss 0)] M) 24 c_106_21 rfl rfl (rfl) (Nat.le_of_ble_eq_true rfl) (jm_w rfl) ?_
  refine z_go 25 _ [.ref 92] _ c_106_24 rfl ?_
  refine z_getf (v := .int (jn 0)) 28 c_106_25 rfl rfl rfl ?_
  refine z_ifne 33 31 c_106_28 rfl (jn_z (by decide)) (fun _ => ?_) (fun h => absurd rfl h)
  refine z_go 32 _ [.int (jn 0)] _ c_106_31 rfl ?_
  refine z_iret c_106_32 ?_
  exact ⟨rfl, mI_x H hK hS hX h118 hal hsb (sm_jm rfl) rfl, (sm_jm rfl)⟩
theorem t_mrecN1 {d : Nat} {th ct li fl li2 ss fd : Nat} {tx : Nat → Nat} {ln : Nat} {ids szs : Nat → Nat} {E : Nat → MA} {al : Nat → Nat} {S : Nat → MA} {sb fnd : Nat → Nat} {M : jx_M} (hI : mI M (th, ct, li, fl, true, 1, li2, true, ss, fd) tx ln ids szs E al S sb fnd) : jZ d 106 0 [some (.ref 92)] [] M (jV (some (.int (jn 1))) fun M' => mI M' (0, ct, li, fl, false, 0, li2, true, ss, 0) tx ln ids szs E al S sb fnd ∧ sm 92 118 M M') := by
  have hI0 := hI
  obtain ⟨⟨at_, n, gd, A, bm, bk, oa, ol, H⟩, hK, hS, hX, h118, hal, hsb⟩ := hI
  have h92 := H.1
  have h93 := H.2.1
  refine z_go 1 _ [.ref 92] _ c_106_0 rfl ?_
  refine z_go 2 _ [.int (jn 0), .ref 92] _ c_106_1 rfl ?_
  refine z_putf (M' := jm [(92, mO 0 ln at_ n gd ct li fl true 1 li2 true ss fd)] M) 5 c_106_2 rfl h92 (rfl) (Nat.le_of_ble_eq_true rfl) rfl ?_
  refine z_go 6 _ [.ref 92] _ c_106_5 rfl ?_
  refine z_getf (v := .int (jb true)) 9 c_106_6 rfl rfl rfl ?_
  refine z_ifne 14 12 c_106_9 rfl jb_t (fun h => absurd h (by decide)) (fun _ => ?_)
  refine z_go 15 _ [.ref 92] _ c_106_14 rfl ?_
  refine z_go 16 _ [.int (jn 0), .ref 92] _ c_106_15 rfl ?_
  refine z_putf (M' := jm [(92, mO 0 ln at_ n gd ct li fl false 1 li2 true ss fd)] M) 19 c_106_16 rfl rfl (by decide) (Nat.le_of_ble_eq_true rfl) (jm_w rfl) ?_
  refine z_go 20 _ [.ref 92] _ c_106_19 rfl ?_
  refine z_go 21 _ [.int (jn 0), .ref 92] _ c_106_20 rfl ?_
  refine z_putf (M' := jm [(92, mO 0 ln at_ n gd ct li fl false 1 li2 true ss 0)] M) 24 c_106_21 rfl rfl (rfl) (Nat.le_of_ble_eq_true rfl) (jm_w rfl) ?_
  refine z_go 25 _ [.ref 92] _ c_106_24 rfl ?_
  refine z_getf (v := .int (jn 1)) 28 c_106_25 rfl rfl rfl ?_
  refine z_ifne 33 31 c_106_28 rfl (jn_z (by decide)) (fun h => absurd h (by decide)) (fun _ => ?_)
  refine z_go 34 _ [.ref 92] _ c_106_33 rfl ?_
  refine z_getf (v := .int (jb true)) 37 c_106_34 rfl rfl rfl ?_
  refine z_ifne 44 40 c_106_37 rfl jb_t (fun h => absurd h (by decide)) (fun _ => ?_)
  refine z_go 45 _ [.ref 92] _ c_106_44 rfl ?_
  refine z_go 46 _ [.int (jn 0), .ref 92] _ c_106_45 rfl ?_
  refine z_putf (M' := jm [(92, mO 0 ln at_ n gd ct li fl false 0 li2 true ss 0)] M) 49 c_106_46 rfl rfl (rfl) (Nat.le_of_ble_eq_true rfl) (jm_w rfl) ?_
  refine z_go 50 _ [.int (jn 1)] _ c_106_49 rfl ?_
  refine z_iret c_106_50 ?_
  exact ⟨rfl, mI_x H hK hS hX h118 hal hsb (sm_jm rfl) rfl, (sm_jm rfl)⟩
theorem t_mrecP {d : Nat} {th ct li fl li2 ss fd : Nat} {tx : Nat → Nat} {ln : Nat} {ids szs : Nat → Nat} {E : Nat → MA} {al : Nat → Nat} {S : Nat → MA} {sb fnd : Nat → Nat} {M : jx_M} (hI : mI M (th, ct, li, fl, true, 1, li2, false, ss, fd) tx ln ids szs E al S sb fnd) (hss : ss ≤ 10) (hct : ct < 12) : jZ (d + 2) 106 0 [some (.ref 92)] [] M (jV (some (.int (jn 1))) fun M' => (∃ E' al', mI M' (0, ct + 1, li2, fl, false, 0, li2, false, ss, 0) tx ln (nu ids ct li2) (nu szs ct ss) E' al' S sb fnd ∧ (∀ t, t < ss → E' (10 * ct + t) = S t) ∧ (∀ t u, t < ss → u < ss → al' (100 * ct + 10 * t + u) = sb (10 * t + u)) ∧ ∀ s, s ≠ ct → rowE E' al' s E al s) ∧ sm 92 118 M M') := by
  have hI0 := hI
  obtain ⟨⟨at_, n, gd, A, bm, bk, oa, ol, H⟩, hK, hS, hX, h118, hal, hsb⟩ := hI
  have h92 := H.1
  have h93 := H.2.1
  refine z_go 1 _ [.ref 92] _ c_106_0 rfl ?_
  refine z_go 2 _ [.int (jn 0), .ref 92] _ c_106_1 rfl ?_
  refine z_putf (M' := jm [(92, mO 0 ln at_ n gd ct li fl true 1 li2 false ss fd)] M) 5 c_106_2 rfl h92 (rfl) (Nat.le_of_ble_eq_true rfl) rfl ?_
  refine z_go 6 _ [.ref 92] _ c_106_5 rfl ?_
  refine z_getf (v := .int (jb true)) 9 c_106_6 rfl rfl rfl ?_
  refine z_ifne 14 12 c_106_9 rfl jb_t (fun h => absurd h (by decide)) (fun _ => ?_)
  refine z_go 15 _ [.ref 92] _ c_106_14 rfl ?_
  refine z_go 16 _ [.int (jn 0), .ref 92] _ c_106_15 rfl ?_
  refine z_putf (M' := jm [(92, mO 0 ln at_ n gd ct li fl false 1 li2 false ss fd)] M) 19 c_106_16 rfl rfl (by decide) (Nat.le_of_ble_eq_true rfl) (jm_w rfl) ?_
  refine z_go 20 _ [.ref 92] _ c_106_19 rfl ?_
  refine z_go 21 _ [.int (jn 0), .ref 92] _ c_106_20 rfl ?_
  refine z_putf (M' := jm [(92, mO 0 ln at_ n gd ct li fl false 1 li2 false ss 0)] M) 24 c_106_21 rfl rfl (rfl) (Nat.le_of_ble_eq_true rfl) (jm_w rfl) ?_
  refine z_go 25 _ [.ref 92] _ c_106_24 rfl ?_
  refine z_getf (v := .int (jn 1)) 28 c_106_25 rfl rfl rfl ?_
  refine z_ifne 33 31 c_106_28 rfl (jn_z (by decide)) (fun h => absurd h (by decide)) (fun _ => ?_)
  refine z_go 34 _ [.ref 92] _ c_106_33 rfl ?_
  refine z_getf (v := .int (jb false)) 37 c_106_34 rfl rfl rfl ?_
  refine z_ifne 44 40 c_106_37 rfl jb_t (fun _ => ?_) (fun h => absurd rfl h)
  refine z_go 41 _ [.ref 92] _ c_106_40 rfl ?_
  have hK1 : mKp (jm [(92, mO 0 ln at_ n gd ct li fl false 1 li2 false ss 0)] M) ids szs E al := mKp_fr hK fun k a b => if_neg (by omega)
  refine z_callvV 44 6 98 0 92 c_106_41 rfl ⟨Nat.le_of_ble_eq_true rfl, Nat.le_of_ble_eq_true rfl⟩ rfl rfl [.ref 92] rfl rfl [some (.ref 92), none, none, none] rfl rfl (t_mpfP (d := d + 1) (th := 0) (ct := ct) (li := li) (fl := fl) (dn := false) (li2 := li2) (dn2 := false) (ss := ss) (fd := 0) (S := S) (sb := sb) hK1 hal (show (jm [(92, mO 0 ln at_ n gd ct li fl false 1 li2 false ss 0)] M).1 92 = mW (0, ct, li, fl, false, 1, li2, false, ss, 0) ln at_ n gd from rfl) (mSt_fr hS fun k a b => if_neg (by omega)) hsb hss hct) ?_
  intro M1 ⟨g1, g2, g3⟩
  have hf1 : fQ M M1 := (fQ_9 (sm_jm rfl)).tr g3
  show jZ _ _ _ _ [] _ _
  refine z_go 45 _ [.ref 92] _ c_106_44 rfl ?_
  refine z_go 46 _ [.int (jn 0), .ref 92] _ c_106_45 rfl ?_
  refine z_putf (M' := jm [(92, mO 0 ln at_ n gd (ct + 1) li2 fl false 0 li2 false ss 0)] M1) 49 c_106_46 rfl g1 (rfl) (Nat.le_of_ble_eq_true rfl) rfl ?_
  refine z_go 50 _ [.int (jn 1)] _ c_106_49 rfl ?_
  refine z_iret c_106_50 ?_
  have hf2 := hf1.tr (fQ_9 (M1 := jm [(92, mO 0 ln at_ n gd (ct + 1) li2 fl false 0 li2 false ss 0)] M1) (sm_jm rfl))
  obtain ⟨E9, al9, y1, y2, y3, y4, y5⟩ := g2
  exact ⟨rfl, ⟨E9, al9, mI_Q H hS hX h118 hsb hf2 rfl (mKp_fr y1 fun k a b => if_neg (by omega)) y5, y2, y3, y4⟩, fQ_sm hf2⟩
theorem t_mrecN2 {d : Nat} {th ct li fl li2 ss fd : Nat} {tx : Nat → Nat} {ln : Nat} {ids szs : Nat → Nat} {E : Nat → MA} {al : Nat → Nat} {S : Nat → MA} {sb fnd : Nat → Nat} {M : jx_M} (hI : mI M (th, ct, li, fl, true, 2, li2, true, ss, fd) tx ln ids szs E al S sb fnd) : jZ d 106 0 [some (.ref 92)] [] M (jV (some (.int (jn 1))) fun M' => mI M' (0, ct, li, fl, false, 0, li2, true, ss, 0) tx ln ids szs E al S sb fnd ∧ sm 92 118 M M') := by
  have hI0 := hI
  obtain ⟨⟨at_, n, gd, A, bm, bk, oa, ol, H⟩, hK, hS, hX, h118, hal, hsb⟩ := hI
  have h92 := H.1
  have h93 := H.2.1
  refine z_go 1 _ [.ref 92] _ c_106_0 rfl ?_
  refine z_go 2 _ [.int (jn 0), .ref 92] _ c_106_1 rfl ?_
  refine z_putf (M' := jm [(92, mO 0 ln at_ n gd ct li fl true 2 li2 true ss fd)] M) 5 c_106_2 rfl h92 (rfl) (Nat.le_of_ble_eq_true rfl) rfl ?_
  refine z_go 6 _ [.ref 92] _ c_106_5 rfl ?_
  refine z_getf (v := .int (jb true)) 9 c_106_6 rfl rfl rfl ?_
  refine z_ifne 14 12 c_106_9 rfl jb_t (fun h => absurd h (by decide)) (fun _ => ?_)
  refine z_go 15 _ [.ref 92] _ c_106_14 rfl ?_
  refine z_go 16 _ [.int (jn 0), .ref 92] _ c_106_15 rfl ?_
  refine z_putf (M' := jm [(92, mO 0 ln at_ n gd ct li fl false 2 li2 true ss fd)] M) 19 c_106_16 rfl rfl (by decide) (Nat.le_of_ble_eq_true rfl) (jm_w rfl) ?_
  refine z_go 20 _ [.ref 92] _ c_106_19 rfl ?_
  refine z_go 21 _ [.int (jn 0), .ref 92] _ c_106_20 rfl ?_
  refine z_putf (M' := jm [(92, mO 0 ln at_ n gd ct li fl false 2 li2 true ss 0)] M) 24 c_106_21 rfl rfl (rfl) (Nat.le_of_ble_eq_true rfl) (jm_w rfl) ?_
  refine z_go 25 _ [.ref 92] _ c_106_24 rfl ?_
  refine z_getf (v := .int (jn 2)) 28 c_106_25 rfl rfl rfl ?_
  refine z_ifne 33 31 c_106_28 rfl (jn_z (by decide)) (fun h => absurd h (by decide)) (fun _ => ?_)
  refine z_go 34 _ [.ref 92] _ c_106_33 rfl ?_
  refine z_getf (v := .int (jb true)) 37 c_106_34 rfl rfl rfl ?_
  refine z_ifne 44 40 c_106_37 rfl jb_t (fun h => absurd h (by decide)) (fun _ => ?_)
  refine z_go 45 _ [.ref 92] _ c_106_44 rfl ?_
  refine z_go 46 _ [.int (jn 0), .ref 92] _ c_106_45 rfl ?_
  refine z_putf (M' := jm [(92, mO 0 ln at_ n gd ct li fl false 0 li2 true ss 0)] M) 49 c_106_46 rfl rfl (rfl) (Nat.le_of_ble_eq_true rfl) (jm_w rfl) ?_
  refine z_go 50 _ [.int (jn 1)] _ c_106_49 rfl ?_
  refine z_iret c_106_50 ?_
  exact ⟨rfl, mI_x H hK hS hX h118 hal hsb (sm_jm rfl) rfl, (sm_jm rfl)⟩
theorem t_mrecR {d : Nat} {th ct li fl li2 ss fd : Nat} {tx : Nat → Nat} {ln : Nat} {ids szs : Nat → Nat} {E : Nat → MA} {al : Nat → Nat} {S : Nat → MA} {sb fnd : Nat → Nat} {M : jx_M} (hI : mI M (th, ct, li, fl, true, 2, li2, false, ss, fd) tx ln ids szs E al S sb fnd) (hct : ct ≤ 12) {go : Nat} (hs : sp_sl ids (jn li2) ct 0 = some go) : jZ (d + 2) 106 0 [some (.ref 92)] [] M (jV (some (.int (jn 1))) fun M' => (∃ ids' szs' E' al', mI M' (0, ct - 1, li, fl, false, 0, li2, false, ss, 0) tx ln ids' szs' E' al' S sb fnd ∧ (∀ s, go ≤ s → s < ct - 1 → ids' s = ids (s + 1) ∧ szs' s = szs (s + 1) ∧ rowE E' al' s E al (s + 1)) ∧ ∀ s, s < go → ids' s = ids s ∧ szs' s = szs s ∧ rowE E' al' s E al s) ∧ sm 92 118 M M') := by
  have hI0 := hI
  obtain ⟨⟨at_, n, gd, A, bm, bk, oa, ol, H⟩, hK, hS, hX, h118, hal, hsb⟩ := hI
  have h92 := H.1
  have h93 := H.2.1
  refine z_go 1 _ [.ref 92] _ c_106_0 rfl ?_
  refine z_go 2 _ [.int (jn 0), .ref 92] _ c_106_1 rfl ?_
  refine z_putf (M' := jm [(92, mO 0 ln at_ n gd ct li fl true 2 li2 false ss fd)] M) 5 c_106_2 rfl h92 (rfl) (Nat.le_of_ble_eq_true rfl) rfl ?_
  refine z_go 6 _ [.ref 92] _ c_106_5 rfl ?_
  refine z_getf (v := .int (jb true)) 9 c_106_6 rfl rfl rfl ?_
  refine z_ifne 14 12 c_106_9 rfl jb_t (fun h => absurd h (by decide)) (fun _ => ?_)
  refine z_go 15 _ [.ref 92] _ c_106_14 rfl ?_
  refine z_go 16 _ [.int (jn 0), .ref 92] _ c_106_15 rfl ?_
  refine z_putf (M' := jm [(92, mO 0 ln at_ n gd ct li fl false 2 li2 false ss fd)] M) 19 c_106_16 rfl rfl (by decide) (Nat.le_of_ble_eq_true rfl) (jm_w rfl) ?_
  refine z_go 20 _ [.ref 92] _ c_106_19 rfl ?_
  refine z_go 21 _ [.int (jn 0), .ref 92] _ c_106_20 rfl ?_
  refine z_putf (M' := jm [(92, mO 0 ln at_ n gd ct li fl false 2 li2 false ss 0)] M) 24 c_106_21 rfl rfl (rfl) (Nat.le_of_ble_eq_true rfl) (jm_w rfl) ?_
  refine z_go 25 _ [.ref 92] _ c_106_24 rfl ?_
  refine z_getf (v := .int (jn 2)) 28 c_106_25 rfl rfl rfl ?_
  refine z_ifne 33 31 c_106_28 rfl (jn_z (by decide)) (fun h => absurd h (by decide)) (fun _ => ?_)
  refine z_go 34 _ [.ref 92] _ c_106_33 rfl ?_
  refine z_getf (v := .int (jb false)) 37 c_106_34 rfl rfl rfl ?_
  refine z_ifne 44 40 c_106_37 rfl jb_t (fun _ => ?_) (fun h => absurd rfl h)
  refine z_go 41 _ [.ref 92] _ c_106_40 rfl ?_
  have hK1 : mKp (jm [(92, mO 0 ln at_ n gd ct li fl false 2 li2 false ss 0)] M) ids szs E al := mKp_fr hK fun k a b => if_neg (by omega)
  refine z_callvV 44 6 98 0 92 c_106_41 rfl ⟨Nat.le_of_ble_eq_true rfl, Nat.le_of_ble_eq_true rfl⟩ rfl rfl [.ref 92] rfl rfl [some (.ref 92), none, none, none] rfl rfl (t_mpfR (d := d) (th := 0) (ct := ct) (li := li) (fl := fl) (dn := false) (li2 := li2) (dn2 := false) (ss := ss) (fd := 0) hK1 hal (show (jm [(92, mO 0 ln at_ n gd ct li fl false 2 li2 false ss 0)] M).1 92 = mW (0, ct, li, fl, false, 2, li2, false, ss, 0) ln at_ n gd from rfl) hct hs) ?_
  intro M1 ⟨g1, g2, g3⟩
  have hf1 : fQ M M1 := (fQ_9 (sm_jm rfl)).tr g3
  show jZ _ _ _ _ [] _ _
  refine z_go 45 _ [.ref 92] _ c_106_44 rfl ?_
  refine z_go 46 _ [.int (jn 0), .ref 92] _ c_106_45 rfl ?_
  refine z_putf (M' := jm [(92, mO 0 ln at_ n gd (ct - 1) li fl false 0 li2 false ss 0)] M1) 49 c_106_46 rfl g1 (rfl) (Nat.le_of_ble_eq_true rfl) rfl ?_
  refine z_go 50 _ [.int (jn 1)] _ c_106_49 rfl ?_
  refine z_iret c_106_50 ?_
  have hf2 := hf1.tr (fQ_9 (M1 := jm [(92, mO 0 ln at_ n gd (ct - 1) li fl false 0 li2 false ss 0)] M1) (sm_jm rfl))
  obtain ⟨i9, s9, E9, al9, y1, y2, y3, y4⟩ := g2
  exact ⟨rfl, ⟨i9, s9, E9, al9, mI_Q H hS hX h118 hsb hf2 rfl (mKp_fr y1 fun k a b => if_neg (by omega)) y4, y2, y3⟩, fQ_sm hf2⟩
theorem t_mraise {d : Nat} {th ct li fl lg li2 ss fd : Nat} {dn dn2 : Bool} {tx : Nat → Nat} {ln : Nat} {ids szs : Nat → Nat} {E : Nat → MA} {al : Nat → Nat} {S : Nat → MA} {sb fnd : Nat → Nat} {M : jx_M} {c : Nat} (hI : mI M (th, ct, li, fl, dn, lg, li2, dn2, ss, fd) tx ln ids szs E al S sb fnd) : jZ d 74 0 [some (.ref 92), some (.int (jn c))] [] M (jV (some (.int (jn 0))) fun M' => mI M' (c, ct, li, fl, dn, lg, li2, dn2, ss, fd) tx ln ids szs E al S sb fnd ∧ sm 92 118 M M') := by
  have hI0 := hI
  obtain ⟨⟨at_, n, gd, A, bm, bk, oa, ol, H⟩, hK, hS, hX, h118, hal, hsb⟩ := hI
  have h92 := H.1
  have h93 := H.2.1
  refine z_go 1 _ [.ref 92] _ c_74_0 rfl ?_
  refine z_go 2 _ [.int (jn c), .ref 92] _ c_74_1 rfl ?_
  refine z_putf (M' := jm [(92, mO c ln at_ n gd ct li fl dn lg li2 dn2 ss fd)] M) 5 c_74_2 rfl h92 (rfl) (Nat.le_of_ble_eq_true rfl) rfl ?_
  refine z_go 6 _ [.int (jn 0)] _ c_74_5 rfl ?_
  refine z_iret c_74_6 ?_
  exact ⟨rfl, mI_x H hK hS hX h118 hal hsb (sm_jm rfl) rfl, (sm_jm rfl)⟩
theorem t_mremD {d : Nat} {th ct li fl lg li2 ss fd : Nat} {dn2 : Bool} {tx : Nat → Nat} {ln : Nat} {ids szs : Nat → Nat} {E : Nat → MA} {al : Nat → Nat} {S : Nat → MA} {sb fnd : Nat → Nat} {M : jx_M} {x : Int32} (hI : mI M (th, ct, li, fl, true, lg, li2, dn2, ss, fd) tx ln ids szs E al S sb fnd) : jZ (d + 1) 104 0 [some (.ref 92), some (.int x)] [] M (jV (some (.int (jn 0))) fun M' => mI M' (1, ct, li, fl, true, lg, li2, dn2, ss, fd) tx ln ids szs E al S sb fnd ∧ sm 92 118 M M') := by
  have hI0 := hI
  obtain ⟨⟨at_, n, gd, A, bm, bk, oa, ol, H⟩, hK, hS, hX, h118, hal, hsb⟩ := hI
  have h92 := H.1
  have h93 := H.2.1
  refine z_go 1 _ [.ref 92] _ c_104_0 rfl ?_
  refine z_getf (v := .int (jb true)) 4 c_104_1 rfl h92 rfl ?_
  refine z_ifeq 13 7 c_104_4 rfl jb_t (fun h => absurd h (by decide)) (fun _ => ?_)
  refine z_go 8 _ [.ref 92] _ c_104_7 rfl ?_
  refine z_go 9 _ [.int (jn 1), .ref 92] _ c_104_8 rfl ?_
  refine z_callvV 12 6 74 1 92 c_104_9 rfl ⟨Nat.le_of_ble_eq_true rfl, Nat.le_of_ble_eq_true rfl⟩ rfl h92 [.ref 92, .int (jn 1)] rfl rfl [some (.ref 92), some (.int (jn 1))] rfl rfl (t_mraise (d := d) (c := 1) hI0) ?_
  intro M1 ⟨g1, g2⟩
  show jZ _ _ _ _ [.int (jn 0)] _ _
  refine z_iret c_104_12 ?_
  exact ⟨rfl, g1, g2⟩
theorem t_mrem0 {d : Nat} {th ct li fl lg li2 ss fd : Nat} {dn2 : Bool} {tx : Nat → Nat} {ln : Nat} {ids szs : Nat → Nat} {E : Nat → MA} {al : Nat → Nat} {S : Nat → MA} {sb fnd : Nat → Nat} {M : jx_M} {x : Int32} (hI : mI M (th, ct, li, fl, false, lg, li2, dn2, ss, fd) tx ln ids szs E al S sb fnd) (hct : ct ≤ 12) (hs : sp_sl ids x ct 0 = none) : jZ (d + 1) 104 0 [some (.ref 92), some (.int x)] [] M (jV (some (.int (jn 0))) fun M' => mI M' (0, ct, li, fl, false, lg, li2, dn2, ss, fd) tx ln ids szs E al S sb fnd ∧ sm 92 118 M M') := by
  have hI0 := hI
  obtain ⟨⟨at_, n, gd, A, bm, bk, oa, ol, H⟩, hK, hS, hX, h118, hal, hsb⟩ := hI
  have h92 := H.1
  have h93 := H.2.1
  refine z_go 1 _ [.ref 92] _ c_104_0 rfl ?_
  refine z_getf (v := .int (jb false)) 4 c_104_1 rfl h92 rfl ?_
  refine z_ifeq 13 7 c_104_4 rfl jb_t (fun _ => ?_) (fun h => absurd rfl h)
  refine z_go 14 _ [.ref 92] _ c_104_13 rfl ?_
  refine z_go 15 _ [.int (jn 0), .ref 92] _ c_104_14 rfl ?_
  refine z_putf (M' := jm [(92, mO 0 ln at_ n gd ct li fl false lg li2 dn2 ss fd)] M) 18 c_104_15 rfl h92 (rfl) (Nat.le_of_ble_eq_true rfl) rfl ?_
  refine z_go 19 _ [.ref 92] _ c_104_18 rfl ?_
  refine z_go 20 _ [.int x, .ref 92] _ c_104_19 rfl ?_
  refine z_callv 23 6 99 1 92 c_104_20 rfl ⟨Nat.le_of_ble_eq_true rfl, Nat.le_of_ble_eq_true rfl⟩ rfl rfl [.ref 92, .int x] rfl rfl [some (.ref 92), some (.int x), none] rfl rfl (t_mpl (w := (0, ct, li, fl, false, lg, li2, dn2, ss, fd)) (M := jm [(92, mO 0 ln at_ n gd ct li fl false lg li2 dn2 ss fd)] M) (ids := ids) (ln := ln) (at_ := at_) (n := n) (gd := gd) rfl hK.1 hct) ?_
  show jZ _ _ _ _ [.int (jo (sp_sl ids x ct 0))] _ _
  rw [hs]
  show jZ _ _ _ _ [.int (jo none)] _ _
  refine z_ifge 28 26 c_104_23 rfl (jo_lt (by intro k q; cases q)) (fun hz => ?_) (fun hz => ?_)
  · refine z_go 27 _ [.int (jn 0)] _ c_104_26 rfl ?_
    refine z_iret c_104_27 ?_
    exact ⟨rfl, mI_x H hK hS hX h118 hal hsb (sm_jm rfl) rfl, (sm_jm rfl)⟩
  · exact absurd rfl hz
theorem t_mremN0 {d : Nat} {th ct li lg li2 ss fd : Nat} {dn2 : Bool} {tx : Nat → Nat} {ln : Nat} {ids szs : Nat → Nat} {E : Nat → MA} {al : Nat → Nat} {S : Nat → MA} {sb fnd : Nat → Nat} {M : jx_M} (hI : mI M (th, ct, li, 0, false, lg, li2, dn2, ss, fd) tx ln ids szs E al S sb fnd) (hct : ct ≤ 12) {go : Nat} (hs : sp_sl ids (jn (ids go)) ct 0 = some go) : jZ (d + 3) 104 0 [some (.ref 92), some (.int (jn (ids go)))] [] M (jV (some (.int (jn 1))) fun M' => (∃ ids' szs' E' al', mI M' (0, ct - 1, li, 0, false, 0, (ids go), true, ss, 0) tx ln ids' szs' E' al' S sb fnd ∧ (∀ s, go ≤ s → s < ct - 1 → ids' s = ids (s + 1) ∧ szs' s = szs (s + 1) ∧ rowE E' al' s E al (s + 1)) ∧ ∀ s, s < go → ids' s = ids s ∧ szs' s = szs s ∧ rowE E' al' s E al s) ∧ sm 92 118 M M') := by
  have hI0 := hI
  obtain ⟨⟨at_, n, gd, A, bm, bk, oa, ol, H⟩, hK, hS, hX, h118, hal, hsb⟩ := hI
  have h92 := H.1
  have h93 := H.2.1
  refine z_go 1 _ [.ref 92] _ c_104_0 rfl ?_
  refine z_getf (v := .int (jb false)) 4 c_104_1 rfl h92 rfl ?_
  refine z_ifeq 13 7 c_104_4 rfl jb_t (fun _ => ?_) (fun h => absurd rfl h)
  refine z_go 14 _ [.ref 92] _ c_104_13 rfl ?_
  refine z_go 15 _ [.int (jn 0), .ref 92] _ c_104_14 rfl ?_
  refine z_putf (M' := jm [(92, mO 0 ln at_ n gd ct li 0 false lg li2 dn2 ss fd)] M) 18 c_104_15 rfl h92 (rfl) (Nat.le_of_ble_eq_true rfl) rfl ?_
  refine z_go 19 _ [.ref 92] _ c_104_18 rfl ?_
  refine z_go 20 _ [.int (jn ((ids go))), .ref 92] _ c_104_19 rfl ?_
  refine z_callv 23 6 99 1 92 c_104_20 rfl ⟨Nat.le_of_ble_eq_true rfl, Nat.le_of_ble_eq_true rfl⟩ rfl rfl [.ref 92, .int (jn ((ids go)))] rfl rfl [some (.ref 92), some (.int (jn ((ids go)))), none] rfl rfl (t_mpl (w := (0, ct, li, 0, false, lg, li2, dn2, ss, fd)) (M := jm [(92, mO 0 ln at_ n gd ct li 0 false lg li2 dn2 ss fd)] M) (ids := ids) (ln := ln) (at_ := at_) (n := n) (gd := gd) rfl hK.1 hct) ?_
  show jZ _ _ _ _ [.int (jo (sp_sl ids (jn (ids go)) ct 0))] _ _
  rw [hs]
  obtain ⟨-, hgo, -⟩ := sp_sl_some hs
  show jZ _ _ _ _ [.int (jn go)] _ _
  refine z_ifge 28 26 c_104_23 rfl (jn_nl (by omega)) (fun hz => ?_) (fun hz => ?_)
  · exact hz.elim
  · refine z_go 29 _ [.ref 92] _ c_104_28 rfl ?_
    refine z_go 30 _ [.int (jn 2), .ref 92] _ c_104_29 rfl ?_
    refine z_go 31 _ [.int (jn ((ids go))), .int (jn 2), .ref 92] _ c_104_30 rfl ?_
    have hK1 : mKp (jm [(92, mO 0 ln at_ n gd ct li 0 false lg li2 dn2 ss fd)] M) ids szs E al := mKp_fr hK fun k a b => if_neg (by omega)
    refine z_callvV 34 6 97 2 92 c_104_31 rfl ⟨Nat.le_of_ble_eq_true rfl, Nat.le_of_ble_eq_true rfl⟩ rfl rfl [.ref 92, .int (jn 2), .int (jn ((ids go)))] rfl rfl [some (.ref 92), some (.int (jn 2)), some (.int (jn ((ids go)))), none] rfl rfl (t_mchR0 (d := d) (th := 0) (ct := ct) (li := li) (dn := false) (lg := lg) (li2 := li2) (dn2 := dn2) (ss := ss) (fd := fd) (S := S) (sb := sb) (id := ids go) hK1 hal (show (jm [(92, mO 0 ln at_ n gd ct li 0 false lg li2 dn2 ss fd)] M).1 92 = mW (0, ct, li, 0, false, lg, li2, dn2, ss, fd) ln at_ n gd from rfl) (mSt_fr hS fun k a b => if_neg (by omega)) hsb hct hs) ?_
    intro M1 ⟨g1, g2, g3⟩
    have hf1 : fQ M M1 := (fQ_9 (sm_jm rfl)).tr g3
    show jZ _ _ _ _ [.int (jb true)] _ _
    refine z_ifeq 41 37 c_104_34 rfl jb_t (fun h => absurd h (by decide)) (fun _ => ?_)
    refine z_go 38 _ [.int (jn 1)] _ c_104_37 rfl ?_
    refine z_go 43 _ [.int (jn 1)] _ c_104_38 rfl ?_
    refine z_iret c_104_43 ?_
    obtain ⟨i9, s9, E9, al9, y1, y2, y3, y4⟩ := g2
    exact ⟨rfl, ⟨i9, s9, E9, al9, mI_Q H hS hX h118 hsb hf1 g1 y1 y4, y2, y3⟩, fQ_sm hf1⟩
theorem t_mremN1 {d : Nat} {th ct li lg li2 ss fd : Nat} {dn2 : Bool} {tx : Nat → Nat} {ln : Nat} {ids szs : Nat → Nat} {E : Nat → MA} {al : Nat → Nat} {S : Nat → MA} {sb fnd : Nat → Nat} {M : jx_M} (hI : mI M (th, ct, li, 1, false, lg, li2, dn2, ss, fd) tx ln ids szs E al S sb fnd) (hct : ct ≤ 12) {go : Nat} (hs : sp_sl ids (jn (ids go)) ct 0 = some go) : jZ (d + 3) 104 0 [some (.ref 92), some (.int (jn (ids go)))] [] M (jV (some (.int (-2))) fun M' => mI M' (0, ct, li, 0, true, 0, li2, dn2, ss, 0) tx ln ids szs E al S sb fnd ∧ sm 92 118 M M') := by
  have hI0 := hI
  obtain ⟨⟨at_, n, gd, A, bm, bk, oa, ol, H⟩, hK, hS, hX, h118, hal, hsb⟩ := hI
  have h92 := H.1
  have h93 := H.2.1
  refine z_go 1 _ [.ref 92] _ c_104_0 rfl ?_
  refine z_getf (v := .int (jb false)) 4 c_104_1 rfl h92 rfl ?_
  refine z_ifeq 13 7 c_104_4 rfl jb_t (fun _ => ?_) (fun h => absurd rfl h)
  refine z_go 14 _ [.ref 92] _ c_104_13 rfl ?_
  refine z_go 15 _ [.int (jn 0), .ref 92] _ c_104_14 rfl ?_
  refine z_putf (M' := jm [(92, mO 0 ln at_ n gd ct li 1 false lg li2 dn2 ss fd)] M) 18 c_104_15 rfl h92 (rfl) (Nat.le_of_ble_eq_true rfl) rfl ?_
  refine z_go 19 _ [.ref 92] _ c_104_18 rfl ?_
  refine z_go 20 _ [.int (jn ((ids go))), .ref 92] _ c_104_19 rfl ?_
  refine z_callv 23 6 99 1 92 c_104_20 rfl ⟨Nat.le_of_ble_eq_true rfl, Nat.le_of_ble_eq_true rfl⟩ rfl rfl [.ref 92, .int (jn ((ids go)))] rfl rfl [some (.ref 92), some (.int (jn ((ids go)))), none] rfl rfl (t_mpl (w := (0, ct, li, 1, false, lg, li2, dn2, ss, fd)) (M := jm [(92, mO 0 ln at_ n gd ct li 1 false lg li2 dn2 ss fd)] M) (ids := ids) (ln := ln) (at_ := at_) (n := n) (gd := gd) rfl hK.1 hct) ?_
  show jZ _ _ _ _ [.int (jo (sp_sl ids (jn (ids go)) ct 0))] _ _
  rw [hs]
  obtain ⟨-, hgo, -⟩ := sp_sl_some hs
  show jZ _ _ _ _ [.int (jn go)] _ _
  refine z_ifge 28 26 c_104_23 rfl (jn_nl (by omega)) (fun hz => ?_) (fun hz => ?_)
  · exact hz.elim
  · refine z_go 29 _ [.ref 92] _ c_104_28 rfl ?_
    refine z_go 30 _ [.int (jn 2), .ref 92] _ c_104_29 rfl ?_
    refine z_go 31 _ [.int (jn ((ids go))), .int (jn 2), .ref 92] _ c_104_30 rfl ?_
    have hK1 : mKp (jm [(92, mO 0 ln at_ n gd ct li 1 false lg li2 dn2 ss fd)] M) ids szs E al := mKp_fr hK fun k a b => if_neg (by omega)
    refine z_callvV 34 6 97 2 92 c_104_31 rfl ⟨Nat.le_of_ble_eq_true rfl, Nat.le_of_ble_eq_true rfl⟩ rfl rfl [.ref 92, .int (jn 2), .int (jn ((ids go)))] rfl rfl [some (.ref 92), some (.int (jn 2)), some (.int (jn ((ids go)))), none] rfl rfl (t_mchR1 (d := d) (th := 0) (ct := ct) (li := li) (dn := false) (lg := lg) (li2 := li2) (dn2 := dn2) (ss := ss) (fd := fd) (S := S) (sb := sb) (id := ids go) hK1 hal (show (jm [(92, mO 0 ln at_ n gd ct li 1 false lg li2 dn2 ss fd)] M).1 92 = mW (0, ct, li, 1, false, lg, li2, dn2, ss, fd) ln at_ n gd from rfl) (mSt_fr hS fun k a b => if_neg (by omega)) hsb hct hs) ?_
    intro M1 ⟨g1, g2, g3⟩
    have hf1 : fQ M M1 := (fQ_9 (sm_jm rfl)).tr g3
    show jZ _ _ _ _ [.int (jb false)] _ _
    refine z_ifeq 41 37 c_104_34 rfl jb_t (fun _ => ?_) (fun h => absurd rfl h)
    refine z_go 43 _ [.int ((-2))] _ c_104_41 rfl ?_
    refine z_iret c_104_43 ?_
    exact ⟨rfl, mI_Q H hS hX h118 hsb hf1 g1 g2 hal, fQ_sm hf1⟩
theorem t_mremN2 {d : Nat} {th ct li lg li2 ss fd : Nat} {dn2 : Bool} {tx : Nat → Nat} {ln : Nat} {ids szs : Nat → Nat} {E : Nat → MA} {al : Nat → Nat} {S : Nat → MA} {sb fnd : Nat → Nat} {M : jx_M} (hI : mI M (th, ct, li, 2, false, lg, li2, dn2, ss, fd) tx ln ids szs E al S sb fnd) (hct : ct ≤ 12) {go : Nat} (hs : sp_sl ids (jn (ids go)) ct 0 = some go) : jZ (d + 3) 104 0 [some (.ref 92), some (.int (jn (ids go)))] [] M (jV (some (.int (-2))) fun M' => mI M' (0, ct, li, 0, true, 0, li2, dn2, ss, 0) tx ln ids szs E al S sb fnd ∧ sm 92 118 M M') := by
  have hI0 := hI
  obtain ⟨⟨at_, n, gd, A, bm, bk, oa, ol, H⟩, hK, hS, hX, h118, hal, hsb⟩ := hI
  have h92 := H.1
  have h93 := H.2.1
  refine z_go 1 _ [.ref 92] _ c_104_0 rfl ?_
  refine z_getf (v := .int (jb false)) 4 c_104_1 rfl h92 rfl ?_
  refine z_ifeq 13 7 c_104_4 rfl jb_t (fun _ => ?_) (fun h => absurd rfl h)
  refine z_go 14 _ [.ref 92] _ c_104_13 rfl ?_
  refine z_go 15 _ [.int (jn 0), .ref 92] _ c_104_14 rfl ?_
  refine z_putf (M' := jm [(92, mO 0 ln at_ n gd ct li 2 false lg li2 dn2 ss fd)] M) 18 c_104_15 rfl h92 (rfl) (Nat.le_of_ble_eq_true rfl) rfl ?_
  refine z_go 19 _ [.ref 92] _ c_104_18 rfl ?_
  refine z_go 20 _ [.int (jn ((ids go))), .ref 92] _ c_104_19 rfl ?_
  refine z_callv 23 6 99 1 92 c_104_20 rfl ⟨Nat.le_of_ble_eq_true rfl, Nat.le_of_ble_eq_true rfl⟩ rfl rfl [.ref 92, .int (jn ((ids go)))] rfl rfl [some (.ref 92), some (.int (jn ((ids go)))), none] rfl rfl (t_mpl (w := (0, ct, li, 2, false, lg, li2, dn2, ss, fd)) (M := jm [(92, mO 0 ln at_ n gd ct li 2 false lg li2 dn2 ss fd)] M) (ids := ids) (ln := ln) (at_ := at_) (n := n) (gd := gd) rfl hK.1 hct) ?_
  show jZ _ _ _ _ [.int (jo (sp_sl ids (jn (ids go)) ct 0))] _ _
  rw [hs]
  obtain ⟨-, hgo, -⟩ := sp_sl_some hs
  show jZ _ _ _ _ [.int (jn go)] _ _
  refine z_ifge 28 26 c_104_23 rfl (jn_nl (by omega)) (fun hz => ?_) (fun hz => ?_)
  · exact hz.elim
  · refine z_go 29 _ [.ref 92] _ c_104_28 rfl ?_
    refine z_go 30 _ [.int (jn 2), .ref 92] _ c_104_29 rfl ?_
    refine z_go 31 _ [.int (jn ((ids go))), .int (jn 2), .ref 92] _ c_104_30 rfl ?_
    have hK1 : mKp (jm [(92, mO 0 ln at_ n gd ct li 2 false lg li2 dn2 ss fd)] M) ids szs E al := mKp_fr hK fun k a b => if_neg (by omega)
    refine z_callvV 34 6 97 2 92 c_104_31 rfl ⟨Nat.le_of_ble_eq_true rfl, Nat.le_of_ble_eq_true rfl⟩ rfl rfl [.ref 92, .int (jn 2), .int (jn ((ids go)))] rfl rfl [some (.ref 92), some (.int (jn 2)), some (.int (jn ((ids go)))), none] rfl rfl (t_mchR2 (d := d) (th := 0) (ct := ct) (li := li) (dn := false) (lg := lg) (li2 := li2) (dn2 := dn2) (ss := ss) (fd := fd) (S := S) (sb := sb) (id := ids go) hK1 hal (show (jm [(92, mO 0 ln at_ n gd ct li 2 false lg li2 dn2 ss fd)] M).1 92 = mW (0, ct, li, 2, false, lg, li2, dn2, ss, fd) ln at_ n gd from rfl) (mSt_fr hS fun k a b => if_neg (by omega)) hsb hct hs) ?_
    intro M1 ⟨g1, g2, g3⟩
    have hf1 : fQ M M1 := (fQ_9 (sm_jm rfl)).tr g3
    show jZ _ _ _ _ [.int (jb false)] _ _
    refine z_ifeq 41 37 c_104_34 rfl jb_t (fun _ => ?_) (fun h => absurd rfl h)
    refine z_go 43 _ [.int ((-2))] _ c_104_41 rfl ?_
    refine z_iret c_104_43 ?_
    exact ⟨rfl, mI_Q H hS hX h118 hsb hf1 g1 g2 hal, fQ_sm hf1⟩
theorem t_mremN3 {d : Nat} {th ct li lg li2 ss fd : Nat} {dn2 : Bool} {tx : Nat → Nat} {ln : Nat} {ids szs : Nat → Nat} {E : Nat → MA} {al : Nat → Nat} {S : Nat → MA} {sb fnd : Nat → Nat} {M : jx_M} (hI : mI M (th, ct, li, 3, false, lg, li2, dn2, ss, fd) tx ln ids szs E al S sb fnd) (hct : ct ≤ 12) {go : Nat} (hs : sp_sl ids (jn (ids go)) ct 0 = some go) : jZ (d + 3) 104 0 [some (.ref 92), some (.int (jn (ids go)))] [] M (jV (some (.int (-2))) fun M' => mI M' (0, ct, li, 0, true, 2, (ids go), false, ss, 0) tx ln ids szs E al S sb fnd ∧ sm 92 118 M M') := by
  have hI0 := hI
  obtain ⟨⟨at_, n, gd, A, bm, bk, oa, ol, H⟩, hK, hS, hX, h118, hal, hsb⟩ := hI
  have h92 := H.1
  have h93 := H.2.1
  refine z_go 1 _ [.ref 92] _ c_104_0 rfl ?_
  refine z_getf (v := .int (jb false)) 4 c_104_1 rfl h92 rfl ?_
  refine z_ifeq 13 7 c_104_4 rfl jb_t (fun _ => ?_) (fun h => absurd rfl h)
  refine z_go 14 _ [.ref 92] _ c_104_13 rfl ?_
  refine z_go 15 _ [.int (jn 0), .ref 92] _ c_104_14 rfl ?_
  refine z_putf (M' := jm [(92, mO 0 ln at_ n gd ct li 3 false lg li2 dn2 ss fd)] M) 18 c_104_15 rfl h92 (rfl) (Nat.le_of_ble_eq_true rfl) rfl ?_
  refine z_go 19 _ [.ref 92] _ c_104_18 rfl ?_
  refine z_go 20 _ [.int (jn ((ids go))), .ref 92] _ c_104_19 rfl ?_
  refine z_callv 23 6 99 1 92 c_104_20 rfl ⟨Nat.le_of_ble_eq_true rfl, Nat.le_of_ble_eq_true rfl⟩ rfl rfl [.ref 92, .int (jn ((ids go)))] rfl rfl [some (.ref 92), some (.int (jn ((ids go)))), none] rfl rfl (t_mpl (w := (0, ct, li, 3, false, lg, li2, dn2, ss, fd)) (M := jm [(92, mO 0 ln at_ n gd ct li 3 false lg li2 dn2 ss fd)] M) (ids := ids) (ln := ln) (at_ := at_) (n := n) (gd := gd) rfl hK.1 hct) ?_
  show jZ _ _ _ _ [.int (jo (sp_sl ids (jn (ids go)) ct 0))] _ _
  rw [hs]
  obtain ⟨-, hgo, -⟩ := sp_sl_some hs
  show jZ _ _ _ _ [.int (jn go)] _ _
  refine z_ifge 28 26 c_104_23 rfl (jn_nl (by omega)) (fun hz => ?_) (fun hz => ?_)
  · exact hz.elim
  · refine z_go 29 _ [.ref 92] _ c_104_28 rfl ?_
    refine z_go 30 _ [.int (jn 2), .ref 92] _ c_104_29 rfl ?_
    refine z_go 31 _ [.int (jn ((ids go))), .int (jn 2), .ref 92] _ c_104_30 rfl ?_
    have hK1 : mKp (jm [(92, mO 0 ln at_ n gd ct li 3 false lg li2 dn2 ss fd)] M) ids szs E al := mKp_fr hK fun k a b => if_neg (by omega)
    refine z_callvV 34 6 97 2 92 c_104_31 rfl ⟨Nat.le_of_ble_eq_true rfl, Nat.le_of_ble_eq_true rfl⟩ rfl rfl [.ref 92, .int (jn 2), .int (jn ((ids go)))] rfl rfl [some (.ref 92), some (.int (jn 2)), some (.int (jn ((ids go)))), none] rfl rfl (t_mchR3 (d := d) (th := 0) (ct := ct) (li := li) (dn := false) (lg := lg) (li2 := li2) (dn2 := dn2) (ss := ss) (fd := fd) (S := S) (sb := sb) (id := ids go) hK1 hal (show (jm [(92, mO 0 ln at_ n gd ct li 3 false lg li2 dn2 ss fd)] M).1 92 = mW (0, ct, li, 3, false, lg, li2, dn2, ss, fd) ln at_ n gd from rfl) (mSt_fr hS fun k a b => if_neg (by omega)) hsb hct hs) ?_
    intro M1 ⟨g1, g2, g3⟩
    have hf1 : fQ M M1 := (fQ_9 (sm_jm rfl)).tr g3
    show jZ _ _ _ _ [.int (jb false)] _ _
    refine z_ifeq 41 37 c_104_34 rfl jb_t (fun _ => ?_) (fun h => absurd rfl h)
    refine z_go 43 _ [.int ((-2))] _ c_104_41 rfl ?_
    refine z_iret c_104_43 ?_
    exact ⟨rfl, mI_Q H hS hX h118 hsb hf1 g1 g2 hal, fQ_sm hf1⟩
theorem t_mremN4 {d : Nat} {th ct li lg li2 ss fd : Nat} {dn2 : Bool} {tx : Nat → Nat} {ln : Nat} {ids szs : Nat → Nat} {E : Nat → MA} {al : Nat → Nat} {S : Nat → MA} {sb fnd : Nat → Nat} {M : jx_M} (hI : mI M (th, ct, li, 4, false, lg, li2, dn2, ss, fd) tx ln ids szs E al S sb fnd) (hct : ct ≤ 12) {go : Nat} (hs : sp_sl ids (jn (ids go)) ct 0 = some go) : jZ (d + 3) 104 0 [some (.ref 92), some (.int (jn (ids go)))] [] M (jV (some (.int (-2))) fun M' => (∃ ids' szs' E' al', mI M' (0, ct - 1, li, 0, true, 2, (ids go), true, ss, 0) tx ln ids' szs' E' al' S sb fnd ∧ (∀ s, go ≤ s → s < ct - 1 → ids' s = ids (s + 1) ∧ szs' s = szs (s + 1) ∧ rowE E' al' s E al (s + 1)) ∧ ∀ s, s < go → ids' s = ids s ∧ szs' s = szs s ∧ rowE E' al' s E al s) ∧ sm 92 118 M M') := by
  have hI0 := hI
  obtain ⟨⟨at_, n, gd, A, bm, bk, oa, ol, H⟩, hK, hS, hX, h118, hal, hsb⟩ := hI
  have h92 := H.1
  have h93 := H.2.1
  refine z_go 1 _ [.ref 92] _ c_104_0 rfl ?_
  refine z_getf (v := .int (jb false)) 4 c_104_1 rfl h92 rfl ?_
  refine z_ifeq 13 7 c_104_4 rfl jb_t (fun _ => ?_) (fun h => absurd rfl h)
  refine z_go 14 _ [.ref 92] _ c_104_13 rfl ?_
  refine z_go 15 _ [.int (jn 0), .ref 92] _ c_104_14 rfl ?_
  refine z_putf (M' := jm [(92, mO 0 ln at_ n gd ct li 4 false lg li2 dn2 ss fd)] M) 18 c_104_15 rfl h92 (rfl) (Nat.le_of_ble_eq_true rfl) rfl ?_
  refine z_go 19 _ [.ref 92] _ c_104_18 rfl ?_
  refine z_go 20 _ [.int (jn ((ids go))), .ref 92] _ c_104_19 rfl ?_
  refine z_callv 23 6 99 1 92 c_104_20 rfl ⟨Nat.le_of_ble_eq_true rfl, Nat.le_of_ble_eq_true rfl⟩ rfl rfl [.ref 92, .int (jn ((ids go)))] rfl rfl [some (.ref 92), some (.int (jn ((ids go)))), none] rfl rfl (t_mpl (w := (0, ct, li, 4, false, lg, li2, dn2, ss, fd)) (M := jm [(92, mO 0 ln at_ n gd ct li 4 false lg li2 dn2 ss fd)] M) (ids := ids) (ln := ln) (at_ := at_) (n := n) (gd := gd) rfl hK.1 hct) ?_
  show jZ _ _ _ _ [.int (jo (sp_sl ids (jn (ids go)) ct 0))] _ _
  rw [hs]
  obtain ⟨-, hgo, -⟩ := sp_sl_some hs
  show jZ _ _ _ _ [.int (jn go)] _ _
  refine z_ifge 28 26 c_104_23 rfl (jn_nl (by omega)) (fun hz => ?_) (fun hz => ?_)
  · exact hz.elim
  · refine z_go 29 _ [.ref 92] _ c_104_28 rfl ?_
    refine z_go 30 _ [.int (jn 2), .ref 92] _ c_104_29 rfl ?_
    refine z_go 31 _ [.int (jn ((ids go))), .int (jn 2), .ref 92] _ c_104_30 rfl ?_
    have hK1 : mKp (jm [(92, mO 0 ln at_ n gd ct li 4 false lg li2 dn2 ss fd)] M) ids szs E al := mKp_fr hK fun k a b => if_neg (by omega)
    refine z_callvV 34 6 97 2 92 c_104_31 rfl ⟨Nat.le_of_ble_eq_true rfl, Nat.le_of_ble_eq_true rfl⟩ rfl rfl [.ref 92, .int (jn 2), .int (jn ((ids go)))] rfl rfl [some (.ref 92), some (.int (jn 2)), some (.int (jn ((ids go)))), none] rfl rfl (t_mchR4 (d := d) (th := 0) (ct := ct) (li := li) (dn := false) (lg := lg) (li2 := li2) (dn2 := dn2) (ss := ss) (fd := fd) (S := S) (sb := sb) (id := ids go) hK1 hal (show (jm [(92, mO 0 ln at_ n gd ct li 4 false lg li2 dn2 ss fd)] M).1 92 = mW (0, ct, li, 4, false, lg, li2, dn2, ss, fd) ln at_ n gd from rfl) (mSt_fr hS fun k a b => if_neg (by omega)) hsb hct hs) ?_
    intro M1 ⟨g1, g2, g3⟩
    have hf1 : fQ M M1 := (fQ_9 (sm_jm rfl)).tr g3
    show jZ _ _ _ _ [.int (jb false)] _ _
    refine z_ifeq 41 37 c_104_34 rfl jb_t (fun _ => ?_) (fun h => absurd rfl h)
    refine z_go 43 _ [.int ((-2))] _ c_104_41 rfl ?_
    refine z_iret c_104_43 ?_
    obtain ⟨i9, s9, E9, al9, y1, y2, y3, y4⟩ := g2
    exact ⟨rfl, ⟨i9, s9, E9, al9, mI_Q H hS hX h118 hsb hf1 g1 y1 y4, y2, y3⟩, fQ_sm hf1⟩
