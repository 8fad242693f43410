/-! THE READER AND THE GRAPH, SMALL METHODS; printed by wip/whole/p42.py -/
theorem c_3_0 : jx_cd 3 0 = some (o_ild 1 1) := rfl
theorem c_3_1 : jx_cd 3 1 = some (o_iflt 16) := rfl
theorem c_3_4 : jx_cd 3 4 = some (o_ild 1 1) := rfl
theorem c_3_5 : jx_cd 3 5 = some (o_ald 0 1) := rfl
theorem c_3_6 : jx_cd 3 6 = some (o_getf 0 3) := rfl
theorem c_3_9 : jx_cd 3 9 = some (o_ige 16) := rfl
theorem c_3_12 : jx_cd 3 12 = some (o_push (.int 1) 1) := rfl
theorem c_3_13 : jx_cd 3 13 = some (o_goto 17) := rfl
theorem c_3_16 : jx_cd 3 16 = some (o_push (.int 0) 1) := rfl
theorem c_3_17 : jx_cd 3 17 = some (o_zret) := rfl
theorem c_4_0 : jx_cd 4 0 = some (o_ald 0 1) := rfl
theorem c_4_1 : jx_cd 4 1 = some (o_getf 0 1) := rfl
theorem c_4_4 : jx_cd 4 4 = some (o_ild 1 1) := rfl
theorem c_4_5 : jx_cd 4 5 = some (o_push (.int 10) 2) := rfl
theorem c_4_7 : jx_cd 4 7 = some (o_bin fun x y => x * y) := rfl
theorem c_4_8 : jx_cd 4 8 = some (o_ild 2 1) := rfl
theorem c_4_9 : jx_cd 4 9 = some (o_bin fun x y => x + y) := rfl
theorem c_4_10 : jx_cd 4 10 = some (o_iald) := rfl
theorem c_4_11 : jx_cd 4 11 = some (o_iret) := rfl
theorem c_9_0 : jx_cd 9 0 = some (o_ald 0 1) := rfl
theorem c_9_1 : jx_cd 9 1 = some (o_getf 0 2) := rfl
theorem c_9_4 : jx_cd 9 4 = some (o_ild 2 1) := rfl
theorem c_9_5 : jx_cd 9 5 = some (o_push (.int 10) 2) := rfl
theorem c_9_7 : jx_cd 9 7 = some (o_bin fun x y => x * y) := rfl
theorem c_9_8 : jx_cd 9 8 = some (o_ild 1 1) := rfl
theorem c_9_9 : jx_cd 9 9 = some (o_bin fun x y => x + y) := rfl
theorem c_9_10 : jx_cd 9 10 = some (o_iald) := rfl
theorem c_9_11 : jx_cd 9 11 = some (o_call 124 1) := rfl
theorem c_9_14 : jx_cd 9 14 = some (o_iret) := rfl
theorem c_10_0 : jx_cd 10 0 = some (o_ald 0 1) := rfl
theorem c_10_1 : jx_cd 10 1 = some (o_getf 0 2) := rfl
theorem c_10_4 : jx_cd 10 4 = some (o_ild 2 1) := rfl
theorem c_10_5 : jx_cd 10 5 = some (o_push (.int 10) 2) := rfl
theorem c_10_7 : jx_cd 10 7 = some (o_bin fun x y => x * y) := rfl
theorem c_10_8 : jx_cd 10 8 = some (o_ild 1 1) := rfl
theorem c_10_9 : jx_cd 10 9 = some (o_bin fun x y => x + y) := rfl
theorem c_10_10 : jx_cd 10 10 = some (o_iald) := rfl
theorem c_10_11 : jx_cd 10 11 = some (o_iret) := rfl
theorem c_25_0 : jx_cd 25 0 = some (o_ald 0 1) := rfl
theorem c_25_1 : jx_cd 25 1 = some (o_push (.int 45) 2) := rfl
theorem c_25_3 : jx_cd 25 3 = some (o_callv 3 26 1) := rfl
theorem c_25_6 : jx_cd 25 6 = some (o_ifeq 11) := rfl
theorem c_25_9 : jx_cd 25 9 = some (o_push (.int 1) 1) := rfl
theorem c_25_10 : jx_cd 25 10 = some (o_iret) := rfl
theorem c_25_11 : jx_cd 25 11 = some (o_ald 0 1) := rfl
theorem c_25_12 : jx_cd 25 12 = some (o_push (.int 61) 2) := rfl
theorem c_25_14 : jx_cd 25 14 = some (o_callv 3 26 1) := rfl
theorem c_25_17 : jx_cd 25 17 = some (o_ifeq 22) := rfl
theorem c_25_20 : jx_cd 25 20 = some (o_push (.int 2) 1) := rfl
theorem c_25_21 : jx_cd 25 21 = some (o_iret) := rfl
theorem c_25_22 : jx_cd 25 22 = some (o_ald 0 1) := rfl
theorem c_25_23 : jx_cd 25 23 = some (o_push (.int 35) 2) := rfl
theorem c_25_25 : jx_cd 25 25 = some (o_callv 3 26 1) := rfl
theorem c_25_28 : jx_cd 25 28 = some (o_ifeq 33) := rfl
theorem c_25_31 : jx_cd 25 31 = some (o_push (.int 3) 1) := rfl
theorem c_25_32 : jx_cd 25 32 = some (o_iret) := rfl
theorem c_25_33 : jx_cd 25 33 = some (o_ald 0 1) := rfl
theorem c_25_34 : jx_cd 25 34 = some (o_getf 3 3) := rfl
theorem c_25_37 : jx_cd 25 37 = some (o_ifeq 53) := rfl
theorem c_25_40 : jx_cd 25 40 = some (o_ald 0 1) := rfl
theorem c_25_41 : jx_cd 25 41 = some (o_push (.int 126) 2) := rfl
theorem c_25_43 : jx_cd 25 43 = some (o_callv 3 26 1) := rfl
theorem c_25_46 : jx_cd 25 46 = some (o_ifeq 53) := rfl
theorem c_25_49 : jx_cd 25 49 = some (o_push (.int 5) 1) := rfl
theorem c_25_50 : jx_cd 25 50 = some (o_goto 54) := rfl
theorem c_25_53 : jx_cd 25 53 = some (o_push (.int 0) 1) := rfl
theorem c_25_54 : jx_cd 25 54 = some (o_iret) := rfl
theorem c_26_0 : jx_cd 26 0 = some (o_ald 0 1) := rfl
theorem c_26_1 : jx_cd 26 1 = some (o_getf 3 2) := rfl
theorem c_26_4 : jx_cd 26 4 = some (o_ald 0 1) := rfl
theorem c_26_5 : jx_cd 26 5 = some (o_getf 3 1) := rfl
theorem c_26_8 : jx_cd 26 8 = some (o_ige 28) := rfl
theorem c_26_11 : jx_cd 26 11 = some (o_ald 0 1) := rfl
theorem c_26_12 : jx_cd 26 12 = some (o_getf 3 0) := rfl
theorem c_26_15 : jx_cd 26 15 = some (o_ald 0 1) := rfl
theorem c_26_16 : jx_cd 26 16 = some (o_getf 3 2) := rfl
theorem c_26_19 : jx_cd 26 19 = some (o_xald 1) := rfl
theorem c_26_20 : jx_cd 26 20 = some (o_ild 1 1) := rfl
theorem c_26_21 : jx_cd 26 21 = some (o_ine 28) := rfl
theorem c_26_24 : jx_cd 26 24 = some (o_push (.int 1) 1) := rfl
theorem c_26_25 : jx_cd 26 25 = some (o_goto 29) := rfl
theorem c_26_28 : jx_cd 26 28 = some (o_push (.int 0) 1) := rfl
theorem c_26_29 : jx_cd 26 29 = some (o_ist 2 1) := rfl
theorem c_26_30 : jx_cd 26 30 = some (o_ild 2 1) := rfl
theorem c_26_31 : jx_cd 26 31 = some (o_ifeq 44) := rfl
theorem c_26_34 : jx_cd 26 34 = some (o_ald 0 1) := rfl
theorem c_26_35 : jx_cd 26 35 = some (o_dup) := rfl
theorem c_26_36 : jx_cd 26 36 = some (o_getf 3 2) := rfl
theorem c_26_39 : jx_cd 26 39 = some (o_push (.int 1) 1) := rfl
theorem c_26_40 : jx_cd 26 40 = some (o_bin fun x y => x + y) := rfl
theorem c_26_41 : jx_cd 26 41 = some (o_putf 3 2 jx_okI) := rfl
theorem c_26_44 : jx_cd 26 44 = some (o_ild 2 1) := rfl
theorem c_26_45 : jx_cd 26 45 = some (o_zret) := rfl
theorem c_28_0 : jx_cd 28 0 = some (o_ald 0 1) := rfl
theorem c_28_1 : jx_cd 28 1 = some (o_getf 3 2) := rfl
theorem c_28_4 : jx_cd 28 4 = some (o_ald 0 1) := rfl
theorem c_28_5 : jx_cd 28 5 = some (o_getf 3 1) := rfl
theorem c_28_8 : jx_cd 28 8 = some (o_ige 23) := rfl
theorem c_28_11 : jx_cd 28 11 = some (o_ald 0 1) := rfl
theorem c_28_12 : jx_cd 28 12 = some (o_getf 3 0) := rfl
theorem c_28_15 : jx_cd 28 15 = some (o_ald 0 1) := rfl
theorem c_28_16 : jx_cd 28 16 = some (o_getf 3 2) := rfl
theorem c_28_19 : jx_cd 28 19 = some (o_xald 1) := rfl
theorem c_28_20 : jx_cd 28 20 = some (o_goto 24) := rfl
theorem c_28_23 : jx_cd 28 23 = some (o_push (.int 0) 1) := rfl
theorem c_28_24 : jx_cd 28 24 = some (o_cret) := rfl
theorem c_31_0 : jx_cd 31 0 = some (o_ald 0 1) := rfl
theorem c_31_1 : jx_cd 31 1 = some (o_getf 3 6) := rfl
theorem c_31_4 : jx_cd 31 4 = some (o_push (.int 40) 2) := rfl
theorem c_31_6 : jx_cd 31 6 = some (o_ilt 11) := rfl
theorem c_31_11 : jx_cd 31 11 = some (o_ald 0 1) := rfl
theorem c_31_12 : jx_cd 31 12 = some (o_getf 3 4) := rfl
theorem c_31_15 : jx_cd 31 15 = some (o_ald 0 1) := rfl
theorem c_31_16 : jx_cd 31 16 = some (o_getf 3 6) := rfl
theorem c_31_19 : jx_cd 31 19 = some (o_ild 1 1) := rfl
theorem c_31_20 : jx_cd 31 20 = some (o_iast) := rfl
theorem c_31_21 : jx_cd 31 21 = some (o_ald 0 1) := rfl
theorem c_31_22 : jx_cd 31 22 = some (o_getf 3 5) := rfl
theorem c_31_25 : jx_cd 31 25 = some (o_ald 0 1) := rfl
theorem c_31_26 : jx_cd 31 26 = some (o_getf 3 6) := rfl
theorem c_31_29 : jx_cd 31 29 = some (o_ild 2 1) := rfl
theorem c_31_30 : jx_cd 31 30 = some (o_iast) := rfl
theorem c_31_31 : jx_cd 31 31 = some (o_ald 0 1) := rfl
theorem c_31_32 : jx_cd 31 32 = some (o_dup) := rfl
theorem c_31_33 : jx_cd 31 33 = some (o_getf 3 6) := rfl
theorem c_31_36 : jx_cd 31 36 = some (o_push (.int 1) 1) := rfl
theorem c_31_37 : jx_cd 31 37 = some (o_bin fun x y => x + y) := rfl
theorem c_31_38 : jx_cd 31 38 = some (o_putf 3 6 jx_okI) := rfl
theorem c_31_41 : jx_cd 31 41 = some (o_push (.int 1) 1) := rfl
theorem c_31_42 : jx_cd 31 42 = some (o_zret) := rfl
theorem c_32_0 : jx_cd 32 0 = some (o_ald 0 1) := rfl
theorem c_32_1 : jx_cd 32 1 = some (o_push (.int 72) 2) := rfl
theorem c_32_3 : jx_cd 32 3 = some (o_callv 3 26 1) := rfl
theorem c_32_6 : jx_cd 32 6 = some (o_ifne 11) := rfl
theorem c_32_9 : jx_cd 32 9 = some (o_push (.int 0) 1) := rfl
theorem c_32_10 : jx_cd 32 10 = some (o_iret) := rfl
theorem c_32_11 : jx_cd 32 11 = some (o_ald 0 1) := rfl
theorem c_32_12 : jx_cd 32 12 = some (o_callv 3 28 0) := rfl
theorem c_32_15 : jx_cd 32 15 = some (o_ist 1 1) := rfl
theorem c_32_16 : jx_cd 32 16 = some (o_ild 1 1) := rfl
theorem c_32_17 : jx_cd 32 17 = some (o_push (.int 50) 2) := rfl
theorem c_32_19 : jx_cd 32 19 = some (o_ilt 28) := rfl
theorem c_32_22 : jx_cd 32 22 = some (o_ild 1 1) := rfl
theorem c_32_23 : jx_cd 32 23 = some (o_push (.int 52) 2) := rfl
theorem c_32_25 : jx_cd 32 25 = some (o_ile 30) := rfl
theorem c_32_28 : jx_cd 32 28 = some (o_push (.int 1) 1) := rfl
theorem c_32_29 : jx_cd 32 29 = some (o_iret) := rfl
theorem c_32_30 : jx_cd 32 30 = some (o_ald 0 1) := rfl
theorem c_32_31 : jx_cd 32 31 = some (o_dup) := rfl
theorem c_32_32 : jx_cd 32 32 = some (o_getf 3 2) := rfl
theorem c_32_35 : jx_cd 32 35 = some (o_push (.int 1) 1) := rfl
theorem c_32_36 : jx_cd 32 36 = some (o_bin fun x y => x + y) := rfl
theorem c_32_37 : jx_cd 32 37 = some (o_putf 3 2 jx_okI) := rfl
theorem c_32_40 : jx_cd 32 40 = some (o_ild 1 1) := rfl
theorem c_32_41 : jx_cd 32 41 = some (o_push (.int 48) 2) := rfl
theorem c_32_43 : jx_cd 32 43 = some (o_bin fun x y => x - y) := rfl
theorem c_32_44 : jx_cd 32 44 = some (o_iret) := rfl
theorem c_33_0 : jx_cd 33 0 = some (o_ald 0 1) := rfl
theorem c_33_1 : jx_cd 33 1 = some (o_push (.int 43) 2) := rfl
theorem c_33_3 : jx_cd 33 3 = some (o_callv 3 26 1) := rfl
theorem c_33_6 : jx_cd 33 6 = some (o_ifeq 13) := rfl
theorem c_33_9 : jx_cd 33 9 = some (o_push (.int 8192) 3) := rfl
theorem c_33_12 : jx_cd 33 12 = some (o_iret) := rfl
theorem c_33_13 : jx_cd 33 13 = some (o_ald 0 1) := rfl
theorem c_33_14 : jx_cd 33 14 = some (o_push (.int 45) 2) := rfl
theorem c_33_16 : jx_cd 33 16 = some (o_callv 3 26 1) := rfl
theorem c_33_19 : jx_cd 33 19 = some (o_ifeq 26) := rfl
theorem c_33_22 : jx_cd 33 22 = some (o_push (.int 0) 1) := rfl
theorem c_33_23 : jx_cd 33 23 = some (o_goto 29) := rfl
theorem c_33_26 : jx_cd 33 26 = some (o_push (.int 4096) 3) := rfl
theorem c_33_29 : jx_cd 33 29 = some (o_iret) := rfl
theorem c_121_0 : jx_cd 121 0 = some (o_ild 0 1) := rfl
theorem c_121_1 : jx_cd 121 1 = some (o_ild 1 1) := rfl
theorem c_121_2 : jx_cd 121 2 = some (o_igt 9) := rfl
theorem c_121_5 : jx_cd 121 5 = some (o_ild 0 1) := rfl
theorem c_121_6 : jx_cd 121 6 = some (o_goto 10) := rfl
theorem c_121_9 : jx_cd 121 9 = some (o_ild 1 1) := rfl
theorem c_121_10 : jx_cd 121 10 = some (o_iret) := rfl
theorem c_122_0 : jx_cd 122 0 = some (o_ild 0 1) := rfl
theorem c_122_1 : jx_cd 122 1 = some (o_ild 1 1) := rfl
theorem c_122_2 : jx_cd 122 2 = some (o_ilt 9) := rfl
theorem c_122_5 : jx_cd 122 5 = some (o_ild 0 1) := rfl
theorem c_122_6 : jx_cd 122 6 = some (o_goto 10) := rfl
theorem c_122_9 : jx_cd 122 9 = some (o_ild 1 1) := rfl
theorem c_122_10 : jx_cd 122 10 = some (o_iret) := rfl
theorem c_123_0 : jx_cd 123 0 = some (o_push (.int 0) 1) := rfl
theorem c_123_1 : jx_cd 123 1 = some (o_ist 2 1) := rfl
theorem c_123_2 : jx_cd 123 2 = some (o_ald 0 1) := rfl
theorem c_123_3 : jx_cd 123 3 = some (o_alen) := rfl
theorem c_123_4 : jx_cd 123 4 = some (o_ist 3 1) := rfl
theorem c_123_5 : jx_cd 123 5 = some (o_ild 2 1) := rfl
theorem c_123_6 : jx_cd 123 6 = some (o_ild 3 1) := rfl
theorem c_123_7 : jx_cd 123 7 = some (o_ige 20) := rfl
theorem c_123_10 : jx_cd 123 10 = some (o_ald 0 1) := rfl
theorem c_123_11 : jx_cd 123 11 = some (o_ild 2 1) := rfl
theorem c_123_12 : jx_cd 123 12 = some (o_ild 1 1) := rfl
theorem c_123_13 : jx_cd 123 13 = some (o_iast) := rfl
theorem c_123_14 : jx_cd 123 14 = some (o_iinc 2 1) := rfl
theorem c_123_17 : jx_cd 123 17 = some (o_goto 5) := rfl
theorem c_123_20 : jx_cd 123 20 = some (o_ret) := rfl
theorem c_124_0 : jx_cd 124 0 = some (o_ild 0 1) := rfl
theorem c_124_1 : jx_cd 124 1 = some (o_ild 0 1) := rfl
theorem c_124_2 : jx_cd 124 2 = some (o_push (.int 1) 1) := rfl
theorem c_124_3 : jx_cd 124 3 = some (o_bin fun x y => (x.toUInt32 >>> (y.toUInt32 &&& Int32.toUInt32 31)).toInt32) := rfl
theorem c_124_4 : jx_cd 124 4 = some (o_push (.int 1431655765) 3) := rfl
theorem c_124_7 : jx_cd 124 7 = some (o_bin fun x y => x &&& y) := rfl
theorem c_124_8 : jx_cd 124 8 = some (o_bin fun x y => x - y) := rfl
theorem c_124_9 : jx_cd 124 9 = some (o_ist 0 1) := rfl
theorem c_124_10 : jx_cd 124 10 = some (o_ild 0 1) := rfl
theorem c_124_11 : jx_cd 124 11 = some (o_push (.int 858993459) 3) := rfl
theorem c_124_14 : jx_cd 124 14 = some (o_bin fun x y => x &&& y) := rfl
theorem c_124_15 : jx_cd 124 15 = some (o_ild 0 1) := rfl
theorem c_124_16 : jx_cd 124 16 = some (o_push (.int 2) 1) := rfl
theorem c_124_17 : jx_cd 124 17 = some (o_bin fun x y => (x.toUInt32 >>> (y.toUInt32 &&& Int32.toUInt32 31)).toInt32) := rfl
theorem c_124_18 : jx_cd 124 18 = some (o_push (.int 858993459) 3) := rfl
theorem c_124_21 : jx_cd 124 21 = some (o_bin fun x y => x &&& y) := rfl
theorem c_124_22 : jx_cd 124 22 = some (o_bin fun x y => x + y) := rfl
theorem c_124_23 : jx_cd 124 23 = some (o_ist 0 1) := rfl
theorem c_124_24 : jx_cd 124 24 = some (o_ild 0 1) := rfl
theorem c_124_25 : jx_cd 124 25 = some (o_ild 0 1) := rfl
theorem c_124_26 : jx_cd 124 26 = some (o_push (.int 4) 1) := rfl
theorem c_124_27 : jx_cd 124 27 = some (o_bin fun x y => (x.toUInt32 >>> (y.toUInt32 &&& Int32.toUInt32 31)).toInt32) := rfl
theorem c_124_28 : jx_cd 124 28 = some (o_bin fun x y => x + y) := rfl
theorem c_124_29 : jx_cd 124 29 = some (o_push (.int 252645135) 3) := rfl
theorem c_124_32 : jx_cd 124 32 = some (o_bin fun x y => x &&& y) := rfl
theorem c_124_33 : jx_cd 124 33 = some (o_ist 0 1) := rfl
theorem c_124_34 : jx_cd 124 34 = some (o_ild 0 1) := rfl
theorem c_124_35 : jx_cd 124 35 = some (o_ild 0 1) := rfl
theorem c_124_36 : jx_cd 124 36 = some (o_push (.int 8) 2) := rfl
theorem c_124_38 : jx_cd 124 38 = some (o_bin fun x y => (x.toUInt32 >>> (y.toUInt32 &&& Int32.toUInt32 31)).toInt32) := rfl
theorem c_124_39 : jx_cd 124 39 = some (o_bin fun x y => x + y) := rfl
theorem c_124_40 : jx_cd 124 40 = some (o_ist 0 1) := rfl
theorem c_124_41 : jx_cd 124 41 = some (o_ild 0 1) := rfl
theorem c_124_42 : jx_cd 124 42 = some (o_ild 0 1) := rfl
theorem c_124_43 : jx_cd 124 43 = some (o_push (.int 16) 2) := rfl
theorem c_124_45 : jx_cd 124 45 = some (o_bin fun x y => (x.toUInt32 >>> (y.toUInt32 &&& Int32.toUInt32 31)).toInt32) := rfl
theorem c_124_46 : jx_cd 124 46 = some (o_bin fun x y => x + y) := rfl
theorem c_124_47 : jx_cd 124 47 = some (o_ist 0 1) := rfl
theorem c_124_48 : jx_cd 124 48 = some (o_ild 0 1) := rfl
theorem c_124_49 : jx_cd 124 49 = some (o_push (.int 63) 2) := rfl
theorem c_124_51 : jx_cd 124 51 = some (o_bin fun x y => x &&& y) := rfl
theorem c_124_52 : jx_cd 124 52 = some (o_iret) := rfl
theorem c_125_0 : jx_cd 125 0 = some (o_ald 0 1) := rfl
theorem c_125_1 : jx_cd 125 1 = some (o_ild 1 1) := rfl
theorem c_125_2 : jx_cd 125 2 = some (o_push (.int 0) 1) := rfl
theorem c_125_3 : jx_cd 125 3 = some (o_callv 200 126 2) := rfl
theorem c_125_6 : jx_cd 125 6 = some (o_iret) := rfl
theorem c_126_0 : jx_cd 126 0 = some (o_ald 0 1) := rfl
theorem c_126_1 : jx_cd 126 1 = some (o_callv 200 127 0) := rfl
theorem c_126_4 : jx_cd 126 4 = some (o_ifeq 23) := rfl
theorem c_126_7 : jx_cd 126 7 = some (o_ald 0 1) := rfl
theorem c_126_8 : jx_cd 126 8 = some (o_getf 200 0) := rfl
theorem c_126_11 : jx_cd 126 11 = some (o_ild 1 1) := rfl
theorem c_126_12 : jx_cd 126 12 = some (o_ild 2 1) := rfl
theorem c_126_13 : jx_cd 126 13 = some (o_ald 0 1) := rfl
theorem c_126_14 : jx_cd 126 14 = some (o_callv 200 128 0) := rfl
theorem c_126_17 : jx_cd 126 17 = some (o_call 131 4) := rfl
theorem c_126_20 : jx_cd 126 20 = some (o_goto 36) := rfl
theorem c_126_36 : jx_cd 126 36 = some (o_iret) := rfl
theorem c_127_0 : jx_cd 127 0 = some (o_push (.int 1) 3) := rfl
theorem c_127_3 : jx_cd 127 3 = some (o_ifeq 17) := rfl
theorem c_127_6 : jx_cd 127 6 = some (o_ald 0 1) := rfl
theorem c_127_7 : jx_cd 127 7 = some (o_getf 200 1) := rfl
theorem c_127_10 : jx_cd 127 10 = some (o_ifne 17) := rfl
theorem c_127_13 : jx_cd 127 13 = some (o_push (.int 1) 1) := rfl
theorem c_127_14 : jx_cd 127 14 = some (o_goto 18) := rfl
theorem c_127_18 : jx_cd 127 18 = some (o_zret) := rfl
theorem c_128_0 : jx_cd 128 0 = some (o_ald 0 1) := rfl
theorem c_128_1 : jx_cd 128 1 = some (o_getf 200 0) := rfl
theorem c_128_4 : jx_cd 128 4 = some (o_alen) := rfl
theorem c_128_5 : jx_cd 128 5 = some (o_ald 0 1) := rfl
theorem c_128_6 : jx_cd 128 6 = some (o_callv 200 129 0) := rfl
theorem c_128_9 : jx_cd 128 9 = some (o_bin fun x y => x >>> (y &&& 31)) := rfl
theorem c_128_10 : jx_cd 128 10 = some (o_iret) := rfl
theorem c_129_0 : jx_cd 129 0 = some (o_push (.int 1) 3) := rfl
theorem c_129_3 : jx_cd 129 3 = some (o_ifeq 13) := rfl
theorem c_129_6 : jx_cd 129 6 = some (o_ald 0 1) := rfl
theorem c_129_7 : jx_cd 129 7 = some (o_getf 200 1) := rfl
theorem c_129_10 : jx_cd 129 10 = some (o_goto 14) := rfl
theorem c_129_14 : jx_cd 129 14 = some (o_bret) := rfl
theorem c_130_0 : jx_cd 130 0 = some (o_ild 0 1) := rfl
theorem c_130_1 : jx_cd 130 1 = some (o_iflt 15) := rfl
theorem c_130_4 : jx_cd 130 4 = some (o_ild 0 1) := rfl
theorem c_130_5 : jx_cd 130 5 = some (o_push (.int 255) 3) := rfl
theorem c_130_8 : jx_cd 130 8 = some (o_igt 15) := rfl
theorem c_130_11 : jx_cd 130 11 = some (o_push (.int 1) 1) := rfl
theorem c_130_12 : jx_cd 130 12 = some (o_goto 16) := rfl
theorem c_130_16 : jx_cd 130 16 = some (o_zret) := rfl
theorem c_131_0 : jx_cd 131 0 = some (o_ild 1 1) := rfl
theorem c_131_1 : jx_cd 131 1 = some (o_call 130 1) := rfl
theorem c_131_4 : jx_cd 131 4 = some (o_ifne 9) := rfl
theorem c_131_9 : jx_cd 131 9 = some (o_ild 2 1) := rfl
theorem c_131_10 : jx_cd 131 10 = some (o_push (.int 0) 1) := rfl
theorem c_131_11 : jx_cd 131 11 = some (o_call 122 2) := rfl
theorem c_131_14 : jx_cd 131 14 = some (o_ist 2 1) := rfl
theorem c_131_15 : jx_cd 131 15 = some (o_ild 3 1) := rfl
theorem c_131_16 : jx_cd 131 16 = some (o_ald 0 1) := rfl
theorem c_131_17 : jx_cd 131 17 = some (o_alen) := rfl
theorem c_131_18 : jx_cd 131 18 = some (o_call 121 2) := rfl
theorem c_131_21 : jx_cd 131 21 = some (o_ist 3 1) := rfl
theorem c_131_22 : jx_cd 131 22 = some (o_ild 2 1) := rfl
theorem c_131_23 : jx_cd 131 23 = some (o_ild 3 1) := rfl
theorem c_131_24 : jx_cd 131 24 = some (o_ilt 29) := rfl
theorem c_131_29 : jx_cd 131 29 = some (o_ald 0 1) := rfl
theorem c_131_30 : jx_cd 131 30 = some (o_ild 1 1) := rfl
theorem c_131_31 : jx_cd 131 31 = some (o_ild 2 1) := rfl
theorem c_131_32 : jx_cd 131 32 = some (o_ild 3 1) := rfl
theorem c_131_33 : jx_cd 131 33 = some (o_call 132 4) := rfl
theorem c_131_36 : jx_cd 131 36 = some (o_iret) := rfl
theorem c_132_0 : jx_cd 132 0 = some (o_ild 1 1) := rfl
theorem c_132_1 : jx_cd 132 1 = some (o_un fun x => x.toInt8.toInt32) := rfl
theorem c_132_2 : jx_cd 132 2 = some (o_ist 4 2) := rfl
theorem c_132_4 : jx_cd 132 4 = some (o_ild 2 1) := rfl
theorem c_132_5 : jx_cd 132 5 = some (o_ist 5 2) := rfl
theorem c_132_7 : jx_cd 132 7 = some (o_ild 5 2) := rfl
theorem c_132_9 : jx_cd 132 9 = some (o_ild 3 1) := rfl
theorem c_132_10 : jx_cd 132 10 = some (o_ige 31) := rfl
theorem c_132_13 : jx_cd 132 13 = some (o_ald 0 1) := rfl
theorem c_132_14 : jx_cd 132 14 = some (o_ild 5 2) := rfl
theorem c_132_16 : jx_cd 132 16 = some (o_bald) := rfl
theorem c_132_17 : jx_cd 132 17 = some (o_ild 4 2) := rfl
theorem c_132_19 : jx_cd 132 19 = some (o_ine 25) := rfl
theorem c_132_22 : jx_cd 132 22 = some (o_ild 5 2) := rfl
theorem c_132_24 : jx_cd 132 24 = some (o_iret) := rfl
theorem c_132_25 : jx_cd 132 25 = some (o_iinc 5 1) := rfl
theorem c_132_28 : jx_cd 132 28 = some (o_goto 7) := rfl
theorem c_132_31 : jx_cd 132 31 = some (o_push (.int (-1)) 1) := rfl
theorem c_132_32 : jx_cd 132 32 = some (o_iret) := rfl
theorem t_min {d a b : Nat} {M : jx_M} (ha : a < 2 ^ 31) (hb : b < 2 ^ 31) : jZ d 121 0 [some (.int (jn a)), some (.int (jn b))] [] M (jR (some (.int (jn (if a ≤ b then a else b)))) M) := by
  refine z_go 1 _ [.int (jn a)] _ c_121_0 rfl ?_
  refine z_go 2 _ [.int (jn b), .int (jn a)] _ c_121_1 rfl ?_
  refine z_igt 9 5 c_121_2 rfl (by omega) (by omega) (fun h => ?_) (fun h => ?_)
  · refine z_go 10 _ [.int (jn b)] _ c_121_9 rfl ?_
    refine z_iret c_121_10 ?_
    exact ⟨by congr 4; split <;> omega, rfl⟩
  · refine z_go 6 _ [.int (jn a)] _ c_121_5 rfl ?_
    refine z_go 10 _ [.int (jn a)] _ c_121_6 rfl ?_
    refine z_iret c_121_10 ?_
    exact ⟨by congr 4; split <;> omega, rfl⟩
theorem t_max {d a b : Nat} {M : jx_M} (ha : a < 2 ^ 31) (hb : b < 2 ^ 31) : jZ d 122 0 [some (.int (jn a)), some (.int (jn b))] [] M (jR (some (.int (jn (if b ≤ a then a else b)))) M) := by
  refine z_go 1 _ [.int (jn a)] _ c_122_0 rfl ?_
  refine z_go 2 _ [.int (jn b), .int (jn a)] _ c_122_1 rfl ?_
  refine z_ilt 9 5 c_122_2 rfl (by omega) (by omega) (fun h => ?_) (fun h => ?_)
  · refine z_go 10 _ [.int (jn b)] _ c_122_9 rfl ?_
    refine z_iret c_122_10 ?_
    exact ⟨by congr 4; split <;> omega, rfl⟩
  · refine z_go 6 _ [.int (jn a)] _ c_122_5 rfl ?_
    refine z_go 10 _ [.int (jn a)] _ c_122_6 rfl ?_
    refine z_iret c_122_10 ?_
    exact ⟨by congr 4; split <;> omega, rfl⟩
/-- filled from i on -/
def sp_fill (f : Nat → Int32) (x : Int32) (i n : Nat) : Nat → Int32 := fun j => if i ≤ j ∧ j < n then x else f j
theorem sp_fill_s {f : Nat → Int32} {x : Int32} {i n : Nat} (h : i < n) : sp_fill (upd f i x) x (i + 1) n = sp_fill f x i n := by
  funext j
  simp only [sp_fill, upd]
  by_cases h1 : i + 1 ≤ j ∧ j < n
  · rw [if_pos h1, if_pos ⟨by omega, h1.2⟩]
  · rw [if_neg h1]
    by_cases h2 : j = i
    · rw [if_pos h2, if_pos ⟨by omega, by omega⟩]
    · rw [if_neg h2, if_neg (by omega)]
theorem sp_fill_z {f : Nat → Int32} {x : Int32} {n : Nat} : sp_fill f x n n = f := by
  funext j
  simp only [sp_fill]
  rw [if_neg (by omega)]
theorem t_fill_l {d a n : Nat} {x : Int32} (hn : n < 2 ^ 31) : ∀ {k i : Nat} {f : Nat → Int32} {M : jx_M}, i + k = n → M.1 a = .inl (0, n, .inl f) → jZ d 123 5 [some (.ref a), some (.int x), some (.int (jn i)), some (.int (jn n))] [] M (jR none (jx_st M a (.inl (0, n, .inl (sp_fill f x i n))))) := by
  intro k
  induction k with
  | zero =>
    intro i f M hk h
    refine z_go 6 _ [.int (jn i)] _ c_123_5 rfl ?_
    refine z_go 7 _ [.int (jn n), .int (jn i)] _ c_123_6 rfl ?_
    refine z_ige 20 10 c_123_7 rfl (by omega) (by omega) (fun h1 => ?_) (fun h1 => ?_)
    · omega
    · refine z_ret c_123_20 ?_
      refine ⟨rfl, ?_⟩
      obtain rfl : i = n := by omega
      rw [sp_fill_z]
      exact (jx_st_id h).symm
  | succ k ih =>
    intro i f M hk h
    refine z_go 6 _ [.int (jn i)] _ c_123_5 rfl ?_
    refine z_go 7 _ [.int (jn n), .int (jn i)] _ c_123_6 rfl ?_
    refine z_ige 20 10 c_123_7 rfl (by omega) (by omega) (fun h1 => ?_) (fun h1 => ?_)
    · refine z_go 11 _ [.ref a] _ c_123_10 rfl ?_
      refine z_go 12 _ [.int (jn i), .ref a] _ c_123_11 rfl ?_
      refine z_go 13 _ [.int x, .int (jn i), .ref a] _ c_123_12 rfl ?_
      refine z_iast (M' := jm [(a, .inl (0, n, .inl ((upd f i x))))] M) 14 c_123_13 rfl h (by omega) (by omega) rfl ?_
      refine z_iinc 17 [some (.ref a), some (.int x), some (.int (jn (i + 1))), some (.int (jn n))] c_123_14 rfl rfl (jn_add _ _) rfl ?_
      refine z_go 5 _ [] _ c_123_17 rfl ?_
      refine (ih (i := i + 1) (f := upd f i x) (M := jm [(a, .inl (0, n, .inl (upd f i x)))] M) (by omega) (if_pos rfl)).mono fun r M1 q => ?_
      refine ⟨q.1, q.2.trans ?_⟩
      rw [sp_fill_s h1]
      exact jx_st_st _ _ _ _
    · omega
theorem t_fill {d a n : Nat} {x : Int32} {f : Nat → Int32} {M : jx_M} (hn : n < 2 ^ 31) (h : M.1 a = .inl (0, n, .inl f)) : jZ d 123 0 [some (.ref a), some (.int x), none, none] [] M (jR none (jx_st M a (.inl (0, n, .inl (sp_fill f x 0 n))))) := by
  refine z_go 1 _ [.int (jn 0)] _ c_123_0 rfl ?_
  refine z_go 2 [some (.ref a), some (.int x), some (.int (jn 0)), none] [] _ c_123_1 rfl ?_
  refine z_go 3 _ [.ref a] _ c_123_2 rfl ?_
  refine z_alen 4 c_123_3 rfl h (by decide) ?_
  refine z_go 5 [some (.ref a), some (.int x), some (.int (jn 0)), some (.int (jn n))] [] _ c_123_4 rfl ?_
  exact t_fill_l hn (by omega : 0 + n = n) h
def bc1 (x : Int32) : Int32 := x - ((x.toUInt32 >>> ((1 : Int32).toUInt32 &&& Int32.toUInt32 31)).toInt32 &&& 1431655765)
def bc2 (x : Int32) : Int32 := (x &&& 858993459) + ((x.toUInt32 >>> ((2 : Int32).toUInt32 &&& Int32.toUInt32 31)).toInt32 &&& 858993459)
def bc3 (x : Int32) : Int32 := (x + (x.toUInt32 >>> ((4 : Int32).toUInt32 &&& Int32.toUInt32 31)).toInt32) &&& 252645135
def bc4 (x : Int32) : Int32 := x + (x.toUInt32 >>> ((8 : Int32).toUInt32 &&& Int32.toUInt32 31)).toInt32
def bc5 (x : Int32) : Int32 := x + (x.toUInt32 >>> ((16 : Int32).toUInt32 &&& Int32.toUInt32 31)).toInt32
/-- how many of the ten lowest bits stand -/
def sp_bits (x : Nat) : Nat := ((List.range 10).filter fun i => x.testBit i).length
theorem bc_ok : ∀ x, x < 1024 → bc5 (bc4 (bc3 (bc2 (bc1 (jn x))))) &&& 63 = jn (sp_bits x) := by decide +kernel
set_option maxRecDepth 100000 in
theorem t_bits {d x : Nat} {M : jx_M} (h : x < 1024) : jZ d 124 0 [some (.int (jn x))] [] M (jR (some (.int (jn (sp_bits x)))) M) := by
  refine z_go 1 _ [.int (jn x)] _ c_124_0 rfl ?_
  refine z_go 2 _ [.int (jn x), .int (jn x)] _ c_124_1 rfl ?_
  refine z_go 3 _ [.int (jn 1), .int (jn x), .int (jn x)] _ c_124_2 rfl ?_
  refine z_go 4 _ [.int ((fun x y : Int32 => (x.toUInt32 >>> (y.toUInt32 &&& Int32.toUInt32 31)).toInt32) (jn x) (jn 1)), .int (jn x)] _ c_124_3 rfl ?_
  refine z_go 7 _ [.int (jn 1431655765), .int ((fun x y : Int32 => (x.toUInt32 >>> (y.toUInt32 &&& Int32.toUInt32 31)).toInt32) (jn x) (jn 1)), .int (jn x)] _ c_124_4 rfl ?_
  refine z_go 8 _ [.int ((((fun x y : Int32 => (x.toUInt32 >>> (y.toUInt32 &&& Int32.toUInt32 31)).toInt32) (jn x) (jn 1))) &&& (jn 1431655765)), .int (jn x)] _ c_124_7 rfl ?_
  refine z_go 9 _ [.int ((jn x) - (((((fun x y : Int32 => (x.toUInt32 >>> (y.toUInt32 &&& Int32.toUInt32 31)).toInt32) (jn x) (jn 1))) &&& (jn 1431655765))))] _ c_124_8 rfl ?_
  show jZ _ _ _ _ ([.int (bc1 (jn x))]) _ _
  refine z_go 10 [some (.int (bc1 (jn x)))] [] _ c_124_9 rfl ?_
  refine z_go 11 _ [.int (bc1 (jn x))] _ c_124_10 rfl ?_
  refine z_go 14 _ [.int (jn 858993459), .int (bc1 (jn x))] _ c_124_11 rfl ?_
  refine z_go 15 _ [.int (((bc1 (jn x))) &&& (jn 858993459))] _ c_124_14 rfl ?_
  refine z_go 16 _ [.int (bc1 (jn x)), .int (((bc1 (jn x))) &&& (jn 858993459))] _ c_124_15 rfl ?_
  refine z_go 17 _ [.int (jn 2), .int (bc1 (jn x)), .int (((bc1 (jn x))) &&& (jn 858993459))] _ c_124_16 rfl ?_
  refine z_go 18 _ [.int ((fun x y : Int32 => (x.toUInt32 >>> (y.toUInt32 &&& Int32.toUInt32 31)).toInt32) ((bc1 (jn x))) (jn 2)), .int (((bc1 (jn x))) &&& (jn 858993459))] _ c_124_17 rfl ?_
  refine z_go 21 _ [.int (jn 858993459), .int ((fun x y : Int32 => (x.toUInt32 >>> (y.toUInt32 &&& Int32.toUInt32 31)).toInt32) ((bc1 (jn x))) (jn 2)), .int (((bc1 (jn x))) &&& (jn 858993459))] _ c_124_18 rfl ?_
  refine z_go 22 _ [.int ((((fun x y : Int32 => (x.toUInt32 >>> (y.toUInt32 &&& Int32.toUInt32 31)).toInt32) ((bc1 (jn x))) (jn 2))) &&& (jn 858993459)), .int (((bc1 (jn x))) &&& (jn 858993459))] _ c_124_21 rfl ?_
  refine z_go 23 _ [.int (((((bc1 (jn x))) &&& (jn 858993459))) + (((((fun x y : Int32 => (x.toUInt32 >>> (y.toUInt32 &&& Int32.toUInt32 31)).toInt32) ((bc1 (jn x))) (jn 2))) &&& (jn 858993459))))] _ c_124_22 rfl ?_
  show jZ _ _ _ _ ([.int (bc2 (bc1 (jn x)))]) _ _
  refine z_go 24 [some (.int (bc2 (bc1 (jn x))))] [] _ c_124_23 rfl ?_
  refine z_go 25 _ [.int (bc2 (bc1 (jn x)))] _ c_124_24 rfl ?_
  refine z_go 26 _ [.int (bc2 (bc1 (jn x))), .int (bc2 (bc1 (jn x)))] _ c_124_25 rfl ?_
  refine z_go 27 _ [.int (jn 4), .int (bc2 (bc1 (jn x))), .int (bc2 (bc1 (jn x)))] _ c_124_26 rfl ?_
  refine z_go 28 _ [.int ((fun x y : Int32 => (x.toUInt32 >>> (y.toUInt32 &&& Int32.toUInt32 31)).toInt32) ((bc2 (bc1 (jn x)))) (jn 4)), .int (bc2 (bc1 (jn x)))] _ c_124_27 rfl ?_
  refine z_go 29 _ [.int (((bc2 (bc1 (jn x)))) + (((fun x y : Int32 => (x.toUInt32 >>> (y.toUInt32 &&& Int32.toUInt32 31)).toInt32) ((bc2 (bc1 (jn x)))) (jn 4))))] _ c_124_28 rfl ?_
  refine z_go 32 _ [.int (jn 252645135), .int (((bc2 (bc1 (jn x)))) + (((fun x y : Int32 => (x.toUInt32 >>> (y.toUInt32 &&& Int32.toUInt32 31)).toInt32) ((bc2 (bc1 (jn x)))) (jn 4))))] _ c_124_29 rfl ?_
  refine z_go 33 _ [.int (((((bc2 (bc1 (jn x)))) + (((fun x y : Int32 => (x.toUInt32 >>> (y.toUInt32 &&& Int32.toUInt32 31)).toInt32) ((bc2 (bc1 (jn x)))) (jn 4))))) &&& (jn 252645135))] _ c_124_32 rfl ?_
  show jZ _ _ _ _ ([.int (bc3 (bc2 (bc1 (jn x))))]) _ _
  refine z_go 34 [some (.int (bc3 (bc2 (bc1 (jn x)))))] [] _ c_124_33 rfl ?_
  refine z_go 35 _ [.int (bc3 (bc2 (bc1 (jn x))))] _ c_124_34 rfl ?_
  refine z_go 36 _ [.int (bc3 (bc2 (bc1 (jn x)))), .int (bc3 (bc2 (bc1 (jn x))))] _ c_124_35 rfl ?_
  refine z_go 38 _ [.int (jn 8), .int (bc3 (bc2 (bc1 (jn x)))), .int (bc3 (bc2 (bc1 (jn x))))] _ c_124_36 rfl ?_
  refine z_go 39 _ [.int ((fun x y : Int32 => (x.toUInt32 >>> (y.toUInt32 &&& Int32.toUInt32 31)).toInt32) ((bc3 (bc2 (bc1 (jn x))))) (jn 8)), .int (bc3 (bc2 (bc1 (jn x))))] _ c_124_38 rfl ?_
  refine z_go 40 _ [.int (((bc3 (bc2 (bc1 (jn x))))) + (((fun x y : Int32 => (x.toUInt32 >>> (y.toUInt32 &&& Int32.toUInt32 31)).toInt32) ((bc3 (bc2 (bc1 (jn x))))) (jn 8))))] _ c_124_39 rfl ?_
  show jZ _ _ _ _ ([.int (bc4 (bc3 (bc2 (bc1 (jn x)))))]) _ _
  refine z_go 41 [some (.int (bc4 (bc3 (bc2 (bc1 (jn x))))))] [] _ c_124_40 rfl ?_
  refine z_go 42 _ [.int (bc4 (bc3 (bc2 (bc1 (jn x)))))] _ c_124_41 rfl ?_
  refine z_go 43 _ [.int (bc4 (bc3 (bc2 (bc1 (jn x))))), .int (bc4 (bc3 (bc2 (bc1 (jn x)))))] _ c_124_42 rfl ?_
  refine z_go 45 _ [.int (jn 16), .int (bc4 (bc3 (bc2 (bc1 (jn x))))), .int (bc4 (bc3 (bc2 (bc1 (jn x)))))] _ c_124_43 rfl ?_
  refine z_go 46 _ [.int ((fun x y : Int32 => (x.toUInt32 >>> (y.toUInt32 &&& Int32.toUInt32 31)).toInt32) ((bc4 (bc3 (bc2 (bc1 (jn x)))))) (jn 16)), .int (bc4 (bc3 (bc2 (bc1 (jn x)))))] _ c_124_45 rfl ?_
  refine z_go 47 _ [.int (((bc4 (bc3 (bc2 (bc1 (jn x)))))) + (((fun x y : Int32 => (x.toUInt32 >>> (y.toUInt32 &&& Int32.toUInt32 31)).toInt32) ((bc4 (bc3 (bc2 (bc1 (jn x)))))) (jn 16))))] _ c_124_46 rfl ?_
  show jZ _ _ _ _ ([.int (bc5 (bc4 (bc3 (bc2 (bc1 (jn x))))))]) _ _
  refine z_go 48 [some (.int (bc5 (bc4 (bc3 (bc2 (bc1 (jn x)))))))] [] _ c_124_47 rfl ?_
  refine z_go 49 _ [.int (bc5 (bc4 (bc3 (bc2 (bc1 (jn x))))))] _ c_124_48 rfl ?_
  refine z_go 51 _ [.int (jn 63), .int (bc5 (bc4 (bc3 (bc2 (bc1 (jn x))))))] _ c_124_49 rfl ?_
  refine z_go 52 _ [.int (((bc5 (bc4 (bc3 (bc2 (bc1 (jn x))))))) &&& (jn 63))] _ c_124_51 rfl ?_
  refine z_v (bc_ok x h) ?_
  refine z_iret c_124_52 ?_
  exact ⟨rfl, rfl⟩
theorem t_coder {d s b n : Nat} {f : Nat → Nat} {M : jx_M} (hs : M.1 s = .inr (200, [.ref b, .int (jn 0)])) (hb : M.1 b = .inl (10, n, .inl (ja f))) : jZ d 129 0 [some (.ref s)] [] M (jR (some (.int (jn 0))) M) := by
  refine z_go 3 _ [.int (jn 1)] _ c_129_0 rfl ?_
  refine z_ifeq 13 6 c_129_3 rfl (jn_z (by omega)) (fun h => ?_) (fun h => ?_)
  · exact absurd h (by decide)
  · refine z_go 7 _ [.ref s] _ c_129_6 rfl ?_
    refine z_getf (v := .int (jn 0)) 10 c_129_7 rfl hs rfl ?_
    refine z_go 14 _ [.int (jn 0)] _ c_129_10 rfl ?_
    refine z_bret c_129_14 ?_ ?_
    · rfl
    · exact ⟨rfl, rfl⟩
theorem t_latin {d s b n : Nat} {f : Nat → Nat} {M : jx_M} (hs : M.1 s = .inr (200, [.ref b, .int (jn 0)])) (hb : M.1 b = .inl (10, n, .inl (ja f))) : jZ d 127 0 [some (.ref s)] [] M (jR (some (.int (jb true))) M) := by
  refine z_go 3 _ [.int (jn 1)] _ c_127_0 rfl ?_
  refine z_ifeq 17 6 c_127_3 rfl (jn_z (by omega)) (fun h => ?_) (fun h => ?_)
  · exact absurd h (by decide)
  · refine z_go 7 _ [.ref s] _ c_127_6 rfl ?_
    refine z_getf (v := .int (jn 0)) 10 c_127_7 rfl hs rfl ?_
    refine z_ifne 17 13 c_127_10 rfl (jn_z (by omega)) (fun h => ?_) (fun h => ?_)
    · refine z_go 14 _ [.int (jn 1)] _ c_127_13 rfl ?_
      refine z_go 18 _ [.int (jn 1)] _ c_127_14 rfl ?_
      refine z_zret (b := true) c_127_18 ?_
      exact ⟨rfl, rfl⟩
    · exact absurd rfl h
theorem jn_sh0 {n : Nat} (h : n = 4 ∨ n = 5) : (fun x y : Int32 => x >>> (y &&& 31)) (jn n) (jn 0) = jn n := by
  rcases h with rfl | rfl <;> decide
theorem t_slen {d s b n : Nat} {f : Nat → Nat} {M : jx_M} (hs : M.1 s = .inr (200, [.ref b, .int (jn 0)])) (hb : M.1 b = .inl (10, n, .inl (ja f))) (hn : n = 4 ∨ n = 5) : jZ (d + 1) 128 0 [some (.ref s)] [] M (jR (some (.int (jn n))) M) := by
  refine z_go 1 _ [.ref s] _ c_128_0 rfl ?_
  refine z_getf (v := .ref b) 4 c_128_1 rfl hs rfl ?_
  refine z_alen 5 c_128_4 rfl hb (by decide) ?_
  refine z_go 6 _ [.ref s, .int (jn n)] _ c_128_5 rfl ?_
  refine z_callv 9 200 129 0 s c_128_6 rfl ⟨Nat.le_of_ble_eq_true rfl, Nat.le_of_ble_eq_true rfl⟩ rfl hs [.ref s] rfl rfl [some (.ref s)] rfl rfl (t_coder hs hb) ?_
  show jZ _ _ _ _ [.int (jn 0), .int (jn n)] _ _
  refine z_go 10 _ [.int ((fun x y : Int32 => x >>> (y &&& 31)) (jn n) (jn 0))] _ c_128_9 rfl ?_
  refine z_v (jn_sh0 hn) ?_
  refine z_iret c_128_10 ?_
  exact ⟨rfl, rfl⟩
theorem t_enc {d c : Nat} {M : jx_M} (hc : c < 128) : jZ d 130 0 [some (.int (jn c))] [] M (jR (some (.int (jb true))) M) := by
  refine z_go 1 _ [.int (jn c)] _ c_130_0 rfl ?_
  refine z_iflt 15 4 c_130_1 rfl (jn_nl (by omega)) (fun h => ?_) (fun h => ?_)
  · exact absurd h id
  · refine z_go 5 _ [.int (jn c)] _ c_130_4 rfl ?_
    refine z_go 8 _ [.int (jn 255), .int (jn c)] _ c_130_5 rfl ?_
    refine z_igt 15 11 c_130_8 rfl (by omega) (by omega) (fun h2 => ?_) (fun h2 => ?_)
    · omega
    · refine z_go 12 _ [.int (jn 1)] _ c_130_11 rfl ?_
      refine z_go 16 _ [.int (jn 1)] _ c_130_12 rfl ?_
      refine z_zret (b := true) c_130_16 ?_
      exact ⟨rfl, rfl⟩
/-- the first place from i on, of n places, where f is c -/
def sp_find (f : Nat → Nat) (c : Nat) : Nat → Nat → Option Nat
  | 0, _ => none
  | n + 1, i => if f i = c then some i else sp_find f c n (i + 1)
theorem jn_i8 : ∀ c, c < 128 → (fun x : Int32 => x.toInt8.toInt32) (jn c) = jn c := by decide +kernel
theorem t_ixc_l {d b n c : Nat} {f : Nat → Nat} {M : jx_M} (hb : M.1 b = .inl (10, n, .inl (ja f))) (hn : n < 100) (hf : ∀ j, f j < 128) (hc : c < 128) : ∀ {k i : Nat}, i + k = n → jZ d 132 7 [some (.ref b), some (.int (jn c)), some (.int (jn 0)), some (.int (jn n)), some (.int (jn c)), some (.int (jn i))] [] M (jR (some (.int (jo (sp_find f c k i)))) M) := by
  intro k
  induction k with
  | zero =>
    intro i hk
    refine z_go 9 _ [.int (jn i)] _ c_132_7 rfl ?_
    refine z_go 10 _ [.int (jn n), .int (jn i)] _ c_132_9 rfl ?_
    refine z_ige 31 13 c_132_10 rfl (by omega) (by omega) (fun h1 => ?_) (fun h1 => ?_)
    · omega
    · refine z_go 32 _ [.int (jo none)] _ c_132_31 rfl ?_
      refine z_iret c_132_32 ?_
      exact ⟨rfl, rfl⟩
  | succ k ih =>
    intro i hk
    have hfi := hf i
    refine z_go 9 _ [.int (jn i)] _ c_132_7 rfl ?_
    refine z_go 10 _ [.int (jn n), .int (jn i)] _ c_132_9 rfl ?_
    refine z_ige 31 13 c_132_10 rfl (by omega) (by omega) (fun h1 => ?_) (fun h1 => ?_)
    · refine z_go 14 _ [.ref b] _ c_132_13 rfl ?_
      refine z_go 16 _ [.int (jn i), .ref b] _ c_132_14 rfl ?_
      refine z_bald 17 c_132_16 rfl hb (by omega) (by omega) ?_
      show jZ _ _ _ _ ([.int (jn (f i))]) _ _
      refine z_go 19 _ [.int (jn c), .int (jn (f i))] _ c_132_17 rfl ?_
      refine z_ine 25 22 c_132_19 rfl (jn_inj (by omega) (by omega)) (fun h2 => ?_) (fun h2 => ?_)
      · refine z_go 24 _ [.int (jn i)] _ c_132_22 rfl ?_
        refine z_iret c_132_24 ?_
        refine ⟨?_, rfl⟩
        rw [sp_find, if_pos h2]
        rfl
      · refine z_iinc 28 [some (.ref b), some (.int (jn c)), some (.int (jn 0)), some (.int (jn n)), some (.int (jn c)), some (.int (jn (i + 1)))] c_132_25 rfl rfl (jn_add _ _) rfl ?_
        refine z_go 7 _ [] _ c_132_28 rfl ?_
        refine (ih (i := i + 1) (by omega)).mono fun r M1 q => ⟨q.1.trans ?_, q.2⟩
        rw [sp_find, if_neg h2]
    · omega
theorem t_ixc {d b n c : Nat} {f : Nat → Nat} {M : jx_M} (hb : M.1 b = .inl (10, n, .inl (ja f))) (hn : n < 100) (hf : ∀ j, f j < 128) (hc : c < 128) : jZ d 132 0 [some (.ref b), some (.int (jn c)), some (.int (jn 0)), some (.int (jn n)), none, none] [] M (jR (some (.int (jo (sp_find f c n 0)))) M) := by
  refine z_go 1 _ [.int (jn c)] _ c_132_0 rfl ?_
  refine z_go 2 _ [.int ((fun x : Int32 => x.toInt8.toInt32) (jn c))] _ c_132_1 rfl ?_
  refine z_v (jn_i8 c hc) ?_
  refine z_go 4 [some (.ref b), some (.int (jn c)), some (.int (jn 0)), some (.int (jn n)), some (.int (jn c)), none] [] _ c_132_2 rfl ?_
  refine z_go 5 _ [.int (jn 0)] _ c_132_4 rfl ?_
  refine z_go 7 [some (.ref b), some (.int (jn c)), some (.int (jn 0)), some (.int (jn n)), some (.int (jn c)), some (.int (jn 0))] [] _ c_132_5 rfl ?_
  exact t_ixc_l hb hn hf hc (by omega)
theorem t_ix4 {d b n c : Nat} {f : Nat → Nat} {M : jx_M} (hb : M.1 b = .inl (10, n, .inl (ja f))) (hn : n < 100) (h0 : 0 < n) (hf : ∀ j, f j < 128) (hc : c < 128) : jZ (d + 1) 131 0 [some (.ref b), some (.int (jn c)), some (.int (jn 0)), some (.int (jn n))] [] M (jR (some (.int (jo (sp_find f c n 0)))) M) := by
  refine z_go 1 _ [.int (jn c)] _ c_131_0 rfl ?_
  refine z_call 4 130 1 c_131_1 rfl ⟨Nat.le_of_ble_eq_true rfl, Nat.le_of_ble_eq_true rfl⟩ [.int (jn c)] rfl rfl [some (.int (jn c))] rfl rfl (t_enc hc) ?_
  show jZ _ _ _ _ [.int (jb true)] _ _
  refine z_ifne 9 7 c_131_4 rfl jb_t (fun h => ?_) (fun h => ?_)
  · cases h
  · refine z_go 10 _ [.int (jn 0)] _ c_131_9 rfl ?_
    refine z_go 11 _ [.int (jn 0), .int (jn 0)] _ c_131_10 rfl ?_
    refine z_call 14 122 2 c_131_11 rfl ⟨Nat.le_of_ble_eq_true rfl, Nat.le_of_ble_eq_true rfl⟩ [.int (jn 0), .int (jn 0)] rfl rfl [some (.int (jn 0)), some (.int (jn 0))] rfl rfl (t_max (by decide) (by decide)) ?_
    show jZ _ _ _ _ [.int (jn 0)] _ _
    refine z_go 15 [some (.ref b), some (.int (jn c)), some (.int (jn 0)), some (.int (jn n))] [] _ c_131_14 rfl ?_
    refine z_go 16 _ [.int (jn n)] _ c_131_15 rfl ?_
    refine z_go 17 _ [.ref b, .int (jn n)] _ c_131_16 rfl ?_
    refine z_alen 18 c_131_17 rfl hb (by decide) ?_
    refine z_call 21 121 2 c_131_18 rfl ⟨Nat.le_of_ble_eq_true rfl, Nat.le_of_ble_eq_true rfl⟩ [.int (jn n), .int (jn n)] rfl rfl [some (.int (jn n)), some (.int (jn n))] rfl rfl ((t_min (by omega) (by omega)).mono fun r M1 q => ⟨q.1.trans (by rw [if_pos (Nat.le_refl _)]), q.2⟩) ?_
    show jZ _ _ _ _ [.int (jn n)] _ _
    refine z_go 22 [some (.ref b), some (.int (jn c)), some (.int (jn 0)), some (.int (jn n))] [] _ c_131_21 rfl ?_
    refine z_go 23 _ [.int (jn 0)] _ c_131_22 rfl ?_
    refine z_go 24 _ [.int (jn n), .int (jn 0)] _ c_131_23 rfl ?_
    refine z_ilt 29 27 c_131_24 rfl (by omega) (by omega) (fun h2 => ?_) (fun h2 => ?_)
    · refine z_go 30 _ [.ref b] _ c_131_29 rfl ?_
      refine z_go 31 _ [.int (jn c), .ref b] _ c_131_30 rfl ?_
      refine z_go 32 _ [.int (jn 0), .int (jn c), .ref b] _ c_131_31 rfl ?_
      refine z_go 33 _ [.int (jn n), .int (jn 0), .int (jn c), .ref b] _ c_131_32 rfl ?_
      refine z_call 36 132 4 c_131_33 rfl ⟨Nat.le_of_ble_eq_true rfl, Nat.le_of_ble_eq_true rfl⟩ [.ref b, .int (jn c), .int (jn 0), .int (jn n)] rfl rfl [some (.ref b), some (.int (jn c)), some (.int (jn 0)), some (.int (jn n)), none, none] rfl rfl (t_ixc hb (by omega) hf hc) ?_
      show jZ _ _ _ _ [.int (jo (sp_find f c n 0))] _ _
      refine z_iret c_131_36 ?_
      exact ⟨rfl, rfl⟩
    · omega
theorem t_ix2 {d s b n : Nat} {f : Nat → Nat} {M : jx_M} (hs : M.1 s = .inr (200, [.ref b, .int (jn 0)])) (hb : M.1 b = .inl (10, n, .inl (ja f))) (hn : n = 4 ∨ n = 5) (hf : ∀ j, f j < 128) {c : Nat} (hc : c < 128) : jZ (d + 2) 126 0 [some (.ref s), some (.int (jn c)), some (.int (jn 0))] [] M (jR (some (.int (jo (sp_find f c n 0)))) M) := by
  refine z_go 1 _ [.ref s] _ c_126_0 rfl ?_
  refine z_callv 4 200 127 0 s c_126_1 rfl ⟨Nat.le_of_ble_eq_true rfl, Nat.le_of_ble_eq_true rfl⟩ rfl hs [.ref s] rfl rfl [some (.ref s)] rfl rfl (t_latin hs hb) ?_
  show jZ _ _ _ _ [.int (jb true)] _ _
  refine z_ifeq 23 7 c_126_4 rfl jb_t (fun h => ?_) (fun h => ?_)
  · cases h
  · refine z_go 8 _ [.ref s] _ c_126_7 rfl ?_
    refine z_getf (v := .ref b) 11 c_126_8 rfl hs rfl ?_
    refine z_go 12 _ [.int (jn c), .ref b] _ c_126_11 rfl ?_
    refine z_go 13 _ [.int (jn 0), .int (jn c), .ref b] _ c_126_12 rfl ?_
    refine z_go 14 _ [.ref s, .int (jn 0), .int (jn c), .ref b] _ c_126_13 rfl ?_
    refine z_callv 17 200 128 0 s c_126_14 rfl ⟨Nat.le_of_ble_eq_true rfl, Nat.le_of_ble_eq_true rfl⟩ rfl hs [.ref s] rfl rfl [some (.ref s)] rfl rfl (t_slen hs hb hn) ?_
    show jZ _ _ _ _ [.int (jn n), .int (jn 0), .int (jn c), .ref b] _ _
    refine z_call 20 131 4 c_126_17 rfl ⟨Nat.le_of_ble_eq_true rfl, Nat.le_of_ble_eq_true rfl⟩ [.ref b, .int (jn c), .int (jn 0), .int (jn n)] rfl rfl [some (.ref b), some (.int (jn c)), some (.int (jn 0)), some (.int (jn n))] rfl rfl (t_ix4 hb (by omega) (by omega) hf hc) ?_
    show jZ _ _ _ _ [.int (jo (sp_find f c n 0))] _ _
    refine z_go 36 _ [.int (jo (sp_find f c n 0))] _ c_126_20 rfl ?_
    refine z_iret c_126_36 ?_
    exact ⟨rfl, rfl⟩
theorem t_ix {d s b n : Nat} {f : Nat → Nat} {M : jx_M} (hs : M.1 s = .inr (200, [.ref b, .int (jn 0)])) (hb : M.1 b = .inl (10, n, .inl (ja f))) (hn : n = 4 ∨ n = 5) (hf : ∀ j, f j < 128) {c : Nat} (hc : c < 128) : jZ (d + 3) 125 0 [some (.ref s), some (.int (jn c))] [] M (jR (some (.int (jo (sp_find f c n 0)))) M) := by
  refine z_go 1 _ [.ref s] _ c_125_0 rfl ?_
  refine z_go 2 _ [.int (jn c), .ref s] _ c_125_1 rfl ?_
  refine z_go 3 _ [.int (jn 0), .int (jn c), .ref s] _ c_125_2 rfl ?_
  refine z_callv 6 200 126 2 s c_125_3 rfl ⟨Nat.le_of_ble_eq_true rfl, Nat.le_of_ble_eq_true rfl⟩ rfl hs [.ref s, .int (jn c), .int (jn 0)] rfl rfl [some (.ref s), some (.int (jn c)), some (.int (jn 0))] rfl rfl (t_ix2 hs hb hn hf hc) ?_
  show jZ _ _ _ _ [.int (jo (sp_find f c n 0))] _ _
  refine z_iret c_125_6 ?_
  exact ⟨rfl, rfl⟩
theorem t_kind {d g n bc a b : Nat} {cs ks nr : Nat → Nat} {M : jx_M} (hg : jg M g n bc cs ks nr) (h1 : a * 10 + b < 100) : jZ d 4 0 [some (.ref g), some (.int (jn a)), some (.int (jn b))] [] M (jR (some (.int (jn (ks (a * 10 + b))))) M) := by
  refine z_go 1 _ [.ref g] _ c_4_0 rfl ?_
  refine z_getf (v := .ref (g + 2)) 4 c_4_1 rfl hg.1 rfl ?_
  refine z_go 5 _ [.int (jn a), .ref (g + 2)] _ c_4_4 rfl ?_
  refine z_go 7 _ [.int (jn 10), .int (jn a), .ref (g + 2)] _ c_4_5 rfl ?_
  refine z_go 8 _ [.int ((jn a) * (jn 10)), .ref (g + 2)] _ c_4_7 rfl ?_
  refine z_v (jn_mul _ _) ?_
  refine z_go 9 _ [.int (jn b), .int (jn (a * 10)), .ref (g + 2)] _ c_4_8 rfl ?_
  refine z_go 10 _ [.int ((jn (a * 10)) + (jn b)), .ref (g + 2)] _ c_4_9 rfl ?_
  refine z_v (jn_add _ _) ?_
  refine z_iald 11 c_4_10 rfl hg.2.2.1 (Or.inl rfl) (by omega) (by omega) ?_
  show jZ _ _ _ _ ([.int (jn (ks ((a * 10) + b)))]) _ _
  refine z_iret c_4_11 ?_
  exact ⟨rfl, rfl⟩
theorem t_bound {d g n bc a k : Nat} {cs ks nr : Nat → Nat} {M : jx_M} (hg : jg M g n bc cs ks nr) (h1 : k * 10 + a < 60) : jZ d 10 0 [some (.ref g), some (.int (jn a)), some (.int (jn k))] [] M (jR (some (.int (jn (nr (k * 10 + a))))) M) := by
  refine z_go 1 _ [.ref g] _ c_10_0 rfl ?_
  refine z_getf (v := .ref (g + 3)) 4 c_10_1 rfl hg.1 rfl ?_
  refine z_go 5 _ [.int (jn k), .ref (g + 3)] _ c_10_4 rfl ?_
  refine z_go 7 _ [.int (jn 10), .int (jn k), .ref (g + 3)] _ c_10_5 rfl ?_
  refine z_go 8 _ [.int ((jn k) * (jn 10)), .ref (g + 3)] _ c_10_7 rfl ?_
  refine z_v (jn_mul _ _) ?_
  refine z_go 9 _ [.int (jn a), .int (jn (k * 10)), .ref (g + 3)] _ c_10_8 rfl ?_
  refine z_go 10 _ [.int ((jn (k * 10)) + (jn a)), .ref (g + 3)] _ c_10_9 rfl ?_
  refine z_v (jn_add _ _) ?_
  refine z_iald 11 c_10_10 rfl hg.2.2.2 (Or.inl rfl) (by omega) (by omega) ?_
  show jZ _ _ _ _ ([.int (jn (nr ((k * 10) + a)))]) _ _
  refine z_iret c_10_11 ?_
  exact ⟨rfl, rfl⟩
theorem t_degree {d g n bc a k : Nat} {cs ks nr : Nat → Nat} {M : jx_M} (hg : jg M g n bc cs ks nr) (h1 : k * 10 + a < 60) (hb : nr (k * 10 + a) < 1024) : jZ (d + 1) 9 0 [some (.ref g), some (.int (jn a)), some (.int (jn k))] [] M (jR (some (.int (jn (sp_bits (nr (k * 10 + a)))))) M) := by
  refine z_go 1 _ [.ref g] _ c_9_0 rfl ?_
  refine z_getf (v := .ref (g + 3)) 4 c_9_1 rfl hg.1 rfl ?_
  refine z_go 5 _ [.int (jn k), .ref (g + 3)] _ c_9_4 rfl ?_
  refine z_go 7 _ [.int (jn 10), .int (jn k), .ref (g + 3)] _ c_9_5 rfl ?_
  refine z_go 8 _ [.int ((jn k) * (jn 10)), .ref (g + 3)] _ c_9_7 rfl ?_
  refine z_v (jn_mul _ _) ?_
  refine z_go 9 _ [.int (jn a), .int (jn (k * 10)), .ref (g + 3)] _ c_9_8 rfl ?_
  refine z_go 10 _ [.int ((jn (k * 10)) + (jn a)), .ref (g + 3)] _ c_9_9 rfl ?_
  refine z_v (jn_add _ _) ?_
  refine z_iald 11 c_9_10 rfl hg.2.2.2 (Or.inl rfl) (by omega) (by omega) ?_
  show jZ _ _ _ _ ([.int (jn (nr ((k * 10) + a)))]) _ _
  refine z_call 14 124 1 c_9_11 rfl ⟨Nat.le_of_ble_eq_true rfl, Nat.le_of_ble_eq_true rfl⟩ [.int (jn (nr ((k * 10) + a)))] rfl rfl [some (.int (jn (nr ((k * 10) + a))))] rfl rfl (t_bits hb) ?_
  show jZ _ _ _ _ [.int (jn (sp_bits (nr (k * 10 + a))))] _ _
  refine z_iret c_9_14 ?_
  exact ⟨rfl, rfl⟩
def sp_has (x : Int32) (n : Nat) : Bool := decide (¬ x < 0 ∧ x < jn n)
theorem t_has {d g n bc : Nat} {x : Int32} {cs ks nr : Nat → Nat} {M : jx_M} (hg : jg M g n bc cs ks nr) : jZ d 3 0 [some (.ref g), some (.int x)] [] M (jR (some (.int (jb (sp_has x n)))) M) := by
  refine z_go 1 _ [.int x] _ c_3_0 rfl ?_
  refine z_iflt 16 4 c_3_1 rfl Iff.rfl (fun h => ?_) (fun h => ?_)
  · refine z_go 17 _ [.int (jn 0)] _ c_3_16 rfl ?_
    refine z_zret (b := false) c_3_17 ?_
    exact ⟨by simp [sp_has, h], rfl⟩
  · refine z_go 5 _ [.int x] _ c_3_4 rfl ?_
    refine z_go 6 _ [.ref g, .int x] _ c_3_5 rfl ?_
    refine z_getf (v := .int (jn n)) 9 c_3_6 rfl hg.1 rfl ?_
    refine z_igeR 16 12 c_3_9 rfl Iff.rfl (fun h2 => ?_) (fun h2 => ?_)
    · refine z_go 13 _ [.int (jn 1)] _ c_3_12 rfl ?_
      refine z_go 17 _ [.int (jn 1)] _ c_3_13 rfl ?_
      refine z_zret (b := true) c_3_17 ?_
      exact ⟨by simp [sp_has, h, h2], rfl⟩
    · refine z_go 17 _ [.int (jn 0)] _ c_3_16 rfl ?_
      refine z_zret (b := false) c_3_17 ?_
      exact ⟨by simp [sp_has, h2], rfl⟩
/-- the character at the reader's place, 0 behind the text -/
def sp_here (tx : Nat → Nat) (ln ps : Nat) : Nat := if ps < ln then tx ps else 0
theorem t_here {d ln ps sz bc dp : Nat} {pt : Bool} {tx : Nat → Nat} {M : jx_M} (h18 : M.1 18 = rO ln ps pt sz bc dp) (h19 : M.1 19 = .inl (1, 40, .inl (ja tx))) (hl : ln ≤ 40) (hp : ps ≤ 100) (hc : tx ps < 65536) : jZ d 28 0 [some (.ref 18)] [] M (jR (some (.int (jn (sp_here tx ln ps)))) M) := by
  refine z_go 1 _ [.ref 18] _ c_28_0 rfl ?_
  refine z_getf (v := .int (jn ps)) 4 c_28_1 rfl h18 rfl ?_
  refine z_go 5 _ [.ref 18, .int (jn ps)] _ c_28_4 rfl ?_
  refine z_getf (v := .int (jn ln)) 8 c_28_5 rfl h18 rfl ?_
  refine z_ige 23 11 c_28_8 rfl (by omega) (by omega) (fun h => ?_) (fun h => ?_)
  · refine z_go 12 _ [.ref 18] _ c_28_11 rfl ?_
    refine z_getf (v := .ref 19) 15 c_28_12 rfl h18 rfl ?_
    refine z_go 16 _ [.ref 18, .ref 19] _ c_28_15 rfl ?_
    refine z_getf (v := .int (jn ps)) 19 c_28_16 rfl h18 rfl ?_
    refine z_xald 20 c_28_19 rfl h19 (by omega) (by omega) ?_
    show jZ _ _ _ _ ([.int (jn (tx ps))]) _ _
    refine z_go 24 _ [.int (jn (tx ps))] _ c_28_20 rfl ?_
    refine z_cret c_28_24 ?_ ?_
    · exact vp_c hc
    · refine ⟨?_, rfl⟩
      rw [sp_here, if_pos h]
  · refine z_go 24 _ [.int (jn 0)] _ c_28_23 rfl ?_
    refine z_cret c_28_24 ?_ ?_
    · rfl
    · refine ⟨?_, rfl⟩
      rw [sp_here, if_neg h]
