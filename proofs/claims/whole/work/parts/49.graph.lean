/-! THE GRAPH: its writes; printed by wip/whole/p49.py -/
theorem c_2_0 : jx_cd 2 0 = some (o_ald 1 1) := rfl
theorem c_2_1 : jx_cd 2 1 = some (o_getf 0 0) := rfl
theorem c_2_4 : jx_cd 2 4 = some (o_push (.int 0) 1) := rfl
theorem c_2_5 : jx_cd 2 5 = some (o_ald 0 1) := rfl
theorem c_2_6 : jx_cd 2 6 = some (o_getf 0 0) := rfl
theorem c_2_9 : jx_cd 2 9 = some (o_push (.int 0) 1) := rfl
theorem c_2_10 : jx_cd 2 10 = some (o_ald 0 1) := rfl
theorem c_2_11 : jx_cd 2 11 = some (o_getf 0 0) := rfl
theorem c_2_14 : jx_cd 2 14 = some (o_alen) := rfl
theorem c_2_15 : jx_cd 2 15 = some (o_copy) := rfl
theorem c_2_18 : jx_cd 2 18 = some (o_ald 1 1) := rfl
theorem c_2_19 : jx_cd 2 19 = some (o_getf 0 1) := rfl
theorem c_2_22 : jx_cd 2 22 = some (o_push (.int 0) 1) := rfl
theorem c_2_23 : jx_cd 2 23 = some (o_ald 0 1) := rfl
theorem c_2_24 : jx_cd 2 24 = some (o_getf 0 1) := rfl
theorem c_2_27 : jx_cd 2 27 = some (o_push (.int 0) 1) := rfl
theorem c_2_28 : jx_cd 2 28 = some (o_ald 0 1) := rfl
theorem c_2_29 : jx_cd 2 29 = some (o_getf 0 1) := rfl
theorem c_2_32 : jx_cd 2 32 = some (o_alen) := rfl
theorem c_2_33 : jx_cd 2 33 = some (o_copy) := rfl
theorem c_2_36 : jx_cd 2 36 = some (o_ald 1 1) := rfl
theorem c_2_37 : jx_cd 2 37 = some (o_getf 0 2) := rfl
theorem c_2_40 : jx_cd 2 40 = some (o_push (.int 0) 1) := rfl
theorem c_2_41 : jx_cd 2 41 = some (o_ald 0 1) := rfl
theorem c_2_42 : jx_cd 2 42 = some (o_getf 0 2) := rfl
theorem c_2_45 : jx_cd 2 45 = some (o_push (.int 0) 1) := rfl
theorem c_2_46 : jx_cd 2 46 = some (o_ald 0 1) := rfl
theorem c_2_47 : jx_cd 2 47 = some (o_getf 0 2) := rfl
theorem c_2_50 : jx_cd 2 50 = some (o_alen) := rfl
theorem c_2_51 : jx_cd 2 51 = some (o_copy) := rfl
theorem c_2_54 : jx_cd 2 54 = some (o_ald 0 1) := rfl
theorem c_2_55 : jx_cd 2 55 = some (o_ald 1 1) := rfl
theorem c_2_56 : jx_cd 2 56 = some (o_getf 0 3) := rfl
theorem c_2_59 : jx_cd 2 59 = some (o_putf 0 3 jx_okI) := rfl
theorem c_2_62 : jx_cd 2 62 = some (o_ald 0 1) := rfl
theorem c_2_63 : jx_cd 2 63 = some (o_ald 1 1) := rfl
theorem c_2_64 : jx_cd 2 64 = some (o_getf 0 4) := rfl
theorem c_2_67 : jx_cd 2 67 = some (o_putf 0 4 jx_okI) := rfl
theorem c_2_70 : jx_cd 2 70 = some (o_ret) := rfl
theorem c_5_0 : jx_cd 5 0 = some (o_ald 0 1) := rfl
theorem c_5_1 : jx_cd 5 1 = some (o_getf 0 0) := rfl
theorem c_5_4 : jx_cd 5 4 = some (o_push (.int 0) 1) := rfl
theorem c_5_5 : jx_cd 5 5 = some (o_call 123 2) := rfl
theorem c_5_8 : jx_cd 5 8 = some (o_ald 0 1) := rfl
theorem c_5_9 : jx_cd 5 9 = some (o_getf 0 1) := rfl
theorem c_5_12 : jx_cd 5 12 = some (o_push (.int 0) 1) := rfl
theorem c_5_13 : jx_cd 5 13 = some (o_call 123 2) := rfl
theorem c_5_16 : jx_cd 5 16 = some (o_ald 0 1) := rfl
theorem c_5_17 : jx_cd 5 17 = some (o_getf 0 2) := rfl
theorem c_5_20 : jx_cd 5 20 = some (o_push (.int 0) 1) := rfl
theorem c_5_21 : jx_cd 5 21 = some (o_call 123 2) := rfl
theorem c_5_24 : jx_cd 5 24 = some (o_ald 0 1) := rfl
theorem c_5_25 : jx_cd 5 25 = some (o_push (.int 0) 1) := rfl
theorem c_5_26 : jx_cd 5 26 = some (o_putf 0 3 jx_okI) := rfl
theorem c_5_29 : jx_cd 5 29 = some (o_ald 0 1) := rfl
theorem c_5_30 : jx_cd 5 30 = some (o_push (.int 0) 1) := rfl
theorem c_5_31 : jx_cd 5 31 = some (o_putf 0 4 jx_okI) := rfl
theorem c_5_34 : jx_cd 5 34 = some (o_ret) := rfl
theorem c_6_0 : jx_cd 6 0 = some (o_ald 0 1) := rfl
theorem c_6_1 : jx_cd 6 1 = some (o_getf 0 3) := rfl
theorem c_6_4 : jx_cd 6 4 = some (o_push (.int 10) 2) := rfl
theorem c_6_6 : jx_cd 6 6 = some (o_ige 29) := rfl
theorem c_6_9 : jx_cd 6 9 = some (o_ald 0 1) := rfl
theorem c_6_10 : jx_cd 6 10 = some (o_getf 0 0) := rfl
theorem c_6_13 : jx_cd 6 13 = some (o_ald 0 1) := rfl
theorem c_6_14 : jx_cd 6 14 = some (o_getf 0 3) := rfl
theorem c_6_17 : jx_cd 6 17 = some (o_ild 1 1) := rfl
theorem c_6_18 : jx_cd 6 18 = some (o_iast) := rfl
theorem c_6_19 : jx_cd 6 19 = some (o_ald 0 1) := rfl
theorem c_6_20 : jx_cd 6 20 = some (o_dup) := rfl
theorem c_6_21 : jx_cd 6 21 = some (o_getf 0 3) := rfl
theorem c_6_24 : jx_cd 6 24 = some (o_push (.int 1) 1) := rfl
theorem c_6_25 : jx_cd 6 25 = some (o_bin fun x y => x + y) := rfl
theorem c_6_26 : jx_cd 6 26 = some (o_putf 0 3 jx_okI) := rfl
theorem c_6_29 : jx_cd 6 29 = some (o_ret) := rfl
theorem c_7_0 : jx_cd 7 0 = some (o_ald 0 1) := rfl
theorem c_7_1 : jx_cd 7 1 = some (o_ild 1 1) := rfl
theorem c_7_2 : jx_cd 7 2 = some (o_callv 0 3 1) := rfl
theorem c_7_5 : jx_cd 7 5 = some (o_ifeq 40) := rfl
theorem c_7_8 : jx_cd 7 8 = some (o_ald 0 1) := rfl
theorem c_7_9 : jx_cd 7 9 = some (o_ild 2 1) := rfl
theorem c_7_10 : jx_cd 7 10 = some (o_callv 0 3 1) := rfl
theorem c_7_13 : jx_cd 7 13 = some (o_ifeq 40) := rfl
theorem c_7_16 : jx_cd 7 16 = some (o_ald 0 1) := rfl
theorem c_7_17 : jx_cd 7 17 = some (o_ild 1 1) := rfl
theorem c_7_18 : jx_cd 7 18 = some (o_ild 2 1) := rfl
theorem c_7_19 : jx_cd 7 19 = some (o_ild 3 1) := rfl
theorem c_7_20 : jx_cd 7 20 = some (o_callv 0 8 3) := rfl
theorem c_7_23 : jx_cd 7 23 = some (o_ald 0 1) := rfl
theorem c_7_24 : jx_cd 7 24 = some (o_ild 2 1) := rfl
theorem c_7_25 : jx_cd 7 25 = some (o_ild 1 1) := rfl
theorem c_7_26 : jx_cd 7 26 = some (o_ild 3 1) := rfl
theorem c_7_27 : jx_cd 7 27 = some (o_callv 0 8 3) := rfl
theorem c_7_30 : jx_cd 7 30 = some (o_ald 0 1) := rfl
theorem c_7_31 : jx_cd 7 31 = some (o_dup) := rfl
theorem c_7_32 : jx_cd 7 32 = some (o_getf 0 4) := rfl
theorem c_7_35 : jx_cd 7 35 = some (o_push (.int 1) 1) := rfl
theorem c_7_36 : jx_cd 7 36 = some (o_bin fun x y => x + y) := rfl
theorem c_7_37 : jx_cd 7 37 = some (o_putf 0 4 jx_okI) := rfl
theorem c_7_40 : jx_cd 7 40 = some (o_ret) := rfl
theorem c_8_0 : jx_cd 8 0 = some (o_ald 0 1) := rfl
theorem c_8_1 : jx_cd 8 1 = some (o_getf 0 1) := rfl
theorem c_8_4 : jx_cd 8 4 = some (o_ild 1 1) := rfl
theorem c_8_5 : jx_cd 8 5 = some (o_push (.int 10) 2) := rfl
theorem c_8_7 : jx_cd 8 7 = some (o_bin fun x y => x * y) := rfl
theorem c_8_8 : jx_cd 8 8 = some (o_ild 2 1) := rfl
theorem c_8_9 : jx_cd 8 9 = some (o_bin fun x y => x + y) := rfl
theorem c_8_10 : jx_cd 8 10 = some (o_ild 3 1) := rfl
theorem c_8_11 : jx_cd 8 11 = some (o_iast) := rfl
theorem c_8_12 : jx_cd 8 12 = some (o_ald 0 1) := rfl
theorem c_8_13 : jx_cd 8 13 = some (o_getf 0 2) := rfl
theorem c_8_16 : jx_cd 8 16 = some (o_ild 3 1) := rfl
theorem c_8_17 : jx_cd 8 17 = some (o_push (.int 10) 2) := rfl
theorem c_8_19 : jx_cd 8 19 = some (o_bin fun x y => x * y) := rfl
theorem c_8_20 : jx_cd 8 20 = some (o_ild 1 1) := rfl
theorem c_8_21 : jx_cd 8 21 = some (o_bin fun x y => x + y) := rfl
theorem c_8_22 : jx_cd 8 22 = some (o_dup2) := rfl
theorem c_8_23 : jx_cd 8 23 = some (o_iald) := rfl
theorem c_8_24 : jx_cd 8 24 = some (o_push (.int 1) 1) := rfl
theorem c_8_25 : jx_cd 8 25 = some (o_ild 2 1) := rfl
theorem c_8_26 : jx_cd 8 26 = some (o_bin fun x y => x <<< (y &&& 31)) := rfl
theorem c_8_27 : jx_cd 8 27 = some (o_bin fun x y => x ||| y) := rfl
theorem c_8_28 : jx_cd 8 28 = some (o_iast) := rfl
theorem c_8_29 : jx_cd 8 29 = some (o_ald 0 1) := rfl
theorem c_8_30 : jx_cd 8 30 = some (o_getf 0 2) := rfl
theorem c_8_33 : jx_cd 8 33 = some (o_push (.int 50) 2) := rfl
theorem c_8_35 : jx_cd 8 35 = some (o_ild 1 1) := rfl
theorem c_8_36 : jx_cd 8 36 = some (o_bin fun x y => x + y) := rfl
theorem c_8_37 : jx_cd 8 37 = some (o_dup2) := rfl
theorem c_8_38 : jx_cd 8 38 = some (o_iald) := rfl
theorem c_8_39 : jx_cd 8 39 = some (o_push (.int 1) 1) := rfl
theorem c_8_40 : jx_cd 8 40 = some (o_ild 2 1) := rfl
theorem c_8_41 : jx_cd 8 41 = some (o_bin fun x y => x <<< (y &&& 31)) := rfl
theorem c_8_42 : jx_cd 8 42 = some (o_bin fun x y => x ||| y) := rfl
theorem c_8_43 : jx_cd 8 43 = some (o_iast) := rfl
theorem c_8_44 : jx_cd 8 44 = some (o_ret) := rfl
theorem jne {l : List (Nat × jx_C)} {M : jx_M} {a b : Nat} {c x : jx_C} (h : b ≠ a) (k : (jm l M).1 b = x) : (jm ((a, c) :: l) M).1 b = x := (if_neg h).trans k
theorem jhit {l : List (Nat × jx_C)} {M : jx_M} {a : Nat} {c : jx_C} : (jm ((a, c) :: l) M).1 a = c := if_pos rfl
def sp_cpy (f g : Nat → Nat) (n : Nat) : Nat → Nat := fun j => if j < n then f j else g j
theorem va_cpy_0 {f g : Nat → Nat} {n : Nat} : va_cpy (ja f) (ja g) 0 0 n = ja (sp_cpy f g n) := by
  funext j
  simp only [va_cpy, ja, sp_cpy]
  by_cases h : j < n
  · rw [if_pos h, if_pos (by omega)]
    simp
  · rw [if_neg h, if_neg (by omega)]
section ZC
variable {d mi pc : Nat} {L : jx_L} {r : List Value} {M M' : jx_M} {post : jx_R → jx_M → Prop}
theorem z_copy (pc' : Nat) {a b n n0 n1 t : Nat} {f g : Nat → Nat} (hc : jx_cd mi pc = some o_copy) (hp : pc + 3 = pc') (ha : M.1 a = .inl (t, n0, .inl (ja f))) (hb : M.1 b = .inl (t, n1, .inl (ja g))) (ht : t = 0 ∨ t = 1 ∧ ∀ i, f i < 128) (hn : n ≤ n0) (hn1 : n ≤ n1) (h31 : n < 2 ^ 31) (hr : r.length ≤ 4) (hM' : jx_st M b (.inl (t, n1, .inl (ja (sp_cpy f g n)))) = M') (kk : jZ d mi pc' L r M' post) : jZ d mi pc L (.int (jn n) :: .int (jn 0) :: .ref b :: .int (jn 0) :: .ref a :: r) M post := by
  refine z_go pc' L r M' hc ?_ kk
  have e0 : (jn 0).toNatClampNeg = 0 := rfl
  have e1 := jn_cl h31
  have e2 : ¬ jn 0 < 0 := by decide
  have e3 := jn_ge n h31
  have ht' : t = 0 ∨ t = 1 ∧ ((List.range (jn n).toNatClampNeg).all fun i => fits .char (.int (ja f ((jn 0).toNatClampNeg + i)))) = true := by
    rcases ht with h | ⟨h, h2⟩
    · exact Or.inl h
    · refine Or.inr ⟨h, List.all_eq_true.mpr fun i _ => ?_⟩
      exact (by decide +kernel : ∀ x, x < 128 → fits .char (.int (jn x)) = true) _ (h2 _)
  unfold o_copy
  dsimp only
  rw [ha, hb]
  dsimp only
  rw [if_pos ⟨ht', rfl, e2, e2, e3, by rw [e0, e1]; omega, by rw [e0, e1]; omega, hr⟩, e0, e1, va_cpy_0, ← hp, hM']
end ZC
def sameG (g : Nat) (M M' : jx_M) : Prop := (∀ k, k < g ∨ g + 3 < k → M'.1 k = M.1 k) ∧ M'.2 = M.2
theorem sameG_r (g : Nat) (M : jx_M) : sameG g M M := ⟨fun _ _ => rfl, rfl⟩
theorem sameG.tr {g : Nat} {M M1 M2 : jx_M} (h : sameG g M M1) (k : sameG g M1 M2) : sameG g M M2 := ⟨fun q hq => (k.1 q hq).trans (h.1 q hq), k.2.trans h.2⟩
theorem sameG_w {g a : Nat} {M M1 : jx_M} {c : jx_C} (h : g ≤ a ∧ a ≤ g + 3) (k : sameG g M M1) : sameG g M (jx_st M1 a c) := ⟨fun q hq => (if_neg (by omega)).trans (k.1 q hq), k.2⟩
theorem sp_fill_n {f : Nat → Nat} {x n : Nat} : sp_fill (ja f) (jn x) 0 n = ja (sp_cpy (fun _ => x) f n) := by
  funext j
  simp only [sp_fill, ja, sp_cpy]
  by_cases h : j < n
  · rw [if_pos h, if_pos (by omega)]
  · rw [if_neg h, if_neg (by omega)]
theorem t_filln {d a n x : Nat} {f : Nat → Nat} {M : jx_M} (hn : n < 2 ^ 31) (h : M.1 a = .inl (0, n, .inl (ja f))) : jZ d 123 0 [some (.ref a), some (.int (jn x)), none, none] [] M (jR none (jm [(a, .inl (0, n, .inl (ja (sp_cpy (fun _ => x) f n))))] M)) := by
  rw [← sp_fill_n]
  exact t_fill hn h
theorem jn_shb : ∀ b, b < 10 → (fun x y : Int32 => x <<< (y &&& 31)) (jn 1) (jn b) = jn (2 ^ b) := by decide +kernel
theorem t_gadd {d g n bc : Nat} {cs ks nr : Nat → Nat} {M : jx_M} (hg : jg M g n bc cs ks nr) {x : Nat} (hn : n < 10) : jZ d 6 0 [some (.ref g), some (.int (jn x))] [] M (jV none fun M' => jg M' g (n + 1) bc (nu cs n x) ks nr ∧ sameG g M M') := by
  refine z_go 1 _ [.ref g] _ c_6_0 rfl ?_
  refine z_getf (v := .int (jn n)) 4 c_6_1 rfl hg.1 rfl ?_
  refine z_go 6 _ [.int (jn 10), .int (jn n)] _ c_6_4 rfl ?_
  refine z_ige 29 9 c_6_6 rfl (by omega) (by omega) (fun h1 => ?_) (fun h1 => ?_)
  · refine z_go 10 _ [.ref g] _ c_6_9 rfl ?_
    refine z_getf (v := .ref (g + 1)) 13 c_6_10 rfl hg.1 rfl ?_
    refine z_go 14 _ [.ref g, .ref (g + 1)] _ c_6_13 rfl ?_
    refine z_getf (v := .int (jn n)) 17 c_6_14 rfl hg.1 rfl ?_
    refine z_go 18 _ [.int (jn x), .int (jn n), .ref (g + 1)] _ c_6_17 rfl ?_
    refine z_iast (M' := jm [(g + 1, .inl (0, 10, .inl (ja (nu cs n x))))] M) 19 c_6_18 rfl hg.2.1 (by omega) (by omega) (by rw [ja_upd]; exact rfl) ?_
    refine z_go 20 _ [.ref g] _ c_6_19 rfl ?_
    refine z_go 21 _ [.ref g, .ref g] _ c_6_20 rfl ?_
    refine z_getf (v := .int (jn n)) 24 c_6_21 rfl (jne (by omega) hg.1) rfl ?_
    refine z_go 25 _ [.int (jn 1), .int (jn n), .ref g] _ c_6_24 rfl ?_
    refine z_go 26 _ [.int ((jn n) + (jn 1)), .ref g] _ c_6_25 rfl ?_
    refine z_v (jn_add _ _) ?_
    refine z_putf (M' := jm [(g, gO g (n + 1) bc), (g + 1, .inl (0, 10, .inl (ja (nu cs n x))))] M) 29 c_6_26 rfl (jne (by omega) hg.1) (rfl) (Nat.le_of_ble_eq_true rfl) rfl ?_
    refine z_ret c_6_29 ?_
    exact ⟨rfl, ⟨jhit, (jne (by omega) jhit), (jne (by omega) (jne (by omega) hg.2.2.1)), (jne (by omega) (jne (by omega) hg.2.2.2))⟩, sameG_w (by omega) (sameG_w (by omega) (sameG_r g M))⟩
  · omega
/-- the sets of neighbours with b among a's, by the kind k -/
def sp_nr (nr : Nat → Nat) (a b k : Nat) : Nat → Nat := nu (nu nr ((k * 10) + a) ((nr ((k * 10) + a)) ||| (2 ^ b))) (50 + a) (((nu nr ((k * 10) + a) ((nr ((k * 10) + a)) ||| (2 ^ b))) (50 + a)) ||| (2 ^ b))
theorem t_join1 {d g n bc : Nat} {cs ks nr : Nat → Nat} {M : jx_M} (hg : jg M g n bc cs ks nr) {a b k : Nat} (ha : a < 10) (hb : b < 10) (hk : k < 6) : jZ d 8 0 [some (.ref g), some (.int (jn a)), some (.int (jn b)), some (.int (jn k))] [] M (jV none fun M' => jg M' g n bc cs (nu ks (a * 10 + b) k) (sp_nr nr a b k) ∧ sameG g M M') := by
  refine z_go 1 _ [.ref g] _ c_8_0 rfl ?_
  refine z_getf (v := .ref (g + 2)) 4 c_8_1 rfl hg.1 rfl ?_
  refine z_go 5 _ [.int (jn a), .ref (g + 2)] _ c_8_4 rfl ?_
  refine z_go 7 _ [.int (jn 10), .int (jn a), .ref (g + 2)] _ c_8_5 rfl ?_
  refine z_go 8 _ [.int ((jn a) * (jn 10)), .ref (g + 2)] _ c_8_7 rfl ?_
  refine z_v (jn_mul _ _) ?_
  refine z_go 9 _ [.int (jn b), .int (jn (a * 10)), .ref (g + 2)] _ c_8_8 rfl ?_
  refine z_go 10 _ [.int ((jn (a * 10)) + (jn b)), .ref (g + 2)] _ c_8_9 rfl ?_
  refine z_v (jn_add _ _) ?_
  refine z_go 11 _ [.int (jn k), .int (jn ((a * 10) + b)), .ref (g + 2)] _ c_8_10 rfl ?_
  refine z_iast (M' := jm [(g + 2, .inl (0, 100, .inl (ja (nu ks ((a * 10) + b) k))))] M) 12 c_8_11 rfl hg.2.2.1 (by omega) (by omega) (by rw [ja_upd]; exact rfl) ?_
  refine z_go 13 _ [.ref g] _ c_8_12 rfl ?_
  refine z_getf (v := .ref (g + 3)) 16 c_8_13 rfl (jne (by omega) hg.1) rfl ?_
  refine z_go 17 _ [.int (jn k), .ref (g + 3)] _ c_8_16 rfl ?_
  refine z_go 19 _ [.int (jn 10), .int (jn k), .ref (g + 3)] _ c_8_17 rfl ?_
  refine z_go 20 _ [.int ((jn k) * (jn 10)), .ref (g + 3)] _ c_8_19 rfl ?_
  refine z_v (jn_mul _ _) ?_
  refine z_go 21 _ [.int (jn a), .int (jn (k * 10)), .ref (g + 3)] _ c_8_20 rfl ?_
  refine z_go 22 _ [.int ((jn (k * 10)) + (jn a)), .ref (g + 3)] _ c_8_21 rfl ?_
  refine z_v (jn_add _ _) ?_
  refine z_go 23 _ [.int (jn ((k * 10) + a)), .ref (g + 3), .int (jn ((k * 10) + a)), .ref (g + 3)] _ c_8_22 rfl ?_
  refine z_iald 24 c_8_23 rfl (jne (by omega) hg.2.2.2) (Or.inl rfl) (by omega) (by omega) ?_
  show jZ _ _ _ _ ([.int (jn (nr ((k * 10) + a))), .int (jn ((k * 10) + a)), .ref (g + 3)]) _ _
  refine z_go 25 _ [.int (jn 1), .int (jn (nr ((k * 10) + a))), .int (jn ((k * 10) + a)), .ref (g + 3)] _ c_8_24 rfl ?_
  refine z_go 26 _ [.int (jn b), .int (jn 1), .int (jn (nr ((k * 10) + a))), .int (jn ((k * 10) + a)), .ref (g + 3)] _ c_8_25 rfl ?_
  refine z_go 27 _ [.int ((fun x y : Int32 => x <<< (y &&& 31)) (jn 1) (jn b)), .int (jn (nr ((k * 10) + a))), .int (jn ((k * 10) + a)), .ref (g + 3)] _ c_8_26 rfl ?_
  refine z_v (jn_shb b hb) ?_
  refine z_go 28 _ [.int ((jn (nr ((k * 10) + a))) ||| (jn (2 ^ b))), .int (jn ((k * 10) + a)), .ref (g + 3)] _ c_8_27 rfl ?_
  refine z_v (jn_or _ _) ?_
  refine z_iast (M' := jm [(g + 3, .inl (0, 60, .inl (ja (nu nr ((k * 10) + a) ((nr ((k * 10) + a)) ||| (2 ^ b)))))), (g + 2, .inl (0, 100, .inl (ja (nu ks ((a * 10) + b) k))))] M) 29 c_8_28 rfl (jne (by omega) hg.2.2.2) (by omega) (by omega) (by rw [ja_upd]; exact rfl) ?_
  refine z_go 30 _ [.ref g] _ c_8_29 rfl ?_
  refine z_getf (v := .ref (g + 3)) 33 c_8_30 rfl (jne (by omega) (jne (by omega) hg.1)) rfl ?_
  refine z_go 35 _ [.int (jn 50), .ref (g + 3)] _ c_8_33 rfl ?_
  refine z_go 36 _ [.int (jn a), .int (jn 50), .ref (g + 3)] _ c_8_35 rfl ?_
  refine z_go 37 _ [.int ((jn 50) + (jn a)), .ref (g + 3)] _ c_8_36 rfl ?_
  refine z_v (jn_add _ _) ?_
  refine z_go 38 _ [.int (jn (50 + a)), .ref (g + 3), .int (jn (50 + a)), .ref (g + 3)] _ c_8_37 rfl ?_
  refine z_iald 39 c_8_38 rfl jhit (Or.inl rfl) (by omega) (by omega) ?_
  show jZ _ _ _ _ ([.int (jn ((nu nr ((k * 10) + a) ((nr ((k * 10) + a)) ||| (2 ^ b))) (50 + a))), .int (jn (50 + a)), .ref (g + 3)]) _ _
  refine z_go 40 _ [.int (jn 1), .int (jn ((nu nr ((k * 10) + a) ((nr ((k * 10) + a)) ||| (2 ^ b))) (50 + a))), .int (jn (50 + a)), .ref (g + 3)] _ c_8_39 rfl ?_
  refine z_go 41 _ [.int (jn b), .int (jn 1), .int (jn ((nu nr ((k * 10) + a) ((nr ((k * 10) + a)) ||| (2 ^ b))) (50 + a))), .int (jn (50 + a)), .ref (g + 3)] _ c_8_40 rfl ?_
  refine z_go 42 _ [.int ((fun x y : Int32 => x <<< (y &&& 31)) (jn 1) (jn b)), .int (jn ((nu nr ((k * 10) + a) ((nr ((k * 10) + a)) ||| (2 ^ b))) (50 + a))), .int (jn (50 + a)), .ref (g + 3)] _ c_8_41 rfl ?_
  refine z_v (jn_shb b hb) ?_
  refine z_go 43 _ [.int ((jn ((nu nr ((k * 10) + a) ((nr ((k * 10) + a)) ||| (2 ^ b))) (50 + a))) ||| (jn (2 ^ b))), .int (jn (50 + a)), .ref (g + 3)] _ c_8_42 rfl ?_
  refine z_v (jn_or _ _) ?_
  refine z_iast (M' := jm [(g + 3, .inl (0, 60, .inl (ja (nu (nu nr ((k * 10) + a) ((nr ((k * 10) + a)) ||| (2 ^ b))) (50 + a) (((nu nr ((k * 10) + a) ((nr ((k * 10) + a)) ||| (2 ^ b))) (50 + a)) ||| (2 ^ b)))))), (g + 2, .inl (0, 100, .inl (ja (nu ks ((a * 10) + b) k))))] M) 44 c_8_43 rfl jhit (by omega) (by omega) (by rw [ja_upd]; exact (jx_st_st _ _ _ _)) ?_
  refine z_ret c_8_44 ?_
  exact ⟨rfl, ⟨(jne (by omega) (jne (by omega) hg.1)), (jne (by omega) (jne (by omega) hg.2.1)), (jne (by omega) jhit), jhit⟩, sameG_w (by omega) (sameG_w (by omega) (sameG_r g M))⟩
theorem sp_has_n {a n : Nat} (ha : a < 2 ^ 31) (hn : n < 2 ^ 31) : sp_has (jn a) n = decide (a < n) := by
  unfold sp_has
  simp [jn_ge a ha, jn_lt ha hn]
theorem t_gjoin {d g n bc : Nat} {cs ks nr : Nat → Nat} {M : jx_M} (hg : jg M g n bc cs ks nr) {a b k : Nat} (hn : n ≤ 10) (hbc : bc < 1000) (ha : a < n) (hb : b < n) (hk : k < 6) : jZ (d + 1) 7 0 [some (.ref g), some (.int (jn a)), some (.int (jn b)), some (.int (jn k))] [] M (jV none fun M' => jg M' g n (bc + 1) cs (nu (nu ks (a * 10 + b) k) (b * 10 + a) k) (sp_nr (sp_nr nr a b k) b a k) ∧ sameG g M M') := by
  refine z_go 1 _ [.ref g] _ c_7_0 rfl ?_
  refine z_go 2 _ [.int (jn a), .ref g] _ c_7_1 rfl ?_
  refine z_callv 5 0 3 1 g c_7_2 rfl ⟨Nat.le_of_ble_eq_true rfl, Nat.le_of_ble_eq_true rfl⟩ rfl hg.1 [.ref g, .int (jn a)] rfl rfl [some (.ref g), some (.int (jn a))] rfl rfl (t_has hg) ?_
  show jZ _ _ _ _ [.int (jb (sp_has (jn a) n))] _ _
  refine z_ifeq 40 8 c_7_5 rfl jb_t (fun h1 => ?_) (fun h1 => ?_)
  · rw [sp_has_n (by omega) (by omega)] at h1
    simp at h1
    omega
  · refine z_go 9 _ [.ref g] _ c_7_8 rfl ?_
    refine z_go 10 _ [.int (jn b), .ref g] _ c_7_9 rfl ?_
    refine z_callv 13 0 3 1 g c_7_10 rfl ⟨Nat.le_of_ble_eq_true rfl, Nat.le_of_ble_eq_true rfl⟩ rfl hg.1 [.ref g, .int (jn b)] rfl rfl [some (.ref g), some (.int (jn b))] rfl rfl (t_has hg) ?_
    show jZ _ _ _ _ [.int (jb (sp_has (jn b) n))] _ _
    refine z_ifeq 40 16 c_7_13 rfl jb_t (fun h2 => ?_) (fun h2 => ?_)
    · rw [sp_has_n (by omega) (by omega)] at h2
      simp at h2
      omega
    · refine z_go 17 _ [.ref g] _ c_7_16 rfl ?_
      refine z_go 18 _ [.int (jn a), .ref g] _ c_7_17 rfl ?_
      refine z_go 19 _ [.int (jn b), .int (jn a), .ref g] _ c_7_18 rfl ?_
      refine z_go 20 _ [.int (jn k), .int (jn b), .int (jn a), .ref g] _ c_7_19 rfl ?_
      refine z_callvV 23 0 8 3 g c_7_20 rfl ⟨Nat.le_of_ble_eq_true rfl, Nat.le_of_ble_eq_true rfl⟩ rfl hg.1 [.ref g, .int (jn a), .int (jn b), .int (jn k)] rfl rfl [some (.ref g), some (.int (jn a)), some (.int (jn b)), some (.int (jn k))] rfl rfl (t_join1 hg (by omega) (by omega) hk) ?_
      intro M1 ⟨hg1, hs1⟩
      show jZ _ _ _ _ [] _ _
      refine z_go 24 _ [.ref g] _ c_7_23 rfl ?_
      refine z_go 25 _ [.int (jn b), .ref g] _ c_7_24 rfl ?_
      refine z_go 26 _ [.int (jn a), .int (jn b), .ref g] _ c_7_25 rfl ?_
      refine z_go 27 _ [.int (jn k), .int (jn a), .int (jn b), .ref g] _ c_7_26 rfl ?_
      refine z_callvV 30 0 8 3 g c_7_27 rfl ⟨Nat.le_of_ble_eq_true rfl, Nat.le_of_ble_eq_true rfl⟩ rfl hg1.1 [.ref g, .int (jn b), .int (jn a), .int (jn k)] rfl rfl [some (.ref g), some (.int (jn b)), some (.int (jn a)), some (.int (jn k))] rfl rfl (t_join1 hg1 (by omega) (by omega) hk) ?_
      intro M2 ⟨hg2, hs2⟩
      show jZ _ _ _ _ [] _ _
      refine z_go 31 _ [.ref g] _ c_7_30 rfl ?_
      refine z_go 32 _ [.ref g, .ref g] _ c_7_31 rfl ?_
      refine z_getf (v := .int (jn bc)) 35 c_7_32 rfl hg2.1 rfl ?_
      refine z_go 36 _ [.int (jn 1), .int (jn bc), .ref g] _ c_7_35 rfl ?_
      refine z_go 37 _ [.int ((jn bc) + (jn 1)), .ref g] _ c_7_36 rfl ?_
      refine z_v (jn_add _ _) ?_
      refine z_putf (M' := jm [(g, gO g n (bc + 1))] M2) 40 c_7_37 rfl hg2.1 (rfl) (Nat.le_of_ble_eq_true rfl) rfl ?_
      refine z_ret c_7_40 ?_
      exact ⟨rfl, ⟨jhit, jne (by omega) hg2.2.1, jne (by omega) hg2.2.2.1, jne (by omega) hg2.2.2.2⟩, sameG_w (by omega) (hs1.tr hs2)⟩
theorem t_gclear {d g n bc : Nat} {cs ks nr : Nat → Nat} {M : jx_M} (hg : jg M g n bc cs ks nr) : jZ (d + 1) 5 0 [some (.ref g)] [] M (jV none fun M' => jg M' g 0 0 (sp_cpy (fun _ => 0) cs 10) (sp_cpy (fun _ => 0) ks 100) (sp_cpy (fun _ => 0) nr 60) ∧ sameG g M M') := by
  refine z_go 1 _ [.ref g] _ c_5_0 rfl ?_
  refine z_getf (v := .ref (g + 1)) 4 c_5_1 rfl hg.1 rfl ?_
  refine z_go 5 _ [.int (jn 0), .ref (g + 1)] _ c_5_4 rfl ?_
  refine z_call 8 123 2 c_5_5 rfl ⟨Nat.le_of_ble_eq_true rfl, Nat.le_of_ble_eq_true rfl⟩ [.ref (g + 1), .int (jn 0)] rfl rfl [some (.ref (g + 1)), some (.int (jn 0)), none, none] rfl rfl (t_filln (x := 0) (f := cs) (by decide) hg.2.1) ?_
  show jZ _ _ _ _ [] _ _
  show jZ _ _ _ _ _ (jm [(g + 1, .inl (0, 10, .inl (ja (sp_cpy (fun _ => 0) cs 10))))] M) _
  refine z_go 9 _ [.ref g] _ c_5_8 rfl ?_
  refine z_getf (v := .ref (g + 2)) 12 c_5_9 rfl (jne (by omega) hg.1) rfl ?_
  refine z_go 13 _ [.int (jn 0), .ref (g + 2)] _ c_5_12 rfl ?_
  refine z_call 16 123 2 c_5_13 rfl ⟨Nat.le_of_ble_eq_true rfl, Nat.le_of_ble_eq_true rfl⟩ [.ref (g + 2), .int (jn 0)] rfl rfl [some (.ref (g + 2)), some (.int (jn 0)), none, none] rfl rfl (t_filln (x := 0) (f := ks) (by decide) (jne (by omega) hg.2.2.1)) ?_
  show jZ _ _ _ _ [] _ _
  show jZ _ _ _ _ _ (jm [(g + 2, .inl (0, 100, .inl (ja (sp_cpy (fun _ => 0) ks 100)))), (g + 1, .inl (0, 10, .inl (ja (sp_cpy (fun _ => 0) cs 10))))] M) _
  refine z_go 17 _ [.ref g] _ c_5_16 rfl ?_
  refine z_getf (v := .ref (g + 3)) 20 c_5_17 rfl (jne (by omega) (jne (by omega) hg.1)) rfl ?_
  refine z_go 21 _ [.int (jn 0), .ref (g + 3)] _ c_5_20 rfl ?_
  refine z_call 24 123 2 c_5_21 rfl ⟨Nat.le_of_ble_eq_true rfl, Nat.le_of_ble_eq_true rfl⟩ [.ref (g + 3), .int (jn 0)] rfl rfl [some (.ref (g + 3)), some (.int (jn 0)), none, none] rfl rfl (t_filln (x := 0) (f := nr) (by decide) (jne (by omega) (jne (by omega) hg.2.2.2))) ?_
  show jZ _ _ _ _ [] _ _
  show jZ _ _ _ _ _ (jm [(g + 3, .inl (0, 60, .inl (ja (sp_cpy (fun _ => 0) nr 60)))), (g + 2, .inl (0, 100, .inl (ja (sp_cpy (fun _ => 0) ks 100)))), (g + 1, .inl (0, 10, .inl (ja (sp_cpy (fun _ => 0) cs 10))))] M) _
  refine z_go 25 _ [.ref g] _ c_5_24 rfl ?_
  refine z_go 26 _ [.int (jn 0), .ref g] _ c_5_25 rfl ?_
  refine z_putf (M' := jm [(g, gO g 0 bc), (g + 3, .inl (0, 60, .inl (ja (sp_cpy (fun _ => 0) nr 60)))), (g + 2, .inl (0, 100, .inl (ja (sp_cpy (fun _ => 0) ks 100)))), (g + 1, .inl (0, 10, .inl (ja (sp_cpy (fun _ => 0) cs 10))))] M) 29 c_5_26 rfl (jne (by omega) (jne (by omega) (jne (by omega) hg.1))) (rfl) (Nat.le_of_ble_eq_true rfl) rfl ?_
  refine z_go 30 _ [.ref g] _ c_5_29 rfl ?_
  refine z_go 31 _ [.int (jn 0), .ref g] _ c_5_30 rfl ?_
  refine z_putf (M' := jm [(g, gO g 0 0), (g + 3, .inl (0, 60, .inl (ja (sp_cpy (fun _ => 0) nr 60)))), (g + 2, .inl (0, 100, .inl (ja (sp_cpy (fun _ => 0) ks 100)))), (g + 1, .inl (0, 10, .inl (ja (sp_cpy (fun _ => 0) cs 10))))] M) 34 c_5_31 rfl jhit (rfl) (Nat.le_of_ble_eq_true rfl) (jx_st_st _ _ _ _) ?_
  refine z_ret c_5_34 ?_
  exact ⟨rfl, ⟨jhit, (jne (by omega) (jne (by omega) (jne (by omega) jhit))), (jne (by omega) (jne (by omega) jhit)), (jne (by omega) jhit)⟩, sameG_w (by omega) (sameG_w (by omega) (sameG_w (by omega) (sameG_w (by omega) (sameG_r g M))))⟩
theorem t_gcopy {d g n bc : Nat} {cs ks nr : Nat → Nat} {M : jx_M} (hg : jg M g n bc cs ks nr) {h n' bc' : Nat} {cs' ks' nr' : Nat → Nat} (hh : jg M h n' bc' cs' ks' nr') (hd : h + 3 < g ∨ g + 3 < h) : jZ d 2 0 [some (.ref g), some (.ref h)] [] M (jV none fun M' => jg M' g n' bc' (sp_cpy cs' cs 10) (sp_cpy ks' ks 100) (sp_cpy nr' nr 60) ∧ sameG g M M') := by
  refine z_go 1 _ [.ref h] _ c_2_0 rfl ?_
  refine z_getf (v := .ref (h + 1)) 4 c_2_1 rfl hh.1 rfl ?_
  refine z_go 5 _ [.int (jn 0), .ref (h + 1)] _ c_2_4 rfl ?_
  refine z_go 6 _ [.ref g, .int (jn 0), .ref (h + 1)] _ c_2_5 rfl ?_
  refine z_getf (v := .ref (g + 1)) 9 c_2_6 rfl hg.1 rfl ?_
  refine z_go 10 _ [.int (jn 0), .ref (g + 1), .int (jn 0), .ref (h + 1)] _ c_2_9 rfl ?_
  refine z_go 11 _ [.ref g, .int (jn 0), .ref (g + 1), .int (jn 0), .ref (h + 1)] _ c_2_10 rfl ?_
  refine z_getf (v := .ref (g + 1)) 14 c_2_11 rfl hg.1 rfl ?_
  refine z_alen 15 c_2_14 rfl hg.2.1 (by decide) ?_
  refine z_copy (M' := jm [(g + 1, .inl (0, 10, .inl (ja (sp_cpy cs' cs 10))))] M) 18 c_2_15 rfl hh.2.1 hg.2.1 (Or.inl rfl) (by omega) (by omega) (by omega) (Nat.le_of_ble_eq_true rfl) rfl ?_
  refine z_go 19 _ [.ref h] _ c_2_18 rfl ?_
  refine z_getf (v := .ref (h + 2)) 22 c_2_19 rfl (jne (by omega) hh.1) rfl ?_
  refine z_go 23 _ [.int (jn 0), .ref (h + 2)] _ c_2_22 rfl ?_
  refine z_go 24 _ [.ref g, .int (jn 0), .ref (h + 2)] _ c_2_23 rfl ?_
  refine z_getf (v := .ref (g + 2)) 27 c_2_24 rfl (jne (by omega) hg.1) rfl ?_
  refine z_go 28 _ [.int (jn 0), .ref (g + 2), .int (jn 0), .ref (h + 2)] _ c_2_27 rfl ?_
  refine z_go 29 _ [.ref g, .int (jn 0), .ref (g + 2), .int (jn 0), .ref (h + 2)] _ c_2_28 rfl ?_
  refine z_getf (v := .ref (g + 2)) 32 c_2_29 rfl (jne (by omega) hg.1) rfl ?_
  refine z_alen 33 c_2_32 rfl (jne (by omega) hg.2.2.1) (by decide) ?_
  refine z_copy (M' := jm [(g + 2, .inl (0, 100, .inl (ja (sp_cpy ks' ks 100)))), (g + 1, .inl (0, 10, .inl (ja (sp_cpy cs' cs 10))))] M) 36 c_2_33 rfl (jne (by omega) hh.2.2.1) (jne (by omega) hg.2.2.1) (Or.inl rfl) (by omega) (by omega) (by omega) (Nat.le_of_ble_eq_true rfl) rfl ?_
  refine z_go 37 _ [.ref h] _ c_2_36 rfl ?_
  refine z_getf (v := .ref (h + 3)) 40 c_2_37 rfl (jne (by omega) (jne (by omega) hh.1)) rfl ?_
  refine z_go 41 _ [.int (jn 0), .ref (h + 3)] _ c_2_40 rfl ?_
  refine z_go 42 _ [.ref g, .int (jn 0), .ref (h + 3)] _ c_2_41 rfl ?_
  refine z_getf (v := .ref (g + 3)) 45 c_2_42 rfl (jne (by omega) (jne (by omega) hg.1)) rfl ?_
  refine z_go 46 _ [.int (jn 0), .ref (g + 3), .int (jn 0), .ref (h + 3)] _ c_2_45 rfl ?_
  refine z_go 47 _ [.ref g, .int (jn 0), .ref (g + 3), .int (jn 0), .ref (h + 3)] _ c_2_46 rfl ?_
  refine z_getf (v := .ref (g + 3)) 50 c_2_47 rfl (jne (by omega) (jne (by omega) hg.1)) rfl ?_
  refine z_alen 51 c_2_50 rfl (jne (by omega) (jne (by omega) hg.2.2.2)) (by decide) ?_
  refine z_copy (M' := jm [(g + 3, .inl (0, 60, .inl (ja (sp_cpy nr' nr 60)))), (g + 2, .inl (0, 100, .inl (ja (sp_cpy ks' ks 100)))), (g + 1, .inl (0, 10, .inl (ja (sp_cpy cs' cs 10))))] M) 54 c_2_51 rfl (jne (by omega) (jne (by omega) hh.2.2.2)) (jne (by omega) (jne (by omega) hg.2.2.2)) (Or.inl rfl) (by omega) (by omega) (by omega) (Nat.le_of_ble_eq_true rfl) rfl ?_
  refine z_go 55 _ [.ref g] _ c_2_54 rfl ?_
  refine z_go 56 _ [.ref h, .ref g] _ c_2_55 rfl ?_
  refine z_getf (v := .int (jn n')) 59 c_2_56 rfl (jne (by omega) (jne (by omega) (jne (by omega) hh.1))) rfl ?_
  refine z_putf (M' := jm [(g, gO g n' bc), (g + 3, .inl (0, 60, .inl (ja (sp_cpy nr' nr 60)))), (g + 2, .inl (0, 100, .inl (ja (sp_cpy ks' ks 100)))), (g + 1, .inl (0, 10, .inl (ja (sp_cpy cs' cs 10))))] M) 62 c_2_59 rfl (jne (by omega) (jne (by omega) (jne (by omega) hg.1))) (rfl) (Nat.le_of_ble_eq_true rfl) rfl ?_
  refine z_go 63 _ [.ref g] _ c_2_62 rfl ?_
  refine z_go 64 _ [.ref h, .ref g] _ c_2_63 rfl ?_
  refine z_getf (v := .int (jn bc')) 67 c_2_64 rfl (jne (by omega) (jne (by omega) (jne (by omega) (jne (by omega) hh.1)))) rfl ?_
  refine z_putf (M' := jm [(g, gO g n' bc'), (g + 3, .inl (0, 60, .inl (ja (sp_cpy nr' nr 60)))), (g + 2, .inl (0, 100, .inl (ja (sp_cpy ks' ks 100)))), (g + 1, .inl (0, 10, .inl (ja (sp_cpy cs' cs 10))))] M) 70 c_2_67 rfl jhit (rfl) (Nat.le_of_ble_eq_true rfl) (jx_st_st _ _ _ _) ?_
  refine z_ret c_2_70 ?_
  exact ⟨rfl, ⟨jhit, (jne (by omega) (jne (by omega) (jne (by omega) jhit))), (jne (by omega) (jne (by omega) jhit)), (jne (by omega) jhit)⟩, sameG_w (by omega) (sameG_w (by omega) (sameG_w (by omega) (sameG_w (by omega) (sameG_r g M))))⟩
