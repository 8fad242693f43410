/-! THE MATCHER: choices; printed by wip/whole/p54.py -/
theorem c_17_0 : jx_cd 17 0 = some (o_ild 0 1) := rfl
theorem c_17_1 : jx_cd 17 1 = some (o_push (.int 16384) 3) := rfl
theorem c_17_4 : jx_cd 17 4 = some (o_bin fun x y => x &&& y) := rfl
theorem c_17_5 : jx_cd 17 5 = some (o_ifne 19) := rfl
theorem c_17_8 : jx_cd 17 8 = some (o_ild 0 1) := rfl
theorem c_17_9 : jx_cd 17 9 = some (o_ild 1 1) := rfl
theorem c_17_10 : jx_cd 17 10 = some (o_ine 17) := rfl
theorem c_17_13 : jx_cd 17 13 = some (o_push (.int 1) 1) := rfl
theorem c_17_14 : jx_cd 17 14 = some (o_goto 18) := rfl
theorem c_17_17 : jx_cd 17 17 = some (o_push (.int 0) 1) := rfl
theorem c_17_18 : jx_cd 17 18 = some (o_zret) := rfl
theorem c_17_19 : jx_cd 17 19 = some (o_push (.ref 2) 2) := rfl
theorem c_17_21 : jx_cd 17 21 = some (o_ild 1 1) := rfl
theorem c_17_22 : jx_cd 17 22 = some (o_push (.int 127) 2) := rfl
theorem c_17_24 : jx_cd 17 24 = some (o_bin fun x y => x &&& y) := rfl
theorem c_17_25 : jx_cd 17 25 = some (o_un fun x => (x.toUInt32 % 65536).toInt32) := rfl
theorem c_17_26 : jx_cd 17 26 = some (o_callv 200 125 1) := rfl
theorem c_17_29 : jx_cd 17 29 = some (o_ist 2 1) := rfl
theorem c_17_30 : jx_cd 17 30 = some (o_ild 2 1) := rfl
theorem c_17_31 : jx_cd 17 31 = some (o_iflt 46) := rfl
theorem c_17_34 : jx_cd 17 34 = some (o_ild 0 1) := rfl
theorem c_17_35 : jx_cd 17 35 = some (o_ild 2 1) := rfl
theorem c_17_36 : jx_cd 17 36 = some (o_bin fun x y => x >>> (y &&& 31)) := rfl
theorem c_17_37 : jx_cd 17 37 = some (o_push (.int 1) 1) := rfl
theorem c_17_38 : jx_cd 17 38 = some (o_bin fun x y => x &&& y) := rfl
theorem c_17_39 : jx_cd 17 39 = some (o_ifeq 46) := rfl
theorem c_17_42 : jx_cd 17 42 = some (o_push (.int 1) 1) := rfl
theorem c_17_43 : jx_cd 17 43 = some (o_goto 47) := rfl
theorem c_17_46 : jx_cd 17 46 = some (o_push (.int 0) 1) := rfl
theorem c_17_47 : jx_cd 17 47 = some (o_zret) := rfl
theorem c_18_0 : jx_cd 18 0 = some (o_push (.int 1) 1) := rfl
theorem c_18_1 : jx_cd 18 1 = some (o_ist 4 2) := rfl
theorem c_18_3 : jx_cd 18 3 = some (o_ild 4 2) := rfl
theorem c_18_5 : jx_cd 18 5 = some (o_push (.int 5) 1) := rfl
theorem c_18_6 : jx_cd 18 6 = some (o_igt 34) := rfl
theorem c_18_9 : jx_cd 18 9 = some (o_ald 0 1) := rfl
theorem c_18_10 : jx_cd 18 10 = some (o_ild 1 1) := rfl
theorem c_18_11 : jx_cd 18 11 = some (o_ild 4 2) := rfl
theorem c_18_13 : jx_cd 18 13 = some (o_callv 0 9 2) := rfl
theorem c_18_16 : jx_cd 18 16 = some (o_ald 2 1) := rfl
theorem c_18_17 : jx_cd 18 17 = some (o_ild 3 1) := rfl
theorem c_18_18 : jx_cd 18 18 = some (o_ild 4 2) := rfl
theorem c_18_20 : jx_cd 18 20 = some (o_callv 0 9 2) := rfl
theorem c_18_23 : jx_cd 18 23 = some (o_ile 28) := rfl
theorem c_18_26 : jx_cd 18 26 = some (o_push (.int 0) 1) := rfl
theorem c_18_27 : jx_cd 18 27 = some (o_zret) := rfl
theorem c_18_28 : jx_cd 18 28 = some (o_iinc 4 1) := rfl
theorem c_18_31 : jx_cd 18 31 = some (o_goto 3) := rfl
theorem c_18_34 : jx_cd 18 34 = some (o_push (.int 1) 1) := rfl
theorem c_18_35 : jx_cd 18 35 = some (o_zret) := rfl
theorem c_19_0 : jx_cd 19 0 = some (o_push (.int 1) 1) := rfl
theorem c_19_1 : jx_cd 19 1 = some (o_ald 0 1) := rfl
theorem c_19_2 : jx_cd 19 2 = some (o_getf 0 3) := rfl
theorem c_19_5 : jx_cd 19 5 = some (o_bin fun x y => x <<< (y &&& 31)) := rfl
theorem c_19_6 : jx_cd 19 6 = some (o_push (.int 1) 1) := rfl
theorem c_19_7 : jx_cd 19 7 = some (o_bin fun x y => x - y) := rfl
theorem c_19_8 : jx_cd 19 8 = some (o_iret) := rfl
def okW (w : Nat) : Prop := w < 16384 ∨ ∃ el, el < 32 ∧ w = 16384 + el
def sp_fits (w c : Nat) : Bool := if w < 16384 then decide (w = c) else match sp_el (c &&& 127) with
  | none => false
  | some e => (w - 16384).testBit e
theorem and14 {w : Nat} (h : w < 16384) : w &&& 16384 = 0 := by
  apply Nat.eq_of_testBit_eq
  intro i
  rw [Nat.testBit_and, show (16384 : Nat) = 2 ^ 14 from rfl, Nat.testBit_two_pow, Nat.zero_testBit]
  by_cases hi : 14 = i
  · subst hi
    rw [Nat.testBit_lt_two_pow (show w < 2 ^ 14 from h)]
    rfl
  · simp [hi]
theorem and14' : ∀ el, el < 32 → ¬ (16384 + el) &&& 16384 = 0 := by decide +kernel
theorem jn_bit2 : ∀ el, el < 32 → ∀ e, e < 5 → ((fun x y : Int32 => x >>> (y &&& 31)) (jn (16384 + el)) (jn e)) &&& (jn 1) = jb ((16384 + el - 16384).testBit e) := by decide +kernel
theorem t_fits {d w c : Nat} {M : jx_M} (hj : jc M) (hw : okW w) (hc : c < 32768) (hw2 : w < 32768) : jZ (d + 4) 17 0 [some (.int (jn w)), some (.int (jn c)), none] [] M (jR (some (.int (jb (sp_fits w c)))) M) := by
  have h127 := and127 c
  rcases hw with hw | ⟨el, hel, hw⟩
  · have h14 := and14 hw
    refine z_go 1 _ [.int (jn w)] _ c_17_0 rfl ?_
    refine z_go 4 _ [.int (jn 16384), .int (jn w)] _ c_17_1 rfl ?_
    refine z_go 5 _ [.int ((jn w) &&& (jn 16384))] _ c_17_4 rfl ?_
    refine z_v (jn_and _ _) ?_
    refine z_ifne 19 8 c_17_5 rfl (jn_z (and_lt _ (by decide))) (fun h1 => ?_) (fun h1 => ?_)
    · refine z_go 9 _ [.int (jn w)] _ c_17_8 rfl ?_
      refine z_go 10 _ [.int (jn c), .int (jn w)] _ c_17_9 rfl ?_
      refine z_ine 17 13 c_17_10 rfl (jn_inj (by omega) (by omega)) (fun h2 => ?_) (fun h2 => ?_)
      · refine z_go 14 _ [.int (jn 1)] _ c_17_13 rfl ?_
        refine z_go 18 _ [.int (jn 1)] _ c_17_14 rfl ?_
        refine z_zret (b := true) c_17_18 ?_
        exact ⟨by rw [sp_fits, if_pos hw]; simp [h2], rfl⟩
      · refine z_go 18 _ [.int (jn 0)] _ c_17_17 rfl ?_
        refine z_zret (b := false) c_17_18 ?_
        exact ⟨by rw [sp_fits, if_pos hw]; simp [h2], rfl⟩
    · exact absurd h14 h1
  · subst hw
    have h14 := and14' el hel
    refine z_go 1 _ [.int (jn (16384 + el))] _ c_17_0 rfl ?_
    refine z_go 4 _ [.int (jn 16384), .int (jn (16384 + el))] _ c_17_1 rfl ?_
    refine z_go 5 _ [.int ((jn (16384 + el)) &&& (jn 16384))] _ c_17_4 rfl ?_
    refine z_v (jn_and _ _) ?_
    refine z_ifne 19 8 c_17_5 rfl (jn_z (and_lt _ (by decide))) (fun h1 => ?_) (fun h1 => ?_)
    · exact absurd h1 h14
    · refine z_go 21 _ [.ref 2] _ c_17_19 rfl ?_
      refine z_go 22 _ [.int (jn c), .ref 2] _ c_17_21 rfl ?_
      refine z_go 24 _ [.int (jn 127), .int (jn c), .ref 2] _ c_17_22 rfl ?_
      refine z_go 25 _ [.int ((jn c) &&& (jn 127)), .ref 2] _ c_17_24 rfl ?_
      refine z_v (jn_and _ _) ?_
      refine z_go 26 _ [.int ((fun x : Int32 => (x.toUInt32 % 65536).toInt32) (jn (c &&& 127))), .ref 2] _ c_17_25 rfl ?_
      refine z_v (jn_c16 _ h127) ?_
      refine z_callv 29 200 125 1 2 c_17_26 rfl ⟨Nat.le_of_ble_eq_true rfl, Nat.le_of_ble_eq_true rfl⟩ rfl hj.1.1 [.ref 2, .int (jn (c &&& 127))] rfl rfl [some (.ref 2), some (.int (jn (c &&& 127)))] rfl rfl (t_el hj h127) ?_
      show jZ _ _ _ _ [.int (jo (sp_el (c &&& 127)))] _ _
      refine z_go 30 [some (.int (jn (16384 + el))), some (.int (jn c)), some (.int (jo (sp_el (c &&& 127))))] [] _ c_17_29 rfl ?_
      refine z_go 31 _ [.int (jo (sp_el (c &&& 127)))] _ c_17_30 rfl ?_
      refine z_iflt 46 34 c_17_31 rfl (jo_lt (by first | omega | exact sp_el_lt | exact sp_ar_lt | assumption)) (fun he => ?_) (fun he => ?_)
      · refine z_go 47 _ [.int (jn 0)] _ c_17_46 rfl ?_
        refine z_zret (b := false) c_17_47 ?_
        exact ⟨by rw [sp_fits, if_neg (by omega), he], rfl⟩
      · obtain ⟨x, hx⟩ := Option.ne_none_iff_exists'.mp he
        have hx5 := sp_el_5 hx
        rw [hx]
        show jZ _ _ _ [some (.int (jn (16384 + el))), some (.int (jn c)), some (.int (jn x))] _ _ _
        refine z_go 35 _ [.int (jn (16384 + el))] _ c_17_34 rfl ?_
        refine z_go 36 _ [.int (jn x), .int (jn (16384 + el))] _ c_17_35 rfl ?_
        refine z_go 37 _ [.int ((fun x y : Int32 => x >>> (y &&& 31)) (jn (16384 + el)) (jn x))] _ c_17_36 rfl ?_
        refine z_go 38 _ [.int (jn 1), .int ((fun x y : Int32 => x >>> (y &&& 31)) (jn (16384 + el)) (jn x))] _ c_17_37 rfl ?_
        refine z_go 39 _ [.int ((((fun x y : Int32 => x >>> (y &&& 31)) (jn (16384 + el)) (jn x))) &&& (jn 1))] _ c_17_38 rfl ?_
        refine z_v (jn_bit2 el hel x hx5) ?_
        refine z_ifeq 46 42 c_17_39 rfl jb_t (fun h3 => ?_) (fun h3 => ?_)
        · refine z_go 47 _ [.int (jn 0)] _ c_17_46 rfl ?_
          refine z_zret (b := false) c_17_47 ?_
          exact ⟨by rw [sp_fits, if_neg (by omega), hx]; dsimp only; rw [h3], rfl⟩
        · refine z_go 43 _ [.int (jn 1)] _ c_17_42 rfl ?_
          refine z_go 47 _ [.int (jn 1)] _ c_17_43 rfl ?_
          refine z_zret (b := true) c_17_47 ?_
          exact ⟨by rw [sp_fits, if_neg (by omega), hx]; dsimp only; rw [show (16384 + el - 16384).testBit x = true by simpa using h3], rfl⟩
def sp_hb (nr nr' : Nat → Nat) (a b : Nat) : Nat → Nat → Bool
  | 0, _ => true
  | k + 1, i => if sp_bits (nr' (i * 10 + b)) < sp_bits (nr (i * 10 + a)) then false else sp_hb nr nr' a b k (i + 1)
theorem t_hb_l {d a b : Nat} {g n bc : Nat} {cs ks nr : Nat → Nat} {h n' bc' : Nat} {cs' ks' nr' : Nat → Nat} {M : jx_M} (hg : jg M g n bc cs ks nr) (hh : jg M h n' bc' cs' ks' nr') (ha : a < 10) (hbb : b < 10) (hb : ∀ j, nr j < 1024) (hb' : ∀ j, nr' j < 1024) : ∀ {k i : Nat}, i + k = 6 → jZ (d + 2) 18 3 [some (.ref g), some (.int (jn a)), some (.ref h), some (.int (jn b)), some (.int (jn i))] [] M (jR (some (.int (jb (sp_hb nr nr' a b k i)))) M) := by
  intro k
  induction k with
  | zero =>
    intro i hk
    refine z_go 5 _ [.int (jn i)] _ c_18_3 rfl ?_
    refine z_go 6 _ [.int (jn 5), .int (jn i)] _ c_18_5 rfl ?_
    refine z_igt 34 9 c_18_6 rfl (by omega) (by omega) (fun h1 => ?_) (fun h1 => ?_)
    · refine z_go 35 _ [.int (jn 1)] _ c_18_34 rfl ?_
      refine z_zret (b := true) c_18_35 ?_
      exact ⟨rfl, rfl⟩
    · omega
  | succ k ih =>
    intro i hk
    refine z_go 5 _ [.int (jn i)] _ c_18_3 rfl ?_
    refine z_go 6 _ [.int (jn 5), .int (jn i)] _ c_18_5 rfl ?_
    refine z_igt 34 9 c_18_6 rfl (by omega) (by omega) (fun h1 => ?_) (fun h1 => ?_)
    · omega
    · have hb1 := sp_bits_le (nr (i * 10 + a))
      have hb2 := sp_bits_le (nr' (i * 10 + b))
      refine z_go 10 _ [.ref g] _ c_18_9 rfl ?_
      refine z_go 11 _ [.int (jn a), .ref g] _ c_18_10 rfl ?_
      refine z_go 13 _ [.int (jn i), .int (jn a), .ref g] _ c_18_11 rfl ?_
      refine z_callv 16 0 9 2 g c_18_13 rfl ⟨Nat.le_of_ble_eq_true rfl, Nat.le_of_ble_eq_true rfl⟩ rfl hg.1 [.ref g, .int (jn a), .int (jn i)] rfl rfl [some (.ref g), some (.int (jn a)), some (.int (jn i))] rfl rfl (t_degree hg (by omega) (hb _)) ?_
      show jZ _ _ _ _ [.int (jn (sp_bits (nr (i * 10 + a))))] _ _
      refine z_go 17 _ [.ref h, .int (jn (sp_bits (nr (i * 10 + a))))] _ c_18_16 rfl ?_
      refine z_go 18 _ [.int (jn b), .ref h, .int (jn (sp_bits (nr (i * 10 + a))))] _ c_18_17 rfl ?_
      refine z_go 20 _ [.int (jn i), .int (jn b), .ref h, .int (jn (sp_bits (nr (i * 10 + a))))] _ c_18_18 rfl ?_
      refine z_callv 23 0 9 2 h c_18_20 rfl ⟨Nat.le_of_ble_eq_true rfl, Nat.le_of_ble_eq_true rfl⟩ rfl hh.1 [.ref h, .int (jn b), .int (jn i)] rfl rfl [some (.ref h), some (.int (jn b)), some (.int (jn i))] rfl rfl (t_degree hh (by omega) (hb' _)) ?_
      show jZ _ _ _ _ [.int (jn (sp_bits (nr' (i * 10 + b)))), .int (jn (sp_bits (nr (i * 10 + a))))] _ _
      refine z_ile 28 26 c_18_23 rfl (by omega) (by omega) (fun h2 => ?_) (fun h2 => ?_)
      · refine z_go 27 _ [.int (jn 0)] _ c_18_26 rfl ?_
        refine z_zret (b := false) c_18_27 ?_
        exact ⟨by rw [sp_hb, if_pos h2], rfl⟩
      · refine z_iinc 31 [some (.ref g), some (.int (jn a)), some (.ref h), some (.int (jn b)), some (.int (jn (i + 1)))] c_18_28 rfl rfl (jn_add _ _) rfl ?_
        refine z_go 3 _ [] _ c_18_31 rfl ?_
        refine (ih (i := i + 1) (by omega)).mono fun r M1 q => ⟨q.1.trans ?_, q.2⟩
        rw [sp_hb, if_neg h2]
theorem t_hb {d a b : Nat} {g n bc : Nat} {cs ks nr : Nat → Nat} {h n' bc' : Nat} {cs' ks' nr' : Nat → Nat} {M : jx_M} (hg : jg M g n bc cs ks nr) (hh : jg M h n' bc' cs' ks' nr') (ha : a < 10) (hbb : b < 10) (hb : ∀ j, nr j < 1024) (hb' : ∀ j, nr' j < 1024) : jZ (d + 2) 18 0 [some (.ref g), some (.int (jn a)), some (.ref h), some (.int (jn b)), none] [] M (jR (some (.int (jb (sp_hb nr nr' a b 5 1)))) M) := by
  refine z_go 1 _ [.int (jn 1)] _ c_18_0 rfl ?_
  refine z_go 3 [some (.ref g), some (.int (jn a)), some (.ref h), some (.int (jn b)), some (.int (jn 1))] [] _ c_18_1 rfl ?_
  exact t_hb_l hg hh ha hbb hb hb' (by omega)
theorem jn_all : ∀ n, n < 11 → (fun x y : Int32 => x <<< (y &&& 31)) (jn 1) (jn n) = jn (2 ^ n) := by decide +kernel
theorem t_every {d g n bc : Nat} {cs ks nr : Nat → Nat} {M : jx_M} (hg : jg M g n bc cs ks nr) (hn : n ≤ 10) : jZ d 19 0 [some (.ref g)] [] M (jR (some (.int (jn (2 ^ n - 1)))) M) := by
  have hp : 1 ≤ 2 ^ n := Nat.one_le_two_pow
  refine z_go 1 _ [.int (jn 1)] _ c_19_0 rfl ?_
  refine z_go 2 _ [.ref g, .int (jn 1)] _ c_19_1 rfl ?_
  refine z_getf (v := .int (jn n)) 5 c_19_2 rfl hg.1 rfl ?_
  refine z_go 6 _ [.int ((fun x y : Int32 => x <<< (y &&& 31)) (jn 1) (jn n))] _ c_19_5 rfl ?_
  refine z_v (jn_all n (by omega)) ?_
  refine z_go 7 _ [.int (jn 1), .int (jn (2 ^ n))] _ c_19_6 rfl ?_
  refine z_go 8 _ [.int ((jn (2 ^ n)) - (jn 1))] _ c_19_7 rfl ?_
  refine z_v (jn_sub (by omega)) ?_
  refine z_iret c_19_8 ?_
  exact ⟨rfl, rfl⟩
