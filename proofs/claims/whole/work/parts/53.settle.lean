/-! THE CHEMISTRY: settle; printed by wip/whole/p53.py -/
theorem c_111_0 : jx_cd 111 0 = some (o_push (.int 0) 1) := rfl
theorem c_111_1 : jx_cd 111 1 = some (o_ist 2 1) := rfl
theorem c_111_2 : jx_cd 111 2 = some (o_ild 2 1) := rfl
theorem c_111_3 : jx_cd 111 3 = some (o_ald 0 1) := rfl
theorem c_111_4 : jx_cd 111 4 = some (o_getf 0 3) := rfl
theorem c_111_7 : jx_cd 111 7 = some (o_ige 78) := rfl
theorem c_111_10 : jx_cd 111 10 = some (o_ald 0 1) := rfl
theorem c_111_11 : jx_cd 111 11 = some (o_getf 0 0) := rfl
theorem c_111_14 : jx_cd 111 14 = some (o_ild 2 1) := rfl
theorem c_111_15 : jx_cd 111 15 = some (o_iald) := rfl
theorem c_111_16 : jx_cd 111 16 = some (o_call 112 1) := rfl
theorem c_111_19 : jx_cd 111 19 = some (o_ald 0 1) := rfl
theorem c_111_20 : jx_cd 111 20 = some (o_ild 2 1) := rfl
theorem c_111_21 : jx_cd 111 21 = some (o_call 113 2) := rfl
theorem c_111_24 : jx_cd 111 24 = some (o_bin fun x y => x - y) := rfl
theorem c_111_25 : jx_cd 111 25 = some (o_ist 3 1) := rfl
theorem c_111_26 : jx_cd 111 26 = some (o_ald 1 1) := rfl
theorem c_111_27 : jx_cd 111 27 = some (o_ild 2 1) := rfl
theorem c_111_28 : jx_cd 111 28 = some (o_iald) := rfl
theorem c_111_29 : jx_cd 111 29 = some (o_push (.int (-1)) 1) := rfl
theorem c_111_30 : jx_cd 111 30 = some (o_ieq 40) := rfl
theorem c_111_33 : jx_cd 111 33 = some (o_ald 1 1) := rfl
theorem c_111_34 : jx_cd 111 34 = some (o_ild 2 1) := rfl
theorem c_111_35 : jx_cd 111 35 = some (o_iald) := rfl
theorem c_111_36 : jx_cd 111 36 = some (o_ild 3 1) := rfl
theorem c_111_37 : jx_cd 111 37 = some (o_ine 44) := rfl
theorem c_111_40 : jx_cd 111 40 = some (o_push (.int 1) 1) := rfl
theorem c_111_41 : jx_cd 111 41 = some (o_goto 45) := rfl
theorem c_111_44 : jx_cd 111 44 = some (o_push (.int 0) 1) := rfl
theorem c_111_45 : jx_cd 111 45 = some (o_ist 4 2) := rfl
theorem c_111_47 : jx_cd 111 47 = some (o_ild 3 1) := rfl
theorem c_111_48 : jx_cd 111 48 = some (o_iflt 56) := rfl
theorem c_111_51 : jx_cd 111 51 = some (o_ild 4 2) := rfl
theorem c_111_53 : jx_cd 111 53 = some (o_ifne 58) := rfl
theorem c_111_56 : jx_cd 111 56 = some (o_push (.int 0) 1) := rfl
theorem c_111_57 : jx_cd 111 57 = some (o_zret) := rfl
theorem c_111_58 : jx_cd 111 58 = some (o_ald 0 1) := rfl
theorem c_111_59 : jx_cd 111 59 = some (o_getf 0 0) := rfl
theorem c_111_62 : jx_cd 111 62 = some (o_ild 2 1) := rfl
theorem c_111_63 : jx_cd 111 63 = some (o_dup2) := rfl
theorem c_111_64 : jx_cd 111 64 = some (o_iald) := rfl
theorem c_111_65 : jx_cd 111 65 = some (o_push (.int 256) 3) := rfl
theorem c_111_68 : jx_cd 111 68 = some (o_ild 3 1) := rfl
theorem c_111_69 : jx_cd 111 69 = some (o_bin fun x y => x * y) := rfl
theorem c_111_70 : jx_cd 111 70 = some (o_bin fun x y => x + y) := rfl
theorem c_111_71 : jx_cd 111 71 = some (o_iast) := rfl
theorem c_111_72 : jx_cd 111 72 = some (o_iinc 2 1) := rfl
theorem c_111_75 : jx_cd 111 75 = some (o_goto 2) := rfl
theorem c_111_78 : jx_cd 111 78 = some (o_ald 0 1) := rfl
theorem c_111_79 : jx_cd 111 79 = some (o_push (.int 0) 1) := rfl
theorem c_111_80 : jx_cd 111 80 = some (o_ald 0 1) := rfl
theorem c_111_81 : jx_cd 111 81 = some (o_call 115 1) := rfl
theorem c_111_84 : jx_cd 111 84 = some (o_call 116 3) := rfl
theorem c_111_87 : jx_cd 111 87 = some (o_zret) := rfl
theorem jo_some {o : Option Nat} {w : Nat} (h : ∀ k, o = some k → k < 2 ^ 31) (hw : w < 2 ^ 31) : jo o = jn w ↔ o = some w := by
  cases o with
  | none => exact ⟨fun q => absurd q.symm (jn_ne1 hw), fun q => by cases q⟩
  | some k => exact ⟨fun q => congrArg some ((jn_inj (h k rfl) hw).mp q), fun q => by cases q; rfl⟩
theorem jn_neg : ∀ c, c < 6 → ∀ o, o < 72 → c < o → jn c - jn o < 0 := by decide +kernel
theorem sp_cap_le (c e : Nat) : sp_cap c e ≤ 5 := by
  have := fV_le e
  unfold sp_cap
  repeat' split
  all_goals omega
theorem sp_ord_le (cs nr : Nat → Nat) (a : Nat) : sp_ord cs nr a ≤ 71 := by
  have h1 := sp_bits_le (nr (1 * 10 + a))
  have h2 := sp_bits_le (nr (2 * 10 + a))
  have h3 := sp_bits_le (nr (3 * 10 + a))
  have h4 := sp_bits_le (nr (4 * 10 + a))
  unfold sp_ord
  split <;> omega
theorem sameG.jc {M M1 : jx_M} (h : sameG 28 M M1) (k : jc M) : jc M1 := ⟨⟨(h.1 2 (by decide)).trans k.1.1, (h.1 4 (by decide)).trans k.1.2⟩, (h.1 3 (by decide)).trans k.2.1, (h.1 5 (by decide)).trans k.2.2⟩
theorem sp_pg_lt {cs : Nat → Nat} : ∀ {k i s : Nat}, i + k ≤ 10 → s < 1024 → sp_pg cs k i s < 1024 := by
  intro k
  induction k with
  | zero => intro i s _ hs; exact hs
  | succ k ih =>
    intro i s hi hs
    rw [sp_pg]
    refine ih (by omega) ?_
    split
    · exact Nat.or_lt_two_pow (n := 10) hs (Nat.pow_lt_pow_right (by decide) (by omega))
    · exact hs
/-- the codes with their hydrogens, none when an atom can't have its bonds -/
def sp_stl (nr : Nat → Nat) (wr : Nat → Option Nat) : Nat → Nat → (Nat → Nat) → Option (Nat → Nat)
  | 0, _, cs => some cs
  | k + 1, i, cs => match sp_el (cs i &&& 127) with
    | none => none
    | some x => if sp_ord cs nr i ≤ sp_cap (cs i) x ∧ (wr i = none ∨ wr i = some (sp_cap (cs i) x - sp_ord cs nr i)) then sp_stl nr wr k (i + 1) (nu cs i (cs i + 256 * (sp_cap (cs i) x - sp_ord cs nr i))) else none
def jS (M : jx_M) (n bc : Nat) (ks nr : Nat → Nat) (o : Option (Nat → Nat)) : jx_R → jx_M → Prop := match o with
  | none => jV (some (.int (jb false))) fun M' => (∃ c', jg M' 28 n bc c' ks nr ∧ ∀ j, 10 ≤ j → c' j = 0) ∧ sameG 28 M M'
  | some c' => jV (some (.int (jb (sp_cp nr n 10 0 (sp_pg c' n 0 0))))) fun M' => jg M' 28 n bc c' ks nr ∧ sameG 28 M M'
theorem jS_sh {M M1 : jx_M} {n bc : Nat} {ks nr : Nat → Nat} {o : Option (Nat → Nat)} {r : jx_R} {M' : jx_M} (k : sameG 28 M M1) (h : jS M1 n bc ks nr o r M') : jS M n bc ks nr o r M' := by
  cases o with
  | none => exact ⟨h.1, h.2.1, k.tr h.2.2⟩
  | some x => exact ⟨h.1, h.2.1, k.tr h.2.2⟩
theorem t_stl_l {d n bc : Nat} {ks nr : Nat → Nat} {wr : Nat → Option Nat} (hn : n ≤ 10) (hb : ∀ j, nr j < 1024) (hwr : ∀ j k, wr j = some k → k < 100) : ∀ {k i : Nat} {z3 z4 : Option Value} {cs : Nat → Nat} {M : jx_M}, i + k = n → jg M 28 n bc cs ks nr → M.1 21 = .inl (0, 40, .inl (jao wr)) → jc M → M.1 1 = .inl (9, 5, .inl (ja fV)) → (∀ j, i ≤ j → j < n → ∃ x, sp_el (cs j &&& 127) = some x) → (∀ j, 10 ≤ j → cs j = 0) → jZ (d + 11) 111 2 [some (.ref 28), some (.ref 21), some (.int (jn i)), z3, z4] [] M (jS M n bc ks nr (sp_stl nr wr k i cs)) := by
  intro k
  induction k with
  | zero =>
    intro i z3 z4 cs M hk hg h21 hj hv hel hz0
    refine z_go 3 _ [.int (jn i)] _ c_111_2 rfl ?_
    refine z_go 4 _ [.ref 28, .int (jn i)] _ c_111_3 rfl ?_
    refine z_getf (v := .int (jn n)) 7 c_111_4 rfl hg.1 rfl ?_
    refine z_ige 78 10 c_111_7 rfl (by omega) (by omega) (fun h1 => ?_) (fun h1 => ?_)
    · omega
    · refine z_go 79 _ [.ref 28] _ c_111_78 rfl ?_
      refine z_go 80 _ [.int (jn 0), .ref 28] _ c_111_79 rfl ?_
      refine z_go 81 _ [.ref 28, .int (jn 0), .ref 28] _ c_111_80 rfl ?_
      refine z_call 84 115 1 c_111_81 rfl ⟨Nat.le_of_ble_eq_true rfl, Nat.le_of_ble_eq_true rfl⟩ [.ref 28] rfl rfl [some (.ref 28), none, none] rfl rfl (t_pg hg hn) ?_
      show jZ _ _ _ _ [.int (jn (sp_pg cs n 0 0)), .int (jn 0), .ref 28] _ _
      refine z_call 87 116 3 c_111_84 rfl ⟨Nat.le_of_ble_eq_true rfl, Nat.le_of_ble_eq_true rfl⟩ [.ref 28, .int (jn 0), .int (jn (sp_pg cs n 0 0))] rfl rfl [some (.ref 28), some (.int (jn 0)), some (.int (jn (sp_pg cs n 0 0))), none, none, none] rfl rfl (t_cp (f := 10) (d := d) hg hn (by omega) (by omega) (sp_pg_lt (by omega) (by decide))) ?_
      show jZ _ _ _ _ [.int (jb (sp_cp nr n 10 0 (sp_pg cs n 0 0)))] _ _
      refine z_zret (b := sp_cp nr n 10 0 (sp_pg cs n 0 0)) c_111_87 ?_
      exact ⟨rfl, hg, sameG_r 28 M⟩
  | succ k ih =>
    intro i z3 z4 cs M hk hg h21 hj hv hel hz0
    refine z_go 3 _ [.int (jn i)] _ c_111_2 rfl ?_
    refine z_go 4 _ [.ref 28, .int (jn i)] _ c_111_3 rfl ?_
    refine z_getf (v := .int (jn n)) 7 c_111_4 rfl hg.1 rfl ?_
    refine z_ige 78 10 c_111_7 rfl (by omega) (by omega) (fun h1 => ?_) (fun h1 => ?_)
    · obtain ⟨x, hx⟩ := hel i (Nat.le_refl _) h1
      have hcp := sp_cap_le (cs i) x
      have hor := sp_ord_le cs nr i
      have hwb : ∀ k, wr i = some k → k < 2 ^ 31 := fun k q => by have := hwr i k q; omega
      refine z_go 11 _ [.ref 28] _ c_111_10 rfl ?_
      refine z_getf (v := .ref (28 + 1)) 14 c_111_11 rfl hg.1 rfl ?_
      refine z_go 15 _ [.int (jn i), .ref (28 + 1)] _ c_111_14 rfl ?_
      refine z_iald 16 c_111_15 rfl hg.2.1 (Or.inl rfl) (by omega) (by omega) ?_
      show jZ _ _ _ _ ([.int (jn (cs i))]) _ _
      refine z_call 19 112 1 c_111_16 rfl ⟨Nat.le_of_ble_eq_true rfl, Nat.le_of_ble_eq_true rfl⟩ [.int (jn (cs i))] rfl rfl [some (.int (jn (cs i))), none, none, none] rfl rfl (t_cap hj hv hx) ?_
      show jZ _ _ _ _ [.int (jn (sp_cap (cs i) x))] _ _
      refine z_go 20 _ [.ref 28, .int (jn (sp_cap (cs i) x))] _ c_111_19 rfl ?_
      refine z_go 21 _ [.int (jn i), .ref 28, .int (jn (sp_cap (cs i) x))] _ c_111_20 rfl ?_
      refine z_call 24 113 2 c_111_21 rfl ⟨Nat.le_of_ble_eq_true rfl, Nat.le_of_ble_eq_true rfl⟩ [.ref 28, .int (jn i)] rfl rfl [some (.ref 28), some (.int (jn i)), none, none] rfl rfl (t_ord hg (by omega) hb) ?_
      show jZ _ _ _ _ [.int (jn (sp_ord cs nr i)), .int (jn (sp_cap (cs i) x))] _ _
      by_cases hle : sp_ord cs nr i ≤ sp_cap (cs i) x
      · refine z_go 25 _ [.int ((jn (sp_cap (cs i) x)) - (jn (sp_ord cs nr i)))] _ c_111_24 rfl ?_
        refine z_v (jn_sub (by omega)) ?_
        refine z_go 26 [some (.ref 28), some (.ref 21), some (.int (jn i)), some (.int (jn ((sp_cap (cs i) x) - (sp_ord cs nr i)))), z4] [] _ c_111_25 rfl ?_
        refine z_go 27 _ [.ref 21] _ c_111_26 rfl ?_
        refine z_go 28 _ [.int (jn i), .ref 21] _ c_111_27 rfl ?_
        refine z_iald 29 c_111_28 rfl h21 (Or.inl rfl) (by omega) (by omega) ?_
        show jZ _ _ _ _ ([.int (jo (wr i))]) _ _
        refine z_go 30 _ [.int (jo none), .int (jo (wr i))] _ c_111_29 rfl ?_
        refine z_ieq 40 33 c_111_30 rfl (jo_none (by first | omega | assumption)) (fun h2 => ?_) (fun h2 => ?_)
        · refine z_go 41 _ [.int (jn 1)] _ c_111_40 rfl ?_
          refine z_go 45 _ [.int (jn 1)] _ c_111_41 rfl ?_
          refine z_go 47 [some (.ref 28), some (.ref 21), some (.int (jn i)), some (.int (jn ((sp_cap (cs i) x) - (sp_ord cs nr i)))), some (.int (jn 1))] [] _ c_111_45 rfl ?_
          refine z_go 48 _ [.int (jn ((sp_cap (cs i) x) - (sp_ord cs nr i)))] _ c_111_47 rfl ?_
          refine z_iflt 56 51 c_111_48 rfl (jn_nl (by omega)) (fun hz => ?_) (fun hz => ?_)
          · exact hz.elim
          · refine z_go 53 _ [.int (jn 1)] _ c_111_51 rfl ?_
            refine z_ifne 58 56 c_111_53 rfl (jn_z (by decide)) (fun h => absurd h (by decide)) (fun _ => ?_)
            refine z_go 59 _ [.ref 28] _ c_111_58 rfl ?_
            refine z_getf (v := .ref (28 + 1)) 62 c_111_59 rfl hg.1 rfl ?_
            refine z_go 63 _ [.int (jn i), .ref (28 + 1)] _ c_111_62 rfl ?_
            refine z_go 64 _ [.int (jn i), .ref (28 + 1), .int (jn i), .ref (28 + 1)] _ c_111_63 rfl ?_
            refine z_iald 65 c_111_64 rfl hg.2.1 (Or.inl rfl) (by omega) (by omega) ?_
            show jZ _ _ _ _ ([.int (jn (cs i)), .int (jn i), .ref (28 + 1)]) _ _
            refine z_go 68 _ [.int (jn 256), .int (jn (cs i)), .int (jn i), .ref (28 + 1)] _ c_111_65 rfl ?_
            refine z_go 69 _ [.int (jn ((sp_cap (cs i) x) - (sp_ord cs nr i))), .int (jn 256), .int (jn (cs i)), .int (jn i), .ref (28 + 1)] _ c_111_68 rfl ?_
            refine z_go 70 _ [.int ((jn 256) * (jn ((sp_cap (cs i) x) - (sp_ord cs nr i)))), .int (jn (cs i)), .int (jn i), .ref (28 + 1)] _ c_111_69 rfl ?_
            refine z_v (jn_mul _ _) ?_
            refine z_go 71 _ [.int ((jn (cs i)) + (jn (256 * ((sp_cap (cs i) x) - (sp_ord cs nr i))))), .int (jn i), .ref (28 + 1)] _ c_111_70 rfl ?_
            refine z_v (jn_add _ _) ?_
            refine z_iast (M' := jm [(28 + 1, .inl (0, 10, .inl (ja (nu cs i ((cs i) + (256 * ((sp_cap (cs i) x) - (sp_ord cs nr i))))))))] M) 72 c_111_71 rfl hg.2.1 (by omega) (by omega) (by rw [ja_upd]; exact rfl) ?_
            refine z_iinc 75 [some (.ref 28), some (.ref 21), some (.int (jn (i + 1))), some (.int (jn ((sp_cap (cs i) x) - (sp_ord cs nr i)))), some (.int (jn 1))] c_111_72 rfl rfl (jn_add _ _) rfl ?_
            refine z_go 2 _ [] _ c_111_75 rfl ?_
            have e1 : sp_stl nr wr (k + 1) i cs = sp_stl nr wr k (i + 1) (nu cs i (cs i + 256 * (sp_cap (cs i) x - sp_ord cs nr i))) := by
              rw [sp_stl, hx]
              dsimp only
              rw [if_pos ⟨hle, Or.inl h2⟩]
            rw [e1]
            have hs1 : sameG 28 M (jm [(28 + 1, .inl (0, 10, .inl (ja (nu cs i ((cs i) + (256 * ((sp_cap (cs i) x) - (sp_ord cs nr i))))))))] M) := sameG_w (by omega) (sameG_r 28 M)
            have hg2 : jg (jm [(28 + 1, .inl (0, 10, .inl (ja (nu cs i ((cs i) + (256 * ((sp_cap (cs i) x) - (sp_ord cs nr i))))))))] M) 28 n bc (nu cs i (cs i + 256 * (sp_cap (cs i) x - sp_ord cs nr i))) ks nr := ⟨(jne (by omega) hg.1), jhit, (jne (by omega) hg.2.2.1), (jne (by omega) hg.2.2.2)⟩
            exact (ih (i := i + 1) (by omega) hg2 ((hs1.1 21 (by decide)).trans h21) (hs1.jc hj) ((hs1.1 1 (by decide)).trans hv) (fun j hj1 hj2 => by have := hel j (by omega) hj2; rwa [nu, if_neg (by omega)]) (fun j hj => by rw [nu, if_neg (by omega)]; exact hz0 j hj)).mono fun r M2 q => jS_sh hs1 q
        · refine z_go 34 _ [.ref 21] _ c_111_33 rfl ?_
          refine z_go 35 _ [.int (jn i), .ref 21] _ c_111_34 rfl ?_
          refine z_iald 36 c_111_35 rfl h21 (Or.inl rfl) (by omega) (by omega) ?_
          show jZ _ _ _ _ ([.int (jo (wr i))]) _ _
          refine z_go 37 _ [.int (jn ((sp_cap (cs i) x) - (sp_ord cs nr i))), .int (jo (wr i))] _ c_111_36 rfl ?_
          refine z_ine 44 40 c_111_37 rfl (jo_some (by assumption) (by omega)) (fun h3 => ?_) (fun h3 => ?_)
          · refine z_go 41 _ [.int (jn 1)] _ c_111_40 rfl ?_
            refine z_go 45 _ [.int (jn 1)] _ c_111_41 rfl ?_
            refine z_go 47 [some (.ref 28), some (.ref 21), some (.int (jn i)), some (.int (jn ((sp_cap (cs i) x) - (sp_ord cs nr i)))), some (.int (jn 1))] [] _ c_111_45 rfl ?_
            refine z_go 48 _ [.int (jn ((sp_cap (cs i) x) - (sp_ord cs nr i)))] _ c_111_47 rfl ?_
            refine z_iflt 56 51 c_111_48 rfl (jn_nl (by omega)) (fun hz => ?_) (fun hz => ?_)
            · exact hz.elim
            · refine z_go 53 _ [.int (jn 1)] _ c_111_51 rfl ?_
              refine z_ifne 58 56 c_111_53 rfl (jn_z (by decide)) (fun h => absurd h (by decide)) (fun _ => ?_)
              refine z_go 59 _ [.ref 28] _ c_111_58 rfl ?_
              refine z_getf (v := .ref (28 + 1)) 62 c_111_59 rfl hg.1 rfl ?_
              refine z_go 63 _ [.int (jn i), .ref (28 + 1)] _ c_111_62 rfl ?_
              refine z_go 64 _ [.int (jn i), .ref (28 + 1), .int (jn i), .ref (28 + 1)] _ c_111_63 rfl ?_
              refine z_iald 65 c_111_64 rfl hg.2.1 (Or.inl rfl) (by omega) (by omega) ?_
              show jZ _ _ _ _ ([.int (jn (cs i)), .int (jn i), .ref (28 + 1)]) _ _
              refine z_go 68 _ [.int (jn 256), .int (jn (cs i)), .int (jn i), .ref (28 + 1)] _ c_111_65 rfl ?_
              refine z_go 69 _ [.int (jn ((sp_cap (cs i) x) - (sp_ord cs nr i))), .int (jn 256), .int (jn (cs i)), .int (jn i), .ref (28 + 1)] _ c_111_68 rfl ?_
              refine z_go 70 _ [.int ((jn 256) * (jn ((sp_cap (cs i) x) - (sp_ord cs nr i)))), .int (jn (cs i)), .int (jn i), .ref (28 + 1)] _ c_111_69 rfl ?_
              refine z_v (jn_mul _ _) ?_
              refine z_go 71 _ [.int ((jn (cs i)) + (jn (256 * ((sp_cap (cs i) x) - (sp_ord cs nr i))))), .int (jn i), .ref (28 + 1)] _ c_111_70 rfl ?_
              refine z_v (jn_add _ _) ?_
              refine z_iast (M' := jm [(28 + 1, .inl (0, 10, .inl (ja (nu cs i ((cs i) + (256 * ((sp_cap (cs i) x) - (sp_ord cs nr i))))))))] M) 72 c_111_71 rfl hg.2.1 (by omega) (by omega) (by rw [ja_upd]; exact rfl) ?_
              refine z_iinc 75 [some (.ref 28), some (.ref 21), some (.int (jn (i + 1))), some (.int (jn ((sp_cap (cs i) x) - (sp_ord cs nr i)))), some (.int (jn 1))] c_111_72 rfl rfl (jn_add _ _) rfl ?_
              refine z_go 2 _ [] _ c_111_75 rfl ?_
              have e1 : sp_stl nr wr (k + 1) i cs = sp_stl nr wr k (i + 1) (nu cs i (cs i + 256 * (sp_cap (cs i) x - sp_ord cs nr i))) := by
                rw [sp_stl, hx]
                dsimp only
                rw [if_pos ⟨hle, Or.inr h3⟩]
              rw [e1]
              have hs1 : sameG 28 M (jm [(28 + 1, .inl (0, 10, .inl (ja (nu cs i ((cs i) + (256 * ((sp_cap (cs i) x) - (sp_ord cs nr i))))))))] M) := sameG_w (by omega) (sameG_r 28 M)
              have hg2 : jg (jm [(28 + 1, .inl (0, 10, .inl (ja (nu cs i ((cs i) + (256 * ((sp_cap (cs i) x) - (sp_ord cs nr i))))))))] M) 28 n bc (nu cs i (cs i + 256 * (sp_cap (cs i) x - sp_ord cs nr i))) ks nr := ⟨(jne (by omega) hg.1), jhit, (jne (by omega) hg.2.2.1), (jne (by omega) hg.2.2.2)⟩
              exact (ih (i := i + 1) (by omega) hg2 ((hs1.1 21 (by decide)).trans h21) (hs1.jc hj) ((hs1.1 1 (by decide)).trans hv) (fun j hj1 hj2 => by have := hel j (by omega) hj2; rwa [nu, if_neg (by omega)]) (fun j hj => by rw [nu, if_neg (by omega)]; exact hz0 j hj)).mono fun r M2 q => jS_sh hs1 q
          · refine z_go 45 _ [.int (jn 0)] _ c_111_44 rfl ?_
            refine z_go 47 [some (.ref 28), some (.ref 21), some (.int (jn i)), some (.int (jn ((sp_cap (cs i) x) - (sp_ord cs nr i)))), some (.int (jn 0))] [] _ c_111_45 rfl ?_
            refine z_go 48 _ [.int (jn ((sp_cap (cs i) x) - (sp_ord cs nr i)))] _ c_111_47 rfl ?_
            refine z_iflt 56 51 c_111_48 rfl (jn_nl (by omega)) (fun hz => ?_) (fun hz => ?_)
            · exact hz.elim
            · refine z_go 53 _ [.int (jn 0)] _ c_111_51 rfl ?_
              refine z_ifne 58 56 c_111_53 rfl (jn_z (by decide)) (fun _ => ?_) (fun h => absurd rfl h)
              refine z_go 57 _ [.int (jn 0)] _ c_111_56 rfl ?_
              refine z_zret (b := false) c_111_57 ?_
              rw [sp_stl, hx]
              dsimp only
              rw [if_neg (by rintro ⟨_, q | q⟩ <;> first | exact h2 q | exact h3 q)]
              exact ⟨rfl, ⟨cs, hg, hz0⟩, sameG_r 28 M⟩
      · have hng := jn_neg _ (by omega) _ (by omega) (Nat.lt_of_not_le hle)
        refine z_go 25 _ [.int ((jn (sp_cap (cs i) x)) - (jn (sp_ord cs nr i)))] _ c_111_24 rfl ?_
        refine z_go 26 [some (.ref 28), some (.ref 21), some (.int (jn i)), some (.int ((jn (sp_cap (cs i) x)) - (jn (sp_ord cs nr i)))), z4] [] _ c_111_25 rfl ?_
        refine z_go 27 _ [.ref 21] _ c_111_26 rfl ?_
        refine z_go 28 _ [.int (jn i), .ref 21] _ c_111_27 rfl ?_
        refine z_iald 29 c_111_28 rfl h21 (Or.inl rfl) (by omega) (by omega) ?_
        show jZ _ _ _ _ ([.int (jo (wr i))]) _ _
        refine z_go 30 _ [.int (jo none), .int (jo (wr i))] _ c_111_29 rfl ?_
        refine z_ieq 40 33 c_111_30 rfl (jo_none (by first | omega | assumption)) (fun h2 => ?_) (fun h2 => ?_)
        · refine z_go 41 _ [.int (jn 1)] _ c_111_40 rfl ?_
          refine z_go 45 _ [.int (jn 1)] _ c_111_41 rfl ?_
          refine z_go 47 [some (.ref 28), some (.ref 21), some (.int (jn i)), some (.int ((jn (sp_cap (cs i) x)) - (jn (sp_ord cs nr i)))), some (.int (jn 1))] [] _ c_111_45 rfl ?_
          refine z_go 48 _ [.int ((jn (sp_cap (cs i) x)) - (jn (sp_ord cs nr i)))] _ c_111_47 rfl ?_
          refine z_iflt 56 51 c_111_48 rfl Iff.rfl (fun hz => ?_) (fun hz => ?_)
          · refine z_go 57 _ [.int (jn 0)] _ c_111_56 rfl ?_
            refine z_zret (b := false) c_111_57 ?_
            rw [sp_stl, hx]
            dsimp only
            rw [if_neg (by intro q; exact hle q.1)]
            exact ⟨rfl, ⟨cs, hg, hz0⟩, sameG_r 28 M⟩
          · exact absurd hng hz
        · refine z_go 34 _ [.ref 21] _ c_111_33 rfl ?_
          refine z_go 35 _ [.int (jn i), .ref 21] _ c_111_34 rfl ?_
          refine z_iald 36 c_111_35 rfl h21 (Or.inl rfl) (by omega) (by omega) ?_
          show jZ _ _ _ _ ([.int (jo (wr i))]) _ _
          refine z_go 37 _ [.int ((jn (sp_cap (cs i) x)) - (jn (sp_ord cs nr i))), .int (jo (wr i))] _ c_111_36 rfl ?_
          refine z_ine 44 40 c_111_37 rfl Iff.rfl (fun h3 => ?_) (fun h3 => ?_)
          · refine z_go 41 _ [.int (jn 1)] _ c_111_40 rfl ?_
            refine z_go 45 _ [.int (jn 1)] _ c_111_41 rfl ?_
            refine z_go 47 [some (.ref 28), some (.ref 21), some (.int (jn i)), some (.int ((jn (sp_cap (cs i) x)) - (jn (sp_ord cs nr i)))), some (.int (jn 1))] [] _ c_111_45 rfl ?_
            refine z_go 48 _ [.int ((jn (sp_cap (cs i) x)) - (jn (sp_ord cs nr i)))] _ c_111_47 rfl ?_
            refine z_iflt 56 51 c_111_48 rfl Iff.rfl (fun hz => ?_) (fun hz => ?_)
            · refine z_go 57 _ [.int (jn 0)] _ c_111_56 rfl ?_
              refine z_zret (b := false) c_111_57 ?_
              rw [sp_stl, hx]
              dsimp only
              rw [if_neg (by intro q; exact hle q.1)]
              exact ⟨rfl, ⟨cs, hg, hz0⟩, sameG_r 28 M⟩
            · exact absurd hng hz
          · refine z_go 45 _ [.int (jn 0)] _ c_111_44 rfl ?_
            refine z_go 47 [some (.ref 28), some (.ref 21), some (.int (jn i)), some (.int ((jn (sp_cap (cs i) x)) - (jn (sp_ord cs nr i)))), some (.int (jn 0))] [] _ c_111_45 rfl ?_
            refine z_go 48 _ [.int ((jn (sp_cap (cs i) x)) - (jn (sp_ord cs nr i)))] _ c_111_47 rfl ?_
            refine z_iflt 56 51 c_111_48 rfl Iff.rfl (fun hz => ?_) (fun hz => ?_)
            · refine z_go 57 _ [.int (jn 0)] _ c_111_56 rfl ?_
              refine z_zret (b := false) c_111_57 ?_
              rw [sp_stl, hx]
              dsimp only
              rw [if_neg (by intro q; exact hle q.1)]
              exact ⟨rfl, ⟨cs, hg, hz0⟩, sameG_r 28 M⟩
            · exact absurd hng hz
    · omega
theorem t_stl {d n bc : Nat} {ks nr : Nat → Nat} {wr : Nat → Option Nat} (hn : n ≤ 10) (hb : ∀ j, nr j < 1024) (hwr : ∀ j k, wr j = some k → k < 100) {cs : Nat → Nat} {M : jx_M} (hg : jg M 28 n bc cs ks nr) (h21 : M.1 21 = .inl (0, 40, .inl (jao wr))) (hj : jc M) (hv : M.1 1 = .inl (9, 5, .inl (ja fV))) (hel : ∀ j, j < n → ∃ x, sp_el (cs j &&& 127) = some x) (hz0 : ∀ j, 10 ≤ j → cs j = 0) : jZ (d + 11) 111 0 [some (.ref 28), some (.ref 21), none, none, none] [] M (jS M n bc ks nr (sp_stl nr wr n 0 cs)) := by
  refine z_go 1 _ [.int (jn 0)] _ c_111_0 rfl ?_
  refine z_go 2 [some (.ref 28), some (.ref 21), some (.int (jn 0)), none, none] [] _ c_111_1 rfl ?_
  exact t_stl_l hn hb hwr (by omega) hg h21 hj hv (fun j _ h => hel j h) hz0
