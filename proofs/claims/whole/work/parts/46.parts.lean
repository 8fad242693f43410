/-! THE READER: closures, parts; printed by wip/whole/p46.py -/
theorem c_37_0 : jx_cd 37 0 = some (o_push (.int 0) 1) := rfl
theorem c_37_1 : jx_cd 37 1 = some (o_ist 2 1) := rfl
theorem c_37_2 : jx_cd 37 2 = some (o_ild 2 1) := rfl
theorem c_37_3 : jx_cd 37 3 = some (o_push (.int 40) 2) := rfl
theorem c_37_5 : jx_cd 37 5 = some (o_ige 79) := rfl
theorem c_37_8 : jx_cd 37 8 = some (o_ald 0 1) := rfl
theorem c_37_9 : jx_cd 37 9 = some (o_getf 3 2) := rfl
theorem c_37_12 : jx_cd 37 12 = some (o_ist 3 1) := rfl
theorem c_37_13 : jx_cd 37 13 = some (o_ald 0 1) := rfl
theorem c_37_14 : jx_cd 37 14 = some (o_callv 3 25 0) := rfl
theorem c_37_17 : jx_cd 37 17 = some (o_ist 4 2) := rfl
theorem c_37_19 : jx_cd 37 19 = some (o_ald 0 1) := rfl
theorem c_37_20 : jx_cd 37 20 = some (o_callv 3 28 0) := rfl
theorem c_37_23 : jx_cd 37 23 = some (o_ist 5 2) := rfl
theorem c_37_25 : jx_cd 37 25 = some (o_ild 5 2) := rfl
theorem c_37_27 : jx_cd 37 27 = some (o_push (.int 49) 2) := rfl
theorem c_37_29 : jx_cd 37 29 = some (o_ilt 39) := rfl
theorem c_37_32 : jx_cd 37 32 = some (o_ild 5 2) := rfl
theorem c_37_34 : jx_cd 37 34 = some (o_push (.int 57) 2) := rfl
theorem c_37_36 : jx_cd 37 36 = some (o_ile 46) := rfl
theorem c_37_39 : jx_cd 37 39 = some (o_ald 0 1) := rfl
theorem c_37_40 : jx_cd 37 40 = some (o_ild 3 1) := rfl
theorem c_37_41 : jx_cd 37 41 = some (o_putf 3 2 jx_okI) := rfl
theorem c_37_44 : jx_cd 37 44 = some (o_push (.int 1) 1) := rfl
theorem c_37_45 : jx_cd 37 45 = some (o_zret) := rfl
theorem c_37_46 : jx_cd 37 46 = some (o_ald 0 1) := rfl
theorem c_37_47 : jx_cd 37 47 = some (o_dup) := rfl
theorem c_37_48 : jx_cd 37 48 = some (o_getf 3 2) := rfl
theorem c_37_51 : jx_cd 37 51 = some (o_push (.int 1) 1) := rfl
theorem c_37_52 : jx_cd 37 52 = some (o_bin fun x y => x + y) := rfl
theorem c_37_53 : jx_cd 37 53 = some (o_putf 3 2 jx_okI) := rfl
theorem c_37_56 : jx_cd 37 56 = some (o_ald 0 1) := rfl
theorem c_37_57 : jx_cd 37 57 = some (o_ild 5 2) := rfl
theorem c_37_59 : jx_cd 37 59 = some (o_push (.int 48) 2) := rfl
theorem c_37_61 : jx_cd 37 61 = some (o_bin fun x y => x - y) := rfl
theorem c_37_62 : jx_cd 37 62 = some (o_ild 1 1) := rfl
theorem c_37_63 : jx_cd 37 63 = some (o_ild 4 2) := rfl
theorem c_37_65 : jx_cd 37 65 = some (o_callv 3 38 3) := rfl
theorem c_37_68 : jx_cd 37 68 = some (o_ifne 73) := rfl
theorem c_37_71 : jx_cd 37 71 = some (o_push (.int 0) 1) := rfl
theorem c_37_72 : jx_cd 37 72 = some (o_zret) := rfl
theorem c_37_73 : jx_cd 37 73 = some (o_iinc 2 1) := rfl
theorem c_37_76 : jx_cd 37 76 = some (o_goto 2) := rfl
theorem c_37_79 : jx_cd 37 79 = some (o_push (.int 1) 1) := rfl
theorem c_37_80 : jx_cd 37 80 = some (o_zret) := rfl
theorem c_38_0 : jx_cd 38 0 = some (o_ald 0 1) := rfl
theorem c_38_1 : jx_cd 38 1 = some (o_getf 3 11) := rfl
theorem c_38_4 : jx_cd 38 4 = some (o_ild 1 1) := rfl
theorem c_38_5 : jx_cd 38 5 = some (o_iald) := rfl
theorem c_38_6 : jx_cd 38 6 = some (o_ist 4 2) := rfl
theorem c_38_8 : jx_cd 38 8 = some (o_ild 4 2) := rfl
theorem c_38_10 : jx_cd 38 10 = some (o_push (.int (-1)) 1) := rfl
theorem c_38_11 : jx_cd 38 11 = some (o_ine 30) := rfl
theorem c_38_14 : jx_cd 38 14 = some (o_ald 0 1) := rfl
theorem c_38_15 : jx_cd 38 15 = some (o_getf 3 11) := rfl
theorem c_38_18 : jx_cd 38 18 = some (o_ild 1 1) := rfl
theorem c_38_19 : jx_cd 38 19 = some (o_ild 2 1) := rfl
theorem c_38_20 : jx_cd 38 20 = some (o_iast) := rfl
theorem c_38_21 : jx_cd 38 21 = some (o_ald 0 1) := rfl
theorem c_38_22 : jx_cd 38 22 = some (o_getf 3 12) := rfl
theorem c_38_25 : jx_cd 38 25 = some (o_ild 1 1) := rfl
theorem c_38_26 : jx_cd 38 26 = some (o_ild 3 1) := rfl
theorem c_38_27 : jx_cd 38 27 = some (o_iast) := rfl
theorem c_38_28 : jx_cd 38 28 = some (o_push (.int 1) 1) := rfl
theorem c_38_29 : jx_cd 38 29 = some (o_zret) := rfl
theorem c_38_30 : jx_cd 38 30 = some (o_ald 0 1) := rfl
theorem c_38_31 : jx_cd 38 31 = some (o_getf 3 11) := rfl
theorem c_38_34 : jx_cd 38 34 = some (o_ild 1 1) := rfl
theorem c_38_35 : jx_cd 38 35 = some (o_push (.int (-1)) 1) := rfl
theorem c_38_36 : jx_cd 38 36 = some (o_iast) := rfl
theorem c_38_37 : jx_cd 38 37 = some (o_ald 0 1) := rfl
theorem c_38_38 : jx_cd 38 38 = some (o_getf 3 12) := rfl
theorem c_38_41 : jx_cd 38 41 = some (o_ild 1 1) := rfl
theorem c_38_42 : jx_cd 38 42 = some (o_iald) := rfl
theorem c_38_43 : jx_cd 38 43 = some (o_ist 5 2) := rfl
theorem c_38_45 : jx_cd 38 45 = some (o_ild 5 2) := rfl
theorem c_38_47 : jx_cd 38 47 = some (o_ifeq 62) := rfl
theorem c_38_50 : jx_cd 38 50 = some (o_ild 3 1) := rfl
theorem c_38_51 : jx_cd 38 51 = some (o_ifeq 62) := rfl
theorem c_38_54 : jx_cd 38 54 = some (o_ild 5 2) := rfl
theorem c_38_56 : jx_cd 38 56 = some (o_ild 3 1) := rfl
theorem c_38_57 : jx_cd 38 57 = some (o_ieq 62) := rfl
theorem c_38_60 : jx_cd 38 60 = some (o_push (.int 0) 1) := rfl
theorem c_38_61 : jx_cd 38 61 = some (o_zret) := rfl
theorem c_38_62 : jx_cd 38 62 = some (o_ald 0 1) := rfl
theorem c_38_63 : jx_cd 38 63 = some (o_ild 4 2) := rfl
theorem c_38_65 : jx_cd 38 65 = some (o_ild 2 1) := rfl
theorem c_38_66 : jx_cd 38 66 = some (o_ild 5 2) := rfl
theorem c_38_68 : jx_cd 38 68 = some (o_ifne 75) := rfl
theorem c_38_71 : jx_cd 38 71 = some (o_ild 3 1) := rfl
theorem c_38_72 : jx_cd 38 72 = some (o_goto 77) := rfl
theorem c_38_75 : jx_cd 38 75 = some (o_ild 5 2) := rfl
theorem c_38_77 : jx_cd 38 77 = some (o_callv 3 34 3) := rfl
theorem c_38_80 : jx_cd 38 80 = some (o_zret) := rfl
/-- bonds and open digits: first, second, kind, count, the atom and the link of a digit -/
abbrev CB : Type := (Nat → Nat) × (Nat → Nat) × (Nat → Nat) × Nat × (Nat → Option Nat) × (Nat → Nat)
def rA (M : jx_M) (tx : Nat → Nat) (ln : Nat) (pt : Bool) (ps sz : Nat) (cs : Nat → Nat) (wr : Nat → Option Nat) (B : CB) (br : Nat → Nat) (dp : Nat) : Prop :=
  M.1 18 = rO ln ps pt sz B.2.2.2.1 dp ∧ M.1 19 = .inl (1, 40, .inl (ja tx)) ∧ M.1 20 = .inl (0, 40, .inl (ja cs)) ∧ M.1 21 = .inl (0, 40, .inl (jao wr)) ∧ M.1 22 = .inl (0, 40, .inl (ja B.1)) ∧ M.1 23 = .inl (0, 40, .inl (ja B.2.1)) ∧ M.1 24 = .inl (0, 40, .inl (ja B.2.2.1)) ∧ M.1 25 = .inl (0, 10, .inl (jao B.2.2.2.2.1)) ∧ M.1 26 = .inl (0, 10, .inl (ja B.2.2.2.2.2)) ∧ M.1 27 = .inl (0, 40, .inl (ja br))
def cbI (B : CB) : Prop := B.2.2.2.1 ≤ 40 ∧ (∀ j, B.1 j < 64) ∧ (∀ j, B.2.1 j < 64) ∧ (∀ j k, B.2.2.2.2.1 j = some k → k < 40) ∧ ∀ j, B.2.2.2.2.2 j < 8
/-- the reader has its form -/
def rSh (M : jx_M) : Prop := ∃ (tx : Nat → Nat) (ln : Nat) (pt : Bool) (ps sz : Nat) (cs : Nat → Nat) (wr : Nat → Option Nat) (B : CB) (br : Nat → Nat) (dp : Nat), rA M tx ln pt ps sz cs wr B br dp ∧ (∀ j, tx j < 128) ∧ (∀ j, br j < 40) ∧ (∀ j k, wr j = some k → k < 100) ∧ cbI B
/-- nothing else has changed -/
def same (M M' : jx_M) : Prop := (∀ k, k < 18 ∨ 27 < k → M'.1 k = M.1 k) ∧ M'.2 = M.2
theorem same_r (M : jx_M) : same M M := ⟨fun _ _ => rfl, rfl⟩
theorem same.tr {M M1 M2 : jx_M} (h : same M M1) (k : same M1 M2) : same M M2 := ⟨fun q hq => (k.1 q hq).trans (h.1 q hq), k.2.trans h.2⟩
theorem same.jc {M M1 : jx_M} (h : same M M1) (k : jc M) : jc M1 := ⟨⟨(h.1 2 (by decide)).trans k.1.1, (h.1 4 (by decide)).trans k.1.2⟩, (h.1 3 (by decide)).trans k.2.1, (h.1 5 (by decide)).trans k.2.2⟩
theorem same_jm {M : jx_M} : ∀ {l : List (Nat × jx_C)}, (l.all fun q => decide (18 ≤ q.1) && decide (q.1 ≤ 27)) = true → same M (jm l M)
  | [], _ => same_r M
  | (a, c) :: t, h => by
    rw [List.all_cons, Bool.and_eq_true] at h
    have h1 := same_jm (M := M) h.2
    have h2 : 18 ≤ a ∧ a ≤ 27 := by simpa using h.1
    refine ⟨fun k hk => ?_, h1.2⟩
    show (if k = a then c else (jm t M).1 k) = M.1 k
    rw [if_neg (by omega)]
    exact h1.1 k hk
/-- a part of the text read, or not -/
def jK {α : Type} (M : jx_M) (Q : α → jx_M → Prop) (o : Option α) : jx_R → jx_M → Prop := match o with
  | none => jV (some (.int (jb false))) fun M' => rSh M' ∧ same M M'
  | some x => jV (some (.int (jb true))) fun M' => Q x M' ∧ same M M'
theorem jK_b {α : Type} {M : jx_M} {Q : α → jx_M → Prop} {o : Option α} {r : jx_R} {M' : jx_M} (h : jK M Q o r M') : ∃ b, r = .inl (some (.int (jb b))) := by
  cases o with
  | none => exact ⟨false, h.1⟩
  | some x => exact ⟨true, h.1⟩
theorem jK_sh {α : Type} {M M1 : jx_M} {Q : α → jx_M → Prop} {o : Option α} {r : jx_R} {M' : jx_M} (k : same M M1) (h : jK M1 Q o r M') : jK M Q o r M' := by
  cases o with
  | none => exact ⟨h.1, h.2.1, k.tr h.2.2⟩
  | some x => exact ⟨h.1, h.2.1, k.tr h.2.2⟩
def sp_oc (cs : Nat → Nat) (B : CB) (dg a link : Nat) : Option CB := match B.2.2.2.2.1 dg with
  | none => some (B.1, B.2.1, B.2.2.1, B.2.2.2.1, nu B.2.2.2.2.1 dg (some a), nu B.2.2.2.2.2 dg link)
  | some f => if B.2.2.2.2.2 dg ≠ 0 ∧ link ≠ 0 ∧ B.2.2.2.2.2 dg ≠ link then none else match sp_bind cs B.1 B.2.1 B.2.2.2.1 f a (if B.2.2.2.2.2 dg = 0 then link else B.2.2.2.2.2 dg) with
    | none => none
    | some k => some (nu B.1 B.2.2.2.1 f, nu B.2.1 B.2.2.2.1 a, nu B.2.2.1 B.2.2.2.1 k, B.2.2.2.1 + 1, nu B.2.2.2.2.1 dg none, B.2.2.2.2.2)
theorem nu_lt {f : Nat → Nat} {k x b : Nat} (h : ∀ j, f j < b) (hx : x < b) (j : Nat) : nu f k x j < b := by
  unfold nu
  split
  · exact hx
  · exact h j
theorem sp_bind_lt {cs bf bs : Nat → Nat} {bc a b l k : Nat} (h : sp_bind cs bf bs bc a b l = some k) : bc < 40 := by
  unfold sp_bind at h
  split at h
  · cases h
  · rename_i hn
    omega
theorem cbI_oc {cs : Nat → Nat} {B B' : CB} {dg a link : Nat} (h : cbI B) (ha : a < 40) (hl : link < 8) (e : sp_oc cs B dg a link = some B') : cbI B' := by
  obtain ⟨h1, h2, h3, h4, h5⟩ := h
  unfold sp_oc at e
  split at e
  · cases e
    refine ⟨h1, h2, h3, fun j k q => ?_, nu_lt h5 hl⟩
    have q : nu B.2.2.2.2.1 dg (some a) j = some k := q
    unfold nu at q
    split at q
    · cases q
      exact ha
    · exact h4 j k q
  · rename_i f hf
    split at e
    · cases e
    · split at e
      · cases e
      · rename_i k hk
        cases e
        have hn := sp_bind_lt hk
        have hf' := h4 dg f hf
        refine ⟨by show B.2.2.2.1 + 1 ≤ 40; omega, nu_lt h2 (by omega), nu_lt h3 (by omega), fun j k q => ?_, h5⟩
        have q : nu B.2.2.2.2.1 dg none j = some k := q
        unfold nu at q
        split at q
        · cases q
        · exact h4 j k q
theorem cbI_no {bf bs bk ol : Nat → Nat} {bc dg : Nat} {oa : Nat → Option Nat} (h : cbI (bf, bs, bk, bc, oa, ol)) : cbI (bf, bs, bk, bc, nu oa dg none, ol) := by
  obtain ⟨h1, h2, h3, h4, h5⟩ := h
  refine ⟨h1, h2, h3, fun j k q => ?_, h5⟩
  have q : nu oa dg none j = some k := q
  unfold nu at q
  split at q
  · cases q
  · exact h4 j k q
theorem t_oc {d ln ps sz dp : Nat} {pt : Bool} {tx cs br : Nat → Nat} {wr : Nat → Option Nat} {M : jx_M} {bf bs bk ol : Nat → Nat} {bc : Nat} {oa : Nat → Option Nat} {dg a link : Nat} (hR : rA M tx ln pt ps sz cs wr (bf, bs, bk, bc, oa, ol) br dp) (hI : cbI (bf, bs, bk, bc, oa, ol)) (ht : ∀ j, tx j < 128) (hbr : ∀ j, br j < 40) (hwr : ∀ j k, wr j = some k → k < 100) (hd : dg < 10) (ha : a < 40) (hl : link < 8) : jZ (d + 2) 38 0 [some (.ref 18), some (.int (jn dg)), some (.int (jn a)), some (.int (jn link)), none, none] [] M (jK M (fun B M' => rA M' tx ln pt ps sz cs wr B br dp) (sp_oc cs (bf, bs, bk, bc, oa, ol) dg a link)) := by
  obtain ⟨h18, h19, h20, h21, h22, h23, h24, h25, h26, h27⟩ := hR
  have hI0 := hI
  obtain ⟨hbc, hbf, hbs, hoa, hol⟩ := hI
  have hol1 : ol dg < 8 := hol dg
  have hbc : bc ≤ 40 := hbc
  have hob : ∀ k, oa dg = some k → k < 2 ^ 31 := fun k q => by have : k < 40 := hoa dg k q; omega
  refine z_go 1 _ [.ref 18] _ c_38_0 rfl ?_
  refine z_getf (v := .ref 25) 4 c_38_1 rfl h18 rfl ?_
  refine z_go 5 _ [.int (jn dg), .ref 25] _ c_38_4 rfl ?_
  refine z_iald 6 c_38_5 rfl h25 (Or.inl rfl) (by omega) (by omega) ?_
  show jZ _ _ _ _ ([.int (jo (oa dg))]) _ _
  refine z_go 8 [some (.ref 18), some (.int (jn dg)), some (.int (jn a)), some (.int (jn link)), some (.int (jo (oa dg))), none] [] _ c_38_6 rfl ?_
  refine z_go 10 _ [.int (jo (oa dg))] _ c_38_8 rfl ?_
  refine z_go 11 _ [.int (jo none), .int (jo (oa dg))] _ c_38_10 rfl ?_
  refine z_ine 30 14 c_38_11 rfl (jo_none (by first | omega | assumption)) (fun h1 => ?_) (fun h1 => ?_)
  · refine z_go 15 _ [.ref 18] _ c_38_14 rfl ?_
    refine z_getf (v := .ref 25) 18 c_38_15 rfl h18 rfl ?_
    refine z_go 19 _ [.int (jn dg), .ref 25] _ c_38_18 rfl ?_
    refine z_go 20 _ [.int (jn a), .int (jn dg), .ref 25] _ c_38_19 rfl ?_
    refine z_iast (M' := jm [(25, .inl (0, 10, .inl (jao (nu oa dg (some a)))))] M) 21 c_38_20 rfl h25 (by omega) (by omega) ((congrArg (fun f => jx_st _ 25 (.inl (0, 10, .inl f))) (jao_upd (f := oa) (k := dg) (x := some a))).trans rfl) ?_
    refine z_go 22 _ [.ref 18] _ c_38_21 rfl ?_
    refine z_getf (v := .ref 26) 25 c_38_22 rfl h18 rfl ?_
    refine z_go 26 _ [.int (jn dg), .ref 26] _ c_38_25 rfl ?_
    refine z_go 27 _ [.int (jn link), .int (jn dg), .ref 26] _ c_38_26 rfl ?_
    refine z_iast (M' := jm [(26, .inl (0, 10, .inl (ja (nu ol dg link)))), (25, .inl (0, 10, .inl (jao (nu oa dg (some a)))))] M) 28 c_38_27 rfl h26 (by omega) (by omega) (by rw [ja_upd]; exact rfl) ?_
    refine z_go 29 _ [.int (jn 1)] _ c_38_28 rfl ?_
    refine z_zret (b := true) c_38_29 ?_
    rw [show sp_oc cs (bf, bs, bk, bc, oa, ol) dg a link = some (bf, bs, bk, bc, nu oa dg (some a), nu ol dg link) by simp [sp_oc, h1]]
    exact ⟨rfl, ⟨h18, h19, h20, h21, h22, h23, h24, rfl, rfl, h27⟩, same_jm rfl⟩
  · obtain ⟨f, hf⟩ := Option.ne_none_iff_exists'.mp h1
    have hf40 : f < 40 := hoa dg f hf
    rw [hf]
    show jZ _ _ _ [some (.ref 18), some (.int (jn dg)), some (.int (jn a)), some (.int (jn link)), some (.int (jn f)), none] _ _ _
    refine z_go 31 _ [.ref 18] _ c_38_30 rfl ?_
    refine z_getf (v := .ref 25) 34 c_38_31 rfl h18 rfl ?_
    refine z_go 35 _ [.int (jn dg), .ref 25] _ c_38_34 rfl ?_
    refine z_go 36 _ [.int (jo none), .int (jn dg), .ref 25] _ c_38_35 rfl ?_
    refine z_iast (M' := jm [(25, .inl (0, 10, .inl (jao (nu oa dg none))))] M) 37 c_38_36 rfl h25 (by omega) (by omega) ((congrArg (fun f => jx_st _ 25 (.inl (0, 10, .inl f))) (jao_upd (f := oa) (k := dg) (x := none))).trans rfl) ?_
    refine z_go 38 _ [.ref 18] _ c_38_37 rfl ?_
    refine z_getf (v := .ref 26) 41 c_38_38 rfl h18 rfl ?_
    refine z_go 42 _ [.int (jn dg), .ref 26] _ c_38_41 rfl ?_
    refine z_iald 43 c_38_42 rfl h26 (Or.inl rfl) (by omega) (by omega) ?_
    show jZ _ _ _ _ ([.int (jn (ol dg))]) _ _
    refine z_go 45 [some (.ref 18), some (.int (jn dg)), some (.int (jn a)), some (.int (jn link)), some (.int (jn f)), some (.int (jn (ol dg)))] [] _ c_38_43 rfl ?_
    refine z_go 47 _ [.int (jn (ol dg))] _ c_38_45 rfl ?_
    refine z_ifeq 62 50 c_38_47 rfl (jn_z (by omega)) (fun h2 => ?_) (fun h2 => ?_)
    · refine z_go 63 _ [.ref 18] _ c_38_62 rfl ?_
      refine z_go 65 _ [.int (jn f), .ref 18] _ c_38_63 rfl ?_
      refine z_go 66 _ [.int (jn a), .int (jn f), .ref 18] _ c_38_65 rfl ?_
      refine z_go 68 _ [.int (jn (ol dg)), .int (jn a), .int (jn f), .ref 18] _ c_38_66 rfl ?_
      refine z_ifne 75 71 c_38_68 rfl (jn_z (by omega)) (fun h2b => ?_) (fun h2b => ?_)
      · refine z_go 72 _ [.int (jn link), .int (jn a), .int (jn f), .ref 18] _ c_38_71 rfl ?_
        refine z_go 77 _ [.int (jn link), .int (jn a), .int (jn f), .ref 18] _ c_38_72 rfl ?_
        refine z_tail 80 3 34 3 18 c_38_77 rfl ⟨Nat.le_of_ble_eq_true rfl, Nat.le_of_ble_eq_true rfl⟩ rfl h18 [.ref 18, .int (jn f), .int (jn a), .int (jn link)] rfl rfl [some (.ref 18), some (.int (jn f)), some (.int (jn a)), some (.int (jn link)), none] rfl rfl c_38_80 (t_bind (M := jm [(25, .inl (0, 10, .inl (jao (nu oa dg none))))] M) h18 h20 h22 h23 h24 hf40 ha (by omega) hbc hbf hbs) ?_
        intro r1 M1 q
        refine ⟨jB_b q, ?_⟩
        unfold jB at q
        split at q
        · rename_i hk
          rw [show sp_oc cs (bf, bs, bk, bc, oa, ol) dg a link = none by unfold sp_oc; dsimp only; rw [hf]; dsimp only; rw [if_neg (fun q => q.1 h2), if_pos h2, hk]]
          obtain ⟨q1, rfl⟩ := q
          exact ⟨q1, ⟨tx, ln, pt, ps, sz, cs, wr, (bf, bs, bk, bc, nu oa dg none, ol), br, dp, ⟨h18, h19, h20, h21, h22, h23, h24, rfl, h26, h27⟩, ht, hbr, hwr, cbI_no hI0⟩, same_jm rfl⟩
        · rename_i k hk
          rw [show sp_oc cs (bf, bs, bk, bc, oa, ol) dg a link = some (nu bf bc f, nu bs bc a, nu bk bc k, bc + 1, nu oa dg none, ol) by unfold sp_oc; dsimp only; rw [hf]; dsimp only; rw [if_neg (fun q => q.1 h2), if_pos h2, hk]]
          obtain ⟨q1, rfl⟩ := q
          exact ⟨q1, ⟨rfl, h19, h20, h21, rfl, rfl, rfl, rfl, h26, h27⟩, (same_jm rfl).tr (same_jm rfl)⟩
      · exact absurd h2 h2b
    · refine z_go 51 _ [.int (jn link)] _ c_38_50 rfl ?_
      refine z_ifeq 62 54 c_38_51 rfl (jn_z (by omega)) (fun h3 => ?_) (fun h3 => ?_)
      · refine z_go 63 _ [.ref 18] _ c_38_62 rfl ?_
        refine z_go 65 _ [.int (jn f), .ref 18] _ c_38_63 rfl ?_
        refine z_go 66 _ [.int (jn a), .int (jn f), .ref 18] _ c_38_65 rfl ?_
        refine z_go 68 _ [.int (jn (ol dg)), .int (jn a), .int (jn f), .ref 18] _ c_38_66 rfl ?_
        refine z_ifne 75 71 c_38_68 rfl (jn_z (by omega)) (fun h2b => ?_) (fun h2b => ?_)
        · exact absurd h2b h2
        · refine z_go 77 _ [.int (jn (ol dg)), .int (jn a), .int (jn f), .ref 18] _ c_38_75 rfl ?_
          refine z_tail 80 3 34 3 18 c_38_77 rfl ⟨Nat.le_of_ble_eq_true rfl, Nat.le_of_ble_eq_true rfl⟩ rfl h18 [.ref 18, .int (jn f), .int (jn a), .int (jn (ol dg))] rfl rfl [some (.ref 18), some (.int (jn f)), some (.int (jn a)), some (.int (jn (ol dg))), none] rfl rfl c_38_80 (t_bind (M := jm [(25, .inl (0, 10, .inl (jao (nu oa dg none))))] M) h18 h20 h22 h23 h24 hf40 ha (by omega) hbc hbf hbs) ?_
          intro r1 M1 q
          refine ⟨jB_b q, ?_⟩
          unfold jB at q
          split at q
          · rename_i hk
            rw [show sp_oc cs (bf, bs, bk, bc, oa, ol) dg a link = none by unfold sp_oc; dsimp only; rw [hf]; dsimp only; rw [if_neg (fun q => q.2.1 h3), if_neg h2, hk]]
            obtain ⟨q1, rfl⟩ := q
            exact ⟨q1, ⟨tx, ln, pt, ps, sz, cs, wr, (bf, bs, bk, bc, nu oa dg none, ol), br, dp, ⟨h18, h19, h20, h21, h22, h23, h24, rfl, h26, h27⟩, ht, hbr, hwr, cbI_no hI0⟩, same_jm rfl⟩
          · rename_i k hk
            rw [show sp_oc cs (bf, bs, bk, bc, oa, ol) dg a link = some (nu bf bc f, nu bs bc a, nu bk bc k, bc + 1, nu oa dg none, ol) by unfold sp_oc; dsimp only; rw [hf]; dsimp only; rw [if_neg (fun q => q.2.1 h3), if_neg h2, hk]]
            obtain ⟨q1, rfl⟩ := q
            exact ⟨q1, ⟨rfl, h19, h20, h21, rfl, rfl, rfl, rfl, h26, h27⟩, (same_jm rfl).tr (same_jm rfl)⟩
      · refine z_go 56 _ [.int (jn (ol dg))] _ c_38_54 rfl ?_
        refine z_go 57 _ [.int (jn link), .int (jn (ol dg))] _ c_38_56 rfl ?_
        refine z_ieq 62 60 c_38_57 rfl (jn_inj (by omega) (by omega)) (fun h4 => ?_) (fun h4 => ?_)
        · refine z_go 63 _ [.ref 18] _ c_38_62 rfl ?_
          refine z_go 65 _ [.int (jn f), .ref 18] _ c_38_63 rfl ?_
          refine z_go 66 _ [.int (jn a), .int (jn f), .ref 18] _ c_38_65 rfl ?_
          refine z_go 68 _ [.int (jn (ol dg)), .int (jn a), .int (jn f), .ref 18] _ c_38_66 rfl ?_
          refine z_ifne 75 71 c_38_68 rfl (jn_z (by omega)) (fun h2b => ?_) (fun h2b => ?_)
          · exact absurd h2b h2
          · refine z_go 77 _ [.int (jn (ol dg)), .int (jn a), .int (jn f), .ref 18] _ c_38_75 rfl ?_
            refine z_tail 80 3 34 3 18 c_38_77 rfl ⟨Nat.le_of_ble_eq_true rfl, Nat.le_of_ble_eq_true rfl⟩ rfl h18 [.ref 18, .int (jn f), .int (jn a), .int (jn (ol dg))] rfl rfl [some (.ref 18), some (.int (jn f)), some (.int (jn a)), some (.int (jn (ol dg))), none] rfl rfl c_38_80 (t_bind (M := jm [(25, .inl (0, 10, .inl (jao (nu oa dg none))))] M) h18 h20 h22 h23 h24 hf40 ha (by omega) hbc hbf hbs) ?_
            intro r1 M1 q
            refine ⟨jB_b q, ?_⟩
            unfold jB at q
            split at q
            · rename_i hk
              rw [show sp_oc cs (bf, bs, bk, bc, oa, ol) dg a link = none by unfold sp_oc; dsimp only; rw [hf]; dsimp only; rw [if_neg (fun q => q.2.2 h4), if_neg h2, hk]]
              obtain ⟨q1, rfl⟩ := q
              exact ⟨q1, ⟨tx, ln, pt, ps, sz, cs, wr, (bf, bs, bk, bc, nu oa dg none, ol), br, dp, ⟨h18, h19, h20, h21, h22, h23, h24, rfl, h26, h27⟩, ht, hbr, hwr, cbI_no hI0⟩, same_jm rfl⟩
            · rename_i k hk
              rw [show sp_oc cs (bf, bs, bk, bc, oa, ol) dg a link = some (nu bf bc f, nu bs bc a, nu bk bc k, bc + 1, nu oa dg none, ol) by unfold sp_oc; dsimp only; rw [hf]; dsimp only; rw [if_neg (fun q => q.2.2 h4), if_neg h2, hk]]
              obtain ⟨q1, rfl⟩ := q
              exact ⟨q1, ⟨rfl, h19, h20, h21, rfl, rfl, rfl, rfl, h26, h27⟩, (same_jm rfl).tr (same_jm rfl)⟩
        · refine z_go 61 _ [.int (jn 0)] _ c_38_60 rfl ?_
          refine z_zret (b := false) c_38_61 ?_
          rw [show sp_oc cs (bf, bs, bk, bc, oa, ol) dg a link = none by simp [sp_oc, hf, h2, h3, h4]]
          exact ⟨rfl, ⟨tx, ln, pt, ps, sz, cs, wr, (bf, bs, bk, bc, nu oa dg none, ol), br, dp, ⟨h18, h19, h20, h21, h22, h23, h24, rfl, h26, h27⟩, ht, hbr, hwr, cbI_no hI0⟩, same_jm rfl⟩
def sp_clo (tx : Nat → Nat) (ln : Nat) (pt : Bool) (cs : Nat → Nat) (a : Nat) : Nat → Nat → CB → Option (Nat × CB)
  | 0, ps, B => some (ps, B)
  | k + 1, ps, B => if 49 ≤ sp_here tx ln (ps + if sp_lk (sp_here tx ln ps) pt = 0 then 0 else 1) ∧ sp_here tx ln (ps + if sp_lk (sp_here tx ln ps) pt = 0 then 0 else 1) ≤ 57 then
      (match sp_oc cs B (sp_here tx ln (ps + if sp_lk (sp_here tx ln ps) pt = 0 then 0 else 1) - 48) a (sp_lk (sp_here tx ln ps) pt) with
      | none => none
      | some B' => sp_clo tx ln pt cs a k ((ps + if sp_lk (sp_here tx ln ps) pt = 0 then 0 else 1) + 1) B') else some (ps, B)
theorem sp_lk_lt {h : Nat} {pt : Bool} : sp_lk h pt < 8 := by
  unfold sp_lk
  repeat' split
  all_goals decide
theorem sp_here_ne {tx : Nat → Nat} {ln ps : Nat} (h : sp_here tx ln ps ≠ 0) : ps < ln := by
  unfold sp_here at h
  split at h
  · assumption
  · exact absurd rfl h
theorem sp_here_pos {tx : Nat → Nat} {ln ps : Nat} (h : 0 < sp_here tx ln ps) : ps < ln := sp_here_ne (Nat.pos_iff_ne_zero.mp h)
theorem t_clo_l {d ln sz dp a : Nat} {pt : Bool} {tx cs br : Nat → Nat} {wr : Nat → Option Nat} (hl : ln ≤ 40) (ht : ∀ j, tx j < 128) (hbr : ∀ j, br j < 40) (hwr : ∀ j k, wr j = some k → k < 100) (ha : a < 40) : ∀ {k i ps : Nat} {z3 z4 z5 : Option Value} {bf bs bk ol : Nat → Nat} {bc : Nat} {oa : Nat → Option Nat} {M : jx_M}, i + k = 40 → ps ≤ ln → rA M tx ln pt ps sz cs wr (bf, bs, bk, bc, oa, ol) br dp → cbI (bf, bs, bk, bc, oa, ol) → jZ (d + 3) 37 2 [some (.ref 18), some (.int (jn a)), some (.int (jn i)), z3, z4, z5] [] M (jK M (fun x M' => rA M' tx ln pt x.1 sz cs wr x.2 br dp) (sp_clo tx ln pt cs a k ps (bf, bs, bk, bc, oa, ol))) := by
  intro k
  induction k with
  | zero =>
    intro i ps z3 z4 z5 bf bs bk ol bc oa M hk hp hR hI
    obtain ⟨h18, h19, h20, h21, h22, h23, h24, h25, h26, h27⟩ := hR
    refine z_go 3 _ [.int (jn i)] _ c_37_2 rfl ?_
    refine z_go 5 _ [.int (jn 40), .int (jn i)] _ c_37_3 rfl ?_
    refine z_ige 79 8 c_37_5 rfl (by omega) (by omega) (fun hi => ?_) (fun hi => ?_)
    · omega
    · refine z_go 80 _ [.int (jn 1)] _ c_37_79 rfl ?_
      refine z_zret (b := true) c_37_80 ?_
      exact ⟨rfl, ⟨h18, h19, h20, h21, h22, h23, h24, h25, h26, h27⟩, same_r M⟩
  | succ k ih =>
    intro i ps z3 z4 z5 bf bs bk ol bc oa M hk hp hR hI
    have hR0 := hR
    obtain ⟨h18, h19, h20, h21, h22, h23, h24, h25, h26, h27⟩ := hR
    refine z_go 3 _ [.int (jn i)] _ c_37_2 rfl ?_
    refine z_go 5 _ [.int (jn 40), .int (jn i)] _ c_37_3 rfl ?_
    refine z_ige 79 8 c_37_5 rfl (by omega) (by omega) (fun hi => ?_) (fun hi => ?_)
    · have hlk := sp_lk_lt (h := sp_here tx ln ps) (pt := pt)
      have hdl := sp_here_lt (tx := tx) (ln := ln) (ps := ps + if sp_lk (sp_here tx ln ps) pt = 0 then 0 else 1) ht
      have hp1 : (ps + if sp_lk (sp_here tx ln ps) pt = 0 then 0 else 1) ≤ 41 := by split <;> omega
      refine z_go 9 _ [.ref 18] _ c_37_8 rfl ?_
      refine z_getf (v := .int (jn ps)) 12 c_37_9 rfl h18 rfl ?_
      refine z_go 13 [some (.ref 18), some (.int (jn a)), some (.int (jn i)), some (.int (jn ps)), z4, z5] [] _ c_37_12 rfl ?_
      refine z_go 14 _ [.ref 18] _ c_37_13 rfl ?_
      refine z_callv 17 3 25 0 18 c_37_14 rfl ⟨Nat.le_of_ble_eq_true rfl, Nat.le_of_ble_eq_true rfl⟩ rfl h18 [.ref 18] rfl rfl [some (.ref 18)] rfl rfl (t_rlink h18 h19 hl (by omega) ht) ?_
      show jZ _ _ _ _ [.int (jn (sp_lk (sp_here tx ln ps) pt))] _ _
      refine z_go 19 [some (.ref 18), some (.int (jn a)), some (.int (jn i)), some (.int (jn ps)), some (.int (jn (sp_lk (sp_here tx ln ps) pt))), z5] [] _ c_37_17 rfl ?_
      refine z_go 20 _ [.ref 18] _ c_37_19 rfl ?_
      refine z_callv 23 3 28 0 18 c_37_20 rfl ⟨Nat.le_of_ble_eq_true rfl, Nat.le_of_ble_eq_true rfl⟩ rfl rfl [.ref 18] rfl rfl [some (.ref 18)] rfl rfl (t_here' (ps := ps + if sp_lk (sp_here tx ln ps) pt = 0 then 0 else 1) rfl h19 hl (by omega) ht) ?_
      show jZ _ _ _ _ [.int (jn (sp_here tx ln (ps + if sp_lk (sp_here tx ln ps) pt = 0 then 0 else 1)))] _ _
      refine z_go 25 [some (.ref 18), some (.int (jn a)), some (.int (jn i)), some (.int (jn ps)), some (.int (jn (sp_lk (sp_here tx ln ps) pt))), some (.int (jn (sp_here tx ln (ps + if sp_lk (sp_here tx ln ps) pt = 0 then 0 else 1))))] [] _ c_37_23 rfl ?_
      refine z_go 27 _ [.int (jn (sp_here tx ln (ps + if sp_lk (sp_here tx ln ps) pt = 0 then 0 else 1)))] _ c_37_25 rfl ?_
      refine z_go 29 _ [.int (jn 49), .int (jn (sp_here tx ln (ps + if sp_lk (sp_here tx ln ps) pt = 0 then 0 else 1)))] _ c_37_27 rfl ?_
      refine z_ilt 39 32 c_37_29 rfl (by omega) (by omega) (fun h1 => ?_) (fun h1 => ?_)
      · refine z_go 40 _ [.ref 18] _ c_37_39 rfl ?_
        refine z_go 41 _ [.int (jn ps), .ref 18] _ c_37_40 rfl ?_
        refine z_putf (M' := jm [(18, rO ln ps pt sz bc dp)] M) 44 c_37_41 rfl rfl (rfl) (Nat.le_of_ble_eq_true rfl) (jm_w rfl) ?_
        refine z_go 45 _ [.int (jn 1)] _ c_37_44 rfl ?_
        refine z_zret (b := true) c_37_45 ?_
        rw [sp_clo, if_neg (by omega)]
        refine ⟨rfl, ⟨rfl, h19, h20, h21, h22, h23, h24, h25, h26, h27⟩, same_jm rfl⟩
      · refine z_go 34 _ [.int (jn (sp_here tx ln (ps + if sp_lk (sp_here tx ln ps) pt = 0 then 0 else 1)))] _ c_37_32 rfl ?_
        refine z_go 36 _ [.int (jn 57), .int (jn (sp_here tx ln (ps + if sp_lk (sp_here tx ln ps) pt = 0 then 0 else 1)))] _ c_37_34 rfl ?_
        refine z_ile 46 39 c_37_36 rfl (by omega) (by omega) (fun h2 => ?_) (fun h2 => ?_)
        · refine z_go 40 _ [.ref 18] _ c_37_39 rfl ?_
          refine z_go 41 _ [.int (jn ps), .ref 18] _ c_37_40 rfl ?_
          refine z_putf (M' := jm [(18, rO ln ps pt sz bc dp)] M) 44 c_37_41 rfl rfl (rfl) (Nat.le_of_ble_eq_true rfl) (jm_w rfl) ?_
          refine z_go 45 _ [.int (jn 1)] _ c_37_44 rfl ?_
          refine z_zret (b := true) c_37_45 ?_
          rw [sp_clo, if_neg (by omega)]
          refine ⟨rfl, ⟨rfl, h19, h20, h21, h22, h23, h24, h25, h26, h27⟩, same_jm rfl⟩
        · have hlt := sp_here_pos (tx := tx) (ln := ln) (ps := ps + if sp_lk (sp_here tx ln ps) pt = 0 then 0 else 1) (by omega)
          refine z_go 47 _ [.ref 18] _ c_37_46 rfl ?_
          refine z_go 48 _ [.ref 18, .ref 18] _ c_37_47 rfl ?_
          refine z_getf (v := .int (jn (ps + if sp_lk (sp_here tx ln ps) pt = 0 then 0 else 1))) 51 c_37_48 rfl rfl rfl ?_
          refine z_go 52 _ [.int (jn 1), .int (jn (ps + if sp_lk (sp_here tx ln ps) pt = 0 then 0 else 1)), .ref 18] _ c_37_51 rfl ?_
          refine z_go 53 _ [.int ((jn (ps + if sp_lk (sp_here tx ln ps) pt = 0 then 0 else 1)) + (jn 1)), .ref 18] _ c_37_52 rfl ?_
          refine z_v (jn_add _ _) ?_
          refine z_putf (M' := jm [(18, rO ln ((ps + if sp_lk (sp_here tx ln ps) pt = 0 then 0 else 1) + 1) pt sz bc dp)] M) 56 c_37_53 rfl rfl (rfl) (Nat.le_of_ble_eq_true rfl) (jm_w rfl) ?_
          refine z_go 57 _ [.ref 18] _ c_37_56 rfl ?_
          refine z_go 59 _ [.int (jn (sp_here tx ln (ps + if sp_lk (sp_here tx ln ps) pt = 0 then 0 else 1))), .ref 18] _ c_37_57 rfl ?_
          refine z_go 61 _ [.int (jn 48), .int (jn (sp_here tx ln (ps + if sp_lk (sp_here tx ln ps) pt = 0 then 0 else 1))), .ref 18] _ c_37_59 rfl ?_
          refine z_go 62 _ [.int ((jn (sp_here tx ln (ps + if sp_lk (sp_here tx ln ps) pt = 0 then 0 else 1))) - (jn 48)), .ref 18] _ c_37_61 rfl ?_
          refine z_v (jn_sub (by omega)) ?_
          refine z_go 63 _ [.int (jn a), .int (jn ((sp_here tx ln (ps + if sp_lk (sp_here tx ln ps) pt = 0 then 0 else 1)) - 48)), .ref 18] _ c_37_62 rfl ?_
          refine z_go 65 _ [.int (jn (sp_lk (sp_here tx ln ps) pt)), .int (jn a), .int (jn ((sp_here tx ln (ps + if sp_lk (sp_here tx ln ps) pt = 0 then 0 else 1)) - 48)), .ref 18] _ c_37_63 rfl ?_
          have hRn : rA (jm [(18, rO ln ((ps + if sp_lk (sp_here tx ln ps) pt = 0 then 0 else 1) + 1) pt sz bc dp)] M) tx ln pt ((ps + if sp_lk (sp_here tx ln ps) pt = 0 then 0 else 1) + 1) sz cs wr (bf, bs, bk, bc, oa, ol) br dp := ⟨rfl, h19, h20, h21, h22, h23, h24, h25, h26, h27⟩
          have hoc := t_oc (d := d) (a := a) (dg := sp_here tx ln (ps + if sp_lk (sp_here tx ln ps) pt = 0 then 0 else 1) - 48) (link := sp_lk (sp_here tx ln ps) pt) hRn hI ht hbr hwr (by omega) ha hlk
          cases ho : sp_oc cs (bf, bs, bk, bc, oa, ol) (sp_here tx ln (ps + if sp_lk (sp_here tx ln ps) pt = 0 then 0 else 1) - 48) a (sp_lk (sp_here tx ln ps) pt) with
          | none =>
            rw [ho] at hoc
            refine z_callvV 68 3 38 3 18 c_37_65 rfl ⟨Nat.le_of_ble_eq_true rfl, Nat.le_of_ble_eq_true rfl⟩ rfl rfl [.ref 18, .int (jn ((sp_here tx ln (ps + if sp_lk (sp_here tx ln ps) pt = 0 then 0 else 1)) - 48)), .int (jn a), .int (jn (sp_lk (sp_here tx ln ps) pt))] rfl rfl [some (.ref 18), some (.int (jn ((sp_here tx ln (ps + if sp_lk (sp_here tx ln ps) pt = 0 then 0 else 1)) - 48))), some (.int (jn a)), some (.int (jn (sp_lk (sp_here tx ln ps) pt))), none, none] rfl rfl (hoc) ?_
            intro M1 ⟨hs1, hs2⟩
            show jZ _ _ _ _ [.int (jb false)] _ _
            refine z_ifne 73 71 c_37_68 rfl jb_t (fun _ => ?_) (fun h => absurd rfl h)
            refine z_go 72 _ [.int (jn 0)] _ c_37_71 rfl ?_
            refine z_zret (b := false) c_37_72 ?_
            rw [sp_clo, if_pos (by omega), ho]
            exact ⟨rfl, hs1, (same_jm rfl).tr hs2⟩
          | some B' =>
            rw [ho] at hoc
            refine z_callvV 68 3 38 3 18 c_37_65 rfl ⟨Nat.le_of_ble_eq_true rfl, Nat.le_of_ble_eq_true rfl⟩ rfl rfl [.ref 18, .int (jn ((sp_here tx ln (ps + if sp_lk (sp_here tx ln ps) pt = 0 then 0 else 1)) - 48)), .int (jn a), .int (jn (sp_lk (sp_here tx ln ps) pt))] rfl rfl [some (.ref 18), some (.int (jn ((sp_here tx ln (ps + if sp_lk (sp_here tx ln ps) pt = 0 then 0 else 1)) - 48))), some (.int (jn a)), some (.int (jn (sp_lk (sp_here tx ln ps) pt))), none, none] rfl rfl (hoc) ?_
            intro M1 ⟨hs1, hs2⟩
            show jZ _ _ _ _ [.int (jb true)] _ _
            refine z_ifne 73 71 c_37_68 rfl jb_t (fun h => absurd h (by decide)) (fun _ => ?_)
            refine z_iinc 76 [some (.ref 18), some (.int (jn a)), some (.int (jn (i + 1))), some (.int (jn ps)), some (.int (jn (sp_lk (sp_here tx ln ps) pt))), some (.int (jn (sp_here tx ln (ps + if sp_lk (sp_here tx ln ps) pt = 0 then 0 else 1))))] c_37_73 rfl rfl (jn_add _ _) rfl ?_
            refine z_go 2 _ [] _ c_37_76 rfl ?_
            have e1 : sp_clo tx ln pt cs a (k + 1) ps (bf, bs, bk, bc, oa, ol) = sp_clo tx ln pt cs a k ((ps + if sp_lk (sp_here tx ln ps) pt = 0 then 0 else 1) + 1) B' := by rw [sp_clo, if_pos (by omega), ho]
            rw [e1]
            obtain ⟨bf', bs', bk', bc', oa', ol'⟩ := B'
            exact (ih (i := i + 1) (by omega) (by omega) hs1 (cbI_oc hI ha hlk ho)).mono fun r M2 q => jK_sh ((same_jm rfl).tr hs2) q
    · omega
theorem t_clo {d ln ps sz dp : Nat} {pt : Bool} {tx cs br : Nat → Nat} {wr : Nat → Option Nat} {M : jx_M} {bf bs bk ol : Nat → Nat} {bc : Nat} {oa : Nat → Option Nat} {a : Nat} (hl : ln ≤ 40) (ht : ∀ j, tx j < 128) (hbr : ∀ j, br j < 40) (hwr : ∀ j k, wr j = some k → k < 100) (ha : a < 40) (hp : ps ≤ ln) (hR : rA M tx ln pt ps sz cs wr (bf, bs, bk, bc, oa, ol) br dp) (hI : cbI (bf, bs, bk, bc, oa, ol)) : jZ (d + 3) 37 0 [some (.ref 18), some (.int (jn a)), none, none, none, none] [] M (jK M (fun x M' => rA M' tx ln pt x.1 sz cs wr x.2 br dp) (sp_clo tx ln pt cs a 40 ps (bf, bs, bk, bc, oa, ol))) := by
  refine z_go 1 _ [.int (jn 0)] _ c_37_0 rfl ?_
  refine z_go 2 [some (.ref 18), some (.int (jn a)), some (.int (jn 0)), none, none, none] [] _ c_37_1 rfl ?_
  exact t_clo_l hl ht hbr hwr ha (by omega) hp hR hI
