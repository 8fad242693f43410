/-! THE SHELF AND THE LOG; printed by wip/whole/p58.py -/
theorem c_12_0 : jx_cd 12 0 = some (o_ald 0 1) := rfl
theorem c_12_1 : jx_cd 12 1 = some (o_push (.int 0) 1) := rfl
theorem c_12_2 : jx_cd 12 2 = some (o_putf 1 0 jx_okZ) := rfl
theorem c_12_5 : jx_cd 12 5 = some (o_ald 0 1) := rfl
theorem c_12_6 : jx_cd 12 6 = some (o_push (.int 0) 1) := rfl
theorem c_12_7 : jx_cd 12 7 = some (o_putf 1 1 jx_okZ) := rfl
theorem c_12_10 : jx_cd 12 10 = some (o_ald 0 1) := rfl
theorem c_12_11 : jx_cd 12 11 = some (o_push (.int 0) 1) := rfl
theorem c_12_12 : jx_cd 12 12 = some (o_putf 1 2 jx_okI) := rfl
theorem c_12_15 : jx_cd 12 15 = some (o_ret) := rfl
theorem c_13_0 : jx_cd 13 0 = some (o_ald 0 1) := rfl
theorem c_13_1 : jx_cd 13 1 = some (o_ild 1 1) := rfl
theorem c_13_2 : jx_cd 13 2 = some (o_putf 1 1 jx_okZ) := rfl
theorem c_13_5 : jx_cd 13 5 = some (o_ald 0 1) := rfl
theorem c_13_6 : jx_cd 13 6 = some (o_ild 2 1) := rfl
theorem c_13_7 : jx_cd 13 7 = some (o_putf 1 2 jx_okI) := rfl
theorem c_13_10 : jx_cd 13 10 = some (o_ald 0 1) := rfl
theorem c_13_11 : jx_cd 13 11 = some (o_getf 1 1) := rfl
theorem c_13_14 : jx_cd 13 14 = some (o_ifne 25) := rfl
theorem c_13_17 : jx_cd 13 17 = some (o_ald 0 1) := rfl
theorem c_13_18 : jx_cd 13 18 = some (o_getf 1 3) := rfl
theorem c_13_21 : jx_cd 13 21 = some (o_ald 3 1) := rfl
theorem c_13_22 : jx_cd 13 22 = some (o_callv 0 2 1) := rfl
theorem c_13_25 : jx_cd 13 25 = some (o_ret) := rfl
theorem c_44_0 : jx_cd 44 0 = some (o_push (.int 0) 1) := rfl
theorem c_44_1 : jx_cd 44 1 = some (o_ist 2 1) := rfl
theorem c_44_2 : jx_cd 44 2 = some (o_ild 2 1) := rfl
theorem c_44_3 : jx_cd 44 3 = some (o_ald 0 1) := rfl
theorem c_44_4 : jx_cd 44 4 = some (o_getf 4 2) := rfl
theorem c_44_7 : jx_cd 44 7 = some (o_ige 28) := rfl
theorem c_44_10 : jx_cd 44 10 = some (o_ald 0 1) := rfl
theorem c_44_11 : jx_cd 44 11 = some (o_getf 4 1) := rfl
theorem c_44_14 : jx_cd 44 14 = some (o_ild 2 1) := rfl
theorem c_44_15 : jx_cd 44 15 = some (o_iald) := rfl
theorem c_44_16 : jx_cd 44 16 = some (o_ild 1 1) := rfl
theorem c_44_17 : jx_cd 44 17 = some (o_ine 22) := rfl
theorem c_44_20 : jx_cd 44 20 = some (o_ild 2 1) := rfl
theorem c_44_21 : jx_cd 44 21 = some (o_iret) := rfl
theorem c_44_22 : jx_cd 44 22 = some (o_iinc 2 1) := rfl
theorem c_44_25 : jx_cd 44 25 = some (o_goto 2) := rfl
theorem c_44_28 : jx_cd 44 28 = some (o_push (.int (-1)) 1) := rfl
theorem c_44_29 : jx_cd 44 29 = some (o_iret) := rfl
theorem c_45_0 : jx_cd 45 0 = some (o_ald 0 1) := rfl
theorem c_45_1 : jx_cd 45 1 = some (o_ild 1 1) := rfl
theorem c_45_2 : jx_cd 45 2 = some (o_callv 4 44 1) := rfl
theorem c_45_5 : jx_cd 45 5 = some (o_ist 2 1) := rfl
theorem c_45_6 : jx_cd 45 6 = some (o_ild 2 1) := rfl
theorem c_45_7 : jx_cd 45 7 = some (o_push (.int (-1)) 1) := rfl
theorem c_45_8 : jx_cd 45 8 = some (o_ine 12) := rfl
theorem c_45_12 : jx_cd 45 12 = some (o_ald 0 1) := rfl
theorem c_45_13 : jx_cd 45 13 = some (o_getf 4 0) := rfl
theorem c_45_16 : jx_cd 45 16 = some (o_ild 2 1) := rfl
theorem c_45_17 : jx_cd 45 17 = some (o_aald) := rfl
theorem c_45_18 : jx_cd 45 18 = some (o_ast 3 1) := rfl
theorem c_45_19 : jx_cd 45 19 = some (o_ild 2 1) := rfl
theorem c_45_20 : jx_cd 45 20 = some (o_ist 4 2) := rfl
theorem c_45_22 : jx_cd 45 22 = some (o_ild 4 2) := rfl
theorem c_45_24 : jx_cd 45 24 = some (o_ald 0 1) := rfl
theorem c_45_25 : jx_cd 45 25 = some (o_getf 4 2) := rfl
theorem c_45_28 : jx_cd 45 28 = some (o_push (.int 1) 1) := rfl
theorem c_45_29 : jx_cd 45 29 = some (o_bin fun x y => x - y) := rfl
theorem c_45_30 : jx_cd 45 30 = some (o_ige 71) := rfl
theorem c_45_33 : jx_cd 45 33 = some (o_ald 0 1) := rfl
theorem c_45_34 : jx_cd 45 34 = some (o_getf 4 0) := rfl
theorem c_45_37 : jx_cd 45 37 = some (o_ild 4 2) := rfl
theorem c_45_39 : jx_cd 45 39 = some (o_ald 0 1) := rfl
theorem c_45_40 : jx_cd 45 40 = some (o_getf 4 0) := rfl
theorem c_45_43 : jx_cd 45 43 = some (o_ild 4 2) := rfl
theorem c_45_45 : jx_cd 45 45 = some (o_push (.int 1) 1) := rfl
theorem c_45_46 : jx_cd 45 46 = some (o_bin fun x y => x + y) := rfl
theorem c_45_47 : jx_cd 45 47 = some (o_aald) := rfl
theorem c_45_48 : jx_cd 45 48 = some (o_aast 0) := rfl
theorem c_45_49 : jx_cd 45 49 = some (o_ald 0 1) := rfl
theorem c_45_50 : jx_cd 45 50 = some (o_getf 4 1) := rfl
theorem c_45_53 : jx_cd 45 53 = some (o_ild 4 2) := rfl
theorem c_45_55 : jx_cd 45 55 = some (o_ald 0 1) := rfl
theorem c_45_56 : jx_cd 45 56 = some (o_getf 4 1) := rfl
theorem c_45_59 : jx_cd 45 59 = some (o_ild 4 2) := rfl
theorem c_45_61 : jx_cd 45 61 = some (o_push (.int 1) 1) := rfl
theorem c_45_62 : jx_cd 45 62 = some (o_bin fun x y => x + y) := rfl
theorem c_45_63 : jx_cd 45 63 = some (o_iald) := rfl
theorem c_45_64 : jx_cd 45 64 = some (o_iast) := rfl
theorem c_45_65 : jx_cd 45 65 = some (o_iinc 4 1) := rfl
theorem c_45_68 : jx_cd 45 68 = some (o_goto 22) := rfl
theorem c_45_71 : jx_cd 45 71 = some (o_ald 0 1) := rfl
theorem c_45_72 : jx_cd 45 72 = some (o_dup) := rfl
theorem c_45_73 : jx_cd 45 73 = some (o_getf 4 2) := rfl
theorem c_45_76 : jx_cd 45 76 = some (o_push (.int 1) 1) := rfl
theorem c_45_77 : jx_cd 45 77 = some (o_bin fun x y => x - y) := rfl
theorem c_45_78 : jx_cd 45 78 = some (o_putf 4 2 jx_okI) := rfl
theorem c_45_81 : jx_cd 45 81 = some (o_ald 0 1) := rfl
theorem c_45_82 : jx_cd 45 82 = some (o_getf 4 0) := rfl
theorem c_45_85 : jx_cd 45 85 = some (o_ald 0 1) := rfl
theorem c_45_86 : jx_cd 45 86 = some (o_getf 4 2) := rfl
theorem c_45_89 : jx_cd 45 89 = some (o_ald 3 1) := rfl
theorem c_45_90 : jx_cd 45 90 = some (o_aast 0) := rfl
theorem c_45_91 : jx_cd 45 91 = some (o_ret) := rfl
theorem c_46_0 : jx_cd 46 0 = some (o_ald 0 1) := rfl
theorem c_46_1 : jx_cd 46 1 = some (o_getf 4 2) := rfl
theorem c_46_4 : jx_cd 46 4 = some (o_push (.int 12) 2) := rfl
theorem c_46_6 : jx_cd 46 6 = some (o_ige 47) := rfl
theorem c_46_9 : jx_cd 46 9 = some (o_ald 0 1) := rfl
theorem c_46_10 : jx_cd 46 10 = some (o_getf 4 0) := rfl
theorem c_46_13 : jx_cd 46 13 = some (o_ald 0 1) := rfl
theorem c_46_14 : jx_cd 46 14 = some (o_getf 4 2) := rfl
theorem c_46_17 : jx_cd 46 17 = some (o_aald) := rfl
theorem c_46_18 : jx_cd 46 18 = some (o_ald 2 1) := rfl
theorem c_46_19 : jx_cd 46 19 = some (o_callv 0 2 1) := rfl
theorem c_46_22 : jx_cd 46 22 = some (o_ald 0 1) := rfl
theorem c_46_23 : jx_cd 46 23 = some (o_getf 4 1) := rfl
theorem c_46_26 : jx_cd 46 26 = some (o_ald 0 1) := rfl
theorem c_46_27 : jx_cd 46 27 = some (o_getf 4 2) := rfl
theorem c_46_30 : jx_cd 46 30 = some (o_ild 1 1) := rfl
theorem c_46_31 : jx_cd 46 31 = some (o_iast) := rfl
theorem c_46_32 : jx_cd 46 32 = some (o_ald 0 1) := rfl
theorem c_46_33 : jx_cd 46 33 = some (o_dup) := rfl
theorem c_46_34 : jx_cd 46 34 = some (o_getf 4 2) := rfl
theorem c_46_37 : jx_cd 46 37 = some (o_push (.int 1) 1) := rfl
theorem c_46_38 : jx_cd 46 38 = some (o_bin fun x y => x + y) := rfl
theorem c_46_39 : jx_cd 46 39 = some (o_putf 4 2 jx_okI) := rfl
theorem c_46_42 : jx_cd 46 42 = some (o_ald 0 1) := rfl
theorem c_46_43 : jx_cd 46 43 = some (o_ild 1 1) := rfl
theorem c_46_44 : jx_cd 46 44 = some (o_putf 4 3 jx_okI) := rfl
theorem c_46_47 : jx_cd 46 47 = some (o_ret) := rfl
/-- the shelf's array of twelve graphs -/
def jq (p : Nat → Nat) : Nat → Option Nat := fun s => if s < 12 then some (p s) else none
def jqc (p : Nat → Nat) : jx_C := .inl (4, 12, .inr (.inr (.inr (.inr (jq p)))))
theorem jq_up {p : Nat → Nat} {k v : Nat} (h : k < 12) : va_up (jq p) k (some v) = jq (nu p k v) := by
  funext j
  simp only [va_up, jq, nu]
  by_cases e : j = k
  · subst e
    rw [if_pos rfl, if_pos h, if_pos rfl]
  · rw [if_neg e, if_neg e]
section ZQ
variable {d mi pc : Nat} {L : jx_L} {r : List Value} {M M' : jx_M} {post : jx_R → jx_M → Prop}
theorem z_aaldq (pc' : Nat) {k a : Nat} {p : Nat → Nat} (hc : jx_cd mi pc = some o_aald) (hp : pc + 1 = pc') (hM : M.1 a = jqc p) (hk : k < 12) (kk : jZ d mi pc' L (.ref (p k) :: r) M post) : jZ d mi pc L (.int (jn k) :: .ref a :: r) M post := by
  refine z_aald pc' hc hp hM hk (by decide) ?_
  have e : va_rf (jq p k) = .ref (p k) := by unfold jq; rw [if_pos hk]; rfl
  rw [e]
  exact kk
theorem z_aastq (pc' : Nat) {ci k a v : Nat} {p : Nat → Nat} {fs : List Value} (hc : jx_cd mi pc = some (o_aast ci)) (hp : pc + 1 = pc') (hM : M.1 a = jqc p) (hv : M.1 v = .inr (ci, fs)) (hk : k < 12) (hM' : jx_st M a (jqc (nu p k v)) = M') (kk : jZ d mi pc' L r M' post) : jZ d mi pc L (.ref v :: .int (jn k) :: .ref a :: r) M post := by
  refine z_go pc' L r M' hc ?_ kk
  unfold o_aast
  dsimp only
  rw [hM, hv]
  unfold jqc
  dsimp only
  rw [if_pos ⟨rfl, rfl, jx_ix_n hk (by decide)⟩, ← hp, jn_cl (by omega), jq_up hk, ← hM']
  rfl
end ZQ
/-- nothing has changed but from a to b -/
def sm (a b : Nat) (M M' : jx_M) : Prop := (∀ k, k < a ∨ b < k → M'.1 k = M.1 k) ∧ M'.2 = M.2
theorem sm_r (a b : Nat) (M : jx_M) : sm a b M M := ⟨fun _ _ => rfl, rfl⟩
theorem sm.tr {a b : Nat} {M M1 M2 : jx_M} (h : sm a b M M1) (k : sm a b M1 M2) : sm a b M M2 := ⟨fun q hq => (k.1 q hq).trans (h.1 q hq), k.2.trans h.2⟩
theorem sm.wd {a b a' b' : Nat} {M M1 : jx_M} (h : sm a b M M1) (h1 : a' ≤ a) (h2 : b ≤ b') : sm a' b' M M1 := ⟨fun q hq => h.1 q (by omega), h.2⟩
theorem sm_w {a b q : Nat} {M M1 : jx_M} {c : jx_C} (h : a ≤ q ∧ q ≤ b) (k : sm a b M M1) : sm a b M (jx_st M1 q c) := ⟨fun j hj => (if_neg (by omega)).trans (k.1 j hj), k.2⟩
theorem sm_jm {a b : Nat} {M : jx_M} : ∀ {l : List (Nat × jx_C)}, (l.all fun q => decide (a ≤ q.1) && decide (q.1 ≤ b)) = true → sm a b M (jm l M)
  | [], _ => sm_r a b M
  | (q, c) :: t, h => by
    rw [List.all_cons, Bool.and_eq_true] at h
    exact sm_w (by simpa using h.1) (sm_jm (M := M) h.2)
/-- a graph: size, number of bonds, codes, kinds, near -/
abbrev GR : Type := Nat × Nat × (Nat → Nat) × (Nat → Nat) × (Nat → Nat)
/-- nothing stands behind the ends of its arrays -/
def gZ (x : GR) : Prop := (∀ j, 10 ≤ j → x.2.2.1 j = 0) ∧ (∀ j, 100 ≤ j → x.2.2.2.1 j = 0) ∧ ∀ j, 60 ≤ j → x.2.2.2.2 j = 0
def jgr (M : jx_M) (g : Nat) (x : GR) : Prop := jg M g x.1 x.2.1 x.2.2.1 x.2.2.2.1 x.2.2.2.2 ∧ gZ x
theorem jgr_fr {M M' : jx_M} {g : Nat} {x : GR} (h : jgr M g x) (hs : ∀ k, g ≤ k → k ≤ g + 3 → M'.1 k = M.1 k) : jgr M' g x := ⟨⟨(hs _ (by omega) (by omega)).trans h.1.1, (hs _ (by omega) (by omega)).trans h.1.2.1, (hs _ (by omega) (by omega)).trans h.1.2.2.1, (hs _ (by omega) (by omega)).trans h.1.2.2.2⟩, h.2⟩
theorem sp_cpy_z {f g : Nat → Nat} {n : Nat} (h1 : ∀ j, n ≤ j → f j = 0) (h2 : ∀ j, n ≤ j → g j = 0) : sp_cpy f g n = f := by
  funext j
  unfold sp_cpy
  by_cases h : j < n
  · rw [if_pos h]
  · rw [if_neg h, h1 j (by omega), h2 j (by omega)]
/-- the shelf: where its graphs lie, how many, the last ID, the IDs, the graphs -/
def jsh (M : jx_M) (p : Nat → Nat) (sz li : Nat) (ids : Nat → Nat) (G : Nat → GR) : Prop := M.1 35 = sO sz li ∧ M.1 36 = jqc p ∧ M.1 37 = .inl (0, 12, .inl (ja ids)) ∧ (∀ s, s < 12 → 38 ≤ p s ∧ p s ≤ 82 ∧ (p s - 38) % 4 = 0) ∧ (∀ s t, s < 12 → t < 12 → p s = p t → s = t) ∧ ∀ s, s < 12 → jgr M (p s) (G s)
theorem jsh_fr {M M' : jx_M} {p : Nat → Nat} {sz li : Nat} {ids : Nat → Nat} {G : Nat → GR} (h : jsh M p sz li ids G) (hs : ∀ k, 35 ≤ k → k ≤ 85 → M'.1 k = M.1 k) : jsh M' p sz li ids G := by
  obtain ⟨h1, h2, h3, h4, h5, h6⟩ := h
  refine ⟨(hs _ (by decide) (by decide)).trans h1, (hs _ (by decide) (by decide)).trans h2, (hs _ (by decide) (by decide)).trans h3, h4, h5, fun s q => jgr_fr (h6 s q) fun k a b => hs k ?_ ?_⟩
  · have := h4 s q; omega
  · have := h4 s q; omega
/-- the first place of an ID -/
def sp_sl (ids : Nat → Nat) (x : Int32) : Nat → Nat → Option Nat
  | 0, _ => none
  | k + 1, i => if jn (ids i) = x then some i else sp_sl ids x k (i + 1)
theorem sp_sl_some {ids : Nat → Nat} {x : Int32} : ∀ {k i g : Nat}, sp_sl ids x k i = some g → i ≤ g ∧ g < i + k ∧ jn (ids g) = x := by
  intro k
  induction k with
  | zero => intro i g h; cases h
  | succ k ih =>
    intro i g h
    unfold sp_sl at h
    split at h
    · rename_i h1
      cases h
      exact ⟨Nat.le_refl _, by omega, h1⟩
    · obtain ⟨a, b, c⟩ := ih h
      exact ⟨by omega, by omega, c⟩
theorem sp_sl_none {ids : Nat → Nat} {x : Int32} : ∀ {k i : Nat}, sp_sl ids x k i = none → ∀ g, i ≤ g → g < i + k → jn (ids g) ≠ x := by
  intro k
  induction k with
  | zero => intro i _ g h1 h2; omega
  | succ k ih =>
    intro i h g h1 h2
    unfold sp_sl at h
    split at h
    · cases h
    · rename_i h3
      by_cases e : g = i
      · subst e; exact h3
      · exact ih h g (by omega) (by omega)
/-- from i on each takes the next one's, up to n -/
def sp_sh {α : Type} (f : Nat → α) (i n : Nat) : Nat → α := fun j => if i ≤ j ∧ j < n then f (j + 1) else f j
theorem sp_sh_0 {α : Type} {f : Nat → α} {i n : Nat} (h : n ≤ i) : sp_sh f i n = f := by
  funext j
  unfold sp_sh
  rw [if_neg (by omega)]
theorem sp_sh_s {α : Type} {f : Nat → α} {i n : Nat} (h : i < n) : sp_sh (nu f i (f (i + 1))) (i + 1) n = sp_sh f i n := by
  funext j
  unfold sp_sh nu
  by_cases e : j = i
  · subst e
    rw [if_neg (by omega), if_pos rfl, if_pos ⟨Nat.le_refl _, h⟩]
  · by_cases h1 : i ≤ j ∧ j < n
    · rw [if_pos h1, if_pos (by omega), if_neg (by omega)]
    · rw [if_neg h1, if_neg (by omega), if_neg e]
theorem tk_hq {M : jx_M} {p : Nat → Nat} {i : Nat} {c c' : jx_C} (hq : ∀ s, s < 12 → 38 ≤ p s ∧ ∃ fs, M.1 (p s) = .inr (0, fs)) (hi : i + 1 < 12) : ∀ s, s < 12 → 38 ≤ nu p i (p (i + 1)) s ∧ ∃ fs, (jm [(37, c), (36, c')] M).1 (nu p i (p (i + 1)) s) = .inr (0, fs) := by
  intro s hs
  have : ∃ t, t < 12 ∧ nu p i (p (i + 1)) s = p t := by
    unfold nu
    split
    · exact ⟨i + 1, hi, rfl⟩
    · exact ⟨s, hs, rfl⟩
  obtain ⟨t, ht, e⟩ := this
  obtain ⟨h1, fs, h2⟩ := hq t ht
  rw [e]
  exact ⟨h1, fs, jne (by omega) (jne (by omega) h2)⟩
theorem t_slot_l {d sz li : Nat} {x : Int32} {ids : Nat → Nat} {M : jx_M} (h35 : M.1 35 = sO sz li) (h37 : M.1 37 = .inl (0, 12, .inl (ja ids))) (hsz : sz ≤ 12) : ∀ {k i : Nat}, i + k = sz → jZ d 44 2 [some (.ref 35), some (.int x), some (.int (jn i))] [] M (jR (some (.int (jo (sp_sl ids x k i)))) M) := by
  intro k
  induction k with
  | zero =>
    intro i hk
    refine z_go 3 _ [.int (jn i)] _ c_44_2 rfl ?_
    refine z_go 4 _ [.ref 35, .int (jn i)] _ c_44_3 rfl ?_
    refine z_getf (v := .int (jn sz)) 7 c_44_4 rfl h35 rfl ?_
    refine z_ige 28 10 c_44_7 rfl (by omega) (by omega) (fun hi => ?_) (fun hi => ?_)
    · omega
    · refine z_go 29 _ [.int (jo none)] _ c_44_28 rfl ?_
      refine z_iret c_44_29 ?_
      exact ⟨rfl, rfl⟩
  | succ k ih =>
    intro i hk
    refine z_go 3 _ [.int (jn i)] _ c_44_2 rfl ?_
    refine z_go 4 _ [.ref 35, .int (jn i)] _ c_44_3 rfl ?_
    refine z_getf (v := .int (jn sz)) 7 c_44_4 rfl h35 rfl ?_
    refine z_ige 28 10 c_44_7 rfl (by omega) (by omega) (fun hi => ?_) (fun hi => ?_)
    · refine z_go 11 _ [.ref 35] _ c_44_10 rfl ?_
      refine z_getf (v := .ref 37) 14 c_44_11 rfl h35 rfl ?_
      refine z_go 15 _ [.int (jn i), .ref 37] _ c_44_14 rfl ?_
      refine z_iald 16 c_44_15 rfl h37 (Or.inl rfl) (by omega) (by omega) ?_
      show jZ _ _ _ _ ([.int (jn (ids i))]) _ _
      refine z_go 17 _ [.int x, .int (jn (ids i))] _ c_44_16 rfl ?_
      refine z_ine 22 20 c_44_17 rfl Iff.rfl (fun h1 => ?_) (fun h1 => ?_)
      · refine z_go 21 _ [.int (jn i)] _ c_44_20 rfl ?_
        refine z_iret c_44_21 ?_
        exact ⟨by rw [sp_sl, if_pos h1]; rfl, rfl⟩
      · refine z_iinc 25 [some (.ref 35), some (.int x), some (.int (jn (i + 1)))] c_44_22 rfl rfl (jn_add _ _) rfl ?_
        refine z_go 2 _ [] _ c_44_25 rfl ?_
        refine (ih (i := i + 1) (by omega)).mono fun r M1 q => ⟨q.1.trans ?_, q.2⟩
        rw [sp_sl, if_neg h1]
    · omega
theorem t_slot {d sz li : Nat} {x : Int32} {ids : Nat → Nat} {M : jx_M} (h35 : M.1 35 = sO sz li) (h37 : M.1 37 = .inl (0, 12, .inl (ja ids))) (hsz : sz ≤ 12) : jZ d 44 0 [some (.ref 35), some (.int x), none] [] M (jR (some (.int (jo (sp_sl ids x sz 0)))) M) := by
  refine z_go 1 _ [.int (jn 0)] _ c_44_0 rfl ?_
  refine z_go 2 [some (.ref 35), some (.int x), some (.int (jn 0))] [] _ c_44_1 rfl ?_
  exact t_slot_l h35 h37 hsz (by omega)
theorem t_take_l {d sz li go fr : Nat} {x : Int32} (hsz : sz ≤ 12) (h1 : 1 ≤ sz) (hf38 : 38 ≤ fr) {ff : List Value} : ∀ {k i : Nat} {p ids : Nat → Nat} {M : jx_M}, i + k = sz - 1 → M.1 35 = sO sz li → M.1 36 = jqc p → M.1 37 = .inl (0, 12, .inl (ja ids)) → (∀ s, s < 12 → 38 ≤ p s ∧ ∃ fs, M.1 (p s) = .inr (0, fs)) → M.1 fr = .inr (0, ff) → jZ d 45 22 [some (.ref 35), some (.int x), some (.int (jn go)), some (.ref fr), some (.int (jn i))] [] M (jV none fun M' => M'.1 35 = sO (sz - 1) li ∧ M'.1 36 = jqc (nu (sp_sh p i (sz - 1)) (sz - 1) fr) ∧ M'.1 37 = .inl (0, 12, .inl (ja (sp_sh ids i (sz - 1)))) ∧ sm 35 37 M M') := by
  intro k
  induction k with
  | zero =>
    intro i p ids M hk h35 h36 h37 hq hfr
    refine z_go 24 _ [.int (jn i)] _ c_45_22 rfl ?_
    refine z_go 25 _ [.ref 35, .int (jn i)] _ c_45_24 rfl ?_
    refine z_getf (v := .int (jn sz)) 28 c_45_25 rfl h35 rfl ?_
    refine z_go 29 _ [.int (jn 1), .int (jn sz), .int (jn i)] _ c_45_28 rfl ?_
    refine z_go 30 _ [.int ((jn sz) - (jn 1)), .int (jn i)] _ c_45_29 rfl ?_
    refine z_v (jn_sub (by omega)) ?_
    refine z_ige 71 33 c_45_30 rfl (by omega) (by omega) (fun hi => ?_) (fun hi => ?_)
    · omega
    · refine z_go 72 _ [.ref 35] _ c_45_71 rfl ?_
      refine z_go 73 _ [.ref 35, .ref 35] _ c_45_72 rfl ?_
      refine z_getf (v := .int (jn sz)) 76 c_45_73 rfl h35 rfl ?_
      refine z_go 77 _ [.int (jn 1), .int (jn sz), .ref 35] _ c_45_76 rfl ?_
      refine z_go 78 _ [.int ((jn sz) - (jn 1)), .ref 35] _ c_45_77 rfl ?_
      refine z_v (jn_sub (by omega)) ?_
      refine z_putf (M' := jm [(35, sO (sz - 1) li)] M) 81 c_45_78 rfl h35 (rfl) (Nat.le_of_ble_eq_true rfl) rfl ?_
      refine z_go 82 _ [.ref 35] _ c_45_81 rfl ?_
      refine z_getf (v := .ref 36) 85 c_45_82 rfl jhit rfl ?_
      refine z_go 86 _ [.ref 35, .ref 36] _ c_45_85 rfl ?_
      refine z_getf (v := .int (jn (sz - 1))) 89 c_45_86 rfl jhit rfl ?_
      refine z_go 90 _ [.ref fr, .int (jn (sz - 1)), .ref 36] _ c_45_89 rfl ?_
      refine z_aastq (M' := jm [(36, jqc (nu p (sz - 1) fr)), (35, sO (sz - 1) li)] M) 91 c_45_90 rfl (jne (by omega) h36) (jne (by omega) hfr) (by omega) rfl ?_
      refine z_ret c_45_91 ?_
      have h37n : (jm [(36, jqc (nu p (sz - 1) fr)), (35, sO (sz - 1) li)] M).1 37 = _ := h37
      refine ⟨rfl, ?_, ?_, ?_, ?_⟩
      · rfl
      · rw [sp_sh_0 (by omega)]; rfl
      · rw [sp_sh_0 (by omega)]; exact h37n
      · exact sm_jm rfl
  | succ k ih =>
    intro i p ids M hk h35 h36 h37 hq hfr
    obtain ⟨hp1, fs, hv⟩ := hq (i + 1) (by omega)
    refine z_go 24 _ [.int (jn i)] _ c_45_22 rfl ?_
    refine z_go 25 _ [.ref 35, .int (jn i)] _ c_45_24 rfl ?_
    refine z_getf (v := .int (jn sz)) 28 c_45_25 rfl h35 rfl ?_
    refine z_go 29 _ [.int (jn 1), .int (jn sz), .int (jn i)] _ c_45_28 rfl ?_
    refine z_go 30 _ [.int ((jn sz) - (jn 1)), .int (jn i)] _ c_45_29 rfl ?_
    refine z_v (jn_sub (by omega)) ?_
    refine z_ige 71 33 c_45_30 rfl (by omega) (by omega) (fun hi => ?_) (fun hi => ?_)
    · refine z_go 34 _ [.ref 35] _ c_45_33 rfl ?_
      refine z_getf (v := .ref 36) 37 c_45_34 rfl h35 rfl ?_
      refine z_go 39 _ [.int (jn i), .ref 36] _ c_45_37 rfl ?_
      refine z_go 40 _ [.ref 35, .int (jn i), .ref 36] _ c_45_39 rfl ?_
      refine z_getf (v := .ref 36) 43 c_45_40 rfl h35 rfl ?_
      refine z_go 45 _ [.int (jn i), .ref 36, .int (jn i), .ref 36] _ c_45_43 rfl ?_
      refine z_go 46 _ [.int (jn 1), .int (jn i), .ref 36, .int (jn i), .ref 36] _ c_45_45 rfl ?_
      refine z_go 47 _ [.int ((jn i) + (jn 1)), .ref 36, .int (jn i), .ref 36] _ c_45_46 rfl ?_
      refine z_v (jn_add _ _) ?_
      refine z_aaldq 48 c_45_47 rfl h36 (by omega) ?_
      refine z_aastq (M' := jm [(36, jqc (nu p i (p (i + 1))))] M) 49 c_45_48 rfl h36 hv (by omega) rfl ?_
      refine z_go 50 _ [.ref 35] _ c_45_49 rfl ?_
      refine z_getf (v := .ref 37) 53 c_45_50 rfl (jne (by omega) h35) rfl ?_
      refine z_go 55 _ [.int (jn i), .ref 37] _ c_45_53 rfl ?_
      refine z_go 56 _ [.ref 35, .int (jn i), .ref 37] _ c_45_55 rfl ?_
      refine z_getf (v := .ref 37) 59 c_45_56 rfl (jne (by omega) h35) rfl ?_
      refine z_go 61 _ [.int (jn i), .ref 37, .int (jn i), .ref 37] _ c_45_59 rfl ?_
      refine z_go 62 _ [.int (jn 1), .int (jn i), .ref 37, .int (jn i), .ref 37] _ c_45_61 rfl ?_
      refine z_go 63 _ [.int ((jn i) + (jn 1)), .ref 37, .int (jn i), .ref 37] _ c_45_62 rfl ?_
      refine z_v (jn_add _ _) ?_
      refine z_iald 64 c_45_63 rfl (jne (by omega) h37) (Or.inl rfl) (by omega) (by omega) ?_
      show jZ _ _ _ _ ([.int (jn (ids (i + 1))), .int (jn i), .ref 37]) _ _
      refine z_iast (M' := jm [(37, .inl (0, 12, .inl (ja (nu ids i (ids (i + 1)))))), (36, jqc (nu p i (p (i + 1))))] M) 65 c_45_64 rfl (jne (by omega) h37) (by omega) (by omega) (by rw [ja_upd]; exact rfl) ?_
      refine z_iinc 68 [some (.ref 35), some (.int x), some (.int (jn go)), some (.ref fr), some (.int (jn (i + 1)))] c_45_65 rfl rfl (jn_add _ _) rfl ?_
      refine z_go 22 _ [] _ c_45_68 rfl ?_
      have ih1 := ih (i := i + 1) (M := jm [(37, .inl (0, 12, .inl (ja (nu ids i (ids (i + 1)))))), (36, jqc (nu p i (p (i + 1))))] M) (by omega) h35 rfl rfl (tk_hq hq (by omega)) (jne (by omega) (jne (by omega) hfr))
      rw [sp_sh_s (by omega), sp_sh_s (by omega)] at ih1
      exact ih1.mono fun r M1 q => ⟨q.1, q.2.1, q.2.2.1, q.2.2.2.1, (sm_jm rfl).tr q.2.2.2.2⟩
    · omega
/-- what is taken away goes behind the others -/
def sp_tk {α : Type} (f : Nat → α) (go sz : Nat) : Nat → α := nu (sp_sh f go (sz - 1)) (sz - 1) (f go)
theorem sp_tk_ix {α : Type} (f : Nat → α) (go sz s : Nat) : sp_tk f go sz s = f (sp_tk (fun j => j) go sz s) := by
  unfold sp_tk nu sp_sh
  by_cases h : s = sz - 1
  · rw [if_pos h, if_pos h]
  · rw [if_neg h, if_neg h]
    by_cases h1 : go ≤ s ∧ s < sz - 1
    · rw [if_pos h1, if_pos h1]
    · rw [if_neg h1, if_neg h1]
theorem sp_tk_lt {go sz s : Nat} (hg : go < sz) (hz : sz ≤ 12) (hs : s < 12) : sp_tk (fun j => j) go sz s < 12 := by
  unfold sp_tk nu sp_sh
  dsimp only
  split
  · omega
  · split
    · omega
    · omega
theorem sp_tk_inj {go sz s t : Nat} (hg : go < sz) (h : sp_tk (fun j => j) go sz s = sp_tk (fun j => j) go sz t) : s = t := by
  unfold sp_tk nu sp_sh at h
  dsimp only at h
  split at h <;> split at h <;> (repeat' split at h) <;> omega
theorem t_take {d sz li go : Nat} {x : Int32} {p ids : Nat → Nat} {G : Nat → GR} {M : jx_M} (hS : jsh M p sz li ids G) (hsz : sz ≤ 12) (hs : sp_sl ids x sz 0 = some go) : jZ (d + 1) 45 0 [some (.ref 35), some (.int x), none, none, none] [] M (jV none fun M' => jsh M' (sp_tk p go sz) (sz - 1) li (sp_sh ids go (sz - 1)) (sp_tk G go sz) ∧ sm 35 37 M M') := by
  obtain ⟨h35, h36, h37, hp, hij, hG⟩ := hS
  obtain ⟨-, hgo, -⟩ := sp_sl_some hs
  refine z_go 1 _ [.ref 35] _ c_45_0 rfl ?_
  refine z_go 2 _ [.int x, .ref 35] _ c_45_1 rfl ?_
  refine z_callv 5 4 44 1 35 c_45_2 rfl ⟨Nat.le_of_ble_eq_true rfl, Nat.le_of_ble_eq_true rfl⟩ rfl h35 [.ref 35, .int x] rfl rfl [some (.ref 35), some (.int x), none] rfl rfl (t_slot h35 h37 hsz) ?_
  show jZ _ _ _ _ [.int (jo (sp_sl ids x sz 0))] _ _
  rw [hs]
  show jZ _ _ _ _ [.int (jn go)] _ _
  refine z_go 6 [some (.ref 35), some (.int x), some (.int (jn go)), none, none] [] _ c_45_5 rfl ?_
  refine z_go 7 _ [.int (jn go)] _ c_45_6 rfl ?_
  refine z_go 8 _ [.int (jo none), .int (jn go)] _ c_45_7 rfl ?_
  refine z_ine 12 11 c_45_8 rfl (jn_m1 (by omega)) (fun h => h.elim) (fun _ => ?_)
  refine z_go 13 _ [.ref 35] _ c_45_12 rfl ?_
  refine z_getf (v := .ref 36) 16 c_45_13 rfl h35 rfl ?_
  refine z_go 17 _ [.int (jn go), .ref 36] _ c_45_16 rfl ?_
  refine z_aaldq 18 c_45_17 rfl h36 (by omega) ?_
  refine z_go 19 [some (.ref 35), some (.int x), some (.int (jn go)), some (.ref (p go)), none] [] _ c_45_18 rfl ?_
  refine z_go 20 _ [.int (jn go)] _ c_45_19 rfl ?_
  refine z_go 22 [some (.ref 35), some (.int x), some (.int (jn go)), some (.ref (p go)), some (.int (jn go))] [] _ c_45_20 rfl ?_
  refine (t_take_l (k := sz - 1 - go) hsz (by omega) (hp go (by omega)).1 (by omega) h35 h36 h37 (fun s hs => ⟨(hp s hs).1, _, (hG s hs).1.1⟩) (hG go (by omega)).1.1).mono fun r M1 q => ⟨q.1, ⟨q.2.1, q.2.2.1, q.2.2.2.1, fun s h => ?_, fun s t h1 h2 h3 => ?_, fun s h => ?_⟩, q.2.2.2.2⟩
  · show 38 ≤ sp_tk p go sz s ∧ sp_tk p go sz s ≤ 82 ∧ (sp_tk p go sz s - 38) % 4 = 0
    rw [sp_tk_ix p]
    exact hp _ (sp_tk_lt (by omega) hsz h)
  · have h3 : sp_tk p go sz s = sp_tk p go sz t := h3
    rw [sp_tk_ix p, sp_tk_ix p go sz t] at h3
    exact sp_tk_inj (by omega) (hij _ _ (sp_tk_lt (by omega) hsz h1) (sp_tk_lt (by omega) hsz h2) h3)
  · show jgr M1 (sp_tk p go sz s) (sp_tk G go sz s)
    rw [sp_tk_ix p, sp_tk_ix G]
    have hl := sp_tk_lt (go := go) (by omega) hsz h
    have h38 := hp _ hl
    exact jgr_fr (hG _ hl) fun k a b => q.2.2.2.2.1 k (by omega)
theorem t_put {d sz li id h : Nat} {p ids : Nat → Nat} {G : Nat → GR} {X : GR} {M : jx_M} (hS : jsh M p sz li ids G) (hsz : sz < 12) (hX : jgr M h X) (hh : 86 ≤ h) : jZ (d + 1) 46 0 [some (.ref 35), some (.int (jn id)), some (.ref h)] [] M (jV none fun M' => jsh M' p (sz + 1) id (nu ids sz id) (nu G sz X) ∧ sm 35 85 M M') := by
  obtain ⟨h35, h36, h37, hp, hij, hG⟩ := hS
  have hp0 := hp sz (by omega)
  refine z_go 1 _ [.ref 35] _ c_46_0 rfl ?_
  refine z_getf (v := .int (jn sz)) 4 c_46_1 rfl h35 rfl ?_
  refine z_go 6 _ [.int (jn 12), .int (jn sz)] _ c_46_4 rfl ?_
  refine z_ige 47 9 c_46_6 rfl (by omega) (by omega) (fun hi => ?_) (fun hi => ?_)
  · refine z_go 10 _ [.ref 35] _ c_46_9 rfl ?_
    refine z_getf (v := .ref 36) 13 c_46_10 rfl h35 rfl ?_
    refine z_go 14 _ [.ref 35, .ref 36] _ c_46_13 rfl ?_
    refine z_getf (v := .int (jn sz)) 17 c_46_14 rfl h35 rfl ?_
    refine z_aaldq 18 c_46_17 rfl h36 (by omega) ?_
    refine z_go 19 _ [.ref h, .ref (p sz)] _ c_46_18 rfl ?_
    refine z_callvV 22 0 2 1 (p sz) c_46_19 rfl ⟨Nat.le_of_ble_eq_true rfl, Nat.le_of_ble_eq_true rfl⟩ rfl (hG sz (by omega)).1.1 [.ref (p sz), .ref h] rfl rfl [some (.ref (p sz)), some (.ref h)] rfl rfl (t_gcopy (hG sz (by omega)).1 hX.1 (by omega)) ?_
    intro M1 ⟨hg1, hs1⟩
    have h35n : M1.1 35 = sO sz li := (hs1.1 35 (by omega)).trans h35
    have h36n : M1.1 36 = jqc p := (hs1.1 36 (by omega)).trans h36
    have h37n : M1.1 37 = .inl (0, 12, .inl (ja ids)) := (hs1.1 37 (by omega)).trans h37
    show jZ _ _ _ _ [] _ _
    refine z_go 23 _ [.ref 35] _ c_46_22 rfl ?_
    refine z_getf (v := .ref 37) 26 c_46_23 rfl h35n rfl ?_
    refine z_go 27 _ [.ref 35, .ref 37] _ c_46_26 rfl ?_
    refine z_getf (v := .int (jn sz)) 30 c_46_27 rfl h35n rfl ?_
    refine z_go 31 _ [.int (jn id), .int (jn sz), .ref 37] _ c_46_30 rfl ?_
    refine z_iast (M' := jm [(37, .inl (0, 12, .inl (ja (nu ids sz id))))] M1) 32 c_46_31 rfl h37n (by omega) (by omega) (by rw [ja_upd]; exact rfl) ?_
    refine z_go 33 _ [.ref 35] _ c_46_32 rfl ?_
    refine z_go 34 _ [.ref 35, .ref 35] _ c_46_33 rfl ?_
    refine z_getf (v := .int (jn sz)) 37 c_46_34 rfl h35n rfl ?_
    refine z_go 38 _ [.int (jn 1), .int (jn sz), .ref 35] _ c_46_37 rfl ?_
    refine z_go 39 _ [.int ((jn sz) + (jn 1)), .ref 35] _ c_46_38 rfl ?_
    refine z_v (jn_add _ _) ?_
    refine z_putf (M' := jm [(35, sO (sz + 1) li), (37, .inl (0, 12, .inl (ja (nu ids sz id))))] M1) 42 c_46_39 rfl h35n (rfl) (Nat.le_of_ble_eq_true rfl) rfl ?_
    refine z_go 43 _ [.ref 35] _ c_46_42 rfl ?_
    refine z_go 44 _ [.int (jn id), .ref 35] _ c_46_43 rfl ?_
    refine z_putf (M' := jm [(35, sO (sz + 1) id), (37, .inl (0, 12, .inl (ja (nu ids sz id))))] M1) 47 c_46_44 rfl rfl (rfl) (Nat.le_of_ble_eq_true rfl) (jm_w rfl) ?_
    refine z_ret c_46_47 ?_
    rw [sp_cpy_z hX.2.1 (hG sz (by omega)).2.1, sp_cpy_z hX.2.2.1 (hG sz (by omega)).2.2.1, sp_cpy_z hX.2.2.2 (hG sz (by omega)).2.2.2] at hg1
    have hw : ∀ k, 38 ≤ k → (jm [(35, sO (sz + 1) id), (37, .inl (0, 12, .inl (ja (nu ids sz id))))] M1).1 k = M1.1 k := fun k hk => (if_neg (by omega)).trans (if_neg (by omega))
    refine ⟨rfl, ⟨rfl, h36n, rfl, hp, hij, fun s hs => ?_⟩, ?_⟩
    · by_cases e : s = sz
      · subst e
        rw [nu_at]
        exact jgr_fr (M := M1) ⟨hg1, hX.2⟩ fun k a b => hw k (by omega)
      · have hp1 := hp s hs
        have hne : p s ≠ p sz := fun q => e (hij s sz hs (by omega) q)
        rw [nu, if_neg e]
        exact jgr_fr (hG s hs) fun k a b => (hw k (by omega)).trans (hs1.1 k (by omega))
    · exact ⟨fun k hk => ((if_neg (by omega)).trans (if_neg (by omega))).trans (hs1.1 k (by omega)), hs1.2⟩
  · omega
theorem t_lclear {d id : Nat} {mk rm : Bool} {M : jx_M} (h86 : M.1 86 = lO mk rm id) : jZ d 12 0 [some (.ref 86)] [] M (jR none (jm [(86, lO false false 0)] M)) := by
  refine z_go 1 _ [.ref 86] _ c_12_0 rfl ?_
  refine z_go 2 _ [.int (jn 0), .ref 86] _ c_12_1 rfl ?_
  refine z_putf (M' := jm [(86, lO false rm id)] M) 5 c_12_2 rfl h86 (by decide) (Nat.le_of_ble_eq_true rfl) rfl ?_
  refine z_go 6 _ [.ref 86] _ c_12_5 rfl ?_
  refine z_go 7 _ [.int (jn 0), .ref 86] _ c_12_6 rfl ?_
  refine z_putf (M' := jm [(86, lO false false id)] M) 10 c_12_7 rfl rfl (by decide) (Nat.le_of_ble_eq_true rfl) (jm_w rfl) ?_
  refine z_go 11 _ [.ref 86] _ c_12_10 rfl ?_
  refine z_go 12 _ [.int (jn 0), .ref 86] _ c_12_11 rfl ?_
  refine z_putf (M' := jm [(86, lO false false 0)] M) 15 c_12_12 rfl rfl (rfl) (Nat.le_of_ble_eq_true rfl) (jm_w rfl) ?_
  refine z_ret c_12_15 ?_
  exact ⟨rfl, rfl⟩
theorem t_lwr1 {d id id2 : Nat} {mk rm : Bool} {M : jx_M} (h86 : M.1 86 = lO mk rm id) : jZ d 13 0 [some (.ref 86), some (.int (jb true)), some (.int (jn id2)), some (.ref 28)] [] M (jR none (jm [(86, lO mk true id2)] M)) := by
  refine z_go 1 _ [.ref 86] _ c_13_0 rfl ?_
  refine z_go 2 _ [.int (jb true), .ref 86] _ c_13_1 rfl ?_
  refine z_putf (M' := jm [(86, lO mk true id)] M) 5 c_13_2 rfl h86 (jb_ok) (Nat.le_of_ble_eq_true rfl) rfl ?_
  refine z_go 6 _ [.ref 86] _ c_13_5 rfl ?_
  refine z_go 7 _ [.int (jn id2), .ref 86] _ c_13_6 rfl ?_
  refine z_putf (M' := jm [(86, lO mk true id2)] M) 10 c_13_7 rfl rfl (rfl) (Nat.le_of_ble_eq_true rfl) (jm_w rfl) ?_
  refine z_go 11 _ [.ref 86] _ c_13_10 rfl ?_
  refine z_getf (v := .int (jb true)) 14 c_13_11 rfl rfl rfl ?_
  refine z_ifne 25 17 c_13_14 rfl jb_t (fun h => absurd h (by decide)) (fun _ => ?_)
  refine z_ret c_13_25 ?_
  exact ⟨rfl, rfl⟩
theorem t_lwr0 {d id id2 : Nat} {mk rm : Bool} {M : jx_M} (h86 : M.1 86 = lO mk rm id) {X Y : GR} (hX : jgr M 28 X) (hY : jgr M 87 Y) : jZ (d + 1) 13 0 [some (.ref 86), some (.int (jb false)), some (.int (jn id2)), some (.ref 28)] [] M (jV none fun M' => M'.1 86 = lO mk false id2 ∧ jgr M' 87 X ∧ sm 86 90 M M') := by
  refine z_go 1 _ [.ref 86] _ c_13_0 rfl ?_
  refine z_go 2 _ [.int (jb false), .ref 86] _ c_13_1 rfl ?_
  refine z_putf (M' := jm [(86, lO mk false id)] M) 5 c_13_2 rfl h86 (jb_ok) (Nat.le_of_ble_eq_true rfl) rfl ?_
  refine z_go 6 _ [.ref 86] _ c_13_5 rfl ?_
  refine z_go 7 _ [.int (jn id2), .ref 86] _ c_13_6 rfl ?_
  refine z_putf (M' := jm [(86, lO mk false id2)] M) 10 c_13_7 rfl rfl (rfl) (Nat.le_of_ble_eq_true rfl) (jm_w rfl) ?_
  refine z_go 11 _ [.ref 86] _ c_13_10 rfl ?_
  refine z_getf (v := .int (jb false)) 14 c_13_11 rfl rfl rfl ?_
  refine z_ifne 25 17 c_13_14 rfl jb_t (fun _ => ?_) (fun h => absurd rfl h)
  refine z_go 18 _ [.ref 86] _ c_13_17 rfl ?_
  refine z_getf (v := .ref 87) 21 c_13_18 rfl rfl rfl ?_
  refine z_go 22 _ [.ref 28, .ref 87] _ c_13_21 rfl ?_
  have hY1 : jgr (jm [(86, lO mk false id2)] M) 87 Y := jgr_fr hY fun k a b => if_neg (by omega)
  have hX1 : jgr (jm [(86, lO mk false id2)] M) 28 X := jgr_fr hX fun k a b => if_neg (by omega)
  refine z_callvV 25 0 2 1 87 c_13_22 rfl ⟨Nat.le_of_ble_eq_true rfl, Nat.le_of_ble_eq_true rfl⟩ rfl hY.1.1 [.ref 87, .ref 28] rfl rfl [some (.ref 87), some (.ref 28)] rfl rfl (t_gcopy hY1.1 hX1.1 (by omega)) ?_
  intro M1 ⟨hg1, hs1⟩
  show jZ _ _ _ _ [] _ _
  refine z_ret c_13_25 ?_
  rw [sp_cpy_z hX.2.1 hY.2.1, sp_cpy_z hX.2.2.1 hY.2.2.1, sp_cpy_z hX.2.2.2 hY.2.2.2] at hg1
  exact ⟨rfl, (hs1.1 86 (by omega)).trans rfl, ⟨hg1, hX.2⟩, fun k hk => (hs1.1 k (by omega)).trans (if_neg (by omega)), hs1.2⟩
