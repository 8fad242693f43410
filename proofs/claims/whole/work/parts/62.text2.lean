/-! THE REGISTRY: a text read, or thrown back; printed by wip/whole/p62.py -/
theorem c_62_0 : jx_cd 62 0 = some (o_ald 0 1) := rfl
theorem c_62_1 : jx_cd 62 1 = some (o_callv 5 63 0) := rfl
theorem c_62_4 : jx_cd 62 4 = some (o_ald 0 1) := rfl
theorem c_62_5 : jx_cd 62 5 = some (o_getf 5 2) := rfl
theorem c_62_8 : jx_cd 62 8 = some (o_ald 0 1) := rfl
theorem c_62_9 : jx_cd 62 9 = some (o_getf 5 0) := rfl
theorem c_62_12 : jx_cd 62 12 = some (o_ald 0 1) := rfl
theorem c_62_13 : jx_cd 62 13 = some (o_getf 5 1) := rfl
theorem c_62_16 : jx_cd 62 16 = some (o_ild 1 1) := rfl
theorem c_62_17 : jx_cd 62 17 = some (o_callv 3 23 3) := rfl
theorem c_62_20 : jx_cd 62 20 = some (o_ald 0 1) := rfl
theorem c_62_21 : jx_cd 62 21 = some (o_getf 5 2) := rfl
theorem c_62_24 : jx_cd 62 24 = some (o_callv 3 24 0) := rfl
theorem c_62_27 : jx_cd 62 27 = some (o_ifeq 40) := rfl
theorem c_62_30 : jx_cd 62 30 = some (o_ald 0 1) := rfl
theorem c_62_31 : jx_cd 62 31 = some (o_getf 5 2) := rfl
theorem c_62_34 : jx_cd 62 34 = some (o_callv 3 41 0) := rfl
theorem c_62_37 : jx_cd 62 37 = some (o_ifeq 50) := rfl
theorem c_62_40 : jx_cd 62 40 = some (o_thr 8) := rfl
theorem c_62_50 : jx_cd 62 50 = some (o_ald 0 1) := rfl
theorem c_62_51 : jx_cd 62 51 = some (o_getf 5 2) := rfl
theorem c_62_54 : jx_cd 62 54 = some (o_getf 3 6) := rfl
theorem c_62_57 : jx_cd 62 57 = some (o_push (.int 10) 2) := rfl
theorem c_62_59 : jx_cd 62 59 = some (o_ile 72) := rfl
theorem c_62_62 : jx_cd 62 62 = some (o_thr 9) := rfl
theorem c_62_72 : jx_cd 62 72 = some (o_ald 0 1) := rfl
theorem c_62_73 : jx_cd 62 73 = some (o_getf 5 2) := rfl
theorem c_62_76 : jx_cd 62 76 = some (o_ald 0 1) := rfl
theorem c_62_77 : jx_cd 62 77 = some (o_getf 5 3) := rfl
theorem c_62_80 : jx_cd 62 80 = some (o_callv 3 42 1) := rfl
theorem c_62_83 : jx_cd 62 83 = some (o_ild 1 1) := rfl
theorem c_62_84 : jx_cd 62 84 = some (o_ifne 114) := rfl
theorem c_62_87 : jx_cd 62 87 = some (o_ald 0 1) := rfl
theorem c_62_88 : jx_cd 62 88 = some (o_getf 5 3) := rfl
theorem c_62_91 : jx_cd 62 91 = some (o_ald 0 1) := rfl
theorem c_62_92 : jx_cd 62 92 = some (o_getf 5 2) := rfl
theorem c_62_95 : jx_cd 62 95 = some (o_getf 3 5) := rfl
theorem c_62_98 : jx_cd 62 98 = some (o_call 111 2) := rfl
theorem c_62_101 : jx_cd 62 101 = some (o_ifne 114) := rfl
theorem c_62_104 : jx_cd 62 104 = some (o_thr 10) := rfl
theorem c_62_114 : jx_cd 62 114 = some (o_ret) := rfl
theorem c_63_0 : jx_cd 63 0 = some (o_ald 0 1) := rfl
theorem c_63_1 : jx_cd 63 1 = some (o_getf 5 10) := rfl
theorem c_63_4 : jx_cd 63 4 = some (o_ifeq 17) := rfl
theorem c_63_7 : jx_cd 63 7 = some (o_thr 7) := rfl
theorem c_63_17 : jx_cd 63 17 = some (o_ret) := rfl
/-- the memory with an exception of class ci made -/
def jth (ci : Nat) (M : jx_M) : jx_M := (jx_up M.1 M.2.1 (.inr (ci, [])), M.2.1 + 1, M.2.2.1 - 1, M.2.2.2 - 6)
/-- an end by an exception of class ci -/
def jT (ci : Nat) (Q : jx_M → Prop) : jx_R → jx_M → Prop := fun r M' => ∃ M1, r = .inr M1.2.1 ∧ M' = jth ci M1 ∧ Q M1
theorem jT_mono {d mi pc ci : Nat} {L : jx_L} {st : List Value} {M : jx_M} {Q Q' : jx_M → Prop} (h : jZ d mi pc L st M (jT ci Q)) (k : ∀ M1, Q M1 → Q' M1) : jZ d mi pc L st M (jT ci Q') := h.mono fun _ _ ⟨M1, h1, h2, h3⟩ => ⟨M1, h1, h2, k M1 h3⟩
section ZT
variable {d mi pc : Nat} {L : jx_L} {st : List Value} {M : jx_M} {post : jx_R → jx_M → Prop}
theorem z_thr {ci : Nat} (hc : jx_cd mi pc = some (o_thr ci)) (h1 : 1 ≤ M.2.2.1) (h6 : 6 ≤ M.2.2.2) (hs : st.length ≤ 4) (k : post (.inr M.2.1) (jth ci M)) : jZ d mi pc L st M post := jx_fin (P := jx_PR) hc (by unfold o_thr jx_pu; rw [if_pos hs, if_pos ⟨h1, h6⟩]; rfl) k
theorem z_callvT (ci ce n : Nat) {c : Nat} {Q : jx_M → Prop} (a : Nat) {fs : List Value} (hc : jx_cd mi pc = some (o_callv ci ce n)) (hn : n < st.length ∧ st.length ≤ n + 5) (hg : st.getD n .null = .ref a) (hM : M.1 a = .inr (ci, fs)) (as : List Value) (ha : (st.take (n + 1)).reverse = as) (L' : jx_L) (hen : jx_en as (jx_ml ce) = L') (hl : L'.length = jx_ml ce) (hmi : ¬ (mi = 117 ∨ mi = 118 ∨ mi = 119 ∨ mi = 120)) (hz : jZ d ce 0 L' [] M (jT c Q)) (kk : ∀ M1, Q M1 → post (.inr M1.2.1) (jth c M1)) : jZ (d + 1) mi pc L st M post := by
  refine jx_do (P := jx_PR) hc (by unfold o_callv; rw [if_pos hn, hg]; dsimp only; rw [hM]; dsimp only; rw [if_pos rfl, ha]) (by show (jx_en as (jx_ml ce)).length = jx_ml ce; rw [hen, hl]) ?_
  show jx_Z jx_PR d ce 0 (jx_en as (jx_ml ce)) [] M _
  rw [hen]
  refine hz.mono fun r1 M1 h => ?_
  obtain ⟨M2, rfl, rfl, h3⟩ := h
  dsimp only
  have e : jx_hs mi = [] := jx_hs_nil hmi
  rw [e]
  exact kk M2 h3
end ZT
/-- room for an exception -/
def jB1 (M : jx_M) : Prop := 1 ≤ M.2.2.1 ∧ 6 ≤ M.2.2.2
theorem jB1_e {M M' : jx_M} (h : jB1 M) (e : M'.2 = M.2) : jB1 M' := by unfold jB1; rw [e]; exact h
/-- the reader, its graph and nothing else -/
def fR (M M' : jx_M) : Prop := (∀ k, k < 18 ∨ 31 < k → M'.1 k = M.1 k) ∧ M'.2 = M.2
theorem fR_r (M : jx_M) : fR M M := ⟨fun _ _ => rfl, rfl⟩
theorem fR.tr {M M1 M2 : jx_M} (h : fR M M1) (k : fR M1 M2) : fR M M2 := ⟨fun q hq => (k.1 q hq).trans (h.1 q hq), k.2.trans h.2⟩
theorem fR_s {M M1 : jx_M} (h : same M M1) : fR M M1 := ⟨fun q hq => h.1 q (by omega), h.2⟩
theorem fR_g {M M1 : jx_M} (h : sameG 28 M M1) : fR M M1 := ⟨fun q hq => h.1 q (by omega), h.2⟩
theorem rSh_fr {M M1 : jx_M} (h : rSh M) (hs : ∀ k, 18 ≤ k → k ≤ 27 → M1.1 k = M.1 k) : rSh M1 := by
  obtain ⟨tx, ln, pt, ps, sz, cs, wr, B, br, dp, ⟨h18, h19, h20, h21, h22, h23, h24, h25, h26, h27⟩, hq⟩ := h
  exact ⟨tx, ln, pt, ps, sz, cs, wr, B, br, dp, ⟨(hs _ (by decide) (by decide)).trans h18, (hs _ (by decide) (by decide)).trans h19, (hs _ (by decide) (by decide)).trans h20, (hs _ (by decide) (by decide)).trans h21, (hs _ (by decide) (by decide)).trans h22, (hs _ (by decide) (by decide)).trans h23, (hs _ (by decide) (by decide)).trans h24, (hs _ (by decide) (by decide)).trans h25, (hs _ (by decide) (by decide)).trans h26, (hs _ (by decide) (by decide)).trans h27⟩, hq⟩
theorem rA_sh {M : jx_M} {tx : Nat → Nat} {ln : Nat} {pt : Bool} {x : Nat × (Nat → Nat) × (Nat → Option Nat) × CB} (ht : ∀ j, tx j < 128) (h : rQ tx ln pt x M) : rSh M := by
  obtain ⟨ps, br, dp, h1, h2, h3, h4⟩ := h
  exact ⟨tx, ln, pt, ps, x.1, x.2.1, x.2.2.1, x.2.2.2, br, dp, h1, ht, h2, h3, h4⟩
/-- the graph of what was read: n atoms A with the bonds bm, the codes by enc -/
def gA (enc : MA → Nat) (X : GR) (n : Nat) (A : Nat → MA) (bm : Nat → Nat) : Prop := X.1 = n ∧ n ≤ 10 ∧ (∀ j, j < n → X.2.2.1 j = enc (A j)) ∧ (∀ i j, i < n → j < n → X.2.2.2.1 (i * 10 + j) = bm (40 * i + j)) ∧ gN n X.2.2.2.1 X.2.2.2.2 ∧ (gEs n X.2.2.2.1).length = 2 * X.2.1 ∧ (∀ j, X.2.2.2.2 j < 1024) ∧ (∀ j, X.2.2.2.1 j < 6) ∧ ∀ j, n ≤ j → X.2.2.1 j = 0
/-- a text's length, and what the reference has left from earlier -/
theorem sp_here_cpy {f g : Nat → Nat} {n p : Nat} : sp_here (sp_cpy f g n) n p = sp_here f n p := by
  unfold sp_here sp_cpy
  split
  · rfl
  · rfl
theorem sp_list_tx {tx tx' : Nat → Nat} {ln : Nat} (h : ∀ p, sp_here tx ln p = sp_here tx' ln p) : ∀ {k ps el : Nat}, sp_list tx ln k ps el = sp_list tx' ln k ps el := by
  intro k
  induction k with
  | zero => intro ps el; rw [sp_list, sp_list, h]
  | succ k ih =>
    intro ps el
    rw [sp_list, sp_list, h, h]
    split
    · split
      · rfl
      · exact ih
    · rfl
theorem sp_atom_tx {tx tx' : Nat → Nat} {ln : Nat} (h : ∀ p, sp_here tx ln p = sp_here tx' ln p) {pt : Bool} {ps : Nat} : sp_atom tx ln pt ps = sp_atom tx' ln pt ps := by
  unfold sp_atom sp_brk
  simp only [h, sp_list_tx h]
theorem sp_clo_tx {tx tx' : Nat → Nat} {ln : Nat} (h : ∀ p, sp_here tx ln p = sp_here tx' ln p) {pt : Bool} {cs : Nat → Nat} {a : Nat} : ∀ {k ps : Nat} {B : CB}, sp_clo tx ln pt cs a k ps B = sp_clo tx' ln pt cs a k ps B := by
  intro k
  induction k with
  | zero => intro ps B; rfl
  | succ k ih =>
    intro ps B
    rw [sp_clo, sp_clo]
    simp only [h, ih]
theorem sp_pe_tx {tx tx' : Nat → Nat} {ln : Nat} (h : ∀ p, sp_here tx ln p = sp_here tx' ln p) {br : Nat → Nat} : ∀ {k ps dp o : Nat}, sp_pe tx ln br k ps dp o = sp_pe tx' ln br k ps dp o := by
  intro k
  induction k with
  | zero => intro ps dp o; rfl
  | succ k ih =>
    intro ps dp o
    rw [sp_pe, sp_pe, h, ih]
theorem sp_rd_tx {tx tx' : Nat → Nat} {ln : Nat} (h : ∀ p, sp_here tx ln p = sp_here tx' ln p) {pt : Bool} : ∀ {k : Nat} {ow : Option Nat} {ps sz : Nat} {cs : Nat → Nat} {wr : Nat → Option Nat} {B : CB} {br : Nat → Nat} {dp : Nat}, sp_rd tx ln pt k ow ps sz cs wr B br dp = sp_rd tx' ln pt k ow ps sz cs wr B br dp := by
  intro k
  induction k with
  | zero => intros; rfl
  | succ k ih =>
    intro ow ps sz cs wr B br dp
    have e1 : sp_p1 tx ln pt ow ps = sp_p1 tx' ln pt ow ps := by
      unfold sp_p1
      rw [h]
    have e2 : sp_l1 tx ln pt ow ps = sp_l1 tx' ln pt ow ps := by
      unfold sp_l1
      rw [h]
    have e3 : ∀ p br dp o, sp_st tx ln p br dp o = sp_st tx' ln p br dp o := by
      intro p br dp o
      unfold sp_st
      rw [h]
    rw [sp_rd, sp_rd, e1, e2, sp_atom_tx h]
    simp only [sp_clo_tx h, sp_pe_tx h, e3, ih]
/-- what the class reads, told by the reference's own reading from any remains -/
theorem rd_any {tx T : Nat → Nat} {ln : Nat} (hl : ln ≤ 40) (hT : ∀ p, sp_here T ln p = sp_here tx ln p) {pt : Bool} {cs : Nat → Nat} {wr : Nat → Option Nat} {bf bs bk ol : Nat → Nat} {oa : Nat → Option Nat} {br : Nat → Nat} (A : Nat → MA) (bm : Nat → Nat) (oa' : Nat → Option Nat) (ol' bk' : Nat → Nat) :
    match sm_rd tx ln pt 40 none 0 0 A bm (sp_none oa' 10) ol' bk' 0 with
    | some (n, A2, bm2) => ∃ cs2 wr2 B2, sp_rd T ln pt 40 none 0 0 cs wr (bf, bs, bk, 0, sp_none oa 10, ol) br 0 = some (n, cs2, wr2, B2) ∧ sp_op B2.2.2.2.2.1 9 1 = false ∧ RAt pt n cs2 wr2 A2 ∧ RB (kOf pt) n bm2 B2.1 B2.2.1 B2.2.2.1 B2.2.2.2.1 ∧ n ≤ 40
    | none => sp_rd T ln pt 40 none 0 0 cs wr (bf, bs, bk, 0, sp_none oa 10, ol) br 0 = none ∨ ∃ x, sp_rd T ln pt 40 none 0 0 cs wr (bf, bs, bk, 0, sp_none oa 10, ol) br 0 = some x ∧ sp_op x.2.2.2.2.2.2.2.1 9 1 = true := by
  rw [sp_rd_tx hT]
  refine rd_rel hl (fun {p x hy r} q => sp_atom_le q) (by decide) (by omega) (by omega) (Nat.le_refl _) (Nat.le_refl _) (Nat.le_refl _) (fun o q => (by cases q)) (fun j q => by omega) (fun j q => by omega) ⟨fun t q => by exact absurd q (Nat.not_lt_zero t), fun t q => by exact absurd q (Nat.not_lt_zero t), fun a b q => by omega⟩ (fun d hd => ?_)
  have e1 : sp_none oa 10 d = none := if_pos hd
  have e2 : sp_none oa' 10 d = none := if_pos hd
  exact ⟨e1.trans e2.symm, fun k q => by have q : sp_none oa 10 d = some k := q; rw [e1] at q; cases q⟩
theorem RB_lt {kk n : Nat} {bm bf bs bk : Nat → Nat} {bc : Nat} (hk : 1 ≤ kk) (h : RB kk n bm bf bs bk bc) (a b : Nat) (ha : a < n) (hb : b < n) : bm (40 * a + b) < kk := by
  by_cases h0 : bm (40 * a + b) = 0
  · omega
  · obtain ⟨t, t1, t2, t3⟩ := h.2.2 a b ha hb h0
    obtain ⟨q1, q2⟩ := h.2.1 t t1
    rcases t2 with ⟨e1, e2⟩ | ⟨e1, e2⟩
    · rw [← e1, ← e2, q1]; exact t3
    · rw [← e1, ← e2, q2]; exact t3
/-- the graph that is filled -/
def sp_fi (x : Nat × (Nat → Nat) × (Nat → Option Nat) × CB) : GR := (x.1, x.2.2.2.2.2.2.1, sp_ad x.2.1 x.1 0 (fun _ => 0), (sp_jn x.2.2.2.1 x.2.2.2.2.1 x.2.2.2.2.2.1 x.2.2.2.2.2.2.1 0 (fun _ => 0, fun _ => 0)).1, (sp_jn x.2.2.2.1 x.2.2.2.2.1 x.2.2.2.2.2.1 x.2.2.2.2.2.2.1 0 (fun _ => 0, fun _ => 0)).2)
theorem fi_ok {pt : Bool} {kk n : Nat} {cs : Nat → Nat} {wr : Nat → Option Nat} {A : Nat → MA} {bm : Nat → Nat} {B : CB} (hn : n ≤ 10) (hA : RAt pt n cs wr A) (hB : RB kk n bm B.1 B.2.1 B.2.2.1 B.2.2.2.1) : gA encC (sp_fi (n, cs, wr, B)) n A bm ∧ gZ (sp_fi (n, cs, wr, B)) := by
  have hF := sp_jn_ok hn (bf := B.1) (bs := B.2.1) (bk := B.2.2.1) (k := B.2.2.2.1) (i := 0) (by rw [Nat.zero_add]; exact hB.1) gF_0
  rw [Nat.zero_add] at hF
  obtain ⟨f1, f2, f3, f4, f5, f6, f7, f8⟩ := hF
  refine ⟨⟨rfl, hn, fun j hj => ?_, fun i j hi hj => ?_, f1, f2, f5, f6, fun j hj => ?_⟩, fun j hj => ?_, f3, f4⟩
  · show sp_ad cs n 0 _ j = _
    rw [sp_ad_at, if_pos (by omega)]
    exact (hA j hj).1
  · show (sp_jn B.1 B.2.1 B.2.2.1 B.2.2.2.1 0 (fun _ => 0, fun _ => 0)).1 (i * 10 + j) = bm (40 * i + j)
    generalize (sp_jn B.1 B.2.1 B.2.2.1 B.2.2.2.1 0 (fun _ => 0, fun _ => 0)).1 = K at *
    have key : ∀ t, t < B.2.2.2.1 → pr2 (B.1 t) (B.2.1 t) i j → K (i * 10 + j) = bm (40 * i + j) := by
      intro t ht hp
      obtain ⟨g1, g2, g3⟩ := f7 t ht
      obtain ⟨k1, k2⟩ := hB.2.1 t ht
      rcases hp with ⟨e1, e2⟩ | ⟨e1, e2⟩
      · rw [← e1, ← e2, g3, k1]
      · rw [← e1, ← e2, f1.1 _ _ g2 g1, g3, k2]
    by_cases h : K (i * 10 + j) = 0
    · by_cases h2 : bm (40 * i + j) = 0
      · rw [h, h2]
      · obtain ⟨t, t1, t2⟩ := hB.2.2 i j hi hj h2
        exact key t t1 t2.1
    · obtain ⟨t, t1, t2⟩ := f8 i j (by omega) (by omega) h
      exact key t t1 t2
  · show sp_ad cs n 0 _ j = 0
    rw [sp_ad_at, if_neg (by omega)]
  · show sp_ad cs n 0 _ j = 0
    rw [sp_ad_at, if_neg (by omega)]
theorem t_ref0 {d ty hc tf : Nat} {M : jx_M} (h16 : M.1 16 = xO ty hc tf false) : jZ d 63 0 [some (.ref 16)] [] M (jR none M) := by
  refine z_go 1 _ [.ref 16] _ c_63_0 rfl ?_
  refine z_getf (v := .int (jb false)) 4 c_63_1 rfl h16 rfl ?_
  refine z_ifeq 17 7 c_63_4 rfl jb_t (fun _ => ?_) (fun h => absurd rfl h)
  refine z_ret c_63_17 ?_
  exact ⟨rfl, rfl⟩
theorem t_ref1 {d ty hc tf : Nat} {M : jx_M} (h16 : M.1 16 = xO ty hc tf true) (hB : jB1 M) : jZ d 63 0 [some (.ref 16)] [] M (jT 7 fun M1 => M1 = M) := by
  refine z_go 1 _ [.ref 16] _ c_63_0 rfl ?_
  refine z_getf (v := .int (jb true)) 4 c_63_1 rfl h16 rfl ?_
  refine z_ifeq 17 7 c_63_4 rfl jb_t (fun h => absurd h (by decide)) (fun _ => ?_)
  refine z_thr c_63_7 hB.1 hB.2 (by decide) ?_
  exact ⟨M, rfl, rfl, rfl⟩
theorem t_rbD {d ty hc tf : Nat} {pt : Bool} {M : jx_M} (h16 : M.1 16 = xO ty hc tf true) (hB : jB1 M) : jZ (d + 1) 62 0 [some (.ref 16), some (.int (jb pt))] [] M (jT 7 fun M1 => M1 = M) := by
  refine z_go 1 _ [.ref 16] _ c_62_0 rfl ?_
  refine z_callvT 5 63 0 16 c_62_1 ⟨Nat.le_of_ble_eq_true rfl, Nat.le_of_ble_eq_true rfl⟩ rfl h16 [.ref 16] rfl [some (.ref 16)] rfl rfl (by decide) (t_ref1 h16 hB) ?_
  exact fun M1 h => ⟨M1, rfl, rfl, h⟩
theorem t_rb8t {d ty hc tf : Nat} {M : jx_M} {tx : Nat → Nat} {Y : GR} (h16 : M.1 16 = xO ty hc tf false) (h17 : M.1 17 = .inl (1, 40, .inl (ja tx))) (hty : ty ≤ 40) (htx : ∀ j, tx j < 127) (hrs : rSh M) (hY : jgr M 28 Y) (hj : jc M) (hv : M.1 1 = .inl (9, 5, .inl (ja fV))) (hB : jB1 M) (A : Nat → MA) (bm : Nat → Nat) (oa' : Nat → Option Nat) (ol' bk' : Nat → Nat) (hm : sm_rd tx ty true 40 none 0 0 A bm (sp_none oa' 10) ol' bk' 0 = none) : jZ (d + 12) 62 0 [some (.ref 16), some (.int (jb true))] [] M (jT 8 fun M1 => rSh M1 ∧ (∃ Y, jgr M1 28 Y) ∧ fR M M1) := by
  obtain ⟨txo, ln0, pt0, ps0, sz0, cs0, wr0, B0, br0, dp0, hR, ht0, hbr0, hwr0, hI0⟩ := hrs
  obtain ⟨bf, bs, bk, bc0, oa, ol⟩ := B0
  refine z_go 1 _ [.ref 16] _ c_62_0 rfl ?_
  refine z_callv 4 5 63 0 16 c_62_1 rfl ⟨Nat.le_of_ble_eq_true rfl, Nat.le_of_ble_eq_true rfl⟩ rfl h16 [.ref 16] rfl rfl [some (.ref 16)] rfl rfl (t_ref0 h16) ?_
  show jZ _ _ _ _ [] _ _
  refine z_go 5 _ [.ref 16] _ c_62_4 rfl ?_
  refine z_getf (v := .ref 18) 8 c_62_5 rfl h16 rfl ?_
  refine z_go 9 _ [.ref 16, .ref 18] _ c_62_8 rfl ?_
  refine z_getf (v := .ref 17) 12 c_62_9 rfl h16 rfl ?_
  refine z_go 13 _ [.ref 16, .ref 17, .ref 18] _ c_62_12 rfl ?_
  refine z_getf (v := .int (jn ty)) 16 c_62_13 rfl h16 rfl ?_
  refine z_go 17 _ [.int (jb true), .int (jn ty), .ref 17, .ref 18] _ c_62_16 rfl ?_
  refine z_callvV 20 3 23 3 18 c_62_17 rfl ⟨Nat.le_of_ble_eq_true rfl, Nat.le_of_ble_eq_true rfl⟩ rfl hR.1 [.ref 18, .ref 17, .int (jn ty), .int (jb true)] rfl rfl [some (.ref 18), some (.ref 17), some (.int (jn ty)), some (.int (jb true))] rfl rfl (t_start (d := d + 10) (q := true) hR h17 hty (fun j => Nat.lt_trans (htx j) (by decide))) ?_
  intro M1 ⟨hR1, hs1⟩
  have hf1 : fR M M1 := fR_s hs1
  have hj1 : jc M1 := hs1.jc hj
  have hT1 : ∀ j, sp_cpy tx txo ty j < 128 := fun j => by unfold sp_cpy; split; exact Nat.lt_trans (htx j) (by decide); exact ht0 j
  have hI1 : cbI (bf, bs, bk, 0, sp_none oa 10, ol) := ⟨Nat.zero_le _, hI0.2.1, hI0.2.2.1, fun j k q => (by have q : sp_none oa 10 j = some k := q; unfold sp_none at q; split at q; cases q; exact hI0.2.2.2.1 j k q), hI0.2.2.2.2⟩
  have hrd := t_rdall (d := d + 4) hty hT1 hbr0 hwr0 hR1 hI1 hj1
  show jZ _ _ _ _ [] _ _
  refine z_go 21 _ [.ref 16] _ c_62_20 rfl ?_
  refine z_getf (v := .ref 18) 24 c_62_21 rfl ((hf1.1 16 (by decide)).trans h16) rfl ?_
  have hany := rd_any (tx := tx) (T := sp_cpy tx txo ty) (ln := ty) hty (fun p => sp_here_cpy) (pt := true) (cs := cs0) (wr := wr0) (bf := bf) (bs := bs) (bk := bk) (ol := ol) (oa := oa) (br := br0) A bm oa' ol' bk'
  rw [hm] at hany
  have hY1 : jgr M1 28 Y := jgr_fr hY fun k a b => hs1.1 k (by omega)
  rcases hany with hn | ⟨x, hx, hop⟩
  · rw [hn] at hrd
    refine z_callvV 27 3 24 0 18 c_62_24 rfl ⟨Nat.le_of_ble_eq_true rfl, Nat.le_of_ble_eq_true rfl⟩ rfl hR1.1 [.ref 18] rfl rfl [some (.ref 18), none, none, none, none] rfl rfl (hrd) ?_
    intro M2 ⟨q1, q2⟩
    have hf2 : fR M M2 := hf1.tr (fR_s q2)
    show jZ _ _ _ _ [.int (jb false)] _ _
    refine z_ifeq 40 30 c_62_27 rfl jb_t (fun _ => ?_) (fun h => absurd rfl h)
    refine z_thr c_62_40 (jB1_e hB hf2.2).1 (jB1_e hB hf2.2).2 (by decide) ?_
    exact ⟨M2, rfl, rfl, q1, ⟨Y, jgr_fr hY1 fun k a b => q2.1 k (by omega)⟩, hf2⟩
  · rw [hx] at hrd
    refine z_callvV 27 3 24 0 18 c_62_24 rfl ⟨Nat.le_of_ble_eq_true rfl, Nat.le_of_ble_eq_true rfl⟩ rfl hR1.1 [.ref 18] rfl rfl [some (.ref 18), none, none, none, none] rfl rfl (hrd) ?_
    intro M2 ⟨q1, q2⟩
    have hf2 : fR M M2 := hf1.tr (fR_s q2)
    have hsh2 := rA_sh hT1 q1
    obtain ⟨ps2, br2, dp2, hR2, hbr2, hwr2, hI2⟩ := q1
    show jZ _ _ _ _ [.int (jb true)] _ _
    refine z_ifeq 40 30 c_62_27 rfl jb_t (fun h => absurd h (by decide)) (fun _ => ?_)
    refine z_go 31 _ [.ref 16] _ c_62_30 rfl ?_
    refine z_getf (v := .ref 18) 34 c_62_31 rfl ((hf2.1 16 (by decide)).trans h16) rfl ?_
    refine z_callv 37 3 41 0 18 c_62_34 rfl ⟨Nat.le_of_ble_eq_true rfl, Nat.le_of_ble_eq_true rfl⟩ rfl hR2.1 [.ref 18] rfl rfl [some (.ref 18), none] rfl rfl (t_op hR2.1 hR2.2.2.2.2.2.2.2.1 hI2.2.2.2.1) ?_
    show jZ _ _ _ _ [.int (jb (sp_op x.2.2.2.2.2.2.2.1 9 1))] _ _
    rw [hop]
    show jZ _ _ _ _ [.int (jb true)] _ _
    refine z_ifeq 50 40 c_62_37 rfl jb_t (fun h => absurd h (by decide)) (fun _ => ?_)
    refine z_thr c_62_40 (jB1_e hB hf2.2).1 (jB1_e hB hf2.2).2 (by decide) ?_
    exact ⟨M2, rfl, rfl, hsh2, ⟨Y, jgr_fr hY1 fun k a b => q2.1 k (by omega)⟩, hf2⟩
theorem t_rb8f {d ty hc tf : Nat} {M : jx_M} {tx : Nat → Nat} {Y : GR} (h16 : M.1 16 = xO ty hc tf false) (h17 : M.1 17 = .inl (1, 40, .inl (ja tx))) (hty : ty ≤ 40) (htx : ∀ j, tx j < 127) (hrs : rSh M) (hY : jgr M 28 Y) (hj : jc M) (hv : M.1 1 = .inl (9, 5, .inl (ja fV))) (hB : jB1 M) (A : Nat → MA) (bm : Nat → Nat) (oa' : Nat → Option Nat) (ol' bk' : Nat → Nat) (hm : sm_rd tx ty false 40 none 0 0 A bm (sp_none oa' 10) ol' bk' 0 = none) : jZ (d + 12) 62 0 [some (.ref 16), some (.int (jb false))] [] M (jT 8 fun M1 => rSh M1 ∧ (∃ Y, jgr M1 28 Y) ∧ fR M M1) := by
  obtain ⟨txo, ln0, pt0, ps0, sz0, cs0, wr0, B0, br0, dp0, hR, ht0, hbr0, hwr0, hI0⟩ := hrs
  obtain ⟨bf, bs, bk, bc0, oa, ol⟩ := B0
  refine z_go 1 _ [.ref 16] _ c_62_0 rfl ?_
  refine z_callv 4 5 63 0 16 c_62_1 rfl ⟨Nat.le_of_ble_eq_true rfl, Nat.le_of_ble_eq_true rfl⟩ rfl h16 [.ref 16] rfl rfl [some (.ref 16)] rfl rfl (t_ref0 h16) ?_
  show jZ _ _ _ _ [] _ _
  refine z_go 5 _ [.ref 16] _ c_62_4 rfl ?_
  refine z_getf (v := .ref 18) 8 c_62_5 rfl h16 rfl ?_
  refine z_go 9 _ [.ref 16, .ref 18] _ c_62_8 rfl ?_
  refine z_getf (v := .ref 17) 12 c_62_9 rfl h16 rfl ?_
  refine z_go 13 _ [.ref 16, .ref 17, .ref 18] _ c_62_12 rfl ?_
  refine z_getf (v := .int (jn ty)) 16 c_62_13 rfl h16 rfl ?_
  refine z_go 17 _ [.int (jb false), .int (jn ty), .ref 17, .ref 18] _ c_62_16 rfl ?_
  refine z_callvV 20 3 23 3 18 c_62_17 rfl ⟨Nat.le_of_ble_eq_true rfl, Nat.le_of_ble_eq_true rfl⟩ rfl hR.1 [.ref 18, .ref 17, .int (jn ty), .int (jb false)] rfl rfl [some (.ref 18), some (.ref 17), some (.int (jn ty)), some (.int (jb false))] rfl rfl (t_start (d := d + 10) (q := false) hR h17 hty (fun j => Nat.lt_trans (htx j) (by decide))) ?_
  intro M1 ⟨hR1, hs1⟩
  have hf1 : fR M M1 := fR_s hs1
  have hj1 : jc M1 := hs1.jc hj
  have hT1 : ∀ j, sp_cpy tx txo ty j < 128 := fun j => by unfold sp_cpy; split; exact Nat.lt_trans (htx j) (by decide); exact ht0 j
  have hI1 : cbI (bf, bs, bk, 0, sp_none oa 10, ol) := ⟨Nat.zero_le _, hI0.2.1, hI0.2.2.1, fun j k q => (by have q : sp_none oa 10 j = some k := q; unfold sp_none at q; split at q; cases q; exact hI0.2.2.2.1 j k q), hI0.2.2.2.2⟩
  have hrd := t_rdall (d := d + 4) hty hT1 hbr0 hwr0 hR1 hI1 hj1
  show jZ _ _ _ _ [] _ _
  refine z_go 21 _ [.ref 16] _ c_62_20 rfl ?_
  refine z_getf (v := .ref 18) 24 c_62_21 rfl ((hf1.1 16 (by decide)).trans h16) rfl ?_
  have hany := rd_any (tx := tx) (T := sp_cpy tx txo ty) (ln := ty) hty (fun p => sp_here_cpy) (pt := false) (cs := cs0) (wr := wr0) (bf := bf) (bs := bs) (bk := bk) (ol := ol) (oa := oa) (br := br0) A bm oa' ol' bk'
  rw [hm] at hany
  have hY1 : jgr M1 28 Y := jgr_fr hY fun k a b => hs1.1 k (by omega)
  rcases hany with hn | ⟨x, hx, hop⟩
  · rw [hn] at hrd
    refine z_callvV 27 3 24 0 18 c_62_24 rfl ⟨Nat.le_of_ble_eq_true rfl, Nat.le_of_ble_eq_true rfl⟩ rfl hR1.1 [.ref 18] rfl rfl [some (.ref 18), none, none, none, none] rfl rfl (hrd) ?_
    intro M2 ⟨q1, q2⟩
    have hf2 : fR M M2 := hf1.tr (fR_s q2)
    show jZ _ _ _ _ [.int (jb false)] _ _
    refine z_ifeq 40 30 c_62_27 rfl jb_t (fun _ => ?_) (fun h => absurd rfl h)
    refine z_thr c_62_40 (jB1_e hB hf2.2).1 (jB1_e hB hf2.2).2 (by decide) ?_
    exact ⟨M2, rfl, rfl, q1, ⟨Y, jgr_fr hY1 fun k a b => q2.1 k (by omega)⟩, hf2⟩
  · rw [hx] at hrd
    refine z_callvV 27 3 24 0 18 c_62_24 rfl ⟨Nat.le_of_ble_eq_true rfl, Nat.le_of_ble_eq_true rfl⟩ rfl hR1.1 [.ref 18] rfl rfl [some (.ref 18), none, none, none, none] rfl rfl (hrd) ?_
    intro M2 ⟨q1, q2⟩
    have hf2 : fR M M2 := hf1.tr (fR_s q2)
    have hsh2 := rA_sh hT1 q1
    obtain ⟨ps2, br2, dp2, hR2, hbr2, hwr2, hI2⟩ := q1
    show jZ _ _ _ _ [.int (jb true)] _ _
    refine z_ifeq 40 30 c_62_27 rfl jb_t (fun h => absurd h (by decide)) (fun _ => ?_)
    refine z_go 31 _ [.ref 16] _ c_62_30 rfl ?_
    refine z_getf (v := .ref 18) 34 c_62_31 rfl ((hf2.1 16 (by decide)).trans h16) rfl ?_
    refine z_callv 37 3 41 0 18 c_62_34 rfl ⟨Nat.le_of_ble_eq_true rfl, Nat.le_of_ble_eq_true rfl⟩ rfl hR2.1 [.ref 18] rfl rfl [some (.ref 18), none] rfl rfl (t_op hR2.1 hR2.2.2.2.2.2.2.2.1 hI2.2.2.2.1) ?_
    show jZ _ _ _ _ [.int (jb (sp_op x.2.2.2.2.2.2.2.1 9 1))] _ _
    rw [hop]
    show jZ _ _ _ _ [.int (jb true)] _ _
    refine z_ifeq 50 40 c_62_37 rfl jb_t (fun h => absurd h (by decide)) (fun _ => ?_)
    refine z_thr c_62_40 (jB1_e hB hf2.2).1 (jB1_e hB hf2.2).2 (by decide) ?_
    exact ⟨M2, rfl, rfl, hsh2, ⟨Y, jgr_fr hY1 fun k a b => q2.1 k (by omega)⟩, hf2⟩
theorem t_rb9t {d ty hc tf : Nat} {M : jx_M} {tx : Nat → Nat} {Y : GR} (h16 : M.1 16 = xO ty hc tf false) (h17 : M.1 17 = .inl (1, 40, .inl (ja tx))) (hty : ty ≤ 40) (htx : ∀ j, tx j < 127) (hrs : rSh M) (hY : jgr M 28 Y) (hj : jc M) (hv : M.1 1 = .inl (9, 5, .inl (ja fV))) (hB : jB1 M) (A : Nat → MA) (bm : Nat → Nat) (oa' : Nat → Option Nat) (ol' bk' : Nat → Nat) {n : Nat} {A2 : Nat → MA} {bm2 : Nat → Nat} (hm : sm_rd tx ty true 40 none 0 0 A bm (sp_none oa' 10) ol' bk' 0 = some (n, A2, bm2)) (hn : 10 < n) : jZ (d + 12) 62 0 [some (.ref 16), some (.int (jb true))] [] M (jT 9 fun M1 => rSh M1 ∧ (∃ Y, jgr M1 28 Y) ∧ fR M M1) := by
  obtain ⟨txo, ln0, pt0, ps0, sz0, cs0, wr0, B0, br0, dp0, hR, ht0, hbr0, hwr0, hI0⟩ := hrs
  obtain ⟨bf, bs, bk, bc0, oa, ol⟩ := B0
  refine z_go 1 _ [.ref 16] _ c_62_0 rfl ?_
  refine z_callv 4 5 63 0 16 c_62_1 rfl ⟨Nat.le_of_ble_eq_true rfl, Nat.le_of_ble_eq_true rfl⟩ rfl h16 [.ref 16] rfl rfl [some (.ref 16)] rfl rfl (t_ref0 h16) ?_
  show jZ _ _ _ _ [] _ _
  refine z_go 5 _ [.ref 16] _ c_62_4 rfl ?_
  refine z_getf (v := .ref 18) 8 c_62_5 rfl h16 rfl ?_
  refine z_go 9 _ [.ref 16, .ref 18] _ c_62_8 rfl ?_
  refine z_getf (v := .ref 17) 12 c_62_9 rfl h16 rfl ?_
  refine z_go 13 _ [.ref 16, .ref 17, .ref 18] _ c_62_12 rfl ?_
  refine z_getf (v := .int (jn ty)) 16 c_62_13 rfl h16 rfl ?_
  refine z_go 17 _ [.int (jb true), .int (jn ty), .ref 17, .ref 18] _ c_62_16 rfl ?_
  refine z_callvV 20 3 23 3 18 c_62_17 rfl ⟨Nat.le_of_ble_eq_true rfl, Nat.le_of_ble_eq_true rfl⟩ rfl hR.1 [.ref 18, .ref 17, .int (jn ty), .int (jb true)] rfl rfl [some (.ref 18), some (.ref 17), some (.int (jn ty)), some (.int (jb true))] rfl rfl (t_start (d := d + 10) (q := true) hR h17 hty (fun j => Nat.lt_trans (htx j) (by decide))) ?_
  intro M1 ⟨hR1, hs1⟩
  have hf1 : fR M M1 := fR_s hs1
  have hj1 : jc M1 := hs1.jc hj
  have hT1 : ∀ j, sp_cpy tx txo ty j < 128 := fun j => by unfold sp_cpy; split; exact Nat.lt_trans (htx j) (by decide); exact ht0 j
  have hI1 : cbI (bf, bs, bk, 0, sp_none oa 10, ol) := ⟨Nat.zero_le _, hI0.2.1, hI0.2.2.1, fun j k q => (by have q : sp_none oa 10 j = some k := q; unfold sp_none at q; split at q; cases q; exact hI0.2.2.2.1 j k q), hI0.2.2.2.2⟩
  have hrd := t_rdall (d := d + 4) hty hT1 hbr0 hwr0 hR1 hI1 hj1
  show jZ _ _ _ _ [] _ _
  refine z_go 21 _ [.ref 16] _ c_62_20 rfl ?_
  refine z_getf (v := .ref 18) 24 c_62_21 rfl ((hf1.1 16 (by decide)).trans h16) rfl ?_
  have hany := rd_any (tx := tx) (T := sp_cpy tx txo ty) (ln := ty) hty (fun p => sp_here_cpy) (pt := true) (cs := cs0) (wr := wr0) (bf := bf) (bs := bs) (bk := bk) (ol := ol) (oa := oa) (br := br0) A bm oa' ol' bk'
  rw [hm] at hany
  have hY1 : jgr M1 28 Y := jgr_fr hY fun k a b => hs1.1 k (by omega)
  obtain ⟨cs2, wr2, B2, hx, hop, hA2, hB2, hn40⟩ := hany
  obtain ⟨bf2, bs2, bk2, bc2, oa2, ol2⟩ := B2
  rw [hx] at hrd
  refine z_callvV 27 3 24 0 18 c_62_24 rfl ⟨Nat.le_of_ble_eq_true rfl, Nat.le_of_ble_eq_true rfl⟩ rfl hR1.1 [.ref 18] rfl rfl [some (.ref 18), none, none, none, none] rfl rfl (hrd) ?_
  intro M2 ⟨q1, q2⟩
  have hf2 : fR M M2 := hf1.tr (fR_s q2)
  have hsh2 := rA_sh hT1 q1
  have hY2 : jgr M2 28 Y := jgr_fr hY1 fun k a b => q2.1 k (by omega)
  have hj2 : jc M2 := q2.jc hj1
  obtain ⟨ps2, br2, dp2, hR2, hbr2, hwr2, hI2⟩ := q1
  have hR2 : rA M2 (sp_cpy tx txo ty) ty true ps2 n cs2 wr2 (bf2, bs2, bk2, bc2, oa2, ol2) br2 dp2 := hR2
  show jZ _ _ _ _ [.int (jb true)] _ _
  refine z_ifeq 40 30 c_62_27 rfl jb_t (fun h => absurd h (by decide)) (fun _ => ?_)
  refine z_go 31 _ [.ref 16] _ c_62_30 rfl ?_
  refine z_getf (v := .ref 18) 34 c_62_31 rfl ((hf2.1 16 (by decide)).trans h16) rfl ?_
  refine z_callv 37 3 41 0 18 c_62_34 rfl ⟨Nat.le_of_ble_eq_true rfl, Nat.le_of_ble_eq_true rfl⟩ rfl hR2.1 [.ref 18] rfl rfl [some (.ref 18), none] rfl rfl (t_op hR2.1 hR2.2.2.2.2.2.2.2.1 hI2.2.2.2.1) ?_
  show jZ _ _ _ _ [.int (jb (sp_op oa2 9 1))] _ _
  rw [show sp_op oa2 9 1 = false from hop]
  show jZ _ _ _ _ [.int (jb false)] _ _
  refine z_ifeq 50 40 c_62_37 rfl jb_t (fun _ => ?_) (fun h => absurd rfl h)
  refine z_go 51 _ [.ref 16] _ c_62_50 rfl ?_
  refine z_getf (v := .ref 18) 54 c_62_51 rfl ((hf2.1 16 (by decide)).trans h16) rfl ?_
  refine z_getf (v := .int (jn n)) 57 c_62_54 rfl hR2.1 rfl ?_
  refine z_go 59 _ [.int (jn 10), .int (jn n)] _ c_62_57 rfl ?_
  refine z_ile 72 62 c_62_59 rfl (by omega) (by omega) (fun h10 => ?_) (fun h10 => ?_)
  · refine z_thr c_62_62 (jB1_e hB hf2.2).1 (jB1_e hB hf2.2).2 (by decide) ?_
    exact ⟨M2, rfl, rfl, hsh2, ⟨Y, hY2⟩, hf2⟩
  · omega
theorem t_rb9f {d ty hc tf : Nat} {M : jx_M} {tx : Nat → Nat} {Y : GR} (h16 : M.1 16 = xO ty hc tf false) (h17 : M.1 17 = .inl (1, 40, .inl (ja tx))) (hty : ty ≤ 40) (htx : ∀ j, tx j < 127) (hrs : rSh M) (hY : jgr M 28 Y) (hj : jc M) (hv : M.1 1 = .inl (9, 5, .inl (ja fV))) (hB : jB1 M) (A : Nat → MA) (bm : Nat → Nat) (oa' : Nat → Option Nat) (ol' bk' : Nat → Nat) {n : Nat} {A2 : Nat → MA} {bm2 : Nat → Nat} (hm : sm_rd tx ty false 40 none 0 0 A bm (sp_none oa' 10) ol' bk' 0 = some (n, A2, bm2)) (hn : 10 < n) : jZ (d + 12) 62 0 [some (.ref 16), some (.int (jb false))] [] M (jT 9 fun M1 => rSh M1 ∧ (∃ Y, jgr M1 28 Y) ∧ fR M M1) := by
  obtain ⟨txo, ln0, pt0, ps0, sz0, cs0, wr0, B0, br0, dp0, hR, ht0, hbr0, hwr0, hI0⟩ := hrs
  obtain ⟨bf, bs, bk, bc0, oa, ol⟩ := B0
  refine z_go 1 _ [.ref 16] _ c_62_0 rfl ?_
  refine z_callv 4 5 63 0 16 c_62_1 rfl ⟨Nat.le_of_ble_eq_true rfl, Nat.le_of_ble_eq_true rfl⟩ rfl h16 [.ref 16] rfl rfl [some (.ref 16)] rfl rfl (t_ref0 h16) ?_
  show jZ _ _ _ _ [] _ _
  refine z_go 5 _ [.ref 16] _ c_62_4 rfl ?_
  refine z_getf (v := .ref 18) 8 c_62_5 rfl h16 rfl ?_
  refine z_go 9 _ [.ref 16, .ref 18] _ c_62_8 rfl ?_
  refine z_getf (v := .ref 17) 12 c_62_9 rfl h16 rfl ?_
  refine z_go 13 _ [.ref 16, .ref 17, .ref 18] _ c_62_12 rfl ?_
  refine z_getf (v := .int (jn ty)) 16 c_62_13 rfl h16 rfl ?_
  refine z_go 17 _ [.int (jb false), .int (jn ty), .ref 17, .ref 18] _ c_62_16 rfl ?_
  refine z_callvV 20 3 23 3 18 c_62_17 rfl ⟨Nat.le_of_ble_eq_true rfl, Nat.le_of_ble_eq_true rfl⟩ rfl hR.1 [.ref 18, .ref 17, .int (jn ty), .int (jb false)] rfl rfl [some (.ref 18), some (.ref 17), some (.int (jn ty)), some (.int (jb false))] rfl rfl (t_start (d := d + 10) (q := false) hR h17 hty (fun j => Nat.lt_trans (htx j) (by decide))) ?_
  intro M1 ⟨hR1, hs1⟩
  have hf1 : fR M M1 := fR_s hs1
  have hj1 : jc M1 := hs1.jc hj
  have hT1 : ∀ j, sp_cpy tx txo ty j < 128 := fun j => by unfold sp_cpy; split; exact Nat.lt_trans (htx j) (by decide); exact ht0 j
  have hI1 : cbI (bf, bs, bk, 0, sp_none oa 10, ol) := ⟨Nat.zero_le _, hI0.2.1, hI0.2.2.1, fun j k q => (by have q : sp_none oa 10 j = some k := q; unfold sp_none at q; split at q; cases q; exact hI0.2.2.2.1 j k q), hI0.2.2.2.2⟩
  have hrd := t_rdall (d := d + 4) hty hT1 hbr0 hwr0 hR1 hI1 hj1
  show jZ _ _ _ _ [] _ _
  refine z_go 21 _ [.ref 16] _ c_62_20 rfl ?_
  refine z_getf (v := .ref 18) 24 c_62_21 rfl ((hf1.1 16 (by decide)).trans h16) rfl ?_
  have hany := rd_any (tx := tx) (T := sp_cpy tx txo ty) (ln := ty) hty (fun p => sp_here_cpy) (pt := false) (cs := cs0) (wr := wr0) (bf := bf) (bs := bs) (bk := bk) (ol := ol) (oa := oa) (br := br0) A bm oa' ol' bk'
  rw [hm] at hany
  have hY1 : jgr M1 28 Y := jgr_fr hY fun k a b => hs1.1 k (by omega)
  obtain ⟨cs2, wr2, B2, hx, hop, hA2, hB2, hn40⟩ := hany
  obtain ⟨bf2, bs2, bk2, bc2, oa2, ol2⟩ := B2
  rw [hx] at hrd
  refine z_callvV 27 3 24 0 18 c_62_24 rfl ⟨Nat.le_of_ble_eq_true rfl, Nat.le_of_ble_eq_true rfl⟩ rfl hR1.1 [.ref 18] rfl rfl [some (.ref 18), none, none, none, none] rfl rfl (hrd) ?_
  intro M2 ⟨q1, q2⟩
  have hf2 : fR M M2 := hf1.tr (fR_s q2)
  have hsh2 := rA_sh hT1 q1
  have hY2 : jgr M2 28 Y := jgr_fr hY1 fun k a b => q2.1 k (by omega)
  have hj2 : jc M2 := q2.jc hj1
  obtain ⟨ps2, br2, dp2, hR2, hbr2, hwr2, hI2⟩ := q1
  have hR2 : rA M2 (sp_cpy tx txo ty) ty false ps2 n cs2 wr2 (bf2, bs2, bk2, bc2, oa2, ol2) br2 dp2 := hR2
  show jZ _ _ _ _ [.int (jb true)] _ _
  refine z_ifeq 40 30 c_62_27 rfl jb_t (fun h => absurd h (by decide)) (fun _ => ?_)
  refine z_go 31 _ [.ref 16] _ c_62_30 rfl ?_
  refine z_getf (v := .ref 18) 34 c_62_31 rfl ((hf2.1 16 (by decide)).trans h16) rfl ?_
  refine z_callv 37 3 41 0 18 c_62_34 rfl ⟨Nat.le_of_ble_eq_true rfl, Nat.le_of_ble_eq_true rfl⟩ rfl hR2.1 [.ref 18] rfl rfl [some (.ref 18), none] rfl rfl (t_op hR2.1 hR2.2.2.2.2.2.2.2.1 hI2.2.2.2.1) ?_
  show jZ _ _ _ _ [.int (jb (sp_op oa2 9 1))] _ _
  rw [show sp_op oa2 9 1 = false from hop]
  show jZ _ _ _ _ [.int (jb false)] _ _
  refine z_ifeq 50 40 c_62_37 rfl jb_t (fun _ => ?_) (fun h => absurd rfl h)
  refine z_go 51 _ [.ref 16] _ c_62_50 rfl ?_
  refine z_getf (v := .ref 18) 54 c_62_51 rfl ((hf2.1 16 (by decide)).trans h16) rfl ?_
  refine z_getf (v := .int (jn n)) 57 c_62_54 rfl hR2.1 rfl ?_
  refine z_go 59 _ [.int (jn 10), .int (jn n)] _ c_62_57 rfl ?_
  refine z_ile 72 62 c_62_59 rfl (by omega) (by omega) (fun h10 => ?_) (fun h10 => ?_)
  · refine z_thr c_62_62 (jB1_e hB hf2.2).1 (jB1_e hB hf2.2).2 (by decide) ?_
    exact ⟨M2, rfl, rfl, hsh2, ⟨Y, hY2⟩, hf2⟩
  · omega
theorem t_rbP {d ty hc tf : Nat} {M : jx_M} {tx : Nat → Nat} {Y : GR} (h16 : M.1 16 = xO ty hc tf false) (h17 : M.1 17 = .inl (1, 40, .inl (ja tx))) (hty : ty ≤ 40) (htx : ∀ j, tx j < 127) (hrs : rSh M) (hY : jgr M 28 Y) (hj : jc M) (hv : M.1 1 = .inl (9, 5, .inl (ja fV))) (hB : jB1 M) (A : Nat → MA) (bm : Nat → Nat) (oa' : Nat → Option Nat) (ol' bk' : Nat → Nat) {n : Nat} {A2 : Nat → MA} {bm2 : Nat → Nat} (hm : sm_rd tx ty true 40 none 0 0 A bm (sp_none oa' 10) ol' bk' 0 = some (n, A2, bm2)) (hn : n ≤ 10) : jZ (d + 12) 62 0 [some (.ref 16), some (.int (jb true))] [] M (jV none fun M' => (∃ X, jgr M' 28 X ∧ gA encC X n A2 bm2 ∧ ∀ j, j < n → okA true (A2 j)) ∧ rSh M' ∧ fR M M') := by
  obtain ⟨txo, ln0, pt0, ps0, sz0, cs0, wr0, B0, br0, dp0, hR, ht0, hbr0, hwr0, hI0⟩ := hrs
  obtain ⟨bf, bs, bk, bc0, oa, ol⟩ := B0
  refine z_go 1 _ [.ref 16] _ c_62_0 rfl ?_
  refine z_callv 4 5 63 0 16 c_62_1 rfl ⟨Nat.le_of_ble_eq_true rfl, Nat.le_of_ble_eq_true rfl⟩ rfl h16 [.ref 16] rfl rfl [some (.ref 16)] rfl rfl (t_ref0 h16) ?_
  show jZ _ _ _ _ [] _ _
  refine z_go 5 _ [.ref 16] _ c_62_4 rfl ?_
  refine z_getf (v := .ref 18) 8 c_62_5 rfl h16 rfl ?_
  refine z_go 9 _ [.ref 16, .ref 18] _ c_62_8 rfl ?_
  refine z_getf (v := .ref 17) 12 c_62_9 rfl h16 rfl ?_
  refine z_go 13 _ [.ref 16, .ref 17, .ref 18] _ c_62_12 rfl ?_
  refine z_getf (v := .int (jn ty)) 16 c_62_13 rfl h16 rfl ?_
  refine z_go 17 _ [.int (jb true), .int (jn ty), .ref 17, .ref 18] _ c_62_16 rfl ?_
  refine z_callvV 20 3 23 3 18 c_62_17 rfl ⟨Nat.le_of_ble_eq_true rfl, Nat.le_of_ble_eq_true rfl⟩ rfl hR.1 [.ref 18, .ref 17, .int (jn ty), .int (jb true)] rfl rfl [some (.ref 18), some (.ref 17), some (.int (jn ty)), some (.int (jb true))] rfl rfl (t_start (d := d + 10) (q := true) hR h17 hty (fun j => Nat.lt_trans (htx j) (by decide))) ?_
  intro M1 ⟨hR1, hs1⟩
  have hf1 : fR M M1 := fR_s hs1
  have hj1 : jc M1 := hs1.jc hj
  have hT1 : ∀ j, sp_cpy tx txo ty j < 128 := fun j => by unfold sp_cpy; split; exact Nat.lt_trans (htx j) (by decide); exact ht0 j
  have hI1 : cbI (bf, bs, bk, 0, sp_none oa 10, ol) := ⟨Nat.zero_le _, hI0.2.1, hI0.2.2.1, fun j k q => (by have q : sp_none oa 10 j = some k := q; unfold sp_none at q; split at q; cases q; exact hI0.2.2.2.1 j k q), hI0.2.2.2.2⟩
  have hrd := t_rdall (d := d + 4) hty hT1 hbr0 hwr0 hR1 hI1 hj1
  show jZ _ _ _ _ [] _ _
  refine z_go 21 _ [.ref 16] _ c_62_20 rfl ?_
  refine z_getf (v := .ref 18) 24 c_62_21 rfl ((hf1.1 16 (by decide)).trans h16) rfl ?_
  have hany := rd_any (tx := tx) (T := sp_cpy tx txo ty) (ln := ty) hty (fun p => sp_here_cpy) (pt := true) (cs := cs0) (wr := wr0) (bf := bf) (bs := bs) (bk := bk) (ol := ol) (oa := oa) (br := br0) A bm oa' ol' bk'
  rw [hm] at hany
  have hY1 : jgr M1 28 Y := jgr_fr hY fun k a b => hs1.1 k (by omega)
  obtain ⟨cs2, wr2, B2, hx, hop, hA2, hB2, hn40⟩ := hany
  obtain ⟨bf2, bs2, bk2, bc2, oa2, ol2⟩ := B2
  rw [hx] at hrd
  refine z_callvV 27 3 24 0 18 c_62_24 rfl ⟨Nat.le_of_ble_eq_true rfl, Nat.le_of_ble_eq_true rfl⟩ rfl hR1.1 [.ref 18] rfl rfl [some (.ref 18), none, none, none, none] rfl rfl (hrd) ?_
  intro M2 ⟨q1, q2⟩
  have hf2 : fR M M2 := hf1.tr (fR_s q2)
  have hsh2 := rA_sh hT1 q1
  have hY2 : jgr M2 28 Y := jgr_fr hY1 fun k a b => q2.1 k (by omega)
  have hj2 : jc M2 := q2.jc hj1
  obtain ⟨ps2, br2, dp2, hR2, hbr2, hwr2, hI2⟩ := q1
  have hR2 : rA M2 (sp_cpy tx txo ty) ty true ps2 n cs2 wr2 (bf2, bs2, bk2, bc2, oa2, ol2) br2 dp2 := hR2
  show jZ _ _ _ _ [.int (jb true)] _ _
  refine z_ifeq 40 30 c_62_27 rfl jb_t (fun h => absurd h (by decide)) (fun _ => ?_)
  refine z_go 31 _ [.ref 16] _ c_62_30 rfl ?_
  refine z_getf (v := .ref 18) 34 c_62_31 rfl ((hf2.1 16 (by decide)).trans h16) rfl ?_
  refine z_callv 37 3 41 0 18 c_62_34 rfl ⟨Nat.le_of_ble_eq_true rfl, Nat.le_of_ble_eq_true rfl⟩ rfl hR2.1 [.ref 18] rfl rfl [some (.ref 18), none] rfl rfl (t_op hR2.1 hR2.2.2.2.2.2.2.2.1 hI2.2.2.2.1) ?_
  show jZ _ _ _ _ [.int (jb (sp_op oa2 9 1))] _ _
  rw [show sp_op oa2 9 1 = false from hop]
  show jZ _ _ _ _ [.int (jb false)] _ _
  refine z_ifeq 50 40 c_62_37 rfl jb_t (fun _ => ?_) (fun h => absurd rfl h)
  refine z_go 51 _ [.ref 16] _ c_62_50 rfl ?_
  refine z_getf (v := .ref 18) 54 c_62_51 rfl ((hf2.1 16 (by decide)).trans h16) rfl ?_
  refine z_getf (v := .int (jn n)) 57 c_62_54 rfl hR2.1 rfl ?_
  refine z_go 59 _ [.int (jn 10), .int (jn n)] _ c_62_57 rfl ?_
  refine z_ile 72 62 c_62_59 rfl (by omega) (by omega) (fun h10 => ?_) (fun h10 => ?_)
  · omega
  · refine z_go 73 _ [.ref 16] _ c_62_72 rfl ?_
    refine z_getf (v := .ref 18) 76 c_62_73 rfl ((hf2.1 16 (by decide)).trans h16) rfl ?_
    refine z_go 77 _ [.ref 16, .ref 18] _ c_62_76 rfl ?_
    refine z_getf (v := .ref 28) 80 c_62_77 rfl ((hf2.1 16 (by decide)).trans h16) rfl ?_
    have hbV := hB2.1
    refine z_callvV 83 3 42 1 18 c_62_80 rfl ⟨Nat.le_of_ble_eq_true rfl, Nat.le_of_ble_eq_true rfl⟩ rfl hR2.1 [.ref 18, .ref 28] rfl rfl [some (.ref 18), some (.ref 28), none] rfl rfl (t_gfill (d := d + 9) hR2 hY2.1 hn (show bc2 ≤ 40 from hI2.1) (fun i hi => ⟨(hbV i hi).1, (hbV i hi).2.1, (hbV i hi).2.2.2.2.1⟩)) ?_
    intro M3 ⟨q3, q4⟩
    have hf3 : fR M M3 := hf2.tr (fR_g q4)
    have hsh3 : rSh M3 := rSh_fr hsh2 fun k a b => q4.1 k (by omega)
    rw [sp_cpy_z (fun _ _ => rfl) hY2.2.1, sp_cpy_z (fun _ _ => rfl) hY2.2.2.1, sp_cpy_z (fun _ _ => rfl) hY2.2.2.2] at q3
    obtain ⟨hg3, hz3⟩ := fi_ok hn hA2 hB2
    have hX3 : jgr M3 28 (sp_fi (n, cs2, wr2, (bf2, bs2, bk2, bc2, oa2, ol2))) := ⟨q3, hz3⟩
    show jZ _ _ _ _ [] _ _
    refine z_go 84 _ [.int (jb true)] _ c_62_83 rfl ?_
    refine z_ifne 114 87 c_62_84 rfl jb_t (fun h => absurd h (by decide)) (fun _ => ?_)
    refine z_ret c_62_114 ?_
    exact ⟨rfl, ⟨_, hX3, hg3, fun j hj => (hA2 j hj).2.2⟩, hsh3, hf3⟩
/-- the atoms that the reference's matching begins with -/
def sm_tk (A : Nat → MA) : Nat → Bool := fun j => !sm_pr (A j)
/-- whether the reference calls it right: valences, matching -/
def sm_good (n : Nat) (A : Nat → MA) (bm : Nat → Nat) : Bool := (sm_vl bm n n 0 true A).1 && sm_mt bm n 10 (sm_tk A)
theorem settle_rel {n : Nat} {A : Nat → MA} {bm : Nat → Nat} {wr : Nat → Option Nat} {X : GR} (h : gA encC X n A bm) (hz : gZ X) (hA : ∀ j, j < n → wr j = encW (A j) ∧ okA false (A j)) (h4 : ∀ i j, i < n → j < n → bm (40 * i + j) ≤ 4) :
    ((sm_vl bm n n 0 true A).1 = false → sp_stl X.2.2.2.2 wr n 0 X.2.2.1 = none) ∧ ((sm_vl bm n n 0 true A).1 = true → ∃ c', sp_stl X.2.2.2.2 wr n 0 X.2.2.1 = some c' ∧ sp_cp X.2.2.2.2 n 10 0 (sp_pg c' n 0 0) = sm_mt bm n 10 (sm_tk A) ∧ gA encH (X.1, X.2.1, c', X.2.2.2.1, X.2.2.2.2) n (sm_vl bm n n 0 true A).2 bm ∧ gZ (X.1, X.2.1, c', X.2.2.2.1, X.2.2.2.2) ∧ ∀ j, j < n → okM ((sm_vl bm n n 0 true A).2 j)) := by
  obtain ⟨g1, g2, g3, g4, g5, g6, g7, g8, g9⟩ := h
  obtain ⟨s1, s2⟩ := stl_rel (wr := wr) g2 g5 g4 h4 (k := n) (i := 0) (cs := X.2.2.1) (A := A) (by omega) (fun j hj => by omega) (fun j _ hj => ⟨g3 j hj, hA j hj⟩)
  refine ⟨s1, fun hv => ?_⟩
  obtain ⟨c', e1, e2, e3⟩ := s2 hv
  refine ⟨c', e1, ?_, ⟨g1, g2, fun j hj => (e2 j hj).1, g4, g5, g6, g7, g8, fun j hj => (e3 j hj).trans (g9 j hj)⟩, ⟨fun j hj => ?_, hz.2⟩, fun j hj => (e2 j hj).2⟩
  · refine mt_rel g2 g5 g4 (by omega) (by omega) (fun j hj => ?_) (fun j hj => by omega)
    rw [sp_pg_bit, Nat.zero_testBit, (e2 j hj).1, (encH_bits (e2 j hj).2).2.1]
    have hk := sm_vl_k (bm := bm) (n := n) (k := n) (i := 0) (r := true) (A := A) j
    have hp : sm_pr ((sm_vl bm n n 0 true A).2 j) = sm_pr (A j) := by
      unfold sm_pr
      rw [hk.1, hk.2.1]
    rw [hp]
    unfold sm_tk
    cases sm_pr (A j) <;> simp [hj]
  · show c' j = 0
    rw [e3 j (by omega)]
    exact hz.1 j hj
theorem t_rbM {d ty hc tf : Nat} {M : jx_M} {tx : Nat → Nat} {Y : GR} (h16 : M.1 16 = xO ty hc tf false) (h17 : M.1 17 = .inl (1, 40, .inl (ja tx))) (hty : ty ≤ 40) (htx : ∀ j, tx j < 127) (hrs : rSh M) (hY : jgr M 28 Y) (hj : jc M) (hv : M.1 1 = .inl (9, 5, .inl (ja fV))) (hB : jB1 M) (A : Nat → MA) (bm : Nat → Nat) (oa' : Nat → Option Nat) (ol' bk' : Nat → Nat) {n : Nat} {A2 : Nat → MA} {bm2 : Nat → Nat} (hm : sm_rd tx ty false 40 none 0 0 A bm (sp_none oa' 10) ol' bk' 0 = some (n, A2, bm2)) (hn : n ≤ 10) (hgd : sm_good n A2 bm2 = true) : jZ (d + 12) 62 0 [some (.ref 16), some (.int (jb false))] [] M (jV none fun M' => (∃ X, jgr M' 28 X ∧ gA encH X n (sm_vl bm2 n n 0 true A2).2 bm2 ∧ (∀ j, j < n → okM ((sm_vl bm2 n n 0 true A2).2 j)) ∧ ∀ i j, i < n → j < n → bm2 (40 * i + j) ≤ 4) ∧ rSh M' ∧ fR M M') := by
  obtain ⟨txo, ln0, pt0, ps0, sz0, cs0, wr0, B0, br0, dp0, hR, ht0, hbr0, hwr0, hI0⟩ := hrs
  obtain ⟨bf, bs, bk, bc0, oa, ol⟩ := B0
  refine z_go 1 _ [.ref 16] _ c_62_0 rfl ?_
  refine z_callv 4 5 63 0 16 c_62_1 rfl ⟨Nat.le_of_ble_eq_true rfl, Nat.le_of_ble_eq_true rfl⟩ rfl h16 [.ref 16] rfl rfl [some (.ref 16)] rfl rfl (t_ref0 h16) ?_
  show jZ _ _ _ _ [] _ _
  refine z_go 5 _ [.ref 16] _ c_62_4 rfl ?_
  refine z_getf (v := .ref 18) 8 c_62_5 rfl h16 rfl ?_
  refine z_go 9 _ [.ref 16, .ref 18] _ c_62_8 rfl ?_
  refine z_getf (v := .ref 17) 12 c_62_9 rfl h16 rfl ?_
  refine z_go 13 _ [.ref 16, .ref 17, .ref 18] _ c_62_12 rfl ?_
  refine z_getf (v := .int (jn ty)) 16 c_62_13 rfl h16 rfl ?_
  refine z_go 17 _ [.int (jb false), .int (jn ty), .ref 17, .ref 18] _ c_62_16 rfl ?_
  refine z_callvV 20 3 23 3 18 c_62_17 rfl ⟨Nat.le_of_ble_eq_true rfl, Nat.le_of_ble_eq_true rfl⟩ rfl hR.1 [.ref 18, .ref 17, .int (jn ty), .int (jb false)] rfl rfl [some (.ref 18), some (.ref 17), some (.int (jn ty)), some (.int (jb false))] rfl rfl (t_start (d := d + 10) (q := false) hR h17 hty (fun j => Nat.lt_trans (htx j) (by decide))) ?_
  intro M1 ⟨hR1, hs1⟩
  have hf1 : fR M M1 := fR_s hs1
  have hj1 : jc M1 := hs1.jc hj
  have hT1 : ∀ j, sp_cpy tx txo ty j < 128 := fun j => by unfold sp_cpy; split; exact Nat.lt_trans (htx j) (by decide); exact ht0 j
  have hI1 : cbI (bf, bs, bk, 0, sp_none oa 10, ol) := ⟨Nat.zero_le _, hI0.2.1, hI0.2.2.1, fun j k q => (by have q : sp_none oa 10 j = some k := q; unfold sp_none at q; split at q; cases q; exact hI0.2.2.2.1 j k q), hI0.2.2.2.2⟩
  have hrd := t_rdall (d := d + 4) hty hT1 hbr0 hwr0 hR1 hI1 hj1
  show jZ _ _ _ _ [] _ _
  refine z_go 21 _ [.ref 16] _ c_62_20 rfl ?_
  refine z_getf (v := .ref 18) 24 c_62_21 rfl ((hf1.1 16 (by decide)).trans h16) rfl ?_
  have hany := rd_any (tx := tx) (T := sp_cpy tx txo ty) (ln := ty) hty (fun p => sp_here_cpy) (pt := false) (cs := cs0) (wr := wr0) (bf := bf) (bs := bs) (bk := bk) (ol := ol) (oa := oa) (br := br0) A bm oa' ol' bk'
  rw [hm] at hany
  have hY1 : jgr M1 28 Y := jgr_fr hY fun k a b => hs1.1 k (by omega)
  obtain ⟨cs2, wr2, B2, hx, hop, hA2, hB2, hn40⟩ := hany
  obtain ⟨bf2, bs2, bk2, bc2, oa2, ol2⟩ := B2
  rw [hx] at hrd
  refine z_callvV 27 3 24 0 18 c_62_24 rfl ⟨Nat.le_of_ble_eq_true rfl, Nat.le_of_ble_eq_true rfl⟩ rfl hR1.1 [.ref 18] rfl rfl [some (.ref 18), none, none, none, none] rfl rfl (hrd) ?_
  intro M2 ⟨q1, q2⟩
  have hf2 : fR M M2 := hf1.tr (fR_s q2)
  have hsh2 := rA_sh hT1 q1
  have hY2 : jgr M2 28 Y := jgr_fr hY1 fun k a b => q2.1 k (by omega)
  have hj2 : jc M2 := q2.jc hj1
  obtain ⟨ps2, br2, dp2, hR2, hbr2, hwr2, hI2⟩ := q1
  have hR2 : rA M2 (sp_cpy tx txo ty) ty false ps2 n cs2 wr2 (bf2, bs2, bk2, bc2, oa2, ol2) br2 dp2 := hR2
  show jZ _ _ _ _ [.int (jb true)] _ _
  refine z_ifeq 40 30 c_62_27 rfl jb_t (fun h => absurd h (by decide)) (fun _ => ?_)
  refine z_go 31 _ [.ref 16] _ c_62_30 rfl ?_
  refine z_getf (v := .ref 18) 34 c_62_31 rfl ((hf2.1 16 (by decide)).trans h16) rfl ?_
  refine z_callv 37 3 41 0 18 c_62_34 rfl ⟨Nat.le_of_ble_eq_true rfl, Nat.le_of_ble_eq_true rfl⟩ rfl hR2.1 [.ref 18] rfl rfl [some (.ref 18), none] rfl rfl (t_op hR2.1 hR2.2.2.2.2.2.2.2.1 hI2.2.2.2.1) ?_
  show jZ _ _ _ _ [.int (jb (sp_op oa2 9 1))] _ _
  rw [show sp_op oa2 9 1 = false from hop]
  show jZ _ _ _ _ [.int (jb false)] _ _
  refine z_ifeq 50 40 c_62_37 rfl jb_t (fun _ => ?_) (fun h => absurd rfl h)
  refine z_go 51 _ [.ref 16] _ c_62_50 rfl ?_
  refine z_getf (v := .ref 18) 54 c_62_51 rfl ((hf2.1 16 (by decide)).trans h16) rfl ?_
  refine z_getf (v := .int (jn n)) 57 c_62_54 rfl hR2.1 rfl ?_
  refine z_go 59 _ [.int (jn 10), .int (jn n)] _ c_62_57 rfl ?_
  refine z_ile 72 62 c_62_59 rfl (by omega) (by omega) (fun h10 => ?_) (fun h10 => ?_)
  · omega
  · refine z_go 73 _ [.ref 16] _ c_62_72 rfl ?_
    refine z_getf (v := .ref 18) 76 c_62_73 rfl ((hf2.1 16 (by decide)).trans h16) rfl ?_
    refine z_go 77 _ [.ref 16, .ref 18] _ c_62_76 rfl ?_
    refine z_getf (v := .ref 28) 80 c_62_77 rfl ((hf2.1 16 (by decide)).trans h16) rfl ?_
    have hbV := hB2.1
    refine z_callvV 83 3 42 1 18 c_62_80 rfl ⟨Nat.le_of_ble_eq_true rfl, Nat.le_of_ble_eq_true rfl⟩ rfl hR2.1 [.ref 18, .ref 28] rfl rfl [some (.ref 18), some (.ref 28), none] rfl rfl (t_gfill (d := d + 9) hR2 hY2.1 hn (show bc2 ≤ 40 from hI2.1) (fun i hi => ⟨(hbV i hi).1, (hbV i hi).2.1, (hbV i hi).2.2.2.2.1⟩)) ?_
    intro M3 ⟨q3, q4⟩
    have hf3 : fR M M3 := hf2.tr (fR_g q4)
    have hsh3 : rSh M3 := rSh_fr hsh2 fun k a b => q4.1 k (by omega)
    rw [sp_cpy_z (fun _ _ => rfl) hY2.2.1, sp_cpy_z (fun _ _ => rfl) hY2.2.2.1, sp_cpy_z (fun _ _ => rfl) hY2.2.2.2] at q3
    obtain ⟨hg3, hz3⟩ := fi_ok hn hA2 hB2
    have hX3 : jgr M3 28 (sp_fi (n, cs2, wr2, (bf2, bs2, bk2, bc2, oa2, ol2))) := ⟨q3, hz3⟩
    show jZ _ _ _ _ [] _ _
    refine z_go 84 _ [.int (jb false)] _ c_62_83 rfl ?_
    refine z_ifne 114 87 c_62_84 rfl jb_t (fun _ => ?_) (fun h => absurd rfl h)
    refine z_go 88 _ [.ref 16] _ c_62_87 rfl ?_
    refine z_getf (v := .ref 28) 91 c_62_88 rfl ((hf3.1 16 (by decide)).trans h16) rfl ?_
    refine z_go 92 _ [.ref 16, .ref 28] _ c_62_91 rfl ?_
    refine z_getf (v := .ref 18) 95 c_62_92 rfl ((hf3.1 16 (by decide)).trans h16) rfl ?_
    refine z_getf (v := .ref 21) 98 c_62_95 rfl ((q4.1 18 (by decide)).trans hR2.1) rfl ?_
    have hj3 : jc M3 := ⟨⟨(hf3.1 2 (by decide)).trans hj.1.1, (hf3.1 4 (by decide)).trans hj.1.2⟩, (hf3.1 3 (by decide)).trans hj.2.1, (hf3.1 5 (by decide)).trans hj.2.2⟩
    have h4 : ∀ i j, i < n → j < n → bm2 (40 * i + j) ≤ 4 := fun i j hi hj => Nat.le_of_lt_succ (RB_lt (kk := 5) (by decide) hB2 i j hi hj)
    have hset := settle_rel (wr := wr2) hg3 hz3 (fun j hj => (hA2 j hj).2) h4
    have hstl := t_stl (d := d) (wr := wr2) hn hg3.2.2.2.2.2.2.1 hwr2 q3 ((q4.1 21 (by decide)).trans hR2.2.2.2.1) hj3 ((hf3.1 1 (by decide)).trans hv) (fun j hj => ⟨_, (cap_rel (okA_M (hA2 j hj).2.2)).choose_spec.1 ▸ (congrArg (fun c => sp_el (c &&& 127)) (hg3.2.2.1 j hj))⟩) hz3.1
    have hstl : jZ (d + 11) 111 0 [some (.ref 28), some (.ref 21), none, none, none] [] M3 (jS M3 n bc2 (sp_fi (n, cs2, wr2, (bf2, bs2, bk2, bc2, oa2, ol2))).2.2.2.1 (sp_fi (n, cs2, wr2, (bf2, bs2, bk2, bc2, oa2, ol2))).2.2.2.2 (sp_stl (sp_fi (n, cs2, wr2, (bf2, bs2, bk2, bc2, oa2, ol2))).2.2.2.2 wr2 n 0 (sp_fi (n, cs2, wr2, (bf2, bs2, bk2, bc2, oa2, ol2))).2.2.1)) := hstl
    unfold sm_good at hgd
    rw [Bool.and_eq_true] at hgd
    obtain ⟨c', e1, e2, e3, e4, e5⟩ := hset.2 hgd.1
    rw [e1] at hstl
    have hstl : jZ (d + 11) 111 0 [some (.ref 28), some (.ref 21), none, none, none] [] M3 (jV (some (.int (jb (sp_cp (sp_fi (n, cs2, wr2, (bf2, bs2, bk2, bc2, oa2, ol2))).2.2.2.2 n 10 0 (sp_pg c' n 0 0))))) fun M' => jg M' 28 n bc2 c' (sp_fi (n, cs2, wr2, (bf2, bs2, bk2, bc2, oa2, ol2))).2.2.2.1 (sp_fi (n, cs2, wr2, (bf2, bs2, bk2, bc2, oa2, ol2))).2.2.2.2 ∧ sameG 28 M3 M') := hstl
    rw [e2, hgd.2] at hstl
    refine z_callV 101 111 2 c_62_98 rfl ⟨Nat.le_of_ble_eq_true rfl, Nat.le_of_ble_eq_true rfl⟩ [.ref 28, .ref 21] rfl rfl [some (.ref 28), some (.ref 21), none, none, none] rfl rfl (hstl) ?_
    intro M4 ⟨q5, q6⟩
    show jZ _ _ _ _ [.int (jb true)] _ _
    refine z_ifne 114 104 c_62_101 rfl jb_t (fun h => absurd h (by decide)) (fun _ => ?_)
    refine z_ret c_62_114 ?_
    exact ⟨rfl, ⟨_, ⟨q5, e4⟩, e3, e5, h4⟩, rSh_fr hsh3 fun k a b => q6.1 k (by omega), hf3.tr (fR_g q6)⟩
theorem t_rb10 {d ty hc tf : Nat} {M : jx_M} {tx : Nat → Nat} {Y : GR} (h16 : M.1 16 = xO ty hc tf false) (h17 : M.1 17 = .inl (1, 40, .inl (ja tx))) (hty : ty ≤ 40) (htx : ∀ j, tx j < 127) (hrs : rSh M) (hY : jgr M 28 Y) (hj : jc M) (hv : M.1 1 = .inl (9, 5, .inl (ja fV))) (hB : jB1 M) (A : Nat → MA) (bm : Nat → Nat) (oa' : Nat → Option Nat) (ol' bk' : Nat → Nat) {n : Nat} {A2 : Nat → MA} {bm2 : Nat → Nat} (hm : sm_rd tx ty false 40 none 0 0 A bm (sp_none oa' 10) ol' bk' 0 = some (n, A2, bm2)) (hn : n ≤ 10) (hgd : sm_good n A2 bm2 = false) : jZ (d + 12) 62 0 [some (.ref 16), some (.int (jb false))] [] M (jT 10 fun M1 => rSh M1 ∧ (∃ Y, jgr M1 28 Y) ∧ fR M M1) := by
  obtain ⟨txo, ln0, pt0, ps0, sz0, cs0, wr0, B0, br0, dp0, hR, ht0, hbr0, hwr0, hI0⟩ := hrs
  obtain ⟨bf, bs, bk, bc0, oa, ol⟩ := B0
  refine z_go 1 _ [.ref 16] _ c_62_0 rfl ?_
  refine z_callv 4 5 63 0 16 c_62_1 rfl ⟨Nat.le_of_ble_eq_true rfl, Nat.le_of_ble_eq_true rfl⟩ rfl h16 [.ref 16] rfl rfl [some (.ref 16)] rfl rfl (t_ref0 h16) ?_
  show jZ _ _ _ _ [] _ _
  refine z_go 5 _ [.ref 16] _ c_62_4 rfl ?_
  refine z_getf (v := .ref 18) 8 c_62_5 rfl h16 rfl ?_
  refine z_go 9 _ [.ref 16, .ref 18] _ c_62_8 rfl ?_
  refine z_getf (v := .ref 17) 12 c_62_9 rfl h16 rfl ?_
  refine z_go 13 _ [.ref 16, .ref 17, .ref 18] _ c_62_12 rfl ?_
  refine z_getf (v := .int (jn ty)) 16 c_62_13 rfl h16 rfl ?_
  refine z_go 17 _ [.int (jb false), .int (jn ty), .ref 17, .ref 18] _ c_62_16 rfl ?_
  refine z_callvV 20 3 23 3 18 c_62_17 rfl ⟨Nat.le_of_ble_eq_true rfl, Nat.le_of_ble_eq_true rfl⟩ rfl hR.1 [.ref 18, .ref 17, .int (jn ty), .int (jb false)] rfl rfl [some (.ref 18), some (.ref 17), some (.int (jn ty)), some (.int (jb false))] rfl rfl (t_start (d := d + 10) (q := false) hR h17 hty (fun j => Nat.lt_trans (htx j) (by decide))) ?_
  intro M1 ⟨hR1, hs1⟩
  have hf1 : fR M M1 := fR_s hs1
  have hj1 : jc M1 := hs1.jc hj
  have hT1 : ∀ j, sp_cpy tx txo ty j < 128 := fun j => by unfold sp_cpy; split; exact Nat.lt_trans (htx j) (by decide); exact ht0 j
  have hI1 : cbI (bf, bs, bk, 0, sp_none oa 10, ol) := ⟨Nat.zero_le _, hI0.2.1, hI0.2.2.1, fun j k q => (by have q : sp_none oa 10 j = some k := q; unfold sp_none at q; split at q; cases q; exact hI0.2.2.2.1 j k q), hI0.2.2.2.2⟩
  have hrd := t_rdall (d := d + 4) hty hT1 hbr0 hwr0 hR1 hI1 hj1
  show jZ _ _ _ _ [] _ _
  refine z_go 21 _ [.ref 16] _ c_62_20 rfl ?_
  refine z_getf (v := .ref 18) 24 c_62_21 rfl ((hf1.1 16 (by decide)).trans h16) rfl ?_
  have hany := rd_any (tx := tx) (T := sp_cpy tx txo ty) (ln := ty) hty (fun p => sp_here_cpy) (pt := false) (cs := cs0) (wr := wr0) (bf := bf) (bs := bs) (bk := bk) (ol := ol) (oa := oa) (br := br0) A bm oa' ol' bk'
  rw [hm] at hany
  have hY1 : jgr M1 28 Y := jgr_fr hY fun k a b => hs1.1 k (by omega)
  obtain ⟨cs2, wr2, B2, hx, hop, hA2, hB2, hn40⟩ := hany
  obtain ⟨bf2, bs2, bk2, bc2, oa2, ol2⟩ := B2
  rw [hx] at hrd
  refine z_callvV 27 3 24 0 18 c_62_24 rfl ⟨Nat.le_of_ble_eq_true rfl, Nat.le_of_ble_eq_true rfl⟩ rfl hR1.1 [.ref 18] rfl rfl [some (.ref 18), none, none, none, none] rfl rfl (hrd) ?_
  intro M2 ⟨q1, q2⟩
  have hf2 : fR M M2 := hf1.tr (fR_s q2)
  have hsh2 := rA_sh hT1 q1
  have hY2 : jgr M2 28 Y := jgr_fr hY1 fun k a b => q2.1 k (by omega)
  have hj2 : jc M2 := q2.jc hj1
  obtain ⟨ps2, br2, dp2, hR2, hbr2, hwr2, hI2⟩ := q1
  have hR2 : rA M2 (sp_cpy tx txo ty) ty false ps2 n cs2 wr2 (bf2, bs2, bk2, bc2, oa2, ol2) br2 dp2 := hR2
  show jZ _ _ _ _ [.int (jb true)] _ _
  refine z_ifeq 40 30 c_62_27 rfl jb_t (fun h => absurd h (by decide)) (fun _ => ?_)
  refine z_go 31 _ [.ref 16] _ c_62_30 rfl ?_
  refine z_getf (v := .ref 18) 34 c_62_31 rfl ((hf2.1 16 (by decide)).trans h16) rfl ?_
  refine z_callv 37 3 41 0 18 c_62_34 rfl ⟨Nat.le_of_ble_eq_true rfl, Nat.le_of_ble_eq_true rfl⟩ rfl hR2.1 [.ref 18] rfl rfl [some (.ref 18), none] rfl rfl (t_op hR2.1 hR2.2.2.2.2.2.2.2.1 hI2.2.2.2.1) ?_
  show jZ _ _ _ _ [.int (jb (sp_op oa2 9 1))] _ _
  rw [show sp_op oa2 9 1 = false from hop]
  show jZ _ _ _ _ [.int (jb false)] _ _
  refine z_ifeq 50 40 c_62_37 rfl jb_t (fun _ => ?_) (fun h => absurd rfl h)
  refine z_go 51 _ [.ref 16] _ c_62_50 rfl ?_
  refine z_getf (v := .ref 18) 54 c_62_51 rfl ((hf2.1 16 (by decide)).trans h16) rfl ?_
  refine z_getf (v := .int (jn n)) 57 c_62_54 rfl hR2.1 rfl ?_
  refine z_go 59 _ [.int (jn 10), .int (jn n)] _ c_62_57 rfl ?_
  refine z_ile 72 62 c_62_59 rfl (by omega) (by omega) (fun h10 => ?_) (fun h10 => ?_)
  · omega
  · refine z_go 73 _ [.ref 16] _ c_62_72 rfl ?_
    refine z_getf (v := .ref 18) 76 c_62_73 rfl ((hf2.1 16 (by decide)).trans h16) rfl ?_
    refine z_go 77 _ [.ref 16, .ref 18] _ c_62_76 rfl ?_
    refine z_getf (v := .ref 28) 80 c_62_77 rfl ((hf2.1 16 (by decide)).trans h16) rfl ?_
    have hbV := hB2.1
    refine z_callvV 83 3 42 1 18 c_62_80 rfl ⟨Nat.le_of_ble_eq_true rfl, Nat.le_of_ble_eq_true rfl⟩ rfl hR2.1 [.ref 18, .ref 28] rfl rfl [some (.ref 18), some (.ref 28), none] rfl rfl (t_gfill (d := d + 9) hR2 hY2.1 hn (show bc2 ≤ 40 from hI2.1) (fun i hi => ⟨(hbV i hi).1, (hbV i hi).2.1, (hbV i hi).2.2.2.2.1⟩)) ?_
    intro M3 ⟨q3, q4⟩
    have hf3 : fR M M3 := hf2.tr (fR_g q4)
    have hsh3 : rSh M3 := rSh_fr hsh2 fun k a b => q4.1 k (by omega)
    rw [sp_cpy_z (fun _ _ => rfl) hY2.2.1, sp_cpy_z (fun _ _ => rfl) hY2.2.2.1, sp_cpy_z (fun _ _ => rfl) hY2.2.2.2] at q3
    obtain ⟨hg3, hz3⟩ := fi_ok hn hA2 hB2
    have hX3 : jgr M3 28 (sp_fi (n, cs2, wr2, (bf2, bs2, bk2, bc2, oa2, ol2))) := ⟨q3, hz3⟩
    show jZ _ _ _ _ [] _ _
    refine z_go 84 _ [.int (jb false)] _ c_62_83 rfl ?_
    refine z_ifne 114 87 c_62_84 rfl jb_t (fun _ => ?_) (fun h => absurd rfl h)
    refine z_go 88 _ [.ref 16] _ c_62_87 rfl ?_
    refine z_getf (v := .ref 28) 91 c_62_88 rfl ((hf3.1 16 (by decide)).trans h16) rfl ?_
    refine z_go 92 _ [.ref 16, .ref 28] _ c_62_91 rfl ?_
    refine z_getf (v := .ref 18) 95 c_62_92 rfl ((hf3.1 16 (by decide)).trans h16) rfl ?_
    refine z_getf (v := .ref 21) 98 c_62_95 rfl ((q4.1 18 (by decide)).trans hR2.1) rfl ?_
    have hj3 : jc M3 := ⟨⟨(hf3.1 2 (by decide)).trans hj.1.1, (hf3.1 4 (by decide)).trans hj.1.2⟩, (hf3.1 3 (by decide)).trans hj.2.1, (hf3.1 5 (by decide)).trans hj.2.2⟩
    have h4 : ∀ i j, i < n → j < n → bm2 (40 * i + j) ≤ 4 := fun i j hi hj => Nat.le_of_lt_succ (RB_lt (kk := 5) (by decide) hB2 i j hi hj)
    have hset := settle_rel (wr := wr2) hg3 hz3 (fun j hj => (hA2 j hj).2) h4
    have hstl := t_stl (d := d) (wr := wr2) hn hg3.2.2.2.2.2.2.1 hwr2 q3 ((q4.1 21 (by decide)).trans hR2.2.2.2.1) hj3 ((hf3.1 1 (by decide)).trans hv) (fun j hj => ⟨_, (cap_rel (okA_M (hA2 j hj).2.2)).choose_spec.1 ▸ (congrArg (fun c => sp_el (c &&& 127)) (hg3.2.2.1 j hj))⟩) hz3.1
    have hstl : jZ (d + 11) 111 0 [some (.ref 28), some (.ref 21), none, none, none] [] M3 (jS M3 n bc2 (sp_fi (n, cs2, wr2, (bf2, bs2, bk2, bc2, oa2, ol2))).2.2.2.1 (sp_fi (n, cs2, wr2, (bf2, bs2, bk2, bc2, oa2, ol2))).2.2.2.2 (sp_stl (sp_fi (n, cs2, wr2, (bf2, bs2, bk2, bc2, oa2, ol2))).2.2.2.2 wr2 n 0 (sp_fi (n, cs2, wr2, (bf2, bs2, bk2, bc2, oa2, ol2))).2.2.1)) := hstl
    cases hv1 : (sm_vl bm2 n n 0 true A2).1 with
    | false =>
      rw [hset.1 hv1] at hstl
      have hstl : jZ (d + 11) 111 0 [some (.ref 28), some (.ref 21), none, none, none] [] M3 (jV (some (.int (jb false))) fun M' => (∃ c', jg M' 28 n bc2 c' (sp_fi (n, cs2, wr2, (bf2, bs2, bk2, bc2, oa2, ol2))).2.2.2.1 (sp_fi (n, cs2, wr2, (bf2, bs2, bk2, bc2, oa2, ol2))).2.2.2.2 ∧ ∀ j, 10 ≤ j → c' j = 0) ∧ sameG 28 M3 M') := hstl
      refine z_callV 101 111 2 c_62_98 rfl ⟨Nat.le_of_ble_eq_true rfl, Nat.le_of_ble_eq_true rfl⟩ [.ref 28, .ref 21] rfl rfl [some (.ref 28), some (.ref 21), none, none, none] rfl rfl (hstl) ?_
      intro M4 ⟨⟨c', q5, q7⟩, q6⟩
      show jZ _ _ _ _ [.int (jb false)] _ _
      refine z_ifne 114 104 c_62_101 rfl jb_t (fun _ => ?_) (fun h => absurd rfl h)
      refine z_thr c_62_104 (jB1_e hB (q6.2.trans hf3.2)).1 (jB1_e hB (q6.2.trans hf3.2)).2 (by decide) ?_
      exact ⟨M4, rfl, rfl, rSh_fr hsh3 fun k a b => q6.1 k (by omega), ⟨_, (⟨q5, q7, hz3.2⟩ : jgr M4 28 (n, bc2, c', (sp_fi (n, cs2, wr2, (bf2, bs2, bk2, bc2, oa2, ol2))).2.2.2.1, (sp_fi (n, cs2, wr2, (bf2, bs2, bk2, bc2, oa2, ol2))).2.2.2.2))⟩, hf3.tr (fR_g q6)⟩
    | true =>
      unfold sm_good at hgd
      rw [hv1, Bool.true_and] at hgd
      obtain ⟨c', e1, e2, e3, e4, e5⟩ := hset.2 hv1
      rw [e1] at hstl
      have hstl : jZ (d + 11) 111 0 [some (.ref 28), some (.ref 21), none, none, none] [] M3 (jV (some (.int (jb (sp_cp (sp_fi (n, cs2, wr2, (bf2, bs2, bk2, bc2, oa2, ol2))).2.2.2.2 n 10 0 (sp_pg c' n 0 0))))) fun M' => jg M' 28 n bc2 c' (sp_fi (n, cs2, wr2, (bf2, bs2, bk2, bc2, oa2, ol2))).2.2.2.1 (sp_fi (n, cs2, wr2, (bf2, bs2, bk2, bc2, oa2, ol2))).2.2.2.2 ∧ sameG 28 M3 M') := hstl
      rw [e2, hgd] at hstl
      refine z_callV 101 111 2 c_62_98 rfl ⟨Nat.le_of_ble_eq_true rfl, Nat.le_of_ble_eq_true rfl⟩ [.ref 28, .ref 21] rfl rfl [some (.ref 28), some (.ref 21), none, none, none] rfl rfl (hstl) ?_
      intro M4 ⟨q5, q6⟩
      show jZ _ _ _ _ [.int (jb false)] _ _
      refine z_ifne 114 104 c_62_101 rfl jb_t (fun _ => ?_) (fun h => absurd rfl h)
      refine z_thr c_62_104 (jB1_e hB (q6.2.trans hf3.2)).1 (jB1_e hB (q6.2.trans hf3.2)).2 (by decide) ?_
      exact ⟨M4, rfl, rfl, rSh_fr hsh3 fun k a b => q6.1 k (by omega), ⟨_, ⟨q5, e4⟩⟩, hf3.tr (fR_g q6)⟩
