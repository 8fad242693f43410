/-! CELLS; WRITES; printed by wip/whole/p41.py and by hand -/
def ja (f : Nat → Nat) : Nat → Int32 := fun k => jn (f k)
def jao (f : Nat → Option Nat) : Nat → Int32 := fun k => jo (f k)
def jab (f : Nat → Bool) : Nat → Int32 := fun k => jb (f k)
def nu {α : Type} (f : Nat → α) (k : Nat) (x : α) : Nat → α := fun j => if j = k then x else f j
theorem ja_upd {f : Nat → Nat} {k x : Nat} : upd (ja f) k (jn x) = ja (nu f k x) := by
  funext j
  simp only [upd, ja, nu]
  split <;> rfl
theorem jao_upd {f : Nat → Option Nat} {k : Nat} {x : Option Nat} : upd (jao f) k (jo x) = jao (nu f k x) := by
  funext j
  simp only [upd, jao, nu]
  split <;> rfl
theorem jab_upd {f : Nat → Bool} {k : Nat} {x : Bool} : upd (jab f) k (jb x) = jab (nu f k x) := by
  funext j
  simp only [upd, jab, nu]
  split <;> rfl
theorem jn_z {a : Nat} (h : a < 2 ^ 31) : jn a = 0 ↔ a = 0 := jn_inj h (by decide)
theorem jn_nl {a : Nat} (h : a < 2 ^ 31) : jn a < 0 ↔ False := ⟨fun q => jn_ge a h q, False.elim⟩
theorem jn_pos {a : Nat} (h : a < 2 ^ 31) : 0 < jn a ↔ 0 < a := jn_lt (by decide) h
theorem z_subc {a b : Nat} (h : b ≤ a) : jn a + -(jn b) = jn (a - b) := by
  rw [← Int32.sub_eq_add_neg]
  exact jn_sub h
theorem jo_none {o : Option Nat} (h : ∀ k, o = some k → k < 2 ^ 31) : jo o = -1 ↔ o = none := by
  cases o with
  | none => exact ⟨fun _ => rfl, fun _ => rfl⟩
  | some k => exact ⟨fun q => absurd q (jn_ne1 (h k rfl)), fun q => by cases q⟩
theorem jo_lt {o : Option Nat} (h : ∀ k, o = some k → k < 2 ^ 31) : jo o < 0 ↔ o = none := by
  cases o with
  | none => exact ⟨fun _ => rfl, fun _ => (by decide)⟩
  | some k => exact ⟨fun q => absurd q (jn_ge k (h k rfl)), fun q => by cases q⟩
theorem jb_ok {b : Bool} : jx_okZ (.int (jb b)) = true := by cases b <;> rfl
theorem vp_b {b : Bool} : vp_nar .boolean (jb b) = jb b := by cases b <;> rfl
section ZR
variable {d mi pc : Nat} {L : jx_L} {st r : List Value} {M M' : jx_M} {post : jx_R → jx_M → Prop}
theorem z_iltR (t pc' : Nat) {x y : Int32} {p : Prop} (hc : jx_cd mi pc = some (o_ilt t)) (hp : pc + 3 = pc') (e : x < y ↔ p) (h1 : p → jZ d mi t L r M post) (h2 : ¬ p → jZ d mi pc' L r M post) : jZ d mi pc L (.int y :: .int x :: r) M post := by
  by_cases h : x < y
  · exact z_go t L r M hc (by unfold o_ilt; dsimp only; rw [if_pos h]) (h1 (e.mp h))
  · exact z_go pc' L r M hc (by unfold o_ilt; dsimp only; rw [if_neg h, hp]) (h2 (fun q => h (e.mpr q)))
theorem z_igeR (t pc' : Nat) {x y : Int32} {p : Prop} (hc : jx_cd mi pc = some (o_ige t)) (hp : pc + 3 = pc') (e : x < y ↔ p) (h1 : p → jZ d mi pc' L r M post) (h2 : ¬ p → jZ d mi t L r M post) : jZ d mi pc L (.int y :: .int x :: r) M post := by
  by_cases h : x < y
  · exact z_go pc' L r M hc (by unfold o_ige; dsimp only; rw [if_pos h, hp]) (h1 (e.mp h))
  · exact z_go t L r M hc (by unfold o_ige; dsimp only; rw [if_neg h]) (h2 (fun q => h (e.mpr q)))
theorem z_igtR (t pc' : Nat) {x y : Int32} {p : Prop} (hc : jx_cd mi pc = some (o_igt t)) (hp : pc + 3 = pc') (e : y < x ↔ p) (h1 : p → jZ d mi t L r M post) (h2 : ¬ p → jZ d mi pc' L r M post) : jZ d mi pc L (.int y :: .int x :: r) M post := by
  by_cases h : y < x
  · exact z_go t L r M hc (by unfold o_igt; dsimp only; rw [if_pos h]) (h1 (e.mp h))
  · exact z_go pc' L r M hc (by unfold o_igt; dsimp only; rw [if_neg h, hp]) (h2 (fun q => h (e.mpr q)))
theorem z_ileR (t pc' : Nat) {x y : Int32} {p : Prop} (hc : jx_cd mi pc = some (o_ile t)) (hp : pc + 3 = pc') (e : y < x ↔ p) (h1 : p → jZ d mi pc' L r M post) (h2 : ¬ p → jZ d mi t L r M post) : jZ d mi pc L (.int y :: .int x :: r) M post := by
  by_cases h : y < x
  · exact z_go pc' L r M hc (by unfold o_ile; dsimp only; rw [if_pos h, hp]) (h1 (e.mp h))
  · exact z_go t L r M hc (by unfold o_ile; dsimp only; rw [if_neg h]) (h2 (fun q => h (e.mpr q)))
theorem z_alen (pc' : Nat) {n a t : Nat} {x : (Nat → Int32) ⊕ ((Nat → Int64) ⊕ ((Nat → UInt32) ⊕ ((Nat → UInt64) ⊕ (Nat → Option Nat))))} (hc : jx_cd mi pc = some o_alen) (hp : pc + 1 = pc') (hM : M.1 a = .inl (t, n, x)) (ht : t < 5 ∨ t = 9 ∨ t = 10) (kk : jZ d mi pc' L (.int (jn n) :: r) M post) : jZ d mi pc L (.ref a :: r) M post := by
  refine z_go pc' L (.int (jn n) :: r) M hc ?_ kk
  unfold o_alen
  dsimp only
  rw [hM]
  dsimp only
  rw [if_pos ht, ← hp]
  rfl
theorem z_tail (pc' : Nat) (ci ce n : Nat) {Q : jx_R → jx_M → Prop} (a : Nat) {fs : List Value} (hc : jx_cd mi pc = some (o_callv ci ce n)) (hp : pc + 3 = pc') (hn : n < st.length ∧ st.length ≤ n + 5) (hg : st.getD n .null = .ref a) (hM : M.1 a = .inr (ci, fs)) (as : List Value) (ha : (st.take (n + 1)).reverse = as) (hr : st.drop (n + 1) = []) (L' : jx_L) (hen : jx_en as (jx_ml ce) = L') (hl : L'.length = jx_ml ce) (hcr : jx_cd mi pc' = some o_zret) (hz : jZ d ce 0 L' [] M Q) (kk : ∀ r1 M1, Q r1 M1 → (∃ b, r1 = .inl (some (.int (jb b)))) ∧ post r1 M1) : jZ (d + 1) mi pc L st M post := by
  refine jx_do (P := jx_PR) hc (by unfold o_callv; rw [if_pos hn, hg]; dsimp only; rw [hM]; dsimp only; rw [if_pos rfl, ha, hr, hp]) (by show (jx_en as (jx_ml ce)).length = jx_ml ce; rw [hen, hl]) ?_
  show jx_Z jx_PR d ce 0 (jx_en as (jx_ml ce)) [] M _
  rw [hen]
  refine hz.mono fun r1 M1 h => ?_
  obtain ⟨⟨b, rfl⟩, h2⟩ := kk r1 M1 h
  exact z_zret hcr h2
end ZR
theorem vp_c {x : Nat} (h : x < 65536) : vp_nar .char (jn x) = jn x := by
  have h2 : (UInt32.ofNat x).toUInt16.toUInt32 = UInt32.ofNat x := by
    apply UInt32.toNat_inj.mp
    simp
    omega
  show (UInt32.ofNat x).toUInt16.toUInt32.toInt32 = (UInt32.ofNat x).toInt32
  rw [h2]
/-- a memory with cells written -/
def jm : List (Nat × jx_C) → jx_M → jx_M
  | [], M => M
  | (a, c) :: t, M => jx_st (jm t M) a c
def js1 (a : Nat) (c : jx_C) : List (Nat × jx_C) → List (Nat × jx_C)
  | [] => []
  | (b, x) :: t => if b = a then (a, c) :: t else (b, x) :: js1 a c t
def jhas (a : Nat) : List (Nat × jx_C) → Bool
  | [] => false
  | (b, _) :: t => if b = a then true else jhas a t
theorem jx_st_st (M : jx_M) (a : Nat) (c c' : jx_C) : jx_st (jx_st M a c) a c' = jx_st M a c' := by
  refine Prod.ext (funext fun k => ?_) rfl
  show (if k = a then c' else (if k = a then c else M.1 k)) = (if k = a then c' else M.1 k)
  split <;> rfl
theorem jx_st_sw (M : jx_M) {a b : Nat} (h : a ≠ b) (c c' : jx_C) : jx_st (jx_st M b c) a c' = jx_st (jx_st M a c') b c := by
  refine Prod.ext (funext fun k => ?_) rfl
  show (if k = a then c' else (if k = b then c else M.1 k)) = (if k = b then c else (if k = a then c' else M.1 k))
  by_cases h1 : k = a
  · rw [if_pos h1, if_pos h1, if_neg (fun q => h (h1.symm.trans q))]
  · rw [if_neg h1, if_neg h1]
theorem jx_st_id {M : jx_M} {a : Nat} {c : jx_C} (h : M.1 a = c) : jx_st M a c = M := by
  refine Prod.ext (funext fun k => ?_) rfl
  show (if k = a then c else M.1 k) = M.1 k
  split
  · rename_i e
    rw [e, h]
  · rfl
theorem jm_w {M : jx_M} {a : Nat} {c : jx_C} : ∀ {l : List (Nat × jx_C)}, jhas a l = true → jx_st (jm l M) a c = jm (js1 a c l) M
  | [], h => by cases h
  | (b, x) :: t, h => by
    unfold jhas at h
    unfold js1
    by_cases e : b = a
    · rw [if_pos e, e]
      exact jx_st_st _ _ _ _
    · rw [if_neg e] at h ⊢
      show jx_st (jx_st (jm t M) b x) a c = jx_st (jm (js1 a c t) M) b x
      rw [jx_st_sw _ (fun q => e q.symm), jm_w h]
def jw : List (Nat × jx_C) → List (Nat × jx_C) → List (Nat × jx_C)
  | [], l => l
  | (a, c) :: t, l => if jhas a (jw t l) = true then js1 a c (jw t l) else (a, c) :: jw t l
theorem jm_jw (M : jx_M) : ∀ l1 l2 : List (Nat × jx_C), jm l1 (jm l2 M) = jm (jw l1 l2) M
  | [], _ => rfl
  | (a, c) :: t, l => by
    unfold jw
    show jx_st (jm t (jm l M)) a c = _
    rw [jm_jw M t l]
    split
    · rename_i h
      exact jm_w h
    · rfl
theorem jn_or (a b : Nat) : jn a ||| jn b = jn (a ||| b) := by
  apply Int32.toBitVec_inj.mp
  show BitVec.ofNat 32 a ||| BitVec.ofNat 32 b = BitVec.ofNat 32 (a ||| b)
  apply BitVec.eq_of_toNat_eq
  simp [Nat.or_mod_two_pow]
theorem jn_and (a b : Nat) : jn a &&& jn b = jn (a &&& b) := by
  apply Int32.toBitVec_inj.mp
  show BitVec.ofNat 32 a &&& BitVec.ofNat 32 b = BitVec.ofNat 32 (a &&& b)
  apply BitVec.eq_of_toNat_eq
  simp [Nat.and_mod_two_pow]
/-- what is answered, and what is true of the memory then -/
def jV (v : Option Value) (Q : jx_M → Prop) : jx_R → jx_M → Prop := fun r M1 => r = .inl v ∧ Q M1
theorem jV_of {d mi pc : Nat} {L : jx_L} {st : List Value} {M : jx_M} {v : Option Value} {M' : jx_M} {Q : jx_M → Prop} (h : jZ d mi pc L st M (jR v M')) (q : Q M') : jZ d mi pc L st M (jV v Q) := h.mono fun r M1 e => ⟨e.1, by rw [e.2]; exact q⟩
theorem z_callV {d mi pc : Nat} {L : jx_L} {st r : List Value} {M : jx_M} {post : jx_R → jx_M → Prop} (pc' : Nat) (ce n : Nat) {v : Option Value} {Q : jx_M → Prop} (hc : jx_cd mi pc = some (o_call ce n)) (hp : pc + 3 = pc') (hn : n ≤ st.length ∧ st.length ≤ n + 4) (as : List Value) (ha : (st.take n).reverse = as) (hr : st.drop n = r) (L' : jx_L) (hen : jx_en as (jx_ml ce) = L') (hl : L'.length = jx_ml ce) (hz : jZ d ce 0 L' [] M (jV v Q)) (kk : ∀ M', Q M' → jZ (d + 1) mi pc' L (v.toList ++ r) M' post) : jZ (d + 1) mi pc L st M post := by
  refine jx_do (P := jx_PR) hc (by unfold o_call; rw [if_pos hn, ha, hr, hp]) (by show (jx_en as (jx_ml ce)).length = jx_ml ce; rw [hen, hl]) ?_
  show jx_Z jx_PR d ce 0 (jx_en as (jx_ml ce)) [] M _
  rw [hen]
  refine hz.mono fun r1 M1 h => ?_
  obtain ⟨rfl, h2⟩ := h
  exact kk M1 h2
theorem z_callvV {d mi pc : Nat} {L : jx_L} {st r : List Value} {M : jx_M} {post : jx_R → jx_M → Prop} (pc' : Nat) (ci ce n : Nat) {v : Option Value} {Q : jx_M → Prop} (a : Nat) {fs : List Value} (hc : jx_cd mi pc = some (o_callv ci ce n)) (hp : pc + 3 = pc') (hn : n < st.length ∧ st.length ≤ n + 5) (hg : st.getD n .null = .ref a) (hM : M.1 a = .inr (ci, fs)) (as : List Value) (ha : (st.take (n + 1)).reverse = as) (hr : st.drop (n + 1) = r) (L' : jx_L) (hen : jx_en as (jx_ml ce) = L') (hl : L'.length = jx_ml ce) (hz : jZ d ce 0 L' [] M (jV v Q)) (kk : ∀ M', Q M' → jZ (d + 1) mi pc' L (v.toList ++ r) M' post) : jZ (d + 1) mi pc L st M post := by
  refine jx_do (P := jx_PR) hc (by unfold o_callv; rw [if_pos hn, hg]; dsimp only; rw [hM]; dsimp only; rw [if_pos rfl, ha, hr, hp]) (by show (jx_en as (jx_ml ce)).length = jx_ml ce; rw [hen, hl]) ?_
  show jx_Z jx_PR d ce 0 (jx_en as (jx_ml ce)) [] M _
  rw [hen]
  refine hz.mono fun r1 M1 h => ?_
  obtain ⟨rfl, h2⟩ := h
  exact kk M1 h2
def xO (a0 : Nat) (a1 : Nat) (a2 : Nat) (a3 : Bool) : jx_C := .inr (5, [.ref 17, .int (jn a0), .ref 18, .ref 28, .ref 32, .ref 35, .ref 86, .ref 91, .int (jn a1), .int (jn a2), .int (jb a3)])
def rO (a0 : Nat) (a1 : Nat) (a2 : Bool) (a3 : Nat) (a4 : Nat) (a5 : Nat) : jx_C := .inr (3, [.ref 19, .int (jn a0), .int (jn a1), .int (jb a2), .ref 20, .ref 21, .int (jn a3), .ref 22, .ref 23, .ref 24, .int (jn a4), .ref 25, .ref 26, .ref 27, .int (jn a5)])
def tO : jx_C := .inr (2, [.ref 33, .ref 34])
def sO (a0 : Nat) (a1 : Nat) : jx_C := .inr (4, [.ref 36, .ref 37, .int (jn a0), .int (jn a1)])
def lO (a0 : Bool) (a1 : Bool) (a2 : Nat) : jx_C := .inr (1, [.int (jb a0), .int (jb a1), .int (jn a2), .ref 87])
def mO (a0 : Nat) (a1 : Nat) (a2 : Nat) (a3 : Nat) (a4 : Bool) (a5 : Nat) (a6 : Nat) (a7 : Nat) (a8 : Bool) (a9 : Nat) (a10 : Nat) (a11 : Bool) (a12 : Nat) (a13 : Nat) : jx_C := .inr (6, [.int (jn a0), .int (jn a1), .ref 93, .int (jn a2), .int (jn a3), .ref 94, .ref 95, .ref 96, .ref 97, .ref 98, .ref 99, .ref 100, .ref 101, .ref 102, .ref 103, .int (jb a4), .int (jn a5), .int (jn a6), .ref 104, .ref 105, .ref 106, .ref 107, .ref 108, .ref 109, .ref 110, .ref 111, .ref 112, .int (jn a7), .int (jb a8), .int (jn a9), .int (jn a10), .int (jb a11), .int (jn a12), .ref 113, .ref 114, .ref 115, .ref 116, .ref 117, .int (jn a13), .ref 118])
def gO (g n bc : Nat) : jx_C := .inr (0, [.ref (g + 1), .ref (g + 2), .ref (g + 3), .int (jn n), .int (jn bc)])
/-- a graph lies at g -/
def jg (M : jx_M) (g n bc : Nat) (cs ks nr : Nat → Nat) : Prop := M.1 g = gO g n bc ∧ M.1 (g + 1) = .inl (0, 10, .inl (ja cs)) ∧ M.1 (g + 2) = .inl (0, 100, .inl (ja ks)) ∧ M.1 (g + 3) = .inl (0, 60, .inl (ja nr))
