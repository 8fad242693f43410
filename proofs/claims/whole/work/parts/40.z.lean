/-! STEPS ON THE ABSTRACT MACHINE, THE PROGRAM AT HAND -/
abbrev jZ (d mi pc : Nat) (L : jx_L) (st : List Value) (M : jx_M) (post : jx_R → jx_M → Prop) : Prop := jx_Z jx_PR d mi pc L st M post
/-- an int out of a natural number, out of a truth, out of a number or none -/
def jn (k : Nat) : Int32 := Int32.ofNat k
def jb (b : Bool) : Int32 := if b = true then 1 else 0
def jo (o : Option Nat) : Int32 := match o with
  | some k => jn k
  | none => -1
theorem jn_add (a b : Nat) : jn a + jn b = jn (a + b) := (Int32.ofNat_add a b).symm
theorem jn_mul (a b : Nat) : jn a * jn b = jn (a * b) := (Int32.ofNat_mul a b).symm
theorem jn_sub {a b : Nat} (h : b ≤ a) : jn a - jn b = jn (a - b) := (Int32.ofNat_sub a b h).symm
theorem jn_ge (a : Nat) (h : a < 2 ^ 31) : ¬ jn a < 0 := by
  intro hlt
  have := (Int32.ofNat_lt_ofNat h (by decide : 0 < 2 ^ 31)).mp hlt
  omega
theorem jn_cl {a : Nat} (h : a < 2 ^ 31) : (jn a).toNatClampNeg = a := i32_toNatClampNeg_ofNat h
theorem jn_lt {a b : Nat} (ha : a < 2 ^ 31) (hb : b < 2 ^ 31) : jn a < jn b ↔ a < b := Int32.ofNat_lt_ofNat ha hb
theorem jn_inj {a b : Nat} (ha : a < 2 ^ 31) (hb : b < 2 ^ 31) : jn a = jn b ↔ a = b := by
  refine ⟨fun h => ?_, fun h => by rw [h]⟩
  have := congrArg Int32.toNatClampNeg h
  rw [jn_cl ha, jn_cl hb] at this
  exact this
theorem jn_ne1 {a : Nat} (ha : a < 2 ^ 31) : jn a ≠ -1 := by
  intro h
  exact jn_ge a ha (by rw [h]; decide)
theorem jx_ix_n {k n : Nat} (h : k < n) (hn : n ≤ 2 ^ 31) : jx_ix (jn k) n = true := by
  unfold jx_ix
  have h1 := jn_ge k (by omega)
  have h2 := jn_cl (a := k) (by omega)
  rw [h2]
  simp [h1, h]
theorem jb_t {b : Bool} : jb b = 0 ↔ b = false := by cases b <;> decide
theorem jb_01 (b : Bool) : jb b = 0 ∨ jb b = 1 := by cases b <;> decide
section ZZ
variable {d mi pc : Nat} {L : jx_L} {st r : List Value} {M M' : jx_M} {post : jx_R → jx_M → Prop}
theorem z_go (pc' : Nat) (L' : jx_L) (st' : List Value) (M1 : jx_M) {op : jx_O} (hc : jx_cd mi pc = some op) (ho : op pc L st M = some (.inl (pc', L', st', M1))) (k : jZ d mi pc' L' st' M1 post) : jZ d mi pc L st M post := jx_go (P := jx_PR) pc' L' st' M1 hc ho k
theorem z_v {x y : Int32} (e : x = y) (k : jZ d mi pc L (.int y :: r) M post) : jZ d mi pc L (.int x :: r) M post := by rw [e]; exact k
theorem z_m (e : M = M') (k : jZ d mi pc L st M' post) : jZ d mi pc L st M post := by rw [e]; exact k
theorem z_iinc (pc' : Nat) (L' : jx_L) {i : Nat} {x k y : Int32} (hc : jx_cd mi pc = some (o_iinc i k)) (hp : pc + 3 = pc') (hl : L.getD i none = some (.int x)) (e : x + k = y) (hs : jx_s1 L i (.int y) = some L') (kk : jZ d mi pc' L' st M post) : jZ d mi pc L st M post := by
  refine z_go pc' L' st M hc ?_ kk
  unfold o_iinc
  rw [hl]
  dsimp only
  rw [e, hs, ← hp]
  rfl
theorem z_getf (pc' : Nat) {ci k a : Nat} {fs : List Value} {v : Value} (hc : jx_cd mi pc = some (o_getf ci k)) (hp : pc + 3 = pc') (hM : M.1 a = .inr (ci, fs)) (hk : fs[k]? = some v) (kk : jZ d mi pc' L (v :: r) M post) : jZ d mi pc L (.ref a :: r) M post := by
  refine z_go pc' L (v :: r) M hc ?_ kk
  unfold o_getf
  dsimp only
  rw [hM]
  dsimp only
  rw [if_pos rfl, hk, ← hp]
  rfl
theorem z_putf (pc' : Nat) {ci k a : Nat} {fs : List Value} {v : Value} {ok : Value → Bool} (hc : jx_cd mi pc = some (o_putf ci k ok)) (hp : pc + 3 = pc') (hM : M.1 a = .inr (ci, fs)) (hok : ok v = true) (hk : k < fs.length) (hM' : jx_st M a (.inr (ci, fs.set k v)) = M') (kk : jZ d mi pc' L r M' post) : jZ d mi pc L (v :: .ref a :: r) M post := by
  refine z_go pc' L r M' hc ?_ kk
  unfold o_putf
  dsimp only
  rw [hM]
  dsimp only
  rw [if_pos ⟨rfl, hok, hk⟩, ← hp, hM']
theorem z_iald (pc' : Nat) {k n a t : Nat} {f : Nat → Int32} (hc : jx_cd mi pc = some o_iald) (hp : pc + 1 = pc') (hM : M.1 a = .inl (t, n, .inl f)) (ht : t = 0 ∨ t = 9) (hk : k < n) (hn : n ≤ 2 ^ 31) (kk : jZ d mi pc' L (.int (f k) :: r) M post) : jZ d mi pc L (.int (jn k) :: .ref a :: r) M post := by
  refine z_go pc' L (.int (f k) :: r) M hc ?_ kk
  unfold o_iald
  dsimp only
  rw [hM]
  dsimp only
  rw [if_pos ⟨ht, jx_ix_n hk hn⟩, ← hp, jn_cl (by omega)]
theorem z_xald (pc' : Nat) {k n a t : Nat} {f : Nat → Int32} (hc : jx_cd mi pc = some (o_xald t)) (hp : pc + 1 = pc') (hM : M.1 a = .inl (t, n, .inl f)) (hk : k < n) (hn : n ≤ 2 ^ 31) (kk : jZ d mi pc' L (.int (f k) :: r) M post) : jZ d mi pc L (.int (jn k) :: .ref a :: r) M post := by
  refine z_go pc' L (.int (f k) :: r) M hc ?_ kk
  unfold o_xald
  dsimp only
  rw [hM]
  dsimp only
  rw [if_pos ⟨rfl, jx_ix_n hk hn⟩, ← hp, jn_cl (by omega)]
theorem z_bald (pc' : Nat) {k n a : Nat} {f : Nat → Int32} (hc : jx_cd mi pc = some o_bald) (hp : pc + 1 = pc') (hM : M.1 a = .inl (10, n, .inl f)) (hk : k < n) (hn : n ≤ 2 ^ 31) (kk : jZ d mi pc' L (.int (f k) :: r) M post) : jZ d mi pc L (.int (jn k) :: .ref a :: r) M post := by
  refine z_go pc' L (.int (f k) :: r) M hc ?_ kk
  unfold o_bald
  dsimp only
  rw [hM]
  dsimp only
  rw [if_pos ⟨rfl, jx_ix_n hk hn⟩, ← hp, jn_cl (by omega)]
theorem z_lald (pc' : Nat) {k n a : Nat} {f : Nat → Int64} (hc : jx_cd mi pc = some o_lald) (hp : pc + 1 = pc') (hM : M.1 a = .inl (3, n, .inr (.inl f))) (hk : k < n) (hn : n ≤ 2 ^ 31) (kk : jZ d mi pc' L (.long (f k) :: r) M post) : jZ d mi pc L (.int (jn k) :: .ref a :: r) M post := by
  refine z_go pc' L (.long (f k) :: r) M hc ?_ kk
  unfold o_lald
  dsimp only
  rw [hM]
  dsimp only
  rw [if_pos ⟨rfl, jx_ix_n hk hn⟩, ← hp, jn_cl (by omega)]
theorem z_aald (pc' : Nat) {k n a : Nat} {f : Nat → Option Nat} (hc : jx_cd mi pc = some o_aald) (hp : pc + 1 = pc') (hM : M.1 a = .inl (4, n, .inr (.inr (.inr (.inr f))))) (hk : k < n) (hn : n ≤ 2 ^ 31) (kk : jZ d mi pc' L (va_rf (f k) :: r) M post) : jZ d mi pc L (.int (jn k) :: .ref a :: r) M post := by
  refine z_go pc' L (va_rf (f k) :: r) M hc ?_ kk
  unfold o_aald
  dsimp only
  rw [hM]
  dsimp only
  rw [if_pos ⟨rfl, jx_ix_n hk hn⟩, ← hp, jn_cl (by omega)]
theorem z_iast (pc' : Nat) {k n a : Nat} {f : Nat → Int32} {x : Int32} (hc : jx_cd mi pc = some o_iast) (hp : pc + 1 = pc') (hM : M.1 a = .inl (0, n, .inl f)) (hk : k < n) (hn : n ≤ 2 ^ 31) (hM' : jx_st M a (.inl (0, n, .inl (upd f k x))) = M') (kk : jZ d mi pc' L r M' post) : jZ d mi pc L (.int x :: .int (jn k) :: .ref a :: r) M post := by
  refine z_go pc' L r M' hc ?_ kk
  unfold o_iast
  dsimp only
  rw [hM]
  dsimp only
  rw [if_pos ⟨rfl, jx_ix_n hk hn⟩, ← hp, jn_cl (by omega), hM']
theorem z_cast (pc' : Nat) {k n a : Nat} {f : Nat → Int32} {x y : Int32} (hc : jx_cd mi pc = some o_cast) (hp : pc + 1 = pc') (hM : M.1 a = .inl (1, n, .inl f)) (hk : k < n) (hn : n ≤ 2 ^ 31) (e : vp_nar .char x = y) (hM' : jx_st M a (.inl (1, n, .inl (upd f k y))) = M') (kk : jZ d mi pc' L r M' post) : jZ d mi pc L (.int x :: .int (jn k) :: .ref a :: r) M post := by
  refine z_go pc' L r M' hc ?_ kk
  unfold o_cast
  dsimp only
  rw [hM]
  dsimp only
  rw [if_pos ⟨rfl, jx_ix_n hk hn⟩, ← hp, jn_cl (by omega), e, hM']
theorem z_zast (pc' : Nat) {k n a : Nat} {f : Nat → Int32} {x y : Int32} (hc : jx_cd mi pc = some o_zast) (hp : pc + 1 = pc') (hM : M.1 a = .inl (2, n, .inl f)) (hk : k < n) (hn : n ≤ 2 ^ 31) (e : vp_nar .boolean x = y) (hM' : jx_st M a (.inl (2, n, .inl (upd f k y))) = M') (kk : jZ d mi pc' L r M' post) : jZ d mi pc L (.int x :: .int (jn k) :: .ref a :: r) M post := by
  refine z_go pc' L r M' hc ?_ kk
  unfold o_zast
  dsimp only
  rw [hM]
  dsimp only
  rw [if_pos ⟨rfl, jx_ix_n hk hn⟩, ← hp, jn_cl (by omega), e, hM']
/-! branches over natural numbers -/
theorem z_ilt (t pc' : Nat) {a b : Nat} (hc : jx_cd mi pc = some (o_ilt t)) (hp : pc + 3 = pc') (ha : a < 2 ^ 31) (hb : b < 2 ^ 31) (h1 : a < b → jZ d mi t L r M post) (h2 : ¬ a < b → jZ d mi pc' L r M post) : jZ d mi pc L (.int (jn b) :: .int (jn a) :: r) M post := by
  by_cases h : a < b
  · exact z_go t L r M hc (by unfold o_ilt; dsimp only; rw [if_pos ((jn_lt ha hb).mpr h)]) (h1 h)
  · exact z_go pc' L r M hc (by unfold o_ilt; dsimp only; rw [if_neg (fun q => h ((jn_lt ha hb).mp q)), hp]) (h2 h)
theorem z_ige (t pc' : Nat) {a b : Nat} (hc : jx_cd mi pc = some (o_ige t)) (hp : pc + 3 = pc') (ha : a < 2 ^ 31) (hb : b < 2 ^ 31) (h1 : a < b → jZ d mi pc' L r M post) (h2 : ¬ a < b → jZ d mi t L r M post) : jZ d mi pc L (.int (jn b) :: .int (jn a) :: r) M post := by
  by_cases h : a < b
  · exact z_go pc' L r M hc (by unfold o_ige; dsimp only; rw [if_pos ((jn_lt ha hb).mpr h), hp]) (h1 h)
  · exact z_go t L r M hc (by unfold o_ige; dsimp only; rw [if_neg (fun q => h ((jn_lt ha hb).mp q))]) (h2 h)
theorem z_igt (t pc' : Nat) {a b : Nat} (hc : jx_cd mi pc = some (o_igt t)) (hp : pc + 3 = pc') (ha : a < 2 ^ 31) (hb : b < 2 ^ 31) (h1 : b < a → jZ d mi t L r M post) (h2 : ¬ b < a → jZ d mi pc' L r M post) : jZ d mi pc L (.int (jn b) :: .int (jn a) :: r) M post := by
  by_cases h : b < a
  · exact z_go t L r M hc (by unfold o_igt; dsimp only; rw [if_pos ((jn_lt hb ha).mpr h)]) (h1 h)
  · exact z_go pc' L r M hc (by unfold o_igt; dsimp only; rw [if_neg (fun q => h ((jn_lt hb ha).mp q)), hp]) (h2 h)
theorem z_ile (t pc' : Nat) {a b : Nat} (hc : jx_cd mi pc = some (o_ile t)) (hp : pc + 3 = pc') (ha : a < 2 ^ 31) (hb : b < 2 ^ 31) (h1 : b < a → jZ d mi pc' L r M post) (h2 : ¬ b < a → jZ d mi t L r M post) : jZ d mi pc L (.int (jn b) :: .int (jn a) :: r) M post := by
  by_cases h : b < a
  · exact z_go pc' L r M hc (by unfold o_ile; dsimp only; rw [if_pos ((jn_lt hb ha).mpr h), hp]) (h1 h)
  · exact z_go t L r M hc (by unfold o_ile; dsimp only; rw [if_neg (fun q => h ((jn_lt hb ha).mp q))]) (h2 h)
theorem z_ieq (t pc' : Nat) {x y : Int32} {p : Prop} (hc : jx_cd mi pc = some (o_ieq t)) (hp : pc + 3 = pc') (e : x = y ↔ p) (h1 : p → jZ d mi t L r M post) (h2 : ¬ p → jZ d mi pc' L r M post) : jZ d mi pc L (.int y :: .int x :: r) M post := by
  by_cases h : x = y
  · exact z_go t L r M hc (by unfold o_ieq; dsimp only; rw [if_pos h]) (h1 (e.mp h))
  · exact z_go pc' L r M hc (by unfold o_ieq; dsimp only; rw [if_neg h, hp]) (h2 (fun q => h (e.mpr q)))
theorem z_ine (t pc' : Nat) {x y : Int32} {p : Prop} (hc : jx_cd mi pc = some (o_ine t)) (hp : pc + 3 = pc') (e : x = y ↔ p) (h1 : p → jZ d mi pc' L r M post) (h2 : ¬ p → jZ d mi t L r M post) : jZ d mi pc L (.int y :: .int x :: r) M post := by
  by_cases h : x = y
  · exact z_go pc' L r M hc (by unfold o_ine; dsimp only; rw [if_pos h, hp]) (h1 (e.mp h))
  · exact z_go t L r M hc (by unfold o_ine; dsimp only; rw [if_neg h]) (h2 (fun q => h (e.mpr q)))
theorem z_ifeq (t pc' : Nat) {x : Int32} {p : Prop} (hc : jx_cd mi pc = some (o_ifeq t)) (hp : pc + 3 = pc') (e : x = 0 ↔ p) (h1 : p → jZ d mi t L r M post) (h2 : ¬ p → jZ d mi pc' L r M post) : jZ d mi pc L (.int x :: r) M post := by
  by_cases h : x = 0
  · exact z_go t L r M hc (by unfold o_ifeq; dsimp only; rw [if_pos h]) (h1 (e.mp h))
  · exact z_go pc' L r M hc (by unfold o_ifeq; dsimp only; rw [if_neg h, hp]) (h2 (fun q => h (e.mpr q)))
theorem z_ifne (t pc' : Nat) {x : Int32} {p : Prop} (hc : jx_cd mi pc = some (o_ifne t)) (hp : pc + 3 = pc') (e : x = 0 ↔ p) (h1 : p → jZ d mi pc' L r M post) (h2 : ¬ p → jZ d mi t L r M post) : jZ d mi pc L (.int x :: r) M post := by
  by_cases h : x = 0
  · exact z_go pc' L r M hc (by unfold o_ifne; dsimp only; rw [if_pos h, hp]) (h1 (e.mp h))
  · exact z_go t L r M hc (by unfold o_ifne; dsimp only; rw [if_neg h]) (h2 (fun q => h (e.mpr q)))
theorem z_iflt (t pc' : Nat) {x : Int32} {p : Prop} (hc : jx_cd mi pc = some (o_iflt t)) (hp : pc + 3 = pc') (e : x < 0 ↔ p) (h1 : p → jZ d mi t L r M post) (h2 : ¬ p → jZ d mi pc' L r M post) : jZ d mi pc L (.int x :: r) M post := by
  by_cases h : x < 0
  · exact z_go t L r M hc (by unfold o_iflt; dsimp only; rw [if_pos h]) (h1 (e.mp h))
  · exact z_go pc' L r M hc (by unfold o_iflt; dsimp only; rw [if_neg h, hp]) (h2 (fun q => h (e.mpr q)))
theorem z_ifge (t pc' : Nat) {x : Int32} {p : Prop} (hc : jx_cd mi pc = some (o_ifge t)) (hp : pc + 3 = pc') (e : x < 0 ↔ p) (h1 : p → jZ d mi pc' L r M post) (h2 : ¬ p → jZ d mi t L r M post) : jZ d mi pc L (.int x :: r) M post := by
  by_cases h : x < 0
  · exact z_go pc' L r M hc (by unfold o_ifge; dsimp only; rw [if_pos h, hp]) (h1 (e.mp h))
  · exact z_go t L r M hc (by unfold o_ifge; dsimp only; rw [if_neg h]) (h2 (fun q => h (e.mpr q)))
theorem z_ifle (t pc' : Nat) {x : Int32} {p : Prop} (hc : jx_cd mi pc = some (o_ifle t)) (hp : pc + 3 = pc') (e : 0 < x ↔ p) (h1 : p → jZ d mi pc' L r M post) (h2 : ¬ p → jZ d mi t L r M post) : jZ d mi pc L (.int x :: r) M post := by
  by_cases h : 0 < x
  · exact z_go pc' L r M hc (by unfold o_ifle; dsimp only; rw [if_pos h, hp]) (h1 (e.mp h))
  · exact z_go t L r M hc (by unfold o_ifle; dsimp only; rw [if_neg h]) (h2 (fun q => h (e.mpr q)))
/-! ends and calls -/
theorem z_iret {x : Int32} (hc : jx_cd mi pc = some o_iret) (k : post (.inl (some (.int x))) M) : jZ d mi pc L [.int x] M post := jx_fin (P := jx_PR) hc rfl k
theorem z_zret {b : Bool} (hc : jx_cd mi pc = some o_zret) (k : post (.inl (some (.int (jb b)))) M) : jZ d mi pc L [.int (jb b)] M post := jx_fin (P := jx_PR) hc (by unfold o_zret; dsimp only; rw [if_pos (jb_01 b)]) k
theorem z_cret {x : Int32} (hc : jx_cd mi pc = some o_cret) (h : vp_nar .char x = x) (k : post (.inl (some (.int x))) M) : jZ d mi pc L [.int x] M post := jx_fin (P := jx_PR) hc (by unfold o_cret; dsimp only; rw [if_pos h]) k
theorem z_bret {x : Int32} (hc : jx_cd mi pc = some o_bret) (h : vp_nar .byte x = x) (k : post (.inl (some (.int x))) M) : jZ d mi pc L [.int x] M post := jx_fin (P := jx_PR) hc (by unfold o_bret; dsimp only; rw [if_pos h]) k
theorem z_ret (hc : jx_cd mi pc = some o_ret) (k : post (.inl none) M) : jZ d mi pc L [] M post := jx_fin (P := jx_PR) hc rfl k
theorem z_aret {a : Nat} (hc : jx_cd mi pc = some o_aret) (k : post (.inl (some (.ref a))) M) : jZ d mi pc L [.ref a] M post := jx_fin (P := jx_PR) hc rfl k
theorem z_aretn (hc : jx_cd mi pc = some o_aret) (k : post (.inl (some .null)) M) : jZ d mi pc L [.null] M post := jx_fin (P := jx_PR) hc rfl k
/-- what a method answers, and the memory then: an end by return -/
def jR (v : Option Value) (M' : jx_M) : jx_R → jx_M → Prop := fun r M1 => r = .inl v ∧ M1 = M'
theorem z_call (pc' : Nat) (ce n : Nat) {v : Option Value} (hc : jx_cd mi pc = some (o_call ce n)) (hp : pc + 3 = pc') (hn : n ≤ st.length ∧ st.length ≤ n + 4) (as : List Value) (ha : (st.take n).reverse = as) (hr : st.drop n = r) (L' : jx_L) (hen : jx_en as (jx_ml ce) = L') (hl : L'.length = jx_ml ce) (hz : jZ d ce 0 L' [] M (jR v M')) (kk : jZ (d + 1) mi pc' L (v.toList ++ r) M' post) : jZ (d + 1) mi pc L st M post := by
  refine jx_do (P := jx_PR) hc (by unfold o_call; rw [if_pos hn, ha, hr, hp]) (by show (jx_en as (jx_ml ce)).length = jx_ml ce; rw [hen, hl]) ?_
  show jx_Z jx_PR d ce 0 (jx_en as (jx_ml ce)) [] M _
  rw [hen]
  refine hz.mono fun r1 M1 h => ?_
  obtain ⟨rfl, rfl⟩ := h
  exact kk
theorem z_callv (pc' : Nat) (ci ce n : Nat) {v : Option Value} (a : Nat) {fs : List Value} (hc : jx_cd mi pc = some (o_callv ci ce n)) (hp : pc + 3 = pc') (hn : n < st.length ∧ st.length ≤ n + 5) (hg : st.getD n .null = .ref a) (hM : M.1 a = .inr (ci, fs)) (as : List Value) (ha : (st.take (n + 1)).reverse = as) (hr : st.drop (n + 1) = r) (L' : jx_L) (hen : jx_en as (jx_ml ce) = L') (hl : L'.length = jx_ml ce) (hz : jZ d ce 0 L' [] M (jR v M')) (kk : jZ (d + 1) mi pc' L (v.toList ++ r) M' post) : jZ (d + 1) mi pc L st M post := by
  refine jx_do (P := jx_PR) hc (by unfold o_callv; rw [if_pos hn, hg]; dsimp only; rw [hM]; dsimp only; rw [if_pos rfl, ha, hr, hp]) (by show (jx_en as (jx_ml ce)).length = jx_ml ce; rw [hen, hl]) ?_
  show jx_Z jx_PR d ce 0 (jx_en as (jx_ml ce)) [] M _
  rw [hen]
  refine hz.mono fun r1 M1 h => ?_
  obtain ⟨rfl, rfl⟩ := h
  exact kk
end ZZ
