/-! THE REFERENCE: a whole text; printed by wip/whole/p67.py -/
theorem c_76_17 : jx_cd 76 17 = some (o_ild 2 1) := rfl
theorem c_76_18 : jx_cd 76 18 = some (o_push (.int 10) 2) := rfl
theorem c_76_20 : jx_cd 76 20 = some (o_ige 36) := rfl
theorem c_76_23 : jx_cd 76 23 = some (o_ald 0 1) := rfl
theorem c_76_24 : jx_cd 76 24 = some (o_getf 6 13) := rfl
theorem c_76_27 : jx_cd 76 27 = some (o_ild 2 1) := rfl
theorem c_76_28 : jx_cd 76 28 = some (o_push (.int (-1)) 1) := rfl
theorem c_76_29 : jx_cd 76 29 = some (o_iast) := rfl
theorem c_76_30 : jx_cd 76 30 = some (o_iinc 2 1) := rfl
theorem c_76_33 : jx_cd 76 33 = some (o_goto 17) := rfl
theorem c_76_143 : jx_cd 76 143 = some (o_ild 7 2) := rfl
theorem c_76_145 : jx_cd 76 145 = some (o_ifeq 202) := rfl
theorem c_76_148 : jx_cd 76 148 = some (o_ald 0 1) := rfl
theorem c_76_149 : jx_cd 76 149 = some (o_ald 0 1) := rfl
theorem c_76_150 : jx_cd 76 150 = some (o_getf 6 3) := rfl
theorem c_76_153 : jx_cd 76 153 = some (o_callv 6 77 1) := rfl
theorem c_76_156 : jx_cd 76 156 = some (o_push (.int 41) 2) := rfl
theorem c_76_158 : jx_cd 76 158 = some (o_ine 202) := rfl
theorem c_76_161 : jx_cd 76 161 = some (o_ild 2 1) := rfl
theorem c_76_162 : jx_cd 76 162 = some (o_ifle 169) := rfl
theorem c_76_165 : jx_cd 76 165 = some (o_push (.int 1) 1) := rfl
theorem c_76_166 : jx_cd 76 166 = some (o_goto 170) := rfl
theorem c_76_169 : jx_cd 76 169 = some (o_push (.int 0) 1) := rfl
theorem c_76_170 : jx_cd 76 170 = some (o_ist 7 2) := rfl
theorem c_76_172 : jx_cd 76 172 = some (o_ild 7 2) := rfl
theorem c_76_174 : jx_cd 76 174 = some (o_ifne 179) := rfl
theorem c_76_177 : jx_cd 76 177 = some (o_push (.int 0) 1) := rfl
theorem c_76_178 : jx_cd 76 178 = some (o_zret) := rfl
theorem c_76_179 : jx_cd 76 179 = some (o_iinc 2 (-1)) := rfl
theorem c_76_182 : jx_cd 76 182 = some (o_ald 0 1) := rfl
theorem c_76_183 : jx_cd 76 183 = some (o_getf 6 12) := rfl
theorem c_76_186 : jx_cd 76 186 = some (o_ild 2 1) := rfl
theorem c_76_187 : jx_cd 76 187 = some (o_iald) := rfl
theorem c_76_188 : jx_cd 76 188 = some (o_ist 3 1) := rfl
theorem c_76_189 : jx_cd 76 189 = some (o_ald 0 1) := rfl
theorem c_76_190 : jx_cd 76 190 = some (o_dup) := rfl
theorem c_76_191 : jx_cd 76 191 = some (o_getf 6 3) := rfl
theorem c_76_194 : jx_cd 76 194 = some (o_push (.int 1) 1) := rfl
theorem c_76_195 : jx_cd 76 195 = some (o_bin fun x y => x + y) := rfl
theorem c_76_196 : jx_cd 76 196 = some (o_putf 6 3 jx_okI) := rfl
theorem c_76_199 : jx_cd 76 199 = some (o_goto 143) := rfl
set_option maxRecDepth 100000 in
theorem c_76_259 : jx_cd 76 259 = some (o_push (.int 1) 1) := rfl
set_option maxRecDepth 100000 in
theorem c_76_260 : jx_cd 76 260 = some (o_ist 5 2) := rfl
set_option maxRecDepth 100000 in
theorem c_76_262 : jx_cd 76 262 = some (o_push (.int 1) 1) := rfl
set_option maxRecDepth 100000 in
theorem c_76_263 : jx_cd 76 263 = some (o_ist 6 2) := rfl
set_option maxRecDepth 100000 in
theorem c_76_265 : jx_cd 76 265 = some (o_ild 6 2) := rfl
set_option maxRecDepth 100000 in
theorem c_76_267 : jx_cd 76 267 = some (o_push (.int 10) 2) := rfl
set_option maxRecDepth 100000 in
theorem c_76_269 : jx_cd 76 269 = some (o_ige 300) := rfl
set_option maxRecDepth 100000 in
theorem c_76_272 : jx_cd 76 272 = some (o_ild 5 2) := rfl
set_option maxRecDepth 100000 in
theorem c_76_274 : jx_cd 76 274 = some (o_ifeq 291) := rfl
set_option maxRecDepth 100000 in
theorem c_76_277 : jx_cd 76 277 = some (o_ald 0 1) := rfl
set_option maxRecDepth 100000 in
theorem c_76_278 : jx_cd 76 278 = some (o_getf 6 13) := rfl
set_option maxRecDepth 100000 in
theorem c_76_281 : jx_cd 76 281 = some (o_ild 6 2) := rfl
set_option maxRecDepth 100000 in
theorem c_76_283 : jx_cd 76 283 = some (o_iald) := rfl
set_option maxRecDepth 100000 in
theorem c_76_284 : jx_cd 76 284 = some (o_ifge 291) := rfl
set_option maxRecDepth 100000 in
theorem c_76_287 : jx_cd 76 287 = some (o_push (.int 1) 1) := rfl
set_option maxRecDepth 100000 in
theorem c_76_288 : jx_cd 76 288 = some (o_goto 292) := rfl
set_option maxRecDepth 100000 in
theorem c_76_291 : jx_cd 76 291 = some (o_push (.int 0) 1) := rfl
set_option maxRecDepth 100000 in
theorem c_76_292 : jx_cd 76 292 = some (o_ist 5 2) := rfl
set_option maxRecDepth 100000 in
theorem c_76_294 : jx_cd 76 294 = some (o_iinc 6 1) := rfl
set_option maxRecDepth 100000 in
theorem c_76_297 : jx_cd 76 297 = some (o_goto 265) := rfl
set_option maxRecDepth 100000 in
theorem c_76_300 : jx_cd 76 300 = some (o_ald 0 1) := rfl
set_option maxRecDepth 100000 in
theorem c_76_301 : jx_cd 76 301 = some (o_getf 6 15) := rfl
set_option maxRecDepth 100000 in
theorem c_76_304 : jx_cd 76 304 = some (o_ifeq 325) := rfl
set_option maxRecDepth 100000 in
theorem c_76_307 : jx_cd 76 307 = some (o_ild 4 2) := rfl
set_option maxRecDepth 100000 in
theorem c_76_309 : jx_cd 76 309 = some (o_ifeq 325) := rfl
set_option maxRecDepth 100000 in
theorem c_76_312 : jx_cd 76 312 = some (o_ild 2 1) := rfl
set_option maxRecDepth 100000 in
theorem c_76_313 : jx_cd 76 313 = some (o_ifne 325) := rfl
set_option maxRecDepth 100000 in
theorem c_76_316 : jx_cd 76 316 = some (o_ild 5 2) := rfl
set_option maxRecDepth 100000 in
theorem c_76_318 : jx_cd 76 318 = some (o_ifeq 325) := rfl
set_option maxRecDepth 100000 in
theorem c_76_321 : jx_cd 76 321 = some (o_push (.int 1) 1) := rfl
set_option maxRecDepth 100000 in
theorem c_76_322 : jx_cd 76 322 = some (o_goto 326) := rfl
set_option maxRecDepth 100000 in
theorem c_76_325 : jx_cd 76 325 = some (o_push (.int 0) 1) := rfl
set_option maxRecDepth 100000 in
theorem c_76_326 : jx_cd 76 326 = some (o_zret) := rfl
/-- the open digits are forgotten, from i on -/
def sp_nf (i : Nat) (f : Nat → Option Nat) : Nat → Option Nat := fun j => if i ≤ j ∧ j < 10 then none else f j
theorem sp_nf_e {f : Nat → Option Nat} : sp_nf 10 f = f := by
  funext j
  unfold sp_nf
  rw [if_neg (by omega)]
theorem sp_nf_s {i : Nat} {f : Nat → Option Nat} (h : i < 10) : sp_nf (i + 1) (nu f i none) = sp_nf i f := by
  funext j
  unfold sp_nf nu
  by_cases h1 : i + 1 ≤ j ∧ j < 10
  · rw [if_pos h1, if_pos (by omega)]
  · rw [if_neg h1]
    by_cases e : j = i
    · rw [if_pos e, if_pos (by omega)]
    · rw [if_neg e, if_neg (by omega)]
theorem sp_nf_0 {f : Nat → Option Nat} : sp_nf 0 f = sp_none f 10 := by
  funext j
  unfold sp_nf sp_none
  by_cases h : j < 10
  · rw [if_pos h, if_pos (by omega)]
  · rw [if_neg h, if_neg (by omega)]
theorem t_mrd_o {d : Nat} {pt gd : Bool} {w : MW} {ln at_ n : Nat} {post : jx_R → jx_M → Prop} : ∀ {k i : Nat} {oa : Nat → Option Nat} {M : jx_M}, i + k = 10 → M.1 92 = mW w ln at_ n gd → M.1 102 = .inl (0, 10, .inl (jao oa)) → (∀ z, jZ d 76 36 [some (.ref 92), some (.int (jb pt)), z, none, none, none, none, none] [] (jm [(102, .inl (0, 10, .inl (jao (sp_nf i oa))))] M) post) → jZ d 76 17 [some (.ref 92), some (.int (jb pt)), some (.int (jn i)), none, none, none, none, none] [] M post := by
  intro k
  induction k with
  | zero =>
    intro i oa M hi0 h92 h102 hk
    refine z_go 18 _ [.int (jn i)] _ c_76_17 rfl ?_
    refine z_go 20 _ [.int (jn 10), .int (jn i)] _ c_76_18 rfl ?_
    refine z_ige 36 23 c_76_20 rfl (by omega) (by omega) (fun hi => ?_) (fun hi => ?_)
    · omega
    · have e0 : i = 10 := by omega
      subst e0
      have e1 : jm [(102, .inl (0, 10, .inl (jao (sp_nf 10 oa))))] M = M := by rw [sp_nf_e]; exact jx_st_id h102
      rw [e1] at hk
      exact hk _
  | succ k ih =>
    intro i oa M hi0 h92 h102 hk
    refine z_go 18 _ [.int (jn i)] _ c_76_17 rfl ?_
    refine z_go 20 _ [.int (jn 10), .int (jn i)] _ c_76_18 rfl ?_
    refine z_ige 36 23 c_76_20 rfl (by omega) (by omega) (fun hi => ?_) (fun hi => ?_)
    · refine z_go 24 _ [.ref 92] _ c_76_23 rfl ?_
      refine z_getf (v := .ref 102) 27 c_76_24 rfl h92 rfl ?_
      refine z_go 28 _ [.int (jn i), .ref 102] _ c_76_27 rfl ?_
      refine z_go 29 _ [.int (jo none), .int (jn i), .ref 102] _ c_76_28 rfl ?_
      refine z_iast (M' := jm [(102, .inl (0, 10, .inl (jao (nu oa i none))))] M) 30 c_76_29 rfl h102 (by omega) (by omega) ((congrArg (fun f => jx_st _ 102 (.inl (0, 10, .inl f))) (jao_upd (f := oa) (k := i) (x := none))).trans rfl) ?_
      refine z_iinc 33 [some (.ref 92), some (.int (jb pt)), some (.int (jn (i + 1))), none, none, none, none, none] c_76_30 rfl rfl (jn_add _ _) rfl ?_
      refine z_go 17 _ [] _ c_76_33 rfl ?_
      refine ih (i := i + 1) (M := jm [(102, .inl (0, 10, .inl (jao (nu oa i none))))] M) (by omega) h92 rfl (fun z => ?_)
      rw [sp_nf_s hi]
      refine z_m (jx_st_st M 102 _ _) ?_
      exact hk z
    · omega
theorem t_mrd_c {d : Nat} {pt gd en : Bool} {w : MW} {ln at_ n dp : Nat} {oa : Nat → Option Nat} {M : jx_M} {z3 z7 : Option Value} {post : jx_R → jx_M → Prop} (h92 : M.1 92 = mW w ln at_ n gd) (h102 : M.1 102 = .inl (0, 10, .inl (jao oa))) (hoa : ∀ d, d < 10 → ∀ k, oa d = some k → k < 40) : ∀ {k i : Nat} {c : Bool}, i + k = 10 → (∀ z, jZ d 76 300 [some (.ref 92), some (.int (jb pt)), some (.int (jn dp)), z3, some (.int (jb en)), some (.int (jb (c && !sp_op oa k i))), z, z7] [] M post) → jZ d 76 265 [some (.ref 92), some (.int (jb pt)), some (.int (jn dp)), z3, some (.int (jb en)), some (.int (jb c)), some (.int (jn i)), z7] [] M post := by
  intro k
  induction k with
  | zero =>
    intro i c hi0 hk
    refine z_go 267 _ [.int (jn i)] _ c_76_265 rfl ?_
    refine z_go 269 _ [.int (jn 10), .int (jn i)] _ c_76_267 rfl ?_
    refine z_ige 300 272 c_76_269 rfl (by omega) (by omega) (fun hi => ?_) (fun hi => ?_)
    · omega
    · rw [show (c && !sp_op oa 0 i) = c by cases c <;> rfl] at hk
      exact hk _
  | succ k ih =>
    intro i c hi0 hk
    refine z_go 267 _ [.int (jn i)] _ c_76_265 rfl ?_
    refine z_go 269 _ [.int (jn 10), .int (jn i)] _ c_76_267 rfl ?_
    refine z_ige 300 272 c_76_269 rfl (by omega) (by omega) (fun hi => ?_) (fun hi => ?_)
    · have hob : ∀ k, oa i = some k → k < 2 ^ 31 := fun k q => by have := hoa i (by omega) k q; omega
      refine z_cut 292 [some (.ref 92), some (.int (jb pt)), some (.int (jn dp)), z3, some (.int (jb en)), some (.int (jb c)), some (.int (jn i)), z7] [.int (jb (c && decide (oa i = none)))] (fun kc => ?_) ?_
      · refine z_go 274 _ [.int (jb c)] _ c_76_272 rfl ?_
        refine z_ifeq 291 277 c_76_274 rfl jb_t (fun g0 => ?_) (fun g0 => ?_)
        · refine z_go 292 _ [.int (jn 0)] _ c_76_291 rfl ?_
          exact z_v (by rw [g0]; rfl) kc
        · have g0t : c = true := by cases c <;> simp_all
          refine z_go 278 _ [.ref 92] _ c_76_277 rfl ?_
          refine z_getf (v := .ref 102) 281 c_76_278 rfl h92 rfl ?_
          refine z_go 283 _ [.int (jn i), .ref 102] _ c_76_281 rfl ?_
          refine z_iald 284 c_76_283 rfl h102 (Or.inl rfl) (by omega) (by omega) ?_
          show jZ _ _ _ _ ([.int (jo (oa i))]) _ _
          refine z_ifge 291 287 c_76_284 rfl (jo_lt hob) (fun g1 => ?_) (fun g1 => ?_)
          · refine z_go 288 _ [.int (jn 1)] _ c_76_287 rfl ?_
            refine z_go 292 _ [.int (jn 1)] _ c_76_288 rfl ?_
            exact z_v (by rw [g0t, decide_eq_true g1]; rfl) kc
          · refine z_go 292 _ [.int (jn 0)] _ c_76_291 rfl ?_
            exact z_v (by rw [decide_eq_false g1, Bool.and_false]; rfl) kc
      refine z_go 294 [some (.ref 92), some (.int (jb pt)), some (.int (jn dp)), z3, some (.int (jb en)), some (.int (jb (c && decide (oa i = none)))), some (.int (jn i)), z7] [] _ c_76_292 rfl ?_
      refine z_iinc 297 [some (.ref 92), some (.int (jb pt)), some (.int (jn dp)), z3, some (.int (jb en)), some (.int (jb (c && decide (oa i = none)))), some (.int (jn (i + 1))), z7] c_76_294 rfl rfl (jn_add _ _) rfl ?_
      refine z_go 265 _ [] _ c_76_297 rfl ?_
      refine ih (i := i + 1) (by omega) (fun z => ?_)
      rw [show ((c && decide (oa i = none)) && !sp_op oa k (i + 1)) = (c && !sp_op oa (k + 1) i) by rw [sp_op]; by_cases g : oa i = none <;> simp [g]]
      exact hk z
    · omega
theorem t_mrd_x {d : Nat} {pt gd en : Bool} {w : MW} {ln at_ n dp : Nat} {oa : Nat → Option Nat} {M : jx_M} {z3 z5 z6 z7 : Option Value} (h92 : M.1 92 = mW w ln at_ n gd) (h102 : M.1 102 = .inl (0, 10, .inl (jao oa))) (hoa : ∀ d, d < 10 → ∀ k, oa d = some k → k < 40) (hdp : dp < 1000) : jZ d 76 259 [some (.ref 92), some (.int (jb pt)), some (.int (jn dp)), z3, some (.int (jb en)), z5, z6, z7] [] M (jR (some (.int (jb (gd && en && decide (dp = 0) && !sp_op oa 9 1)))) M) := by
  refine z_go 260 _ [.int (jn 1)] _ c_76_259 rfl ?_
  show jZ _ _ _ _ [.int (jb true)] _ _
  refine z_go 262 [some (.ref 92), some (.int (jb pt)), some (.int (jn dp)), z3, some (.int (jb en)), some (.int (jb true)), z6, z7] [] _ c_76_260 rfl ?_
  refine z_go 263 _ [.int (jn 1)] _ c_76_262 rfl ?_
  refine z_go 265 [some (.ref 92), some (.int (jb pt)), some (.int (jn dp)), z3, some (.int (jb en)), some (.int (jb true)), some (.int (jn 1)), z7] [] _ c_76_263 rfl ?_
  refine t_mrd_c (k := 9) (i := 1) (c := true) h92 h102 hoa (by decide) (fun z => ?_)
  rw [Bool.true_and]
  refine z_go 301 _ [.ref 92] _ c_76_300 rfl ?_
  refine z_getf (v := .int (jb gd)) 304 c_76_301 rfl h92 rfl ?_
  refine z_ifeq 325 307 c_76_304 rfl jb_t (fun g0 => ?_) (fun g0 => ?_)
  · refine z_go 326 _ [.int (jn 0)] _ c_76_325 rfl ?_
    refine z_zret (b := false) c_76_326 ?_
    exact ⟨by rw [show (gd && en && decide (dp = 0) && !sp_op oa 9 1) = false by rw [g0]; rfl], rfl⟩
  · refine z_go 309 _ [.int (jb en)] _ c_76_307 rfl ?_
    refine z_ifeq 325 312 c_76_309 rfl jb_t (fun g1 => ?_) (fun g1 => ?_)
    · refine z_go 326 _ [.int (jn 0)] _ c_76_325 rfl ?_
      refine z_zret (b := false) c_76_326 ?_
      exact ⟨by rw [show (gd && en && decide (dp = 0) && !sp_op oa 9 1) = false by rw [g1]; cases gd <;> rfl], rfl⟩
    · refine z_go 313 _ [.int (jn dp)] _ c_76_312 rfl ?_
      refine z_ifne 325 316 c_76_313 rfl (jn_z (by omega)) (fun g2 => ?_) (fun g2 => ?_)
      · refine z_go 318 _ [.int (jb (!sp_op oa 9 1))] _ c_76_316 rfl ?_
        refine z_ifeq 325 321 c_76_318 rfl jb_t (fun g3 => ?_) (fun g3 => ?_)
        · refine z_go 326 _ [.int (jn 0)] _ c_76_325 rfl ?_
          refine z_zret (b := false) c_76_326 ?_
          exact ⟨by rw [show (gd && en && decide (dp = 0) && !sp_op oa 9 1) = false by rw [g3]; cases gd <;> cases en <;> simp], rfl⟩
        · refine z_go 322 _ [.int (jn 1)] _ c_76_321 rfl ?_
          refine z_go 326 _ [.int (jn 1)] _ c_76_322 rfl ?_
          refine z_zret (b := true) c_76_326 ?_
          exact ⟨by rw [show (gd && en && decide (dp = 0) && !sp_op oa 9 1) = true by cases gd <;> cases en <;> simp_all], rfl⟩
      · refine z_go 326 _ [.int (jn 0)] _ c_76_325 rfl ?_
        refine z_zret (b := false) c_76_326 ?_
        exact ⟨by rw [show (gd && en && decide (dp = 0) && !sp_op oa 9 1) = false by rw [decide_eq_false g2]; cases gd <;> cases en <;> rfl], rfl⟩
theorem t_mrd_s {d : Nat} {pt gd : Bool} {w : MW} {tx : Nat → Nat} {ln n sf : Nat} {bk : Nat → Nat} {z5 : Option Value} {post : jx_R → jx_M → Prop} (hl : ln ≤ 40) (ht : ∀ j, tx j < 127) : ∀ {k at_ dp o : Nat} {M : jx_M}, ln ≤ at_ + k → dp ≤ 40 ∧ at_ ≤ 50 → M.1 92 = mW w ln at_ n gd → M.1 93 = .inl (0, 40, .inl (ja tx)) → M.1 101 = .inl (0, 40, .inl (ja bk)) → (∀ j, j < dp → bk j < 40) → (sp_pe tx ln bk k at_ dp o = none → ∀ p1, post (.inl (some (.int (jb false)))) (jm [(92, mW w ln p1 n gd)] M)) → (∀ o' p' dp', sp_pe tx ln bk k at_ dp o = some (o', p', dp') → jZ (d + 1) 76 202 [some (.ref 92), some (.int (jb pt)), some (.int (jn dp')), some (.int (jn o')), some (.int (jb false)), z5, some (.int (jn sf)), some (.int (jb true))] [] (jm [(92, mW w ln p' n gd)] M) post) → jZ (d + 1) 76 143 [some (.ref 92), some (.int (jb pt)), some (.int (jn dp)), some (.int (jn o)), some (.int (jb false)), z5, some (.int (jn sf)), some (.int (jb true))] [] M post := by
  intro k
  induction k with
  | zero =>
    intro at_ dp o M hk0 hda h92 h93 h101 hb h0f h1
    have hc := sp_here_128 (tx := tx) (ln := ln) (p := at_) ht
    refine z_go 145 _ [.int (jb true)] _ c_76_143 rfl ?_
    refine z_ifeq 202 148 c_76_145 rfl jb_t (fun h => absurd h (by decide)) (fun _ => ?_)
    refine z_go 149 _ [.ref 92] _ c_76_148 rfl ?_
    refine z_go 150 _ [.ref 92, .ref 92] _ c_76_149 rfl ?_
    refine z_getf (v := .int (jn at_)) 153 c_76_150 rfl h92 rfl ?_
    refine z_callv 156 6 77 1 92 c_76_153 rfl ⟨Nat.le_of_ble_eq_true rfl, Nat.le_of_ble_eq_true rfl⟩ rfl h92 [.ref 92, .int (jn at_)] rfl rfl [some (.ref 92), some (.int (jn at_))] rfl rfl (t_mch h92 h93 hl (by omega)) ?_
    show jZ _ _ _ _ [.int (jn (sp_here tx ln at_))] _ _
    refine z_go 158 _ [.int (jn 41), .int (jn (sp_here tx ln at_))] _ c_76_156 rfl ?_
    refine z_ine 202 161 c_76_158 rfl (jn_inj (by omega) (by omega)) (fun h41 => ?_) (fun h41 => ?_)
    · rw [here_ge (by omega)] at h41
      cases h41
    · have e1 : jm [(92, mW w ln at_ n gd)] M = M := jx_st_id h92
      have h9 := h1 o at_ dp rfl
      rw [e1] at h9
      exact h9
  | succ k ih =>
    intro at_ dp o M hk0 hda h92 h93 h101 hb h0f h1
    have hc := sp_here_128 (tx := tx) (ln := ln) (p := at_) ht
    refine z_go 145 _ [.int (jb true)] _ c_76_143 rfl ?_
    refine z_ifeq 202 148 c_76_145 rfl jb_t (fun h => absurd h (by decide)) (fun _ => ?_)
    refine z_go 149 _ [.ref 92] _ c_76_148 rfl ?_
    refine z_go 150 _ [.ref 92, .ref 92] _ c_76_149 rfl ?_
    refine z_getf (v := .int (jn at_)) 153 c_76_150 rfl h92 rfl ?_
    refine z_callv 156 6 77 1 92 c_76_153 rfl ⟨Nat.le_of_ble_eq_true rfl, Nat.le_of_ble_eq_true rfl⟩ rfl h92 [.ref 92, .int (jn at_)] rfl rfl [some (.ref 92), some (.int (jn at_))] rfl rfl (t_mch h92 h93 hl (by omega)) ?_
    show jZ _ _ _ _ [.int (jn (sp_here tx ln at_))] _ _
    refine z_go 158 _ [.int (jn 41), .int (jn (sp_here tx ln at_))] _ c_76_156 rfl ?_
    refine z_ine 202 161 c_76_158 rfl (jn_inj (by omega) (by omega)) (fun h41 => ?_) (fun h41 => ?_)
    · have hlt := here_pos (tx := tx) (ln := ln) (p := at_) (by omega)
      refine z_go 162 _ [.int (jn dp)] _ c_76_161 rfl ?_
      refine z_ifle 169 165 c_76_162 rfl (jn_pos (by omega)) (fun h0 => ?_) (fun h0 => ?_)
      · refine z_go 166 _ [.int (jn 1)] _ c_76_165 rfl ?_
        refine z_go 170 _ [.int (jn 1)] _ c_76_166 rfl ?_
        refine z_go 172 [some (.ref 92), some (.int (jb pt)), some (.int (jn dp)), some (.int (jn o)), some (.int (jb false)), z5, some (.int (jn sf)), some (.int (jn 1))] [] _ c_76_170 rfl ?_
        refine z_go 174 _ [.int (jn 1)] _ c_76_172 rfl ?_
        refine z_ifne 179 177 c_76_174 rfl (jn_z (by decide)) (fun h => absurd h (by decide)) (fun _ => ?_)
        have hbk := hb (dp - 1) (by omega)
        refine z_iinc 182 [some (.ref 92), some (.int (jb pt)), some (.int (jn (dp - 1))), some (.int (jn o)), some (.int (jb false)), z5, some (.int (jn sf)), some (.int (jn 1))] c_76_179 rfl rfl (z_subc (a := dp) (b := 1) (by omega)) rfl ?_
        refine z_go 183 _ [.ref 92] _ c_76_182 rfl ?_
        refine z_getf (v := .ref 101) 186 c_76_183 rfl h92 rfl ?_
        refine z_go 187 _ [.int (jn (dp - 1)), .ref 101] _ c_76_186 rfl ?_
        refine z_iald 188 c_76_187 rfl h101 (Or.inl rfl) (by omega) (by omega) ?_
        show jZ _ _ _ _ ([.int (jn (bk (dp - 1)))]) _ _
        refine z_go 189 [some (.ref 92), some (.int (jb pt)), some (.int (jn (dp - 1))), some (.int (jn (bk (dp - 1)))), some (.int (jb false)), z5, some (.int (jn sf)), some (.int (jn 1))] [] _ c_76_188 rfl ?_
        refine z_go 190 _ [.ref 92] _ c_76_189 rfl ?_
        refine z_go 191 _ [.ref 92, .ref 92] _ c_76_190 rfl ?_
        refine z_getf (v := .int (jn at_)) 194 c_76_191 rfl h92 rfl ?_
        refine z_go 195 _ [.int (jn 1), .int (jn at_), .ref 92] _ c_76_194 rfl ?_
        refine z_go 196 _ [.int ((jn at_) + (jn 1)), .ref 92] _ c_76_195 rfl ?_
        refine z_v (jn_add _ _) ?_
        refine z_putf (M' := jm [(92, mW w ln (at_ + 1) n gd)] M) 199 c_76_196 rfl h92 (rfl) (Nat.le_of_ble_eq_true rfl) rfl ?_
        refine z_go 143 _ [] _ c_76_199 rfl ?_
        show jZ _ _ _ [some (.ref 92), some (.int (jb pt)), some (.int (jn (dp - 1))), some (.int (jn (bk (dp - 1)))), some (.int (jb false)), z5, some (.int (jn sf)), some (.int (jb true))] _ _ _
        refine ih (M := jm [(92, mW w ln (at_ + 1) n gd)] M) (by omega) (by omega) rfl h93 h101 (fun j hj => hb j (by omega)) (fun q => ?_) (fun o1 p1 d1 q => ?_)
        · intro p1; have h9 := h0f (by rw [sp_pe, if_pos h41, if_neg (by omega)]; exact q) p1; rw [show jm [(92, mW w ln p1 n gd)] (jm [(92, mW w ln (at_ + 1) n gd)] M) = jm [(92, mW w ln p1 n gd)] M from jx_st_st M 92 _ _]; exact h9
        · have h9 := h1 o1 p1 d1 (by rw [sp_pe, if_pos h41, if_neg (by omega)]; exact q)
          rw [show jm [(92, mW w ln p1 n gd)] (jm [(92, mW w ln (at_ + 1) n gd)] M) = jm [(92, mW w ln p1 n gd)] M from jx_st_st M 92 _ _]
          exact h9
      · refine z_go 170 _ [.int (jn 0)] _ c_76_169 rfl ?_
        refine z_go 172 [some (.ref 92), some (.int (jb pt)), some (.int (jn dp)), some (.int (jn o)), some (.int (jb false)), z5, some (.int (jn sf)), some (.int (jn 0))] [] _ c_76_170 rfl ?_
        refine z_go 174 _ [.int (jn 0)] _ c_76_172 rfl ?_
        refine z_ifne 179 177 c_76_174 rfl (jn_z (by decide)) (fun _ => ?_) (fun h => absurd rfl h)
        refine z_go 178 _ [.int (jn 0)] _ c_76_177 rfl ?_
        refine z_zret (b := false) c_76_178 ?_
        have h9 := h0f (by rw [sp_pe, if_pos h41, if_pos (by omega)]) at_; rw [show jm [(92, mW w ln at_ n gd)] M = M from jx_st_id h92] at h9; exact h9
    · have e1 : jm [(92, mW w ln at_ n gd)] M = M := jx_st_id h92
      have h9 := h1 o at_ dp (by rw [sp_pe, if_neg h41])
      rw [e1] at h9
      exact h9
