/-! THE LAW'S HELPERS; printed by wip/whole/p80.py -/
theorem c_117_0 : jx_cd 117 0 = some (o_ald 1 1) := rfl
theorem c_117_1 : jx_cd 117 1 = some (o_push (.int 0) 1) := rfl
theorem c_117_2 : jx_cd 117 2 = some (o_ald 0 1) := rfl
theorem c_117_3 : jx_cd 117 3 = some (o_callv 5 61 0) := rfl
theorem c_117_6 : jx_cd 117 6 = some (o_i2l) := rfl
theorem c_117_7 : jx_cd 117 7 = some (o_last) := rfl
theorem c_117_8 : jx_cd 117 8 = some (o_goto 26) := rfl
theorem c_117_11 : jx_cd 117 11 = some (o_ast 2 1) := rfl
theorem c_117_12 : jx_cd 117 12 = some (o_push (.int 1) 1) := rfl
theorem c_117_13 : jx_cd 117 13 = some (o_iret) := rfl
theorem c_117_14 : jx_cd 117 14 = some (o_ast 2 1) := rfl
theorem c_117_15 : jx_cd 117 15 = some (o_push (.int 2) 1) := rfl
theorem c_117_16 : jx_cd 117 16 = some (o_iret) := rfl
theorem c_117_17 : jx_cd 117 17 = some (o_ast 2 1) := rfl
theorem c_117_18 : jx_cd 117 18 = some (o_push (.int 3) 1) := rfl
theorem c_117_19 : jx_cd 117 19 = some (o_iret) := rfl
theorem c_117_20 : jx_cd 117 20 = some (o_ast 2 1) := rfl
theorem c_117_21 : jx_cd 117 21 = some (o_push (.int 4) 1) := rfl
theorem c_117_22 : jx_cd 117 22 = some (o_iret) := rfl
theorem c_117_23 : jx_cd 117 23 = some (o_ast 2 1) := rfl
theorem c_117_24 : jx_cd 117 24 = some (o_push (.int 5) 1) := rfl
theorem c_117_25 : jx_cd 117 25 = some (o_iret) := rfl
theorem c_117_26 : jx_cd 117 26 = some (o_push (.int 0) 1) := rfl
theorem c_117_27 : jx_cd 117 27 = some (o_iret) := rfl
theorem c_118_0 : jx_cd 118 0 = some (o_ald 1 1) := rfl
theorem c_118_1 : jx_cd 118 1 = some (o_push (.int 0) 1) := rfl
theorem c_118_2 : jx_cd 118 2 = some (o_ald 0 1) := rfl
theorem c_118_3 : jx_cd 118 3 = some (o_callv 5 66 0) := rfl
theorem c_118_6 : jx_cd 118 6 = some (o_i2l) := rfl
theorem c_118_7 : jx_cd 118 7 = some (o_last) := rfl
theorem c_118_8 : jx_cd 118 8 = some (o_goto 23) := rfl
theorem c_118_11 : jx_cd 118 11 = some (o_ast 2 1) := rfl
theorem c_118_12 : jx_cd 118 12 = some (o_push (.int 1) 1) := rfl
theorem c_118_13 : jx_cd 118 13 = some (o_iret) := rfl
theorem c_118_14 : jx_cd 118 14 = some (o_ast 2 1) := rfl
theorem c_118_15 : jx_cd 118 15 = some (o_push (.int 2) 1) := rfl
theorem c_118_16 : jx_cd 118 16 = some (o_iret) := rfl
theorem c_118_17 : jx_cd 118 17 = some (o_ast 2 1) := rfl
theorem c_118_18 : jx_cd 118 18 = some (o_push (.int 3) 1) := rfl
theorem c_118_19 : jx_cd 118 19 = some (o_iret) := rfl
theorem c_118_20 : jx_cd 118 20 = some (o_ast 2 1) := rfl
theorem c_118_21 : jx_cd 118 21 = some (o_push (.int 4) 1) := rfl
theorem c_118_22 : jx_cd 118 22 = some (o_iret) := rfl
theorem c_118_23 : jx_cd 118 23 = some (o_push (.int 0) 1) := rfl
theorem c_118_24 : jx_cd 118 24 = some (o_iret) := rfl
theorem c_119_0 : jx_cd 119 0 = some (o_ald 1 1) := rfl
theorem c_119_1 : jx_cd 119 1 = some (o_push (.int 0) 1) := rfl
theorem c_119_2 : jx_cd 119 2 = some (o_ald 0 1) := rfl
theorem c_119_3 : jx_cd 119 3 = some (o_callv 5 67 0) := rfl
theorem c_119_6 : jx_cd 119 6 = some (o_i2l) := rfl
theorem c_119_7 : jx_cd 119 7 = some (o_last) := rfl
theorem c_119_8 : jx_cd 119 8 = some (o_goto 20) := rfl
theorem c_119_11 : jx_cd 119 11 = some (o_ast 2 1) := rfl
theorem c_119_12 : jx_cd 119 12 = some (o_push (.int 1) 1) := rfl
theorem c_119_13 : jx_cd 119 13 = some (o_iret) := rfl
theorem c_119_14 : jx_cd 119 14 = some (o_ast 2 1) := rfl
theorem c_119_15 : jx_cd 119 15 = some (o_push (.int 2) 1) := rfl
theorem c_119_16 : jx_cd 119 16 = some (o_iret) := rfl
theorem c_119_17 : jx_cd 119 17 = some (o_ast 2 1) := rfl
theorem c_119_18 : jx_cd 119 18 = some (o_push (.int 3) 1) := rfl
theorem c_119_19 : jx_cd 119 19 = some (o_iret) := rfl
theorem c_119_20 : jx_cd 119 20 = some (o_push (.int 0) 1) := rfl
theorem c_119_21 : jx_cd 119 21 = some (o_iret) := rfl
theorem c_120_0 : jx_cd 120 0 = some (o_ald 2 1) := rfl
theorem c_120_1 : jx_cd 120 1 = some (o_push (.int 0) 1) := rfl
theorem c_120_2 : jx_cd 120 2 = some (o_ald 0 1) := rfl
theorem c_120_3 : jx_cd 120 3 = some (o_ild 1 1) := rfl
theorem c_120_4 : jx_cd 120 4 = some (o_callv 5 68 1) := rfl
theorem c_120_7 : jx_cd 120 7 = some (o_i2l) := rfl
theorem c_120_8 : jx_cd 120 8 = some (o_last) := rfl
theorem c_120_9 : jx_cd 120 9 = some (o_goto 15) := rfl
theorem c_120_12 : jx_cd 120 12 = some (o_ast 3 1) := rfl
theorem c_120_13 : jx_cd 120 13 = some (o_push (.int 1) 1) := rfl
theorem c_120_14 : jx_cd 120 14 = some (o_iret) := rfl
theorem c_120_15 : jx_cd 120 15 = some (o_push (.int 0) 1) := rfl
theorem c_120_16 : jx_cd 120 16 = some (o_iret) := rfl
section ZL
variable {d mi pc : Nat} {L : jx_L} {r st : List Value} {M M' : jx_M} {post : jx_R → jx_M → Prop}
theorem z_last (pc' : Nat) {k n a : Nat} {f : Nat → Int64} {x : Int64} (hc : jx_cd mi pc = some o_last) (hp : pc + 1 = pc') (hM : M.1 a = .inl (3, n, .inr (.inl f))) (hk : k < n) (hn : n ≤ 2 ^ 31) (hM' : jx_st M a (.inl (3, n, .inr (.inl (vp_updL f k x)))) = M') (kk : jZ d mi pc' L r M' post) : jZ d mi pc L (.long x :: .int (jn k) :: .ref a :: r) M post := by
  refine z_go pc' L r M' hc ?_ kk
  unfold o_last
  dsimp only
  rw [hM]
  dsimp only
  rw [if_pos ⟨rfl, jx_ix_n hk hn⟩, ← hp, jn_cl (by omega), hM']
/-- a call that throws, and its handler -/
theorem z_callvH (ci ce n hp : Nat) {c : Nat} {Q : jx_M → Prop} (a : Nat) {fs : List Value} (hc : jx_cd mi pc = some (o_callv ci ce n)) (hn : n < st.length ∧ st.length ≤ n + 5) (hg : st.getD n .null = .ref a) (hM : M.1 a = .inr (ci, fs)) (as : List Value) (ha : (st.take (n + 1)).reverse = as) (L' : jx_L) (hen : jx_en as (jx_ml ce) = L') (hl : L'.length = jx_ml ce) (hh : jx_hd pc c (jx_hs mi) = some (some hp)) (hz : jZ d ce 0 L' [] M (jT c Q)) (kk : ∀ M1, Q M1 → jZ (d + 1) mi hp L [.ref M1.2.1] (jth c M1) post) : jZ (d + 1) mi pc L st M post := by
  refine jx_do (P := jx_PR) hc (by unfold o_callv; rw [if_pos hn, hg]; dsimp only; rw [hM]; dsimp only; rw [if_pos rfl, ha]) (by show (jx_en as (jx_ml ce)).length = jx_ml ce; rw [hen, hl]) ?_
  show jx_Z jx_PR d ce 0 (jx_en as (jx_ml ce)) [] M _
  rw [hen]
  refine hz.mono fun r1 M1 h => ?_
  obtain ⟨M2, rfl, rfl, h3⟩ := h
  have e1 : jx_cl ((jth c M2).1 M2.2.1) = c := by
    show jx_cl (if M2.2.1 = M2.2.1 then _ else _) = c
    rw [if_pos rfl]
    rfl
  have e2 : jx_hd pc (jx_cl ((jth c M2).1 M2.2.1)) (jx_PR.2.1 mi) = some (some hp) := by rw [e1]; exact hh
  dsimp only
  rw [e2]
  exact kk M2 h3
end ZL
theorem jth_fr {c : Nat} {M1 : jx_M} {k : Nat} (h : k < M1.2.1) : (jth c M1).1 k = M1.1 k := if_neg (by omega)
theorem jth_bud {c q : Nat} {M1 : jx_M} (h : jBud M1 (q + 1)) : jBud (jth c M1) q := by
  obtain ⟨a, b, e⟩ := h
  exact ⟨by show 120 ≤ M1.2.1 + 1; omega, by show q ≤ M1.2.2.1 - 1; omega, by show 6 * q ≤ M1.2.2.2 - 6; omega⟩
theorem t_hR117 {d ty hc tf : Nat} {dn : Bool} {v : Int32} {Q : jx_M → Prop} {M : jx_M} (h16 : M.1 16 = xO ty hc tf dn) (hz : jZ d 61 0 [some (.ref 16), none, none] [] M (jV (some (.int v)) Q)) (hout : ∀ M1, Q M1 → ∃ f, M1.1 119 = .inl (3, 1, .inr (.inl f))) : jZ (d + 1) 117 0 [some (.ref 16), some (.ref 119), none] [] M (jV (some (.int (jn 0))) fun M' => ∃ M1, Q M1 ∧ (∃ g, M'.1 119 = .inl (3, 1, .inr (.inl g)) ∧ g 0 = v.toInt64) ∧ (∀ k, k ≠ 119 → M'.1 k = M1.1 k) ∧ M'.2 = M1.2) := by
  refine z_go 1 _ [.ref 119] _ c_117_0 rfl ?_
  refine z_go 2 _ [.int (jn 0), .ref 119] _ c_117_1 rfl ?_
  refine z_go 3 _ [.ref 16, .int (jn 0), .ref 119] _ c_117_2 rfl ?_
  refine z_callvV 6 5 61 0 16 c_117_3 rfl ⟨Nat.le_of_ble_eq_true rfl, Nat.le_of_ble_eq_true rfl⟩ rfl h16 [.ref 16] rfl rfl [some (.ref 16), none, none] rfl rfl (hz) ?_
  intro M1 hQ
  obtain ⟨f, hf⟩ := hout M1 hQ
  show jZ _ _ _ _ [.int v, .int (jn 0), .ref 119] _ _
  refine z_go 7 _ [.long v.toInt64, .int (jn 0), .ref 119] _ c_117_6 rfl ?_
  refine z_last (M' := jx_st M1 119 (.inl (3, 1, .inr (.inl (vp_updL f 0 (v.toInt64)))))) 8 c_117_7 rfl hf (by decide) (by decide) rfl ?_
  refine z_go 26 _ [] _ c_117_8 rfl ?_
  refine z_go 27 _ [.int (jn 0)] _ c_117_26 rfl ?_
  refine z_iret c_117_27 ?_
  refine ⟨rfl, M1, hQ, ⟨vp_updL f 0 (v.toInt64), rfl, ?_⟩, fun k hk => if_neg hk, rfl⟩
  simp [vp_updL]
theorem t_hT117_7 {d ty hc tf : Nat} {dn : Bool} {Q : jx_M → Prop} {M : jx_M} (h16 : M.1 16 = xO ty hc tf dn) (hz : jZ d 61 0 [some (.ref 16), none, none] [] M (jT 7 Q)) : jZ (d + 1) 117 0 [some (.ref 16), some (.ref 119), none] [] M (jV (some (.int (jn 1))) fun M' => ∃ M1, Q M1 ∧ M' = jth 7 M1) := by
  refine z_go 1 _ [.ref 119] _ c_117_0 rfl ?_
  refine z_go 2 _ [.int (jn 0), .ref 119] _ c_117_1 rfl ?_
  refine z_go 3 _ [.ref 16, .int (jn 0), .ref 119] _ c_117_2 rfl ?_
  refine z_callvH 5 61 0 11 16 c_117_3 ⟨Nat.le_of_ble_eq_true rfl, Nat.le_of_ble_eq_true rfl⟩ rfl h16 [.ref 16] rfl [some (.ref 16), none, none] rfl rfl (by decide) hz (fun M1 hQ => ?_)
  refine z_go 12 [some (.ref 16), some (.ref 119), some (.ref M1.2.1)] [] _ c_117_11 rfl ?_
  refine z_go 13 _ [.int (jn 1)] _ c_117_12 rfl ?_
  refine z_iret c_117_13 ?_
  exact ⟨rfl, M1, hQ, rfl⟩
theorem t_hT117_8 {d ty hc tf : Nat} {dn : Bool} {Q : jx_M → Prop} {M : jx_M} (h16 : M.1 16 = xO ty hc tf dn) (hz : jZ d 61 0 [some (.ref 16), none, none] [] M (jT 8 Q)) : jZ (d + 1) 117 0 [some (.ref 16), some (.ref 119), none] [] M (jV (some (.int (jn 2))) fun M' => ∃ M1, Q M1 ∧ M' = jth 8 M1) := by
  refine z_go 1 _ [.ref 119] _ c_117_0 rfl ?_
  refine z_go 2 _ [.int (jn 0), .ref 119] _ c_117_1 rfl ?_
  refine z_go 3 _ [.ref 16, .int (jn 0), .ref 119] _ c_117_2 rfl ?_
  refine z_callvH 5 61 0 14 16 c_117_3 ⟨Nat.le_of_ble_eq_true rfl, Nat.le_of_ble_eq_true rfl⟩ rfl h16 [.ref 16] rfl [some (.ref 16), none, none] rfl rfl (by decide) hz (fun M1 hQ => ?_)
  refine z_go 15 [some (.ref 16), some (.ref 119), some (.ref M1.2.1)] [] _ c_117_14 rfl ?_
  refine z_go 16 _ [.int (jn 2)] _ c_117_15 rfl ?_
  refine z_iret c_117_16 ?_
  exact ⟨rfl, M1, hQ, rfl⟩
theorem t_hT117_9 {d ty hc tf : Nat} {dn : Bool} {Q : jx_M → Prop} {M : jx_M} (h16 : M.1 16 = xO ty hc tf dn) (hz : jZ d 61 0 [some (.ref 16), none, none] [] M (jT 9 Q)) : jZ (d + 1) 117 0 [some (.ref 16), some (.ref 119), none] [] M (jV (some (.int (jn 3))) fun M' => ∃ M1, Q M1 ∧ M' = jth 9 M1) := by
  refine z_go 1 _ [.ref 119] _ c_117_0 rfl ?_
  refine z_go 2 _ [.int (jn 0), .ref 119] _ c_117_1 rfl ?_
  refine z_go 3 _ [.ref 16, .int (jn 0), .ref 119] _ c_117_2 rfl ?_
  refine z_callvH 5 61 0 17 16 c_117_3 ⟨Nat.le_of_ble_eq_true rfl, Nat.le_of_ble_eq_true rfl⟩ rfl h16 [.ref 16] rfl [some (.ref 16), none, none] rfl rfl (by decide) hz (fun M1 hQ => ?_)
  refine z_go 18 [some (.ref 16), some (.ref 119), some (.ref M1.2.1)] [] _ c_117_17 rfl ?_
  refine z_go 19 _ [.int (jn 3)] _ c_117_18 rfl ?_
  refine z_iret c_117_19 ?_
  exact ⟨rfl, M1, hQ, rfl⟩
theorem t_hT117_10 {d ty hc tf : Nat} {dn : Bool} {Q : jx_M → Prop} {M : jx_M} (h16 : M.1 16 = xO ty hc tf dn) (hz : jZ d 61 0 [some (.ref 16), none, none] [] M (jT 10 Q)) : jZ (d + 1) 117 0 [some (.ref 16), some (.ref 119), none] [] M (jV (some (.int (jn 4))) fun M' => ∃ M1, Q M1 ∧ M' = jth 10 M1) := by
  refine z_go 1 _ [.ref 119] _ c_117_0 rfl ?_
  refine z_go 2 _ [.int (jn 0), .ref 119] _ c_117_1 rfl ?_
  refine z_go 3 _ [.ref 16, .int (jn 0), .ref 119] _ c_117_2 rfl ?_
  refine z_callvH 5 61 0 20 16 c_117_3 ⟨Nat.le_of_ble_eq_true rfl, Nat.le_of_ble_eq_true rfl⟩ rfl h16 [.ref 16] rfl [some (.ref 16), none, none] rfl rfl (by decide) hz (fun M1 hQ => ?_)
  refine z_go 21 [some (.ref 16), some (.ref 119), some (.ref M1.2.1)] [] _ c_117_20 rfl ?_
  refine z_go 22 _ [.int (jn 4)] _ c_117_21 rfl ?_
  refine z_iret c_117_22 ?_
  exact ⟨rfl, M1, hQ, rfl⟩
theorem t_hT117_11 {d ty hc tf : Nat} {dn : Bool} {Q : jx_M → Prop} {M : jx_M} (h16 : M.1 16 = xO ty hc tf dn) (hz : jZ d 61 0 [some (.ref 16), none, none] [] M (jT 11 Q)) : jZ (d + 1) 117 0 [some (.ref 16), some (.ref 119), none] [] M (jV (some (.int (jn 5))) fun M' => ∃ M1, Q M1 ∧ M' = jth 11 M1) := by
  refine z_go 1 _ [.ref 119] _ c_117_0 rfl ?_
  refine z_go 2 _ [.int (jn 0), .ref 119] _ c_117_1 rfl ?_
  refine z_go 3 _ [.ref 16, .int (jn 0), .ref 119] _ c_117_2 rfl ?_
  refine z_callvH 5 61 0 23 16 c_117_3 ⟨Nat.le_of_ble_eq_true rfl, Nat.le_of_ble_eq_true rfl⟩ rfl h16 [.ref 16] rfl [some (.ref 16), none, none] rfl rfl (by decide) hz (fun M1 hQ => ?_)
  refine z_go 24 [some (.ref 16), some (.ref 119), some (.ref M1.2.1)] [] _ c_117_23 rfl ?_
  refine z_go 25 _ [.int (jn 5)] _ c_117_24 rfl ?_
  refine z_iret c_117_25 ?_
  exact ⟨rfl, M1, hQ, rfl⟩
theorem t_hR118 {d ty hc tf : Nat} {dn : Bool} {v : Int32} {Q : jx_M → Prop} {M : jx_M} (h16 : M.1 16 = xO ty hc tf dn) (hz : jZ d 66 0 [some (.ref 16)] [] M (jV (some (.int v)) Q)) (hout : ∀ M1, Q M1 → ∃ f, M1.1 119 = .inl (3, 1, .inr (.inl f))) : jZ (d + 1) 118 0 [some (.ref 16), some (.ref 119), none] [] M (jV (some (.int (jn 0))) fun M' => ∃ M1, Q M1 ∧ (∃ g, M'.1 119 = .inl (3, 1, .inr (.inl g)) ∧ g 0 = v.toInt64) ∧ (∀ k, k ≠ 119 → M'.1 k = M1.1 k) ∧ M'.2 = M1.2) := by
  refine z_go 1 _ [.ref 119] _ c_118_0 rfl ?_
  refine z_go 2 _ [.int (jn 0), .ref 119] _ c_118_1 rfl ?_
  refine z_go 3 _ [.ref 16, .int (jn 0), .ref 119] _ c_118_2 rfl ?_
  refine z_callvV 6 5 66 0 16 c_118_3 rfl ⟨Nat.le_of_ble_eq_true rfl, Nat.le_of_ble_eq_true rfl⟩ rfl h16 [.ref 16] rfl rfl [some (.ref 16)] rfl rfl (hz) ?_
  intro M1 hQ
  obtain ⟨f, hf⟩ := hout M1 hQ
  show jZ _ _ _ _ [.int v, .int (jn 0), .ref 119] _ _
  refine z_go 7 _ [.long v.toInt64, .int (jn 0), .ref 119] _ c_118_6 rfl ?_
  refine z_last (M' := jx_st M1 119 (.inl (3, 1, .inr (.inl (vp_updL f 0 (v.toInt64)))))) 8 c_118_7 rfl hf (by decide) (by decide) rfl ?_
  refine z_go 23 _ [] _ c_118_8 rfl ?_
  refine z_go 24 _ [.int (jn 0)] _ c_118_23 rfl ?_
  refine z_iret c_118_24 ?_
  refine ⟨rfl, M1, hQ, ⟨vp_updL f 0 (v.toInt64), rfl, ?_⟩, fun k hk => if_neg hk, rfl⟩
  simp [vp_updL]
theorem t_hT118_7 {d ty hc tf : Nat} {dn : Bool} {Q : jx_M → Prop} {M : jx_M} (h16 : M.1 16 = xO ty hc tf dn) (hz : jZ d 66 0 [some (.ref 16)] [] M (jT 7 Q)) : jZ (d + 1) 118 0 [some (.ref 16), some (.ref 119), none] [] M (jV (some (.int (jn 1))) fun M' => ∃ M1, Q M1 ∧ M' = jth 7 M1) := by
  refine z_go 1 _ [.ref 119] _ c_118_0 rfl ?_
  refine z_go 2 _ [.int (jn 0), .ref 119] _ c_118_1 rfl ?_
  refine z_go 3 _ [.ref 16, .int (jn 0), .ref 119] _ c_118_2 rfl ?_
  refine z_callvH 5 66 0 11 16 c_118_3 ⟨Nat.le_of_ble_eq_true rfl, Nat.le_of_ble_eq_true rfl⟩ rfl h16 [.ref 16] rfl [some (.ref 16)] rfl rfl (by decide) hz (fun M1 hQ => ?_)
  refine z_go 12 [some (.ref 16), some (.ref 119), some (.ref M1.2.1)] [] _ c_118_11 rfl ?_
  refine z_go 13 _ [.int (jn 1)] _ c_118_12 rfl ?_
  refine z_iret c_118_13 ?_
  exact ⟨rfl, M1, hQ, rfl⟩
theorem t_hT118_8 {d ty hc tf : Nat} {dn : Bool} {Q : jx_M → Prop} {M : jx_M} (h16 : M.1 16 = xO ty hc tf dn) (hz : jZ d 66 0 [some (.ref 16)] [] M (jT 8 Q)) : jZ (d + 1) 118 0 [some (.ref 16), some (.ref 119), none] [] M (jV (some (.int (jn 2))) fun M' => ∃ M1, Q M1 ∧ M' = jth 8 M1) := by
  refine z_go 1 _ [.ref 119] _ c_118_0 rfl ?_
  refine z_go 2 _ [.int (jn 0), .ref 119] _ c_118_1 rfl ?_
  refine z_go 3 _ [.ref 16, .int (jn 0), .ref 119] _ c_118_2 rfl ?_
  refine z_callvH 5 66 0 14 16 c_118_3 ⟨Nat.le_of_ble_eq_true rfl, Nat.le_of_ble_eq_true rfl⟩ rfl h16 [.ref 16] rfl [some (.ref 16)] rfl rfl (by decide) hz (fun M1 hQ => ?_)
  refine z_go 15 [some (.ref 16), some (.ref 119), some (.ref M1.2.1)] [] _ c_118_14 rfl ?_
  refine z_go 16 _ [.int (jn 2)] _ c_118_15 rfl ?_
  refine z_iret c_118_16 ?_
  exact ⟨rfl, M1, hQ, rfl⟩
theorem t_hT118_9 {d ty hc tf : Nat} {dn : Bool} {Q : jx_M → Prop} {M : jx_M} (h16 : M.1 16 = xO ty hc tf dn) (hz : jZ d 66 0 [some (.ref 16)] [] M (jT 9 Q)) : jZ (d + 1) 118 0 [some (.ref 16), some (.ref 119), none] [] M (jV (some (.int (jn 3))) fun M' => ∃ M1, Q M1 ∧ M' = jth 9 M1) := by
  refine z_go 1 _ [.ref 119] _ c_118_0 rfl ?_
  refine z_go 2 _ [.int (jn 0), .ref 119] _ c_118_1 rfl ?_
  refine z_go 3 _ [.ref 16, .int (jn 0), .ref 119] _ c_118_2 rfl ?_
  refine z_callvH 5 66 0 17 16 c_118_3 ⟨Nat.le_of_ble_eq_true rfl, Nat.le_of_ble_eq_true rfl⟩ rfl h16 [.ref 16] rfl [some (.ref 16)] rfl rfl (by decide) hz (fun M1 hQ => ?_)
  refine z_go 18 [some (.ref 16), some (.ref 119), some (.ref M1.2.1)] [] _ c_118_17 rfl ?_
  refine z_go 19 _ [.int (jn 3)] _ c_118_18 rfl ?_
  refine z_iret c_118_19 ?_
  exact ⟨rfl, M1, hQ, rfl⟩
theorem t_hT118_10 {d ty hc tf : Nat} {dn : Bool} {Q : jx_M → Prop} {M : jx_M} (h16 : M.1 16 = xO ty hc tf dn) (hz : jZ d 66 0 [some (.ref 16)] [] M (jT 10 Q)) : jZ (d + 1) 118 0 [some (.ref 16), some (.ref 119), none] [] M (jV (some (.int (jn 4))) fun M' => ∃ M1, Q M1 ∧ M' = jth 10 M1) := by
  refine z_go 1 _ [.ref 119] _ c_118_0 rfl ?_
  refine z_go 2 _ [.int (jn 0), .ref 119] _ c_118_1 rfl ?_
  refine z_go 3 _ [.ref 16, .int (jn 0), .ref 119] _ c_118_2 rfl ?_
  refine z_callvH 5 66 0 20 16 c_118_3 ⟨Nat.le_of_ble_eq_true rfl, Nat.le_of_ble_eq_true rfl⟩ rfl h16 [.ref 16] rfl [some (.ref 16)] rfl rfl (by decide) hz (fun M1 hQ => ?_)
  refine z_go 21 [some (.ref 16), some (.ref 119), some (.ref M1.2.1)] [] _ c_118_20 rfl ?_
  refine z_go 22 _ [.int (jn 4)] _ c_118_21 rfl ?_
  refine z_iret c_118_22 ?_
  exact ⟨rfl, M1, hQ, rfl⟩
theorem t_hR119 {d ty hc tf : Nat} {dn : Bool} {v : Int32} {Q : jx_M → Prop} {M : jx_M} (h16 : M.1 16 = xO ty hc tf dn) (hz : jZ d 67 0 [some (.ref 16), none] [] M (jV (some (.int v)) Q)) (hout : ∀ M1, Q M1 → ∃ f, M1.1 119 = .inl (3, 1, .inr (.inl f))) : jZ (d + 1) 119 0 [some (.ref 16), some (.ref 119), none] [] M (jV (some (.int (jn 0))) fun M' => ∃ M1, Q M1 ∧ (∃ g, M'.1 119 = .inl (3, 1, .inr (.inl g)) ∧ g 0 = v.toInt64) ∧ (∀ k, k ≠ 119 → M'.1 k = M1.1 k) ∧ M'.2 = M1.2) := by
  refine z_go 1 _ [.ref 119] _ c_119_0 rfl ?_
  refine z_go 2 _ [.int (jn 0), .ref 119] _ c_119_1 rfl ?_
  refine z_go 3 _ [.ref 16, .int (jn 0), .ref 119] _ c_119_2 rfl ?_
  refine z_callvV 6 5 67 0 16 c_119_3 rfl ⟨Nat.le_of_ble_eq_true rfl, Nat.le_of_ble_eq_true rfl⟩ rfl h16 [.ref 16] rfl rfl [some (.ref 16), none] rfl rfl (hz) ?_
  intro M1 hQ
  obtain ⟨f, hf⟩ := hout M1 hQ
  show jZ _ _ _ _ [.int v, .int (jn 0), .ref 119] _ _
  refine z_go 7 _ [.long v.toInt64, .int (jn 0), .ref 119] _ c_119_6 rfl ?_
  refine z_last (M' := jx_st M1 119 (.inl (3, 1, .inr (.inl (vp_updL f 0 (v.toInt64)))))) 8 c_119_7 rfl hf (by decide) (by decide) rfl ?_
  refine z_go 20 _ [] _ c_119_8 rfl ?_
  refine z_go 21 _ [.int (jn 0)] _ c_119_20 rfl ?_
  refine z_iret c_119_21 ?_
  refine ⟨rfl, M1, hQ, ⟨vp_updL f 0 (v.toInt64), rfl, ?_⟩, fun k hk => if_neg hk, rfl⟩
  simp [vp_updL]
theorem t_hT119_7 {d ty hc tf : Nat} {dn : Bool} {Q : jx_M → Prop} {M : jx_M} (h16 : M.1 16 = xO ty hc tf dn) (hz : jZ d 67 0 [some (.ref 16), none] [] M (jT 7 Q)) : jZ (d + 1) 119 0 [some (.ref 16), some (.ref 119), none] [] M (jV (some (.int (jn 1))) fun M' => ∃ M1, Q M1 ∧ M' = jth 7 M1) := by
  refine z_go 1 _ [.ref 119] _ c_119_0 rfl ?_
  refine z_go 2 _ [.int (jn 0), .ref 119] _ c_119_1 rfl ?_
  refine z_go 3 _ [.ref 16, .int (jn 0), .ref 119] _ c_119_2 rfl ?_
  refine z_callvH 5 67 0 11 16 c_119_3 ⟨Nat.le_of_ble_eq_true rfl, Nat.le_of_ble_eq_true rfl⟩ rfl h16 [.ref 16] rfl [some (.ref 16), none] rfl rfl (by decide) hz (fun M1 hQ => ?_)
  refine z_go 12 [some (.ref 16), some (.ref 119), some (.ref M1.2.1)] [] _ c_119_11 rfl ?_
  refine z_go 13 _ [.int (jn 1)] _ c_119_12 rfl ?_
  refine z_iret c_119_13 ?_
  exact ⟨rfl, M1, hQ, rfl⟩
theorem t_hT119_8 {d ty hc tf : Nat} {dn : Bool} {Q : jx_M → Prop} {M : jx_M} (h16 : M.1 16 = xO ty hc tf dn) (hz : jZ d 67 0 [some (.ref 16), none] [] M (jT 8 Q)) : jZ (d + 1) 119 0 [some (.ref 16), some (.ref 119), none] [] M (jV (some (.int (jn 2))) fun M' => ∃ M1, Q M1 ∧ M' = jth 8 M1) := by
  refine z_go 1 _ [.ref 119] _ c_119_0 rfl ?_
  refine z_go 2 _ [.int (jn 0), .ref 119] _ c_119_1 rfl ?_
  refine z_go 3 _ [.ref 16, .int (jn 0), .ref 119] _ c_119_2 rfl ?_
  refine z_callvH 5 67 0 14 16 c_119_3 ⟨Nat.le_of_ble_eq_true rfl, Nat.le_of_ble_eq_true rfl⟩ rfl h16 [.ref 16] rfl [some (.ref 16), none] rfl rfl (by decide) hz (fun M1 hQ => ?_)
  refine z_go 15 [some (.ref 16), some (.ref 119), some (.ref M1.2.1)] [] _ c_119_14 rfl ?_
  refine z_go 16 _ [.int (jn 2)] _ c_119_15 rfl ?_
  refine z_iret c_119_16 ?_
  exact ⟨rfl, M1, hQ, rfl⟩
theorem t_hT119_9 {d ty hc tf : Nat} {dn : Bool} {Q : jx_M → Prop} {M : jx_M} (h16 : M.1 16 = xO ty hc tf dn) (hz : jZ d 67 0 [some (.ref 16), none] [] M (jT 9 Q)) : jZ (d + 1) 119 0 [some (.ref 16), some (.ref 119), none] [] M (jV (some (.int (jn 3))) fun M' => ∃ M1, Q M1 ∧ M' = jth 9 M1) := by
  refine z_go 1 _ [.ref 119] _ c_119_0 rfl ?_
  refine z_go 2 _ [.int (jn 0), .ref 119] _ c_119_1 rfl ?_
  refine z_go 3 _ [.ref 16, .int (jn 0), .ref 119] _ c_119_2 rfl ?_
  refine z_callvH 5 67 0 17 16 c_119_3 ⟨Nat.le_of_ble_eq_true rfl, Nat.le_of_ble_eq_true rfl⟩ rfl h16 [.ref 16] rfl [some (.ref 16), none] rfl rfl (by decide) hz (fun M1 hQ => ?_)
  refine z_go 18 [some (.ref 16), some (.ref 119), some (.ref M1.2.1)] [] _ c_119_17 rfl ?_
  refine z_go 19 _ [.int (jn 3)] _ c_119_18 rfl ?_
  refine z_iret c_119_19 ?_
  exact ⟨rfl, M1, hQ, rfl⟩
theorem t_hR120 {d ty hc tf : Nat} {dn : Bool} {x : Int32} {v : Int32} {Q : jx_M → Prop} {M : jx_M} (h16 : M.1 16 = xO ty hc tf dn) (hz : jZ d 68 0 [some (.ref 16), some (.int x)] [] M (jV (some (.int v)) Q)) (hout : ∀ M1, Q M1 → ∃ f, M1.1 119 = .inl (3, 1, .inr (.inl f))) : jZ (d + 1) 120 0 [some (.ref 16), some (.int x), some (.ref 119), none] [] M (jV (some (.int (jn 0))) fun M' => ∃ M1, Q M1 ∧ (∃ g, M'.1 119 = .inl (3, 1, .inr (.inl g)) ∧ g 0 = v.toInt64) ∧ (∀ k, k ≠ 119 → M'.1 k = M1.1 k) ∧ M'.2 = M1.2) := by
  refine z_go 1 _ [.ref 119] _ c_120_0 rfl ?_
  refine z_go 2 _ [.int (jn 0), .ref 119] _ c_120_1 rfl ?_
  refine z_go 3 _ [.ref 16, .int (jn 0), .ref 119] _ c_120_2 rfl ?_
  refine z_go 4 _ [.int x, .ref 16, .int (jn 0), .ref 119] _ c_120_3 rfl ?_
  refine z_callvV 7 5 68 1 16 c_120_4 rfl ⟨Nat.le_of_ble_eq_true rfl, Nat.le_of_ble_eq_true rfl⟩ rfl h16 [.ref 16, .int x] rfl rfl [some (.ref 16), some (.int x)] rfl rfl (hz) ?_
  intro M1 hQ
  obtain ⟨f, hf⟩ := hout M1 hQ
  show jZ _ _ _ _ [.int v, .int (jn 0), .ref 119] _ _
  refine z_go 8 _ [.long v.toInt64, .int (jn 0), .ref 119] _ c_120_7 rfl ?_
  refine z_last (M' := jx_st M1 119 (.inl (3, 1, .inr (.inl (vp_updL f 0 (v.toInt64)))))) 9 c_120_8 rfl hf (by decide) (by decide) rfl ?_
  refine z_go 15 _ [] _ c_120_9 rfl ?_
  refine z_go 16 _ [.int (jn 0)] _ c_120_15 rfl ?_
  refine z_iret c_120_16 ?_
  refine ⟨rfl, M1, hQ, ⟨vp_updL f 0 (v.toInt64), rfl, ?_⟩, fun k hk => if_neg hk, rfl⟩
  simp [vp_updL]
theorem t_hT120_7 {d ty hc tf : Nat} {dn : Bool} {x : Int32} {Q : jx_M → Prop} {M : jx_M} (h16 : M.1 16 = xO ty hc tf dn) (hz : jZ d 68 0 [some (.ref 16), some (.int x)] [] M (jT 7 Q)) : jZ (d + 1) 120 0 [some (.ref 16), some (.int x), some (.ref 119), none] [] M (jV (some (.int (jn 1))) fun M' => ∃ M1, Q M1 ∧ M' = jth 7 M1) := by
  refine z_go 1 _ [.ref 119] _ c_120_0 rfl ?_
  refine z_go 2 _ [.int (jn 0), .ref 119] _ c_120_1 rfl ?_
  refine z_go 3 _ [.ref 16, .int (jn 0), .ref 119] _ c_120_2 rfl ?_
  refine z_go 4 _ [.int x, .ref 16, .int (jn 0), .ref 119] _ c_120_3 rfl ?_
  refine z_callvH 5 68 1 12 16 c_120_4 ⟨Nat.le_of_ble_eq_true rfl, Nat.le_of_ble_eq_true rfl⟩ rfl h16 [.ref 16, .int x] rfl [some (.ref 16), some (.int x)] rfl rfl (by decide) hz (fun M1 hQ => ?_)
  refine z_go 13 [some (.ref 16), some (.int x), some (.ref 119), some (.ref M1.2.1)] [] _ c_120_12 rfl ?_
  refine z_go 14 _ [.int (jn 1)] _ c_120_13 rfl ?_
  refine z_iret c_120_14 ?_
  exact ⟨rfl, M1, hQ, rfl⟩
