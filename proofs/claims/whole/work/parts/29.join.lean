/-! printed by wip/whole/gen.py: the program on the abstract machine is sound -/
def jx_P2 {α β : Type} (P : α → β → Prop) : List α → List β → Prop
  | a :: as, b :: bs => P a b ∧ jx_P2 P as bs
  | _, _ => True
theorem jx_p2c {α β : Type} {P : α → β → Prop} {a : α} {b : β} {as : List α} {bs : List β} (h : P a b) (k : jx_P2 P as bs) : jx_P2 P (a :: as) (b :: bs) := ⟨h, k⟩
theorem jx_p2g {α β : Type} {P : α → β → Prop} {a : α} {b : β} (hd : P a b) : ∀ (as : List α) (bs : List β) (k : Nat), as.length = bs.length → jx_P2 P as bs → P (as.getD k a) (bs.getD k b)
  | [], [], _, _, _ => hd
  | _ :: _, _ :: _, 0, _, h => h.1
  | _ :: as, _ :: bs, k + 1, hl, h => jx_p2g hd as bs k (Nat.succ.inj hl) h.2
  | [], _ :: _, _, hl, _ => by cases hl
  | _ :: _, [], _, hl, _ => by cases hl
theorem jx_lk_mem : ∀ {K : List (Nat × jx_O)} {pc : Nat} {op : jx_O}, jx_lk K pc = some op → (pc, op) ∈ K
  | [], _, _, h => by cases h
  | (q, o) :: t, pc, op, h => by
    unfold jx_lk at h
    split at h
    · rename_i e
      cases h
      rw [e]
      exact List.mem_cons_self
    · exact List.mem_cons_of_mem _ (jx_lk_mem h)
theorem jx_hs_nil {mi : Nat} (h : ¬ (mi = 117 ∨ mi = 118 ∨ mi = 119 ∨ mi = 120)) : jx_hs mi = [] := by
  unfold jx_hs
  split <;> first | omega | rfl
theorem jx_hhs (mi : Nat) : (jx_hs mi).map (fun h => (h.1, h.2.1)) = (jx_mt mi).2.2.2.2.map (fun h => (h.1.1, h.1.2.1)) := by
  by_cases hm : mi < 133
  · exact (by decide +kernel : ∀ mi, mi < 133 → (jx_hs mi).map (fun h => (h.1, h.2.1)) = (jx_mt mi).2.2.2.2.map (fun h => (h.1.1, h.1.2.1))) mi hm
  · rw [jx_hs_nil (by omega)]
    have h1 : jx_mt mi = md_0 := by
      unfold jx_mt
      rw [List.getD_eq_getElem?_getD, List.getElem?_eq_none (by have : jx_mds.length = 133 := rfl; omega)]
      rfl
    rw [h1]
    rfl
section JJ
variable {D : va_G} {c0 c1 c2 c3 c4 : ClassId} {H0 : Heap} {ga : Nat → Nat} {L : Nat} {xs : Nat → Int32}
set_option maxRecDepth 100000 in
theorem jx_all : jx_P2 (jx_All (jx_mk D c0 c1 c2 c3 c4 H0 ga L xs) jx_mt) jx_mds jx_Ks := by
  refine jx_p2c A_0 ?_
  refine jx_p2c A_1 ?_
  refine jx_p2c A_2 ?_
  refine jx_p2c A_3 ?_
  refine jx_p2c A_4 ?_
  refine jx_p2c A_5 ?_
  refine jx_p2c A_6 ?_
  refine jx_p2c A_7 ?_
  refine jx_p2c A_8 ?_
  refine jx_p2c A_9 ?_
  refine jx_p2c A_10 ?_
  refine jx_p2c A_11 ?_
  refine jx_p2c A_12 ?_
  refine jx_p2c A_13 ?_
  refine jx_p2c A_14 ?_
  refine jx_p2c A_15 ?_
  refine jx_p2c A_16 ?_
  refine jx_p2c A_17 ?_
  refine jx_p2c A_18 ?_
  refine jx_p2c A_19 ?_
  refine jx_p2c A_20 ?_
  refine jx_p2c A_21 ?_
  refine jx_p2c A_22 ?_
  refine jx_p2c A_23 ?_
  refine jx_p2c A_24 ?_
  refine jx_p2c A_25 ?_
  refine jx_p2c A_26 ?_
  refine jx_p2c A_27 ?_
  refine jx_p2c A_28 ?_
  refine jx_p2c A_29 ?_
  refine jx_p2c A_30 ?_
  refine jx_p2c A_31 ?_
  refine jx_p2c A_32 ?_
  refine jx_p2c A_33 ?_
  refine jx_p2c A_34 ?_
  refine jx_p2c A_35 ?_
  refine jx_p2c A_36 ?_
  refine jx_p2c A_37 ?_
  refine jx_p2c A_38 ?_
  refine jx_p2c A_39 ?_
  refine jx_p2c A_40 ?_
  refine jx_p2c A_41 ?_
  refine jx_p2c A_42 ?_
  refine jx_p2c A_43 ?_
  refine jx_p2c A_44 ?_
  refine jx_p2c A_45 ?_
  refine jx_p2c A_46 ?_
  refine jx_p2c A_47 ?_
  refine jx_p2c A_48 ?_
  refine jx_p2c A_49 ?_
  refine jx_p2c A_50 ?_
  refine jx_p2c A_51 ?_
  refine jx_p2c A_52 ?_
  refine jx_p2c A_53 ?_
  refine jx_p2c A_54 ?_
  refine jx_p2c A_55 ?_
  refine jx_p2c A_56 ?_
  refine jx_p2c A_57 ?_
  refine jx_p2c A_58 ?_
  refine jx_p2c A_59 ?_
  refine jx_p2c A_60 ?_
  refine jx_p2c A_61 ?_
  refine jx_p2c A_62 ?_
  refine jx_p2c A_63 ?_
  refine jx_p2c A_64 ?_
  refine jx_p2c A_65 ?_
  refine jx_p2c A_66 ?_
  refine jx_p2c A_67 ?_
  refine jx_p2c A_68 ?_
  refine jx_p2c A_69 ?_
  refine jx_p2c A_70 ?_
  refine jx_p2c A_71 ?_
  refine jx_p2c A_72 ?_
  refine jx_p2c A_73 ?_
  refine jx_p2c A_74 ?_
  refine jx_p2c A_75 ?_
  refine jx_p2c A_76 ?_
  refine jx_p2c A_77 ?_
  refine jx_p2c A_78 ?_
  refine jx_p2c A_79 ?_
  refine jx_p2c A_80 ?_
  refine jx_p2c A_81 ?_
  refine jx_p2c A_82 ?_
  refine jx_p2c A_83 ?_
  refine jx_p2c A_84 ?_
  refine jx_p2c A_85 ?_
  refine jx_p2c A_86 ?_
  refine jx_p2c A_87 ?_
  refine jx_p2c A_88 ?_
  refine jx_p2c A_89 ?_
  refine jx_p2c A_90 ?_
  refine jx_p2c A_91 ?_
  refine jx_p2c A_92 ?_
  refine jx_p2c A_93 ?_
  refine jx_p2c A_94 ?_
  refine jx_p2c A_95 ?_
  refine jx_p2c A_96 ?_
  refine jx_p2c A_97 ?_
  refine jx_p2c A_98 ?_
  refine jx_p2c A_99 ?_
  refine jx_p2c A_100 ?_
  refine jx_p2c A_101 ?_
  refine jx_p2c A_102 ?_
  refine jx_p2c A_103 ?_
  refine jx_p2c A_104 ?_
  refine jx_p2c A_105 ?_
  refine jx_p2c A_106 ?_
  refine jx_p2c A_107 ?_
  refine jx_p2c A_108 ?_
  refine jx_p2c A_109 ?_
  refine jx_p2c A_110 ?_
  refine jx_p2c A_111 ?_
  refine jx_p2c A_112 ?_
  refine jx_p2c A_113 ?_
  refine jx_p2c A_114 ?_
  refine jx_p2c A_115 ?_
  refine jx_p2c A_116 ?_
  refine jx_p2c A_117 ?_
  refine jx_p2c A_118 ?_
  refine jx_p2c A_119 ?_
  refine jx_p2c A_120 ?_
  refine jx_p2c A_121 ?_
  refine jx_p2c A_122 ?_
  refine jx_p2c A_123 ?_
  refine jx_p2c A_124 ?_
  refine jx_p2c A_125 ?_
  refine jx_p2c A_126 ?_
  refine jx_p2c A_127 ?_
  refine jx_p2c A_128 ?_
  refine jx_p2c A_129 ?_
  refine jx_p2c A_130 ?_
  refine jx_p2c A_131 ?_
  refine jx_p2c A_132 ?_
  exact trivial
theorem jx_hS (mi pc : Nat) (op : jx_O) (h : jx_cd mi pc = some op) : jx_S (jx_mk D c0 c1 c2 c3 c4 H0 ga L xs) jx_mt (jx_mt mi) pc op :=
  jx_p2g (P := jx_All (jx_mk D c0 c1 c2 c3 c4 H0 ga L xs) jx_mt) jx_an jx_mds jx_Ks mi rfl jx_all (pc, op) (jx_lk_mem h)
theorem jx_hno {HL : List ((Nat × Nat × Nat × Nat) × String × Nat)} (hq : ∀ q ∈ HL, ∀ q' ∈ HL, q.2.2 ≠ q'.2.2 → q.2.1 ∈ jx_exc ∧ q'.2.1 ∈ jx_exc ∧ q.2.1 ≠ q'.2.1) (s : State) (hG : jx_G0 H0 ga s) : ∀ q ∈ HL, ∀ q' ∈ HL, q.2.2 ≠ q'.2.2 → ∀ c c', s.vm.findClass q.2.1 = some c → s.vm.findClass q'.2.1 = some c' → s.vm.assignable c c' = false := by
  intro q h q' h' hne c c' hc hc'
  obtain ⟨a1, a2, a3⟩ := hq q h q' h' hne
  obtain ⟨-, -, -, -, -, -, -, -, h9⟩ := hG
  exact h9 _ a1 _ a2 a3 c c' hc hc'
def HL_117 : List ((Nat × Nat × Nat × Nat) × String × Nat) := [((0, 8, 11, 13), "java/lang/IllegalStateException", 7), ((0, 8, 14, 15), "java/lang/IllegalArgumentException", 8), ((0, 8, 17, 17), "java/lang/UnsupportedOperationException", 9), ((0, 8, 20, 19), "java/lang/ArithmeticException", 10), ((0, 8, 23, 21), "java/lang/IndexOutOfBoundsException", 11)]
theorem ct_117 : jx_ct (jx_mk D c0 c1 c2 c3 c4 H0 ga L xs) (jx_mt 117) (jx_hs 117) := by
  refine jx_ct_of (X := jx_mk D c0 c1 c2 c3 c4 H0 ga L xs) (md := md_117) HL_117 rfl ?_ (fun s h => jx_hno (by decide) s h)
  refine List.forall_mem_cons.mpr ⟨⟨by decide, w_923, by decide, _, rfl⟩, ?_⟩
  refine List.forall_mem_cons.mpr ⟨⟨by decide, w_924, by decide, _, rfl⟩, ?_⟩
  refine List.forall_mem_cons.mpr ⟨⟨by decide, w_925, by decide, _, rfl⟩, ?_⟩
  refine List.forall_mem_cons.mpr ⟨⟨by decide, w_926, by decide, _, rfl⟩, ?_⟩
  refine List.forall_mem_cons.mpr ⟨⟨by decide, w_927, by decide, _, rfl⟩, ?_⟩
  exact fun _ h => by cases h
def HL_118 : List ((Nat × Nat × Nat × Nat) × String × Nat) := [((0, 8, 11, 13), "java/lang/IllegalStateException", 7), ((0, 8, 14, 15), "java/lang/IllegalArgumentException", 8), ((0, 8, 17, 17), "java/lang/UnsupportedOperationException", 9), ((0, 8, 20, 19), "java/lang/ArithmeticException", 10)]
theorem ct_118 : jx_ct (jx_mk D c0 c1 c2 c3 c4 H0 ga L xs) (jx_mt 118) (jx_hs 118) := by
  refine jx_ct_of (X := jx_mk D c0 c1 c2 c3 c4 H0 ga L xs) (md := md_118) HL_118 rfl ?_ (fun s h => jx_hno (by decide) s h)
  refine List.forall_mem_cons.mpr ⟨⟨by decide, w_923, by decide, _, rfl⟩, ?_⟩
  refine List.forall_mem_cons.mpr ⟨⟨by decide, w_924, by decide, _, rfl⟩, ?_⟩
  refine List.forall_mem_cons.mpr ⟨⟨by decide, w_925, by decide, _, rfl⟩, ?_⟩
  refine List.forall_mem_cons.mpr ⟨⟨by decide, w_926, by decide, _, rfl⟩, ?_⟩
  exact fun _ h => by cases h
def HL_119 : List ((Nat × Nat × Nat × Nat) × String × Nat) := [((0, 8, 11, 13), "java/lang/IllegalStateException", 7), ((0, 8, 14, 15), "java/lang/IllegalArgumentException", 8), ((0, 8, 17, 17), "java/lang/UnsupportedOperationException", 9)]
theorem ct_119 : jx_ct (jx_mk D c0 c1 c2 c3 c4 H0 ga L xs) (jx_mt 119) (jx_hs 119) := by
  refine jx_ct_of (X := jx_mk D c0 c1 c2 c3 c4 H0 ga L xs) (md := md_119) HL_119 rfl ?_ (fun s h => jx_hno (by decide) s h)
  refine List.forall_mem_cons.mpr ⟨⟨by decide, w_923, by decide, _, rfl⟩, ?_⟩
  refine List.forall_mem_cons.mpr ⟨⟨by decide, w_924, by decide, _, rfl⟩, ?_⟩
  refine List.forall_mem_cons.mpr ⟨⟨by decide, w_925, by decide, _, rfl⟩, ?_⟩
  exact fun _ h => by cases h
def HL_120 : List ((Nat × Nat × Nat × Nat) × String × Nat) := [((0, 9, 12, 13), "java/lang/IllegalStateException", 7)]
theorem ct_120 : jx_ct (jx_mk D c0 c1 c2 c3 c4 H0 ga L xs) (jx_mt 120) (jx_hs 120) := by
  refine jx_ct_of (X := jx_mk D c0 c1 c2 c3 c4 H0 ga L xs) (md := md_120) HL_120 rfl ?_ (fun s h => jx_hno (by decide) s h)
  refine List.forall_mem_cons.mpr ⟨⟨by decide, w_923, by decide, _, rfl⟩, ?_⟩
  exact fun _ h => by cases h
theorem jx_hct (mi : Nat) : jx_ct (jx_mk D c0 c1 c2 c3 c4 H0 ga L xs) (jx_mt mi) (jx_hs mi) := by
  by_cases h117 : mi = 117
  · rw [h117]; exact ct_117
  by_cases h118 : mi = 118
  · rw [h118]; exact ct_118
  by_cases h119 : mi = 119
  · rw [h119]; exact ct_119
  by_cases h120 : mi = 120
  · rw [h120]; exact ct_120
  rw [jx_hs_nil (by omega)]
  intro p l e R s m args below meth c d B pc k hp M h
  cases h
/-- what the abstract machine answers, the program does -/
theorem jx_snd {l : Launch} {f d mi pc : Nat} {LL : jx_L} {st : List Value} {M : jx_M} {r : jx_R} {M' : jx_M} (h : jx_run jx_ml jx_hs jx_cd f d mi pc LL st M = some (r, M')) (p : Program) (e : Env) (R : Room) (s : State) (m : MethodId) (args : Array Value) (below : List Frame) (meth : Method) (c : Code) (B : jx_B (jx_mk D c0 c1 c2 c3 c4 H0 ga L xs) (jx_mt mi) p l e R s m args meth c d) (H : Heap) (ls : Array Slot) (locs : List Loc) (cells slots : Nat) (I : jx_I (jx_mk D c0 c1 c2 c3 c4 H0 ga L xs) R (jx_mt mi).2.2.1 M H ls LL locs cells slots) : W p l e R s m args below meth c H locs cells slots (jx_Q (jx_mk D c0 c1 c2 c3 c4 H0 ga L xs) R below s r M') (F0 m pc ls (st.map (jx_v (jx_mk D c0 c1 c2 c3 c4 H0 ga L xs)))) :=
  jx_sound (X := jx_mk D c0 c1 c2 c3 c4 H0 ga L xs) (mt := jx_mt) (fun _ => rfl) jx_hhs jx_hS jx_W0_mv (fun _ _ a b d => jx_G0.moved a b d) jx_hct f d mi pc LL st M r M' h p e R s m args below meth c B H ls locs cells slots I
end JJ
