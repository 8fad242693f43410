/-! MATHEMATICS: 61b.iso -/
/-- the bonds, each from both its ends -/
def gEs (n : Nat) (ks : Nat → Nat) : List Nat := (List.range 100).filter fun x => decide (x / 10 < n ∧ x % 10 < n ∧ ks x ≠ 0)
theorem gEs_mem {n : Nat} {ks : Nat → Nat} {x : Nat} : x ∈ gEs n ks ↔ x < 100 ∧ x / 10 < n ∧ x % 10 < n ∧ ks x ≠ 0 := by
  unfold gEs
  rw [List.mem_filter, List.mem_range, decide_eq_true_iff]
theorem gEs_nd {n : Nat} {ks : Nat → Nat} : (gEs n ks).Nodup := List.Nodup.sublist List.filter_sublist List.nodup_range
/-- one to one onto the other, all bonds alike -/
def gIso (fit : Nat → Nat → Bool) (n : Nat) (ks : Nat → Nat) (ks' : Nat → Nat) : Prop := ∃ g : Nat → Nat, ∀ j, j < n → g j < n ∧ fit j (g j) = true ∧ ∀ i, i < j → g i ≠ g j ∧ ks (j * 10 + i) = ks' (g j * 10 + g i)
theorem d10 {a b : Nat} (h : b < 10) : (a * 10 + b) / 10 = a ∧ (a * 10 + b) % 10 = b := by omega
theorem gIso_iff {fit : Nat → Nat → Bool} {n bc bc' : Nat} {ks nr ks' nr' : Nat → Nat} (hn : n ≤ 10) (N : gN n ks nr) (N' : gN n ks' nr') (h5 : ∀ a b, a < n → b < n → ks (a * 10 + b) ≠ 5) (hb : (gEs n ks).length = 2 * bc) (hb' : (gEs n ks').length = 2 * bc') : (bc = bc' ∧ gEmb fit n ks n ks') ↔ gIso fit n ks ks' := by
  constructor
  · rintro ⟨rfl, g, h⟩
    refine ⟨g, fun j hj => ?_⟩
    obtain ⟨h1, h2, h3⟩ := h j hj
    have hinj : ∀ a b, a < n → b < n → g a = g b → a = b := by
      intro a b ha hb e
      rcases Nat.lt_trichotomy a b with q | q | q
      · exact absurd e ((h b hb).2.2 a q).1
      · exact q
      · exact absurd e.symm ((h a ha).2.2 b q).1
    have hall : ∀ a b, a < n → b < n → kOk (ks (a * 10 + b)) (ks' (g a * 10 + g b)) := by
      intro a b ha hb
      rcases Nat.lt_trichotomy a b with q | q | q
      · rw [N.1 a b ha hb, N'.1 _ _ (h a ha).1 (h b hb).1]
        exact ((h b hb).2.2 a q).2
      · subst q
        rw [N.2.1 a ha]
        exact Or.inl rfl
      · exact ((h a ha).2.2 b q).2
    refine ⟨h1, h2, fun i hi => ⟨(h3 i hi).1, ?_⟩⟩
    have hin : i < n := by omega
    have hgi := (h i hin).1
    have h4 := (h3 i hi).2
    have h6 := h5 j i hj hin
    by_cases hk : ks (j * 10 + i) = 0
    · rw [hk]
      refine Classical.byContradiction fun hc => ?_
      have hy : g j * 10 + g i ∈ gEs n ks' := gEs_mem.mpr ⟨by omega, by omega, by omega, fun q => hc q.symm⟩
      have h7 := pig (l1 := gEs n ks) (l2 := (gEs n ks').erase (g j * 10 + g i)) (fun x => g (x / 10) * 10 + g (x % 10)) gEs_nd (fun x hx => ?_) (fun x y hx hy q => ?_)
      · rw [List.length_erase_of_mem hy, hb, hb'] at h7
        have := List.length_pos_of_mem hy
        omega
      · obtain ⟨q1, q2, q3, q4⟩ := gEs_mem.mp hx
        have r1 := (h _ q2).1
        have r2 := (h _ q3).1
        have ex : x / 10 * 10 + x % 10 = x := by omega
        have hne : g (x / 10) * 10 + g (x % 10) ≠ g j * 10 + g i := by
          intro q
          have e1 := hinj (x / 10) j q2 hj (by omega)
          have e2 := hinj (x % 10) i q3 hin (by omega)
          rw [e1, e2] at ex
          rw [ex] at hk
          exact q4 hk
        rw [List.mem_erase_of_ne hne]
        have h8 := hall _ _ q2 q3
        rw [ex] at h8
        refine gEs_mem.mpr ⟨by omega, by omega, by omega, ?_⟩
        unfold kOk at h8
        omega
      · obtain ⟨q1, q2, q3, q4⟩ := gEs_mem.mp hx
        obtain ⟨p1, p2, p3, p4⟩ := gEs_mem.mp hy
        have r1 := (h _ q2).1
        have r2 := (h _ q3).1
        have s1 := (h _ p2).1
        have s2 := (h _ p3).1
        have q : g (x / 10) * 10 + g (x % 10) = g (y / 10) * 10 + g (y % 10) := q
        have e1 := hinj _ _ q2 p2 (by omega)
        have e2 := hinj _ _ q3 p3 (by omega)
        omega
    · unfold kOk at h4
      omega
  · rintro ⟨g, h⟩
    have hinj : ∀ a b, a < n → b < n → g a = g b → a = b := by
      intro a b ha hb e
      rcases Nat.lt_trichotomy a b with q | q | q
      · exact absurd e ((h b hb).2.2 a q).1
      · exact q
      · exact absurd e.symm ((h a ha).2.2 b q).1
    have hall : ∀ a b, a < n → b < n → ks (a * 10 + b) = ks' (g a * 10 + g b) := by
      intro a b ha hb
      rcases Nat.lt_trichotomy a b with q | q | q
      · rw [N.1 a b ha hb, N'.1 _ _ (h a ha).1 (h b hb).1]
        exact ((h b hb).2.2 a q).2
      · subst q
        rw [N.2.1 a ha, N'.2.1 _ (h a ha).1]
      · exact ((h a ha).2.2 b q).2
    have hsur : ∀ c, c < n → ∃ a, a < n ∧ g a = c := by
      intro c hc
      refine Classical.byContradiction fun hq => ?_
      have h7 := pig (l1 := List.range n) (l2 := (List.range n).erase c) g List.nodup_range (fun x hx => ?_) (fun x y hx hy => hinj x y (List.mem_range.mp hx) (List.mem_range.mp hy))
      · rw [List.length_erase_of_mem (List.mem_range.mpr hc), List.length_range] at h7
        omega
      · have hx := List.mem_range.mp hx
        rw [List.mem_erase_of_ne (fun q => hq ⟨x, hx, q⟩)]
        exact List.mem_range.mpr (h x hx).1
    refine ⟨?_, g, fun j hj => ⟨(h j hj).1, (h j hj).2.1, fun i hi => ⟨((h j hj).2.2 i hi).1, Or.inr (Or.inl ((h j hj).2.2 i hi).2)⟩⟩⟩
    have h1 := pig (l1 := gEs n ks) (l2 := gEs n ks') (fun x => g (x / 10) * 10 + g (x % 10)) gEs_nd (fun x hx => ?_) (fun x y hx hy q => ?_)
    · have hsr : ∀ c, ∃ a, c < n → a < n ∧ g a = c := fun c => by
        by_cases hc : c < n
        · obtain ⟨a, q⟩ := hsur c hc; exact ⟨a, fun _ => q⟩
        · exact ⟨0, fun q => absurd q hc⟩
      obtain ⟨f, hf⟩ := Classical.axiomOfChoice hsr
      have h2 := pig (l1 := gEs n ks') (l2 := gEs n ks) (fun x => f (x / 10) * 10 + f (x % 10)) gEs_nd (fun x hx => ?_) (fun x y hx hy q => ?_)
      · omega
      · obtain ⟨q1, q2, q3, q4⟩ := gEs_mem.mp hx
        obtain ⟨r1, r2⟩ := hf _ q2
        obtain ⟨r3, r4⟩ := hf _ q3
        refine gEs_mem.mpr ⟨by omega, by omega, by omega, ?_⟩
        rw [hall _ _ r1 r3, r2, r4, show x / 10 * 10 + x % 10 = x by omega]
        exact q4
      · obtain ⟨q1, q2, q3, q4⟩ := gEs_mem.mp hx
        obtain ⟨p1, p2, p3, p4⟩ := gEs_mem.mp hy
        obtain ⟨r1, r2⟩ := hf _ q2
        obtain ⟨r3, r4⟩ := hf _ q3
        obtain ⟨s1, s2⟩ := hf _ p2
        obtain ⟨s3, s4⟩ := hf _ p3
        have q : f (x / 10) * 10 + f (x % 10) = f (y / 10) * 10 + f (y % 10) := q
        have e1 : f (x / 10) = f (y / 10) := by omega
        have e2 : f (x % 10) = f (y % 10) := by omega
        rw [e1] at r2
        rw [e2] at r4
        omega
    · obtain ⟨q1, q2, q3, q4⟩ := gEs_mem.mp hx
      have r1 := (h _ q2).1
      have r2 := (h _ q3).1
      refine gEs_mem.mpr ⟨by omega, by omega, by omega, ?_⟩
      rw [← hall _ _ q2 q3, show x / 10 * 10 + x % 10 = x by omega]
      exact q4
    · obtain ⟨q1, q2, q3, q4⟩ := gEs_mem.mp hx
      obtain ⟨p1, p2, p3, p4⟩ := gEs_mem.mp hy
      have r1 := (h _ q2).1
      have r2 := (h _ q3).1
      have s1 := (h _ p2).1
      have s2 := (h _ p3).1
      have q : g (x / 10) * 10 + g (x % 10) = g (y / 10) * 10 + g (y % 10) := q
      have e1 := hinj _ _ q2 p2 (by omega)
      have e2 := hinj _ _ q3 p3 (by omega)
      omega
