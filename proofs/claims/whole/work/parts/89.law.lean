/-! THE LAW'S RUN ON THE ABSTRACT MACHINE -/
def jx_M0 (L : Nat) (xs : Nat → Int32) : jx_M := (fun k => if k < jx_g then jx_gl L xs k else jx_dead, jx_g, 601024, 7293034)
theorem jx_law {L : Nat} {xs : Nat → Int32} (hL : L ≤ 2048) : ∃ (f : Nat) (M' : jx_M), jx_run jx_ml jx_hs jx_cd f 1600 0 0 (jx_en [.ref 0] 7) [] (jx_M0 L xs) = some (.inl (some (.int 1)), M') := by
  obtain ⟨f, r, M', h1, h2⟩ := t_law (L := L) (xs := xs) (d := 1579) hL
  subst h2
  exact ⟨f, M', h1⟩
