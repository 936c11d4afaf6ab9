theorem rngb (x : Int32) (a b : Int32) : rng x a.toInt b.toInt = rng x a.toInt b.toInt := rfl
theorem two_ex {x : Int32} (hx : rng x 0 2 = true) : ∃ d, d ≤ 2 ∧ x = nI d := by
  obtain ⟨d, _, h2, h3⟩ := rng_ex (a := 0) (b := 2) hx (by omega)
  exact ⟨d, h2, h3⟩
