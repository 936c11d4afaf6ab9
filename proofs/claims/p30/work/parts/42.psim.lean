/-! simulations and scripts -/
theorem x_lN (x : Int64) : x = lN (tN x) := by
  apply Int64.toBitVec_inj.mp
  show x.toBitVec = BitVec.ofNat 64 x.toBitVec.toNat
  rw [BitVec.ofNat_toNat, BitVec.setWidth_eq]
theorem x_33 (u : Int64) : ∃ R, R < 2 ^ 31 ∧ (jus u 33).toInt32 = nI R := by
  have e : tN (jus u 33) = tN u / 2 ^ 33 := tN_jus (k := 33) (by omega) u
  refine ⟨tN u / 2 ^ 33, ?_, ?_⟩
  · have := tN_lt u; omega
  · rw [x_lN (jus u 33), lN_i, e]
theorem dv {a d : Nat} (ha : a < 2 ^ 31) (h0 : 0 < d) (hd : d < 2 ^ 31) : nI a / nI d = nI (a / d) := pk_div ha h0 hd
theorem seven {d : Nat} (h : d < 8) : d = 0 ∨ d = 1 ∨ d = 2 ∨ d = 3 ∨ d = 4 ∨ d = 5 ∨ d = 6 ∨ d = 7 := by omega
