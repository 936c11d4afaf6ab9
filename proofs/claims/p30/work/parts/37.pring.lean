theorem fourteen {v : Nat} (h : v < 14) : v = 0 ∨ v = 1 ∨ v = 2 ∨ v = 3 ∨ v = 4 ∨ v = 5 ∨ v = 6 ∨ v = 7 ∨ v = 8 ∨ v = 9 ∨ v = 10 ∨ v = 11 ∨ v = 12 ∨ v = 13 := by omega
theorem newest_nI {x : Int32} {v : Nat} (hv : v < 14) : f_X1_newestKept (x, nI v) = some v := by
  unfold f_X1_newestKept
  rw [if_neg (show ¬ nI v < 0 from nI_pos (by omega)), if_neg (show ¬ (14 : Int32) ≤ nI v from nI_ge (b := 14) hv (by omega))]
  show some (nI v).toNatClampNeg = _
  rw [nI_clamp (by omega)]
theorem C_rem {c v : Nat} (hc : c ≤ 14) (hv : v < 14) (sk : Nat → WT) (w : WT) : f_X1_remember (nI c, nI v) sk w = ((nI (min (c + 1) 14), nI ((v + 1) % 14)), updW sk ((v + 1) % 14) w) := by
  have e1 : imn (nI c + 1) 14 = nI (min (c + 1) 14) := by rw [nI_1]; exact imn_nI (b := 14) (by omega) (by omega)
  have e2 : irm (nI v + 1) 14 = nI ((v + 1) % 14) := by rw [nI_1]; exact irm_nI (d := 14) (by omega) (by omega) (by omega)
  have hv2 : (v + 1) % 14 < 14 := Nat.mod_lt _ (by omega)
  unfold f_X1_remember
  show lt_ (f_X1_newestKept (nI c, (irm (nI v + 1) 14))) _ = _
  show (if f_X1_newestKept (nI c, (irm (nI v + 1) 14)) = none then (((imn (nI c + 1) 14), (irm (nI v + 1) 14)), sk) else _) = _
  rw [e2, newest_nI hv2, e1]
  generalize (v + 1) % 14 = u at hv2
  rcases fourteen hv2 with rfl | rfl | rfl | rfl | rfl | rfl | rfl | rfl | rfl | rfl | rfl | rfl | rfl | rfl <;> rfl
theorem C_back {c v : Nat} (hc : c + 1 ≤ 14) (hv : v < 14) (sk : Nat → WT) (w : WT) : f_X1_takeBack (nI (c + 1), nI v) sk w = ((nI c, nI ((v + 13) % 14)), sk v) := by
  have e1 : imx (nI (c + 1) - 1) 0 = nI c := by rw [nI_pred, show (0 : Int32) = nI 0 from rfl, imx_nI (by omega) (by omega), Nat.max_eq_left (by omega)]
  have e2 : irm (nI v + 14 - 1) 14 = nI ((v + 13) % 14) := by
    rw [show nI v + 14 = nI (v + 13 + 1) from nI_add v 14, nI_pred]; exact irm_nI (d := 14) (by omega) (by omega) (by omega)
  unfold f_X1_takeBack
  show (if f_X1_newestKept (nI (c + 1), nI v) = none then (((imx (nI (c + 1) - 1) 0), (irm (nI v + 14 - 1) 14)), w) else _) = _
  rw [newest_nI hv, e1, e2]
  generalize nI ((v + 13) % 14) = y
  rcases fourteen hv with rfl | rfl | rfl | rfl | rfl | rfl | rfl | rfl | rfl | rfl | rfl | rfl | rfl | rfl <;> rfl
def shF (g : Nat → Int64) (i : Nat) : Nat → Int64 := fun k => if k < i then g (k + 11) else g k
def diN (c : Nat) (g dia : Nat → Int64) : Nat → Int64 := if c = 14 then cpF g (shF dia 143) 0 143 11 else cpF g dia 0 (11 * c) 11
theorem diN_new {c : Nat} (hc : c ≤ 14) (g dia : Nat → Int64) {j : Nat} (hj : j < 11) : diN c g dia (11 * (min (c + 1) 14 - 1) + j) = g j := by
  unfold diN
  by_cases q : c = 14
  · subst q
    rw [if_pos rfl]
    unfold cpF
    rw [if_pos (by omega)]
    exact congrArg g (by omega)
  · rw [if_neg q]
    unfold cpF
    rw [if_pos (by omega)]
    exact congrArg g (by omega)
theorem diN_old {c : Nat} (hc : c ≤ 14) (g dia : Nat → Int64) {i j : Nat} (hi : i + 1 < min (c + 1) 14) (hj : j < 11) : diN c g dia (11 * (min (c + 1) 14 - 1 - (i + 1)) + j) = dia (11 * (c - 1 - i) + j) := by
  unfold diN
  by_cases q : c = 14
  · subst q
    rw [if_pos rfl]
    unfold cpF shF
    rw [if_neg (by omega), if_pos (by omega)]
    exact congrArg dia (by omega)
  · rw [if_neg q]
    unfold cpF
    rw [if_neg (by omega)]
    exact congrArg dia (by omega)
