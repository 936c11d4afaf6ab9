/-! the remembered states -/
def RelW (w : WT) (g : Nat → Int64) : Prop := ∃ σ, WF σ ∧ EncW w σ ∧ EncM g σ
def RelP (p : PT) (sk : Nat → WT) (m : MT) (dia : Nat → Int64) : Prop := ∃ c v, c ≤ 14 ∧ v < 14 ∧ p_count p = nI c ∧ p_newest p = nI v ∧ m_acts m = nI c ∧ ∀ i, i < c → RelW (sk ((v + 14 - i) % 14)) (fun j => dia (11 * (c - 1 - i) + j))
theorem RelW_cong {w : WT} {g g' : Nat → Int64} (h : RelW w g) (e : ∀ j, j < 11 → g' j = g j) : RelW w g' := by
  obtain ⟨σ, h1, h2, h3⟩ := h
  exact ⟨σ, h1, h2, EncM_cong h3 e⟩
theorem fourteen {v : Nat} (h : v < 14) : v = 0 ∨ v = 1 ∨ v = 2 ∨ v = 3 ∨ v = 4 ∨ v = 5 ∨ v = 6 ∨ v = 7 ∨ v = 8 ∨ v = 9 ∨ v = 10 ∨ v = 11 ∨ v = 12 ∨ v = 13 := by omega
theorem newest_nI {x : Int32} {v : Nat} (hv : v < 14) : f_X1_newestKept (x, nI v) = some v := by
  unfold f_X1_newestKept
  rw [if_neg (show ¬ nI v < 0 from nI_pos (by omega)), if_neg (show ¬ (14 : Int32) ≤ nI v from nI_ge (b := 14) hv (by omega))]
  show some (nI v).toNatClampNeg = _
  rw [nI_clamp (by omega)]
theorem C_rem {c v : Nat} (hc : c ≤ 14) (hv : v < 14) (sk : Nat → WT) (w : WT) : f_X1_remember (nI c, nI v) sk w = ((nI (min (c + 1) 14), nI ((v + 1) % 14)), updW sk ((v + 1) % 14) w) := by
  have e1 : imn (nI c + 1) 14 = nI (min (c + 1) 14) := by rw [nI_1]; exact imn_nI (b := 14) (by omega) (by omega)
  have e2 : irm (nI v + 1) 14 = nI ((v + 1) % 14) := by rw [nI_1]; exact irm_nI (d := 14) (by omega) (by omega) (by omega)
  have hv2 : (v + 1) % 14 < 14 := Nat.mod_lt _ (by omega)
  unfold f_X1_remember
  show lt_ (f_X1_newestKept (nI c, (irm (nI v + 1) 14))) _ = _
  show (if f_X1_newestKept (nI c, (irm (nI v + 1) 14)) = none then (((imn (nI c + 1) 14), (irm (nI v + 1) 14)), sk) else _) = _
  rw [e2, newest_nI hv2, e1]
  generalize (v + 1) % 14 = u at hv2
  rcases fourteen hv2 with rfl | rfl | rfl | rfl | rfl | rfl | rfl | rfl | rfl | rfl | rfl | rfl | rfl | rfl <;> rfl
theorem C_back {c v : Nat} (hc : c + 1 ≤ 14) (hv : v < 14) (sk : Nat → WT) (w : WT) : f_X1_takeBack (nI (c + 1), nI v) sk w = ((nI c, nI ((v + 13) % 14)), sk v) := by
  have e1 : imx (nI (c + 1) - 1) 0 = nI c := by rw [nI_pred, show (0 : Int32) = nI 0 from rfl, imx_nI (by omega) (by omega), Nat.max_eq_left (by omega)]
  have e2 : irm (nI v + 14 - 1) 14 = nI ((v + 13) % 14) := by
    rw [show nI v + 14 = nI (v + 13 + 1) from nI_add v 14, nI_pred]; exact irm_nI (d := 14) (by omega) (by omega) (by omega)
  unfold f_X1_takeBack
  show (if f_X1_newestKept (nI (c + 1), nI v) = none then (((imx (nI (c + 1) - 1) 0), (irm (nI v + 14 - 1) 14)), w) else _) = _
  rw [newest_nI hv, e1, e2]
  generalize nI ((v + 13) % 14) = y
  rcases fourteen hv with rfl | rfl | rfl | rfl | rfl | rfl | rfl | rfl | rfl | rfl | rfl | rfl | rfl | rfl <;> rfl
def mkA (m : MT) (r : Int32) : MT := (m_refusal m, m_size m, r, m_rank m, m_spot m, m_out m)
def shF (g : Nat → Int64) (i : Nat) : Nat → Int64 := fun k => if k < i then g (k + 11) else g k
def diN (c : Nat) (g dia : Nat → Int64) : Nat → Int64 := if c = 14 then cpF g (shF dia 143) 0 143 11 else cpF g dia 0 (11 * c) 11
theorem M_rem {n : Nat} (hn : 1000 ≤ n) {m : MT} {c : Nat} (hm : m_acts m = nI c) (hc : c ≤ 14) (g dia : Nat → Int64) : f_X6_remember n m g dia = some (mkA m (nI (min (c + 1) 14)), diN c g dia) := by
  unfold f_X6_remember diN
  rw [hm]
  by_cases q : c = 14
  · subst q
    rw [if_pos (show nI 14 = 14 from rfl), if_pos rfl]
    have := lp_run (fun f i => f_X6_remember_b11 n g f m (shF dia i) (nI i)) 143 (some (mkA m (nI (min (14 + 1) 14)), cpF g (shF dia 143) 0 143 11))
      (fun f i hi => by
        show f_X6_remember_b11 n g (f + 1) m (shF dia i) (nI i) = f_X6_remember_b11 n g f m (shF dia (i + 1)) (nI (i + 1))
        rw [f_X6_remember_b11_s, if_neg (show ¬ (143 : Int32) ≤ nI i from nI_ge (b := 143) hi (by omega)), show nI i + 11 = nI (i + 11) from nI_add i 11, if_neg (nI_in (show i + 11 < 154 by omega) (by omega)), if_neg (nI_in (show i < 154 by omega) (by omega)), nI_clamp (by omega), nI_clamp (by omega), nI_succ]
        congr 1
        funext k
        unfold vp_updL shF
        by_cases z : k = i
        · subst z; rw [if_pos rfl, if_neg (by omega), if_pos (by omega)]
        · rw [if_neg z]
          by_cases z2 : k < i
          · rw [if_pos z2, if_pos (by omega)]
          · rw [if_neg z2, if_neg (by omega)])
      (fun f => by
        show f_X6_remember_b11 n g (f + 1) m (shF dia 143) (nI 143) = _
        rw [f_X6_remember_b11_s, if_pos (show (143 : Int32) ≤ nI 143 by decide), hm, show (11 : Int32) * (nI 14 - 1) = nI 143 from by decide, show f_X6_copyState n g (shF dia 143) 11 154 0 (nI 143) = _ from M_copy (by omega) (a := 0) (b := 143) (by omega) (by omega) (by omega) (by omega), ob_some]
        rfl) n 0 (by omega) (by omega)
    rw [show shF dia 0 = dia from by funext k; unfold shF; rw [if_neg (by omega)]] at this
    exact this
  · rw [if_neg (show ¬ nI c = 14 from fun z => q ((nI_eq (b := 14) (by omega) (by omega)).mp z)), if_neg q, show (11 : Int32) * nI c = nI (11 * c) from pk_mul 11 c, show f_X6_copyState n g dia 11 154 0 (nI (11 * c)) = _ from M_copy (by omega) (a := 0) (b := 11 * c) (by omega) (by omega) (by omega) (by omega), ob_some, nI_1]
    rw [show min (c + 1) 14 = c + 1 by omega]
    rfl
theorem diN_new {c : Nat} (hc : c ≤ 14) (g dia : Nat → Int64) {j : Nat} (hj : j < 11) : diN c g dia (11 * (min (c + 1) 14 - 1) + j) = g j := by
  unfold diN
  by_cases q : c = 14
  · subst q
    rw [if_pos rfl]
    unfold cpF
    rw [if_pos (by omega)]
    exact congrArg g (by omega)
  · rw [if_neg q]
    unfold cpF
    rw [if_pos (by omega)]
    exact congrArg g (by omega)
theorem diN_old {c : Nat} (hc : c ≤ 14) (g dia : Nat → Int64) {i j : Nat} (hi : i + 1 < min (c + 1) 14) (hj : j < 11) : diN c g dia (11 * (min (c + 1) 14 - 1 - (i + 1)) + j) = dia (11 * (c - 1 - i) + j) := by
  unfold diN
  by_cases q : c = 14
  · subst q
    rw [if_pos rfl]
    unfold cpF shF
    rw [if_neg (by omega), if_pos (by omega)]
    exact congrArg dia (by omega)
  · rw [if_neg q]
    unfold cpF
    rw [if_neg (by omega)]
    exact congrArg dia (by omega)
theorem P_rem {n : Nat} (hn : 1000 ≤ n) {p : PT} {sk : Nat → WT} {m : MT} {dia : Nat → Int64} (H : RelP p sk m dia) {w : WT} {g : Nat → Int64} (hw : RelW w g) : ∃ p' sk' m' dia', f_X1_remember p sk w = (p', sk') ∧ f_X6_remember n m g dia = some (m', dia') ∧ RelP p' sk' m' dia' ∧ m_size m' = m_size m ∧ m_refusal m' = m_refusal m := by
  obtain ⟨c, v, hc, hv, e1, e2, e3, hr⟩ := H
  have ep : p = (nI c, nI v) := by rw [← e1, ← e2]
  have hv2 : (v + 1) % 14 < 14 := Nat.mod_lt _ (by omega)
  refine ⟨_, _, _, _, (congrArg (fun z => f_X1_remember z sk w) ep).trans (C_rem hc hv sk w), M_rem hn e3 hc g dia, ⟨min (c + 1) 14, (v + 1) % 14, by omega, hv2, rfl, rfl, rfl, fun i hi => ?_⟩, rfl, rfl⟩
  by_cases q : i = 0
  · subst q
    rw [show ((v + 1) % 14 + 14 - 0) % 14 = (v + 1) % 14 by omega]
    have : updW sk ((v + 1) % 14) w ((v + 1) % 14) = w := if_pos rfl
    rw [this]
    exact RelW_cong hw (fun j hj => diN_new hc g dia hj)
  · obtain ⟨i', rfl⟩ : ∃ i', i = i' + 1 := ⟨i - 1, by omega⟩
    have e : ((v + 1) % 14 + 14 - (i' + 1)) % 14 = (v + 14 - i') % 14 := by omega
    have ne : ¬ (v + 14 - i') % 14 = (v + 1) % 14 := by omega
    rw [e]
    have : updW sk ((v + 1) % 14) w ((v + 14 - i') % 14) = sk ((v + 14 - i') % 14) := if_neg ne
    rw [this]
    exact RelW_cong (hr i' (by omega)) (fun j hj => diN_old hc g dia (by omega) hj)
