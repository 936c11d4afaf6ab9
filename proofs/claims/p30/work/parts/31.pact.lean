/-! the changes -/
abbrev wF (t : WT) (x : Int64) : WT := (w_rows t, w_cells t, w_rule t, w_nights t, x, w_kinds t, w_topRow t, w_rightColumn t, w_bottomRow t, w_leftColumn t, w_rightScratches t, w_lowerScratches t)
abbrev wX (t : WT) (x : Int64) : WT := (w_rows t, w_cells t, w_rule t, w_nights t, w_frozen t, w_kinds t, w_topRow t, w_rightColumn t, w_bottomRow t, w_leftColumn t, x, w_lowerScratches t)
abbrev wY (t : WT) (x : Int64) : WT := (w_rows t, w_cells t, w_rule t, w_nights t, w_frozen t, w_kinds t, w_topRow t, w_rightColumn t, w_bottomRow t, w_leftColumn t, w_rightScratches t, x)
abbrev wRu (t : WT) (x : Int32) : WT := (w_rows t, w_cells t, x, w_nights t, w_frozen t, w_kinds t, w_topRow t, w_rightColumn t, w_bottomRow t, w_leftColumn t, w_rightScratches t, w_lowerScratches t)
abbrev wNi (t : WT) (x : Int32) : WT := (w_rows t, w_cells t, w_rule t, x, w_frozen t, w_kinds t, w_topRow t, w_rightColumn t, w_bottomRow t, w_leftColumn t, w_rightScratches t, w_lowerScratches t)
abbrev wK (t : WT) (x : Int32) : WT := (w_rows t, w_cells t, w_rule t, w_nights t, w_frozen t, x, w_topRow t, w_rightColumn t, w_bottomRow t, w_leftColumn t, w_rightScratches t, w_lowerScratches t)
theorem EncW_F {t : WT} {σ : Sg} (E : EncW t σ) (x : Int64) : EncW (wF t x) (setF σ x) := by
  obtain ⟨h1, h2, h3, h4, h5, h6, h7, h8, h9, h10, h11, h12⟩ := E
  exact ⟨h1, h2, h3, h4, rfl, h6, h7, h8, h9, h10, h11, h12⟩
theorem EncW_X {t : WT} {σ : Sg} (E : EncW t σ) (x : Int64) : EncW (wX t x) (setX σ x) := by
  obtain ⟨h1, h2, h3, h4, h5, h6, h7, h8, h9, h10, h11, h12⟩ := E
  exact ⟨h1, h2, h3, h4, h5, h6, rfl, h8, h9, h10, h11, h12⟩
theorem EncW_Y {t : WT} {σ : Sg} (E : EncW t σ) (x : Int64) : EncW (wY t x) (setY σ x) := by
  obtain ⟨h1, h2, h3, h4, h5, h6, h7, h8, h9, h10, h11, h12⟩ := E
  exact ⟨h1, h2, h3, h4, h5, h6, h7, rfl, h9, h10, h11, h12⟩
theorem EncW_Ru {t : WT} {σ : Sg} (E : EncW t σ) (v : Nat) : EncW (wRu t (nI v)) (setS σ 2 v) := by
  obtain ⟨h1, h2, h3, h4, h5, h6, h7, h8, h9, h10, h11, h12⟩ := E
  exact ⟨h1, h2, rfl, h4, h5, h6, h7, h8, h9, h10, h11, h12⟩
theorem EncW_Ni {t : WT} {σ : Sg} (E : EncW t σ) (v : Nat) : EncW (wNi t (nI v)) (setS σ 3 v) := by
  obtain ⟨h1, h2, h3, h4, h5, h6, h7, h8, h9, h10, h11, h12⟩ := E
  exact ⟨h1, h2, h3, rfl, h5, h6, h7, h8, h9, h10, h11, h12⟩
theorem WF_X {σ : Sg} (h : WF σ) {x : Int64} (hx : inW x (sN σ)) : WF (setX σ x) := by
  obtain ⟨h1, h2, h3, h4, h5, h6, h7, h8, h9, h10, h11⟩ := h
  exact ⟨h1, h2, h3, h4, h5, h6, h7, h8, h9, hx, h11⟩
theorem WF_Y {σ : Sg} (h : WF σ) {x : Int64} (hx : inW x (sN σ)) : WF (setY σ x) := by
  obtain ⟨h1, h2, h3, h4, h5, h6, h7, h8, h9, h10, h11⟩ := h
  exact ⟨h1, h2, h3, h4, h5, h6, h7, h8, h9, h10, hx⟩
theorem WF_Ru {σ : Sg} (h : WF σ) {v : Nat} (hv : v ≤ 2) : WF (setS σ 2 v) := by
  obtain ⟨h1, h2, h3, h4, h5, h6, h7, h8, h9, h10, h11⟩ := h
  refine ⟨h1, h2, h3, h4, hv, fun d hd => ?_, h7, h8, h9, h10, h11⟩
  have := h6 d hd
  rcases four hd with rfl | rfl | rfl | rfl <;> exact this
theorem WF_Ni {σ : Sg} (h : WF σ) (v : Nat) : WF (setS σ 3 v) := by
  obtain ⟨h1, h2, h3, h4, h5, h6, h7, h8, h9, h10, h11⟩ := h
  refine ⟨h1, h2, h3, h4, h5, fun d hd => ?_, h7, h8, h9, h10, h11⟩
  have := h6 d hd
  rcases four hd with rfl | rfl | rfl | rfl <;> exact this
theorem W_has {t : WT} {σ : Sg} (E : EncW t σ) (h : WF σ) {k : Nat} (hk : k < 2 ^ 31) : f_X4_hasCell t (nI k) = decide (k < sN σ) := by
  have n4 := h.n4
  rw [W_hasCell E h, rng_nI 0 _ hk]
  apply decide_eq_decide.mpr; omega
theorem C_win {k : Nat} (hk : k < 2 ^ 31) {a b : Nat} (ha : a < 2 ^ 31) (hb : b < 2 ^ 31) : f_X5_isWithin (nI k) (nI a) (nI b) = decide (a ≤ k ∧ k ≤ b) := by
  rw [C_within, nI_toInt ha, nI_toInt hb, rng_nI a b hk]
def flp (σ : Sg) (k : Nat) : Sg := setF σ (sF σ ^^^ jsl 1 (nI k))
theorem WF_flp {σ : Sg} (h : WF σ) {k : Nat} (hk : k < sN σ) : WF (flp σ k) := WF_setF h (inW_xor h.2.2.2.2.2.2.2.2.1 (inW_one hk h.n64))
theorem W_turn {t : WT} {σ : Sg} (E : EncW t σ) (h : WF σ) {k : Nat} (hk : k < sN σ) : ∃ t', f_X4_turn t (nI k) = (bI (gb (sF (flp σ k)) k), t') ∧ EncW t' (flp σ k) := by
  have n64 := h.n64
  refine ⟨_, ?_, EncW_F E _⟩
  unfold f_X4_turn
  rw [if_pos (by rw [W_has E h (by omega), decide_eq_true hk])]
  simp only [lt_]
  unfold f_X4_isFrozen
  rw [E.2.2.2.2.1]
  show (if f_X5_holds (sF σ ^^^ jsl 1 (nI k)) (nI k) = true then _ else _) = (bI (gb (sF σ ^^^ jsl 1 (nI k)) k), _)
  rw [holds_gb (by omega)]
  cases gb (sF σ ^^^ jsl 1 (nI k)) k <;> rfl
theorem W_turn0 {t : WT} {σ : Sg} (E : EncW t σ) (h : WF σ) {k : Nat} (hk2 : k < 2 ^ 31) (hk : ¬ k < sN σ) : f_X4_turn t (nI k) = (-1, t) := by
  unfold f_X4_turn
  rw [if_neg (by rw [W_has E h hk2, decide_eq_false hk]; decide)]
theorem W_putRule {t : WT} {σ : Sg} (E : EncW t σ) {v : Nat} (hv : v ≤ 2) : ∃ t', f_X4_putRule t (nI v) = (nI (sRu σ), t') ∧ EncW t' (setS σ 2 v) := by
  refine ⟨_, ?_, EncW_Ru E v⟩
  unfold f_X4_putRule
  rw [if_pos (show f_X5_isWithin (nI v) 0 2 = true from (C_win (a := 0) (b := 2) (by omega) (by omega) (by omega)).trans (decide_eq_true (by omega))), E.2.2.1]
theorem W_putRule0 {t : WT} {v : Nat} (hv2 : v < 2 ^ 31) (hv : ¬ v ≤ 2) : f_X4_putRule t (nI v) = (-1, t) := by
  unfold f_X4_putRule
  rw [if_neg (by rw [show f_X5_isWithin (nI v) 0 2 = _ from C_win (a := 0) (b := 2) (by omega) (by omega) (by omega), decide_eq_false (by omega)]; decide)]
