/-! sides -/
-- borders
def brd (σ : Sg) (s κ : Nat) : Sg := if κ = 2 ∨ sSd σ s = 2 then setS (setS σ (4 + s) κ) (4 + opp s) κ else setS σ (4 + s) κ
def kdP (k0 k1 k2 k3 κ : Nat) : Bool := decide (((nI (k0 + 4 * k1 + 16 * k2 + 64 * k3) &&& ((isl 3 (2 * nI 0)) ^^^ (-1))) ||| (isl (nI κ) (2 * nI 0))) = nI (κ + 4 * k1 + 16 * k2 + 64 * k3)) && decide (((nI (k0 + 4 * k1 + 16 * k2 + 64 * k3) &&& ((isl 3 (2 * nI 1)) ^^^ (-1))) ||| (isl (nI κ) (2 * nI 1))) = nI (k0 + 4 * κ + 16 * k2 + 64 * k3)) && decide (((nI (k0 + 4 * k1 + 16 * k2 + 64 * k3) &&& ((isl 3 (2 * nI 2)) ^^^ (-1))) ||| (isl (nI κ) (2 * nI 2))) = nI (k0 + 4 * k1 + 16 * κ + 64 * k3)) && decide (((nI (k0 + 4 * k1 + 16 * k2 + 64 * k3) &&& ((isl 3 (2 * nI 3)) ^^^ (-1))) ||| (isl (nI κ) (2 * nI 3))) = nI (k0 + 4 * k1 + 16 * k2 + 64 * κ))
theorem kd_all : ∀ i, i < 243 → kdP (i % 3) (i / 3 % 3) (i / 9 % 3) (i / 27 % 3) (i / 81) = true := by decide +kernel
theorem kd_up (k0 : Nat) (h0 : k0 < 3) (k1 : Nat) (h1 : k1 < 3) (k2 : Nat) (h2 : k2 < 3) (k3 : Nat) (h3 : k3 < 3) (κ : Nat) (hκ : κ < 3) :
    (((nI (k0 + 4 * k1 + 16 * k2 + 64 * k3) &&& ((isl 3 (2 * nI 0)) ^^^ (-1))) ||| (isl (nI κ) (2 * nI 0))) = nI (κ + 4 * k1 + 16 * k2 + 64 * k3)) ∧
    (((nI (k0 + 4 * k1 + 16 * k2 + 64 * k3) &&& ((isl 3 (2 * nI 1)) ^^^ (-1))) ||| (isl (nI κ) (2 * nI 1))) = nI (k0 + 4 * κ + 16 * k2 + 64 * k3)) ∧
    (((nI (k0 + 4 * k1 + 16 * k2 + 64 * k3) &&& ((isl 3 (2 * nI 2)) ^^^ (-1))) ||| (isl (nI κ) (2 * nI 2))) = nI (k0 + 4 * k1 + 16 * κ + 64 * k3)) ∧
    (((nI (k0 + 4 * k1 + 16 * k2 + 64 * k3) &&& ((isl 3 (2 * nI 3)) ^^^ (-1))) ||| (isl (nI κ) (2 * nI 3))) = nI (k0 + 4 * k1 + 16 * k2 + 64 * κ)) := by
  have a := kd_all (k0 + 3 * k1 + 9 * k2 + 27 * k3 + 81 * κ) (by omega)
  rw [show (k0 + 3 * k1 + 9 * k2 + 27 * k3 + 81 * κ) % 3 = k0 by omega, show (k0 + 3 * k1 + 9 * k2 + 27 * k3 + 81 * κ) / 3 % 3 = k1 by omega, show (k0 + 3 * k1 + 9 * k2 + 27 * k3 + 81 * κ) / 9 % 3 = k2 by omega, show (k0 + 3 * k1 + 9 * k2 + 27 * k3 + 81 * κ) / 27 % 3 = k3 by omega, show (k0 + 3 * k1 + 9 * k2 + 27 * k3 + 81 * κ) / 81 = κ by omega] at a
  unfold kdP at a
  simp only [Bool.and_eq_true, decide_eq_true_eq] at a
  exact ⟨a.1.1.1, a.1.1.2, a.1.2, a.2⟩
theorem EncW_over {t : WT} {σ : Sg} (E : EncW t σ) (h6 : ∀ d, d < 4 → sSd σ d ≤ 2) {s κ : Nat} (hs : s < 4) (hκ : κ ≤ 2) : EncW (f_X4_overwriteKind t (nI s) (nI κ)) (setS σ (4 + s) κ) := by
  obtain ⟨e1, e2, e3, e4, e5, e6, e7, e8, e9, e10, e11, e12⟩ := E
  have h0 := h6 0 (by omega)
  have h1 := h6 1 (by omega)
  have h2 := h6 2 (by omega)
  have h3 := h6 3 (by omega)
  obtain ⟨q0, q1, q2, q3⟩ := kd_up (sSd σ 0) (by omega) (sSd σ 1) (by omega) (sSd σ 2) (by omega) (sSd σ 3) (by omega) κ (by omega)
  unfold f_X4_overwriteKind
  rw [e6]
  unfold kindsN
  rcases four hs with rfl | rfl | rfl | rfl
  · rw [q0]; exact ⟨e1, e2, e3, e4, e5, rfl, e7, e8, e9, e10, e11, e12⟩
  · rw [q1]; exact ⟨e1, e2, e3, e4, e5, rfl, e7, e8, e9, e10, e11, e12⟩
  · rw [q2]; exact ⟨e1, e2, e3, e4, e5, rfl, e7, e8, e9, e10, e11, e12⟩
  · rw [q3]; exact ⟨e1, e2, e3, e4, e5, rfl, e7, e8, e9, e10, e11, e12⟩
theorem sSd_set {σ : Sg} {s κ : Nat} (hκ : κ ≤ 2) (h6 : ∀ d, d < 4 → sSd σ d ≤ 2) : ∀ d, d < 4 → sSd (setS σ (4 + s) κ) d ≤ 2 := fun d hd => by
  show (if 4 + d = 4 + s then κ else σ.1 (4 + d)) ≤ 2
  split
  · exact hκ
  · exact h6 d hd
theorem WF_sides {σ τ : Sg} (h : WF σ) (e : τ.2 = σ.2) (e1 : ∀ j, j < 4 → τ.1 j = σ.1 j) (a6 : ∀ d, d < 4 → sSd τ d ≤ 2) (a7 : sSd τ 0 = 2 ↔ sSd τ 2 = 2) (a8 : sSd τ 1 = 2 ↔ sSd τ 3 = 2) : WF τ := by
  obtain ⟨h1, h2, h3, h4, h5, -, -, -, h9, h10, h11⟩ := h
  have r0 : sR τ = sR σ := e1 0 (by omega)
  have r1 : sC τ = sC σ := e1 1 (by omega)
  have r2 : sRu τ = sRu σ := e1 2 (by omega)
  have rF : sF τ = sF σ := by show τ.2.1 = σ.2.1; rw [e]
  have rX : sX τ = sX σ := by show τ.2.2.1 = σ.2.2.1; rw [e]
  have rY : sY τ = sY σ := by show τ.2.2.2 = σ.2.2.2; rw [e]
  have rN : sN τ = sN σ := by show sR τ * sC τ = sR σ * sC σ; rw [r0, r1]
  refine ⟨?_, ?_, ?_, ?_, ?_, a6, a7, a8, ?_, ?_, ?_⟩
  · rw [r0]; exact h1
  · rw [r0]; exact h2
  · rw [r1]; exact h3
  · rw [r1]; exact h4
  · rw [r2]; exact h5
  · rw [rF, rN]; exact h9
  · rw [rX, rN]; exact h10
  · rw [rY, rN]; exact h11
theorem sSd_at (σ : Sg) (s κ d : Nat) : sSd (setS σ (4 + s) κ) d = if d = s then κ else sSd σ d := by
  show (if 4 + d = 4 + s then κ else σ.1 (4 + d)) = _
  by_cases q : d = s
  · rw [if_pos q, if_pos (by omega)]
  · rw [if_neg q, if_neg (by omega)]
theorem WF_brd {σ : Sg} (h : WF σ) {s κ : Nat} (hs : s < 4) (hκ : κ ≤ 2) : WF (brd σ s κ) := by
  have h6 := h.2.2.2.2.2.1
  have h7 := h.2.2.2.2.2.2.1
  have h8 := h.2.2.2.2.2.2.2.1
  have a := sSd_set (s := s) hκ h6
  unfold brd
  by_cases q : κ = 2 ∨ sSd σ s = 2
  · rw [if_pos q]
    refine WF_sides h rfl (fun j hj => ?_) (sSd_set hκ a) ?_ ?_
    · show (if j = 4 + opp s then κ else if j = 4 + s then κ else σ.1 j) = _
      rw [if_neg (by omega), if_neg (by omega)]
    · simp only [sSd_at]
      rcases four hs with rfl | rfl | rfl | rfl
      · exact Iff.rfl
      · exact h7
      · exact Iff.rfl
      · exact h7
    · simp only [sSd_at]
      rcases four hs with rfl | rfl | rfl | rfl
      · exact h8
      · exact Iff.rfl
      · exact h8
      · exact Iff.rfl
  · rw [if_neg q]
    have q1 : ¬ κ = 2 := fun z => q (.inl z)
    have q2 : ¬ sSd σ s = 2 := fun z => q (.inr z)
    refine WF_sides h rfl (fun j hj => ?_) a ?_ ?_
    · show (if j = 4 + s then κ else σ.1 j) = _
      rw [if_neg (by omega)]
    · simp only [sSd_at]
      rcases four hs with rfl | rfl | rfl | rfl
      · exact ⟨fun z => absurd z q1, fun z => absurd (h7.mpr z) q2⟩
      · exact h7
      · exact ⟨fun z => absurd (h7.mp z) q2, fun z => absurd z q1⟩
      · exact h7
    · simp only [sSd_at]
      rcases four hs with rfl | rfl | rfl | rfl
      · exact h8
      · exact ⟨fun z => absurd z q1, fun z => absurd (h8.mpr z) q2⟩
      · exact h8
      · exact ⟨fun z => absurd (h8.mp z) q2, fun z => absurd z q1⟩
theorem W_putKind {t : WT} {σ : Sg} (E : EncW t σ) (h : WF σ) {s κ : Nat} (hs : s < 4) (hκ : κ ≤ 2) : ∃ t', f_X4_putKind t (nI s) (nI κ) = (nI (sSd σ s), t') ∧ EncW t' (brd σ s κ) := by
  have h6 := h.2.2.2.2.2.1
  have E1 := EncW_over E h6 hs hκ
  have hx : nI s ^^^ 2 = nI (opp s) := by rcases four hs with rfl | rfl | rfl | rfl <;> decide
  have E2 := EncW_over E1 (sSd_set hκ h6) (opp_lt s) hκ
  unfold f_X4_putKind brd
  rw [if_pos (show f_X5_isWithin (nI s) 0 3 = true from (C_win (a := 0) (b := 3) (by omega) (by omega) (by omega)).trans (decide_eq_true (by omega))), if_pos (show f_X5_isWithin (nI κ) 0 2 = true from (C_win (a := 0) (b := 2) (by omega) (by omega) (by omega)).trans (decide_eq_true (by omega))), hx, W_kind E h hs]
  have s2 := nI2 (a := sSd σ s) (by have := h6 s hs; omega)
  have k2 := nI2 (a := κ) (by omega)
  by_cases q2 : sSd σ s = 2
  · rw [if_pos (s2.mpr q2), if_pos (.inr q2)]
    exact ⟨_, rfl, E2⟩
  · rw [if_neg (fun z => q2 (s2.mp z))]
    by_cases q1 : κ = 2
    · rw [if_pos (k2.mpr q1), if_pos (.inl q1)]
      exact ⟨_, rfl, E2⟩
    · rw [if_neg (fun z => q1 (k2.mp z)), if_neg (fun z => z.elim q1 q2)]
      exact ⟨_, rfl, E1⟩
theorem W_putKind0 {t : WT} {s κ : Nat} (hs2 : s < 2 ^ 31) (hκ2 : κ < 2 ^ 31) (hc : ¬ (s < 4 ∧ κ ≤ 2)) : f_X4_putKind t (nI s) (nI κ) = (-1, t) := by
  unfold f_X4_putKind
  by_cases hs : s < 4
  · rw [if_pos (show f_X5_isWithin (nI s) 0 3 = true from (C_win (a := 0) (b := 3) (by omega) (by omega) (by omega)).trans (decide_eq_true (by omega))), if_neg (by rw [show f_X5_isWithin (nI κ) 0 2 = _ from C_win (a := 0) (b := 2) (by omega) (by omega) (by omega), decide_eq_false (by omega)]; decide)]
  · rw [if_neg (by rw [show f_X5_isWithin (nI s) 0 3 = _ from C_win (a := 0) (b := 3) (by omega) (by omega) (by omega), decide_eq_false (by omega)]; decide)]
