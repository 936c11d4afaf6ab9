/-! the class's shifts: who has such a neighbour in the set -/
theorem wsh {t : WT} {σ : Sg} (E : EncW t σ) (h : WF σ) : (w_rows t - 1) * w_cells t = nI ((sR σ - 1) * sC σ) := by
  obtain ⟨e0, e1, -⟩ := E
  have h1 := h.1
  rw [e0, e1, show (1 : Int32) = nI 1 from rfl, pk_sub (by omega), pk_mul]
theorem wsc {t : WT} {σ : Sg} (E : EncW t σ) (h : WF σ) : w_cells t - 1 = nI (sC σ - 1) := by
  obtain ⟨e0, e1, -⟩ := E
  have h1 := h.2.2.1
  rw [e1, show (1 : Int32) = nI 1 from rfl, pk_sub (by omega)]
theorem rc56 {σ : Sg} (h : WF σ) : (sR σ - 1) * sC σ ≤ 56 := by
  obtain ⟨_, h2, _, h4, _⟩ := h
  exact Nat.le_trans (Nat.mul_le_mul (show sR σ - 1 ≤ 7 by omega) h4) (by decide)
def nb0 (σ : Sg) (x : Int64) (i : Nat) (d : Nat) : Bool := match nbr σ i d with
  | none => false
  | some j => gb x j
theorem W_above {t : WT} {σ : Sg} (E : EncW t σ) (h : WF σ) {x : Int64} (hx : inW x (sN σ)) {i : Nat} (hi : i < 64) : gb (f_X4_fromAbove t x (decide (sSd σ 0 = 2))) i = (decide (i < sN σ) && nb0 σ x i 0) := by
  have e8 := wsh E h
  have hm := mulR σ h
  have n := h.n64
  have h56 := rc56 h
  have hC1 := h.2.2.1
  have hC2 := h.2.2.2.1
  have hb : ∀ k, gb (w_bottomRow t) k = (decide (k < sN σ) && decide ((sR σ - 1) * sC σ ≤ k)) := by
    intro k; rw [E.2.2.2.2.2.2.2.2.2.2.1]; exact gb_mkN _ _ n k
  have e1 := E.2.1
  simp only [f_X4_fromAbove, lt_]
  rw [e8, e1]
  have a1 : gb (jsl (x &&& (w_bottomRow t ^^^ (-1))) (nI (sC σ))) i = (decide (sC σ ≤ i) && (gb x (i - sC σ) && !(decide (i - sC σ < sN σ) && decide ((sR σ - 1) * sC σ ≤ i - sC σ)))) := by
    rw [gb_jsl (by omega) _ hi, gb_and, gb_not (by omega), hb]
  have a2 : gb (jus (x &&& w_bottomRow t) (nI ((sR σ - 1) * sC σ))) i = (gb x ((sR σ - 1) * sC σ + i) && (decide ((sR σ - 1) * sC σ + i < sN σ) && decide ((sR σ - 1) * sC σ ≤ (sR σ - 1) * sC σ + i))) := by
    rw [gb_jus (by omega), gb_and, hb]
  unfold nb0 nbr
  have hacr : acr (sR σ) (sC σ) i 0 = i + (sR σ - 1) * sC σ := rfl
  rw [hacr]
  generalize (sR σ - 1) * sC σ = q at *
  generalize hN : sN σ = N at *
  by_cases c1 : i < sC σ
  · have o1 : onS (sR σ) (sC σ) i 0 = true := decide_eq_true c1
    have i1 : i < N := by omega
    rw [if_pos o1, decide_eq_true i1, Bool.true_and]
    by_cases j : sSd σ 0 = 2
    · rw [if_pos (decide_eq_true j), if_pos j, gb_or, a1, a2]
      rw [Nat.add_comm i q, decide_eq_false (show ¬ sC σ ≤ i by omega), decide_eq_true (show q + i < N by omega), decide_eq_true (show q ≤ q + i by omega)]
      simp
    · rw [if_neg (show ¬ decide (sSd σ 0 = 2) = true by rw [decide_eq_false j]; decide), if_neg j, a1, decide_eq_false (show ¬ sC σ ≤ i by omega)]
      rfl
  · have o1 : ¬ onS (sR σ) (sC σ) i 0 = true := by show ¬ decide (i < sC σ) = true; rw [decide_eq_false c1]; decide
    rw [if_neg o1]
    have e3 : gb x (q + i) = false := by
      cases g : gb x (q + i)
      · rfl
      · have := hx _ g; omega
    have a3 : gb (if decide (sSd σ 0 = 2) = true then jsl (x &&& (w_bottomRow t ^^^ (-1))) (nI (sC σ)) ||| jus (x &&& w_bottomRow t) (nI q) else jsl (x &&& (w_bottomRow t ^^^ (-1))) (nI (sC σ))) i = (gb x (i - sC σ) && !(decide (i - sC σ < N) && decide (q ≤ i - sC σ))) := by
      split
      · rw [gb_or, a1, a2, e3, decide_eq_true (show sC σ ≤ i by omega)]; simp
      · rw [a1, decide_eq_true (show sC σ ≤ i by omega)]; simp
    rw [a3]
    show _ = (decide (i < N) && gb x (i - sC σ))
    cases g : gb x (i - sC σ)
    · simp
    · have g1 := hx _ g
      rw [decide_eq_true g1]
      by_cases c2 : i < N
      · rw [decide_eq_true c2, decide_eq_false (show ¬ q ≤ i - sC σ by omega)]; rfl
      · rw [decide_eq_false c2, decide_eq_true (show q ≤ i - sC σ by omega)]; rfl
theorem W_below {t : WT} {σ : Sg} (E : EncW t σ) (h : WF σ) {x : Int64} (hx : inW x (sN σ)) {i : Nat} (hi : i < 64) : gb (f_X4_fromBelow t x (decide (sSd σ 2 = 2))) i = (decide (i < sN σ) && nb0 σ x i 2) := by
  have e8 := wsh E h
  have hm := mulR σ h
  have n := h.n64
  have h56 := rc56 h
  have hC1 := h.2.2.1
  have hC2 := h.2.2.2.1
  have hb : ∀ k, gb (w_topRow t) k = (decide (k < sN σ) && decide (k < sC σ)) := by
    intro k; rw [E.2.2.2.2.2.2.2.2.1]; exact gb_mkN _ _ n k
  have e1 := E.2.1
  simp only [f_X4_fromBelow, lt_]
  rw [e8, e1]
  have a1 : gb (jus (x &&& (w_topRow t ^^^ (-1))) (nI (sC σ))) i = (gb x (sC σ + i) && decide (sC σ + i < 64)) := by
    rw [gb_jus (by omega), gb_and]
    by_cases c : sC σ + i < 64
    · rw [gb_not c, hb, decide_eq_false (show ¬ sC σ + i < sC σ by omega), decide_eq_true c]; simp
    · rw [gb_big (x := x) (by omega), decide_eq_false c]; rfl
  have a2 : gb (jsl (x &&& w_topRow t) (nI ((sR σ - 1) * sC σ))) i = (decide ((sR σ - 1) * sC σ ≤ i) && (gb x (i - (sR σ - 1) * sC σ) && (decide (i - (sR σ - 1) * sC σ < sN σ) && decide (i - (sR σ - 1) * sC σ < sC σ)))) := by
    rw [gb_jsl (by omega) _ hi, gb_and, hb]
  unfold nb0 nbr
  have hacr : acr (sR σ) (sC σ) i 2 = i - (sR σ - 1) * sC σ := rfl
  have hon : onS (sR σ) (sC σ) i 2 = decide ((sR σ - 1) * sC σ ≤ i) := rfl
  rw [hacr, hon]
  generalize (sR σ - 1) * sC σ = q at *
  generalize hN : sN σ = N at *
  have a0 : (gb x (sC σ + i) && decide (sC σ + i < 64)) = gb x (sC σ + i) := by
    cases g : gb x (sC σ + i)
    · rfl
    · rw [decide_eq_true (gb_lt g)]; rfl
  rw [a0] at a1
  by_cases c1 : q ≤ i
  · rw [if_pos (decide_eq_true c1)]
    have e3 : gb x (sC σ + i) = false := by
      cases g : gb x (sC σ + i)
      · rfl
      · have := hx _ g; omega
    by_cases j : sSd σ 2 = 2
    · rw [if_pos (decide_eq_true j), if_pos j, gb_or, a1, a2, e3, decide_eq_true c1]
      show _ = (decide (i < N) && gb x (i - q))
      cases g : gb x (i - q)
      · simp
      · have g1 := hx _ g
        rw [decide_eq_true g1]
        by_cases c2 : i < N
        · rw [decide_eq_true c2, decide_eq_true (show i - q < sC σ by omega)]; rfl
        · rw [decide_eq_false c2, decide_eq_false (show ¬ i - q < sC σ by omega)]; rfl
    · rw [if_neg (show ¬ decide (sSd σ 2 = 2) = true by rw [decide_eq_false j]; decide), if_neg j, a1, e3]; simp
  · rw [if_neg (show ¬ decide (q ≤ i) = true by rw [decide_eq_false c1]; decide)]
    have i1 : i < N := by omega
    rw [decide_eq_true i1, Bool.true_and]
    show _ = gb x (i + sC σ)
    rw [Nat.add_comm i]
    split
    · rw [gb_or, a1, a2, decide_eq_false c1]; simp
    · exact a1

