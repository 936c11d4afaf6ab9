/-! who is my neighbour has me as neighbour; what grows -/
def opp (d : Nat) : Nat := (d + 2) % 4
theorem opp_lt (d : Nat) : opp d < 4 := Nat.mod_lt _ (by omega)
theorem opp_opp {d : Nat} (hd : d < 4) : opp (opp d) = d := by unfold opp; omega
theorem nbr_mut {σ : Sg} (h : WF σ) {k d j : Nat} (hk : k < sN σ) (hd : d < 4) (e : nbr σ k d = some j) : nbr σ j (opp d) = some k := by
  have hm := mulR σ h
  obtain ⟨h1, h2, h3, h4, -, -, s02, s13, -⟩ := h
  obtain ⟨q, r, ek, hr, em⟩ := qr k (C := sC σ) (by omega)
  unfold nbr at e
  rcases four hd with rfl | rfl | rfl | rfl
  · by_cases ho : onS (sR σ) (sC σ) k 0 = true
    · rw [if_pos ho] at e
      by_cases hj : sSd σ 0 = 2
      · rw [if_pos hj] at e; cases e
        simp only [onS, decide_eq_true_eq] at ho
        show nbr σ (k + (sR σ - 1) * sC σ) 2 = some k
        unfold nbr
        rw [if_pos (show onS (sR σ) (sC σ) (k + (sR σ - 1) * sC σ) 2 = true from decide_eq_true (by omega)), if_pos (s02.mp hj)]
        exact congrArg some (Nat.add_sub_cancel ..)
      · rw [if_neg hj] at e; cases e
    · rw [if_neg ho] at e; cases e
      simp only [onS, decide_eq_true_eq] at ho
      show nbr σ (k - sC σ) 2 = some k
      unfold nbr
      rw [if_neg (show ¬ onS (sR σ) (sC σ) (k - sC σ) 2 = true by show ¬ decide _ = true; rw [decide_eq_false (by omega)]; decide)]
      exact congrArg some (Nat.sub_add_cancel (by omega))
  · by_cases ho : onS (sR σ) (sC σ) k 1 = true
    · rw [if_pos ho] at e
      by_cases hj : sSd σ 1 = 2
      · rw [if_pos hj] at e; cases e
        simp only [onS, decide_eq_true_eq] at ho
        rw [em] at ho
        show nbr σ (k - (sC σ - 1)) 3 = some k
        unfold nbr
        have e2 : k - (sC σ - 1) = 0 + sC σ * q := by omega
        rw [if_pos (show onS (sR σ) (sC σ) (k - (sC σ - 1)) 3 = true from decide_eq_true (by rw [e2]; exact qr_mod (by omega))), if_pos (s13.mp hj)]
        exact congrArg some (Nat.sub_add_cancel (by omega))
      · rw [if_neg hj] at e; cases e
    · rw [if_neg ho] at e; cases e
      simp only [onS, decide_eq_true_eq] at ho
      rw [em] at ho
      show nbr σ (k + 1) 3 = some k
      unfold nbr
      have e2 : k + 1 = (r + 1) + sC σ * q := by omega
      rw [if_neg (show ¬ onS (sR σ) (sC σ) (k + 1) 3 = true by show ¬ decide _ = true; rw [decide_eq_false (by rw [e2, qr_mod (by omega)]; omega)]; decide)]
      rfl
  · by_cases ho : onS (sR σ) (sC σ) k 2 = true
    · rw [if_pos ho] at e
      by_cases hj : sSd σ 2 = 2
      · rw [if_pos hj] at e; cases e
        simp only [onS, decide_eq_true_eq] at ho
        show nbr σ (k - (sR σ - 1) * sC σ) 0 = some k
        unfold nbr
        rw [if_pos (show onS (sR σ) (sC σ) (k - (sR σ - 1) * sC σ) 0 = true from decide_eq_true (by omega)), if_pos (s02.mpr hj)]
        exact congrArg some (Nat.sub_add_cancel ho)
      · rw [if_neg hj] at e; cases e
    · rw [if_neg ho] at e; cases e
      simp only [onS, decide_eq_true_eq] at ho
      show nbr σ (k + sC σ) 0 = some k
      unfold nbr
      rw [if_neg (show ¬ onS (sR σ) (sC σ) (k + sC σ) 0 = true by show ¬ decide _ = true; rw [decide_eq_false (by omega)]; decide)]
      exact congrArg some (Nat.add_sub_cancel ..)
  · by_cases ho : onS (sR σ) (sC σ) k 3 = true
    · rw [if_pos ho] at e
      by_cases hj : sSd σ 3 = 2
      · rw [if_pos hj] at e; cases e
        simp only [onS, decide_eq_true_eq] at ho
        rw [em] at ho
        show nbr σ (k + (sC σ - 1)) 1 = some k
        unfold nbr
        have e2 : k + (sC σ - 1) = (sC σ - 1) + sC σ * q := by omega
        rw [if_pos (show onS (sR σ) (sC σ) (k + (sC σ - 1)) 1 = true from decide_eq_true (by rw [e2]; exact qr_mod (by omega))), if_pos (s13.mpr hj)]
        exact congrArg some (Nat.add_sub_cancel ..)
      · rw [if_neg hj] at e; cases e
    · rw [if_neg ho] at e; cases e
      simp only [onS, decide_eq_true_eq] at ho
      rw [em] at ho
      show nbr σ (k - 1) 1 = some k
      unfold nbr
      have e2 : k - 1 = (r - 1) + sC σ * q := by omega
      rw [if_neg (show ¬ onS (sR σ) (sC σ) (k - 1) 1 = true by show ¬ decide _ = true; rw [decide_eq_false (by rw [e2, qr_mod (by omega)]; omega)]; decide)]
      exact congrArg some (Nat.sub_add_cancel (by omega))
theorem own_mut (k j : Nat) {d : Nat} (hd : d < 4) : own j k (opp d) = own k j d := by
  rcases four hd with rfl | rfl | rfl | rfl <;> rfl
theorem sct_mut (σ : Sg) {d : Nat} (hd : d < 4) : sct σ (opp d) = sct σ d := by
  rcases four hd with rfl | rfl | rfl | rfl <;> rfl
theorem scr_mut {σ : Sg} (h : WF σ) {k d j : Nat} (hk : k < sN σ) (hd : d < 4) (e : nbr σ k d = some j) : scr σ j (opp d) = scr σ k d := by
  unfold scr
  rw [e, nbr_mut h hk hd e]
  show gb (sct σ (opp d)) (own j k (opp d)) = gb (sct σ d) (own k j d)
  rw [own_mut k j hd, sct_mut σ hd]
theorem nxt_mut {σ : Sg} (h : WF σ) {k d j : Nat} (hk : k < sN σ) (hd : d < 4) (e : nxt σ k d = some j) : nxt σ j (opp d) = some k := by
  unfold nxt at e ⊢
  by_cases q : scr σ k d = true
  · rw [if_pos q] at e; cases e
  · rw [if_neg q] at e
    rw [scr_mut h hk hd e, if_neg q]
    exact nbr_mut h hk hd e
theorem hit_iff {σ : Sg} {x : Int64} {k d : Nat} : hit σ x k d = true ↔ ∃ j, nxt σ k d = some j ∧ gb x j = true := by
  unfold hit
  cases e : nxt σ k d with
  | none => exact ⟨fun q => (nomatch q), fun ⟨j, q, _⟩ => (nomatch q)⟩
  | some j => exact ⟨fun q => ⟨j, rfl, q⟩, fun ⟨i, q, q2⟩ => by cases q; exact q2⟩
theorem anyH_iff {σ : Sg} {x : Int64} {k : Nat} : anyH σ x k = true ↔ ∃ d j, d < 4 ∧ nxt σ k d = some j ∧ gb x j = true := by
  unfold anyH
  rw [Bool.or_eq_true, Bool.or_eq_true, Bool.or_eq_true, hit_iff, hit_iff, hit_iff, hit_iff]
  constructor
  · rintro (((⟨j, a, b⟩ | ⟨j, a, b⟩) | ⟨j, a, b⟩) | ⟨j, a, b⟩)
    · exact ⟨0, j, by omega, a, b⟩
    · exact ⟨1, j, by omega, a, b⟩
    · exact ⟨2, j, by omega, a, b⟩
    · exact ⟨3, j, by omega, a, b⟩
  · rintro ⟨d, j, hd, a, b⟩
    rcases four hd with rfl | rfl | rfl | rfl
    · exact .inl (.inl (.inl ⟨j, a, b⟩))
    · exact .inl (.inl (.inr ⟨j, a, b⟩))
    · exact .inl (.inr ⟨j, a, b⟩)
    · exact .inr ⟨j, a, b⟩
/-- a set and whom it reaches within another -/
def grw (σ : Sg) (w x : Int64) : Int64 := x ||| (mkN (anyH σ x) (sN σ) &&& w)
theorem grw_inW {σ : Sg} (h : WF σ) {x : Int64} (hx : inW x (sN σ)) (w : Int64) : inW (grw σ w x) (sN σ) := inW_or hx (inW_and (inW_mk _ h.n64))
-- the reference's growing
def gAdd (σ : Sg) (w : Int64) (k d : Nat) : Int64 := match nxt σ k d with
  | none => 0
  | some j => if gb w j = true then jsl 1 (nI j) else 0
def gInn (σ : Sg) (w : Int64) (k : Nat) (y : Int64) : Nat → Int64
  | 0 => y
  | d + 1 => gInn σ w k y d ||| gAdd σ w k d
def gOut (σ : Sg) (w x : Int64) : Nat → Int64
  | 0 => x
  | i + 1 => if gb x i = true then gInn σ w i (gOut σ w x i) 4 else gOut σ w x i
theorem gAdd_iff {σ : Sg} (h : WF σ) {w : Int64} {k d j : Nat} (hk : k < sN σ) (hd : d < 4) : gb (gAdd σ w k d) j = true ↔ nxt σ k d = some j ∧ gb w j = true := by
  have n64 := h.n64
  unfold gAdd
  cases e : nxt σ k d with
  | none => rw [gb_0]; exact ⟨fun q => (nomatch q), fun ⟨q, _⟩ => (nomatch q)⟩
  | some i =>
    have hi := nxt_lt h hk hd e
    show gb (if gb w i = true then jsl 1 (nI i) else 0) j = true ↔ _
    by_cases q : gb w i = true
    · rw [if_pos q, gb_one (by omega)]
      constructor
      · intro z; have z := of_decide_eq_true z; subst z; exact ⟨rfl, q⟩
      · rintro ⟨z, _⟩; cases z; exact decide_eq_true rfl
    · rw [if_neg q, gb_0]
      constructor
      · intro z; cases z
      · rintro ⟨z, z2⟩; cases z; exact absurd z2 q
theorem gInn_iff {σ : Sg} (h : WF σ) {w y : Int64} {k j : Nat} (hk : k < sN σ) : ∀ {d : Nat}, d ≤ 4 → (gb (gInn σ w k y d) j = true ↔ gb y j = true ∨ ∃ e, e < d ∧ nxt σ k e = some j ∧ gb w j = true)
  | 0, _ => ⟨fun q => .inl q, fun q => q.elim id (fun ⟨e, h, _⟩ => absurd h (Nat.not_lt_zero e))⟩
  | d + 1, hd => by
    rw [gInn, gb_or, Bool.or_eq_true, gInn_iff h hk (by omega), gAdd_iff h hk (by omega)]
    constructor
    · rintro ((a | ⟨e, h1, h2⟩) | h2)
      · exact .inl a
      · exact .inr ⟨e, by omega, h2⟩
      · exact .inr ⟨d, by omega, h2⟩
    · rintro (a | ⟨e, h1, h2⟩)
      · exact .inl (.inl a)
      · by_cases q : e = d
        · subst q; exact .inr h2
        · exact .inl (.inr ⟨e, by omega, h2⟩)
theorem gOut_iff {σ : Sg} (h : WF σ) {w x : Int64} {j : Nat} : ∀ {i : Nat}, i ≤ sN σ → (gb (gOut σ w x i) j = true ↔ gb x j = true ∨ ∃ k e, k < i ∧ gb x k = true ∧ e < 4 ∧ nxt σ k e = some j ∧ gb w j = true)
  | 0, _ => ⟨fun q => .inl q, fun q => q.elim id (fun ⟨k, _, h, _⟩ => absurd h (Nat.not_lt_zero k))⟩
  | i + 1, hi => by
    have ih := gOut_iff h (w := w) (x := x) (j := j) (i := i) (by omega)
    rw [gOut]
    by_cases hx : gb x i = true
    · rw [if_pos hx, gInn_iff h (by omega) (Nat.le_refl 4), ih]
      constructor
      · rintro ((a | ⟨k, e, h1, h2⟩) | ⟨e, h1, h2⟩)
        · exact .inl a
        · exact .inr ⟨k, e, by omega, h2⟩
        · exact .inr ⟨i, e, by omega, hx, h1, h2⟩
      · rintro (a | ⟨k, e, h1, h2, h3, h4⟩)
        · exact .inl (.inl a)
        · by_cases q : k = i
          · subst q; exact .inr ⟨e, h3, h4⟩
          · exact .inl (.inr ⟨k, e, by omega, h2, h3, h4⟩)
    · rw [if_neg hx, ih]
      constructor
      · rintro (a | ⟨k, e, h1, h2⟩)
        · exact .inl a
        · exact .inr ⟨k, e, by omega, h2⟩
      · rintro (a | ⟨k, e, h1, h2, h3⟩)
        · exact .inl a
        · by_cases q : k = i
          · subst q; exact absurd h2 hx
          · exact .inr ⟨k, e, by omega, h2, h3⟩
theorem gOut_grw {σ : Sg} (h : WF σ) {w x : Int64} (hx : inW x (sN σ)) : gOut σ w x (sN σ) = grw σ w x := by
  apply gb_ext; intro j hj
  apply Bool.eq_iff_iff.mpr
  rw [gOut_iff h (Nat.le_refl _)]
  unfold grw
  rw [gb_or, Bool.or_eq_true, gb_and, gb_mkN _ _ h.n64, Bool.and_eq_true, Bool.and_eq_true, anyH_iff, decide_eq_true_eq]
  constructor
  · rintro (a | ⟨k, e, h1, h2, h3, h4, h5⟩)
    · exact .inl a
    · exact .inr ⟨⟨nxt_lt h h1 h3 h4, opp e, k, opp_lt e, nxt_mut h h1 h3 h4, h2⟩, h5⟩
  · rintro (a | ⟨⟨h1, e, k, h3, h4, h5⟩, h6⟩)
    · exact .inl a
    · exact .inr ⟨k, opp e, hx k h5, h5, opp_lt e, nxt_mut h h1 h3 h4, h6⟩
