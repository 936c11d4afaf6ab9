theorem W_right {t : WT} {σ : Sg} (E : EncW t σ) (h : WF σ) {x : Int64} (hx : inW x (sN σ)) {i : Nat} (hi : i < 64) : gb (f_X4_fromRight t x (decide (sSd σ 1 = 2))) i = (decide (i < sN σ) && nb0 σ x i 1) := by
  have n := h.n64
  have hC1 := h.2.2.1
  have hC2 := h.2.2.2.1
  have e1 := wsc E h
  have hb : ∀ k, gb (w_leftColumn t) k = (decide (k < sN σ) && decide (k % sC σ = 0)) := by
    intro k; rw [E.2.2.2.2.2.2.2.2.2.2.2]; exact gb_mkN _ _ n k
  unfold f_X4_fromRight
  rw [e1, show (1 : Int32) = nI 1 from rfl]
  have a1 : gb (jus (x &&& (w_leftColumn t ^^^ (-1))) (nI 1)) i = (gb x (1 + i) && !(decide (1 + i < sN σ) && decide ((1 + i) % sC σ = 0))) := by
    rw [gb_jus (by omega), gb_and]
    by_cases c : 1 + i < 64
    · rw [gb_not c, hb]
    · rw [gb_big (x := x) (by omega)]; rfl
  have a2 : gb (jsl (x &&& w_leftColumn t) (nI (sC σ - 1))) i = (decide (sC σ - 1 ≤ i) && (gb x (i - (sC σ - 1)) && (decide (i - (sC σ - 1) < sN σ) && decide ((i - (sC σ - 1)) % sC σ = 0)))) := by
    rw [gb_jsl (by omega) _ hi, gb_and, hb]
  obtain ⟨q, r, e, hr, em⟩ := qr i (C := sC σ) (by omega)
  have hon : onS (sR σ) (sC σ) i 1 = decide (r = sC σ - 1) := by show decide (i % sC σ = sC σ - 1) = _; rw [em]
  have hsu := qr_suc (q := q) hr
  rw [← e] at hsu
  have hlt : i < sN σ ↔ q < sR σ := by rw [e]; exact qr_lt hr
  unfold nb0 nbr
  rw [hon]
  by_cases c1 : r = sC σ - 1
  · rw [if_pos (decide_eq_true c1)]
    have e3 : (gb x (1 + i) && !(decide (1 + i < sN σ) && decide ((1 + i) % sC σ = 0))) = false := by
      cases g : gb x (1 + i)
      · rfl
      · have g1 := hx _ g
        rw [decide_eq_true g1, decide_eq_true (show (1 + i) % sC σ = 0 by rw [Nat.add_comm]; exact hsu.mpr c1)]; rfl
    have hz : i - (sC σ - 1) = 0 + sC σ * q := by omega
    have hz2 : (i - (sC σ - 1)) % sC σ = 0 := by rw [hz]; exact qr_mod (by omega)
    have hz3 : i - (sC σ - 1) < sN σ ↔ q < sR σ := by rw [hz]; exact qr_lt (by omega)
    by_cases j : sSd σ 1 = 2
    · rw [if_pos (decide_eq_true j), if_pos j, gb_or, a1, a2, e3, decide_eq_true hz2, decide_eq_true (show sC σ - 1 ≤ i by omega)]
      show _ = (decide (i < sN σ) && gb x (i - (sC σ - 1)))
      have hz4 : decide (i - (sC σ - 1) < sN σ) = decide (i < sN σ) := decide_eq_decide.mpr (hz3.trans hlt.symm)
      rw [hz4]
      cases gb x (i - (sC σ - 1)) <;> cases decide (i < sN σ) <;> rfl
    · rw [if_neg (show ¬ decide (sSd σ 1 = 2) = true by rw [decide_eq_false j]; decide), if_neg j, a1, e3]; simp
  · rw [if_neg (show ¬ decide (r = sC σ - 1) = true by rw [decide_eq_false c1]; decide)]
    have e3 : (gb x (1 + i) && !(decide (1 + i < sN σ) && decide ((1 + i) % sC σ = 0))) = gb x (i + 1) := by
      rw [Nat.add_comm 1 i, decide_eq_false (fun z => c1 (hsu.mp z))]; simp
    have e4 : (decide (sC σ - 1 ≤ i) && (gb x (i - (sC σ - 1)) && (decide (i - (sC σ - 1) < sN σ) && decide ((i - (sC σ - 1)) % sC σ = 0)))) = false := by
      by_cases g : sC σ - 1 ≤ i
      · have : ¬ (i - (sC σ - 1)) % sC σ = 0 := by
          intro z
          obtain ⟨q2, r2, e9, hr2, em2⟩ := qr (i - (sC σ - 1)) (C := sC σ) (by omega)
          rw [em2] at z
          subst z
          have hi2 : i = (sC σ - 1) + sC σ * q2 := by omega
          have := qr_mod (C := sC σ) (q := q2) (r := sC σ - 1) (by omega)
          rw [← hi2, em] at this
          exact c1 this
        rw [decide_eq_false this]; simp
      · rw [decide_eq_false g]; rfl
    have e5 : (decide (i < sN σ) && gb x (i + 1)) = gb x (i + 1) := by
      cases g : gb x (i + 1)
      · simp
      · have := hx _ g
        rw [decide_eq_true (show i < sN σ by omega)]; rfl
    show _ = (decide (i < sN σ) && gb x (i + 1))
    rw [e5]
    split
    · rw [gb_or, a1, a2, e3, e4, Bool.or_false]
    · rw [a1, e3]
theorem W_left {t : WT} {σ : Sg} (E : EncW t σ) (h : WF σ) {x : Int64} (hx : inW x (sN σ)) {i : Nat} (hi : i < 64) : gb (f_X4_fromLeft t x (decide (sSd σ 3 = 2))) i = (decide (i < sN σ) && nb0 σ x i 3) := by
  have n := h.n64
  have hC1 := h.2.2.1
  have hC2 := h.2.2.2.1
  have e1 := wsc E h
  have hb : ∀ k, gb (w_rightColumn t) k = (decide (k < sN σ) && decide (k % sC σ = sC σ - 1)) := by
    intro k; rw [E.2.2.2.2.2.2.2.2.2.1]; exact gb_mkN _ _ n k
  unfold f_X4_fromLeft
  rw [e1, show (1 : Int32) = nI 1 from rfl]
  have a1 : gb (jsl (x &&& (w_rightColumn t ^^^ (-1))) (nI 1)) i = (decide (1 ≤ i) && (gb x (i - 1) && !(decide (i - 1 < sN σ) && decide ((i - 1) % sC σ = sC σ - 1)))) := by
    rw [gb_jsl (by omega) _ hi, gb_and, gb_not (by omega), hb]
  have a2 : gb (jus (x &&& w_rightColumn t) (nI (sC σ - 1))) i = (gb x (sC σ - 1 + i) && (decide (sC σ - 1 + i < sN σ) && decide ((sC σ - 1 + i) % sC σ = sC σ - 1))) := by
    rw [gb_jus (by omega), gb_and, hb]
  obtain ⟨q, r, e, hr, em⟩ := qr i (C := sC σ) (by omega)
  have hon : onS (sR σ) (sC σ) i 3 = decide (r = 0) := by show decide (i % sC σ = 0) = _; rw [em]
  have hlt : i < sN σ ↔ q < sR σ := by rw [e]; exact qr_lt hr
  unfold nb0 nbr
  rw [hon]
  by_cases c1 : r = 0
  · rw [if_pos (decide_eq_true c1)]
    have e3 : (decide (1 ≤ i) && (gb x (i - 1) && !(decide (i - 1 < sN σ) && decide ((i - 1) % sC σ = sC σ - 1)))) = false := by
      by_cases g : 1 ≤ i
      · cases g2 : gb x (i - 1)
        · simp
        · have g1 := hx _ g2
          have : (i - 1) % sC σ = sC σ - 1 := by
            obtain ⟨p, rfl⟩ : ∃ p, q = p + 1 := ⟨q - 1, by
              rcases Nat.eq_zero_or_pos q with z | z
              · subst z; simp at e; omega
              · omega⟩
            have : i - 1 = (sC σ - 1) + sC σ * p := by rw [Nat.mul_succ] at e; omega
            rw [this]; exact qr_mod (by omega)
          rw [decide_eq_true g1, decide_eq_true this]; simp
      · rw [decide_eq_false g]; rfl
    have hz : sC σ - 1 + i = (sC σ - 1) + sC σ * q := by omega
    have hz2 : (sC σ - 1 + i) % sC σ = sC σ - 1 := by rw [hz]; exact qr_mod (by omega)
    have hz3 : sC σ - 1 + i < sN σ ↔ q < sR σ := by rw [hz]; exact qr_lt (by omega)
    by_cases j : sSd σ 3 = 2
    · rw [if_pos (decide_eq_true j), if_pos j, gb_or, a1, a2, e3, decide_eq_true hz2]
      show _ = (decide (i < sN σ) && gb x (i + (sC σ - 1)))
      have hz4 : decide (sC σ - 1 + i < sN σ) = decide (i < sN σ) := decide_eq_decide.mpr (hz3.trans hlt.symm)
      rw [hz4, Nat.add_comm (sC σ - 1) i]
      cases gb x (i + (sC σ - 1)) <;> cases decide (i < sN σ) <;> rfl
    · rw [if_neg (show ¬ decide (sSd σ 3 = 2) = true by rw [decide_eq_false j]; decide), if_neg j, a1, e3]; simp
  · rw [if_neg (show ¬ decide (r = 0) = true by rw [decide_eq_false c1]; decide)]
    have hm1 : (i - 1) % sC σ = r - 1 := by
      have : i - 1 = (r - 1) + sC σ * q := by omega
      rw [this]; exact qr_mod (by omega)
    have e3 : (decide (1 ≤ i) && (gb x (i - 1) && !(decide (i - 1 < sN σ) && decide ((i - 1) % sC σ = sC σ - 1)))) = gb x (i - 1) := by
      rw [hm1, decide_eq_false (show ¬ r - 1 = sC σ - 1 by omega), decide_eq_true (show 1 ≤ i by omega)]; simp
    have e4 : (gb x (sC σ - 1 + i) && (decide (sC σ - 1 + i < sN σ) && decide ((sC σ - 1 + i) % sC σ = sC σ - 1))) = false := by
      have : (sC σ - 1 + i) % sC σ = r - 1 := by
        have : sC σ - 1 + i = (r - 1) + sC σ * (q + 1) := by rw [Nat.mul_succ]; omega
        rw [this]; exact qr_mod (by omega)
      rw [this, decide_eq_false (show ¬ r - 1 = sC σ - 1 by omega)]; simp
    have e5 : (decide (i < sN σ) && gb x (i - 1)) = gb x (i - 1) := by
      cases g : gb x (i - 1)
      · simp
      · have g1 := hx _ g
        have : i - 1 < sN σ ↔ q < sR σ := by
          have : i - 1 = (r - 1) + sC σ * q := by omega
          rw [this]; exact qr_lt (by omega)
        rw [decide_eq_true (hlt.mpr (this.mp g1))]; rfl
    show _ = (decide (i < sN σ) && gb x (i - 1))
    rw [e5]
    split
    · rw [gb_or, a1, a2, e3, e4, Bool.or_false]
    · rw [a1, e3]
theorem inW_and {x y : Int64} {n : Nat} (h : inW x n) : inW (x &&& y) n := fun i g => by rw [gb_and, Bool.and_eq_true] at g; exact h i g.1
theorem nb0_and (σ : Sg) (x y : Int64) (i d : Nat) : nb0 σ (x &&& y) i d = (nb0 σ x i d && nb0 σ y i d) := by
  unfold nb0; cases nbr σ i d with
  | none => rfl
  | some j => exact gb_and x y j
theorem hit_0 {σ : Sg} {x : Int64} {i : Nat} (hl : ∀ j, nbr σ i 0 = some j → j < 64) : hit σ x i 0 = nb0 σ (x &&& (sY σ ^^^ (-1))) i 0 := by
  rw [hit_eq]; unfold nb0
  cases e : nbr σ i 0 with
  | none => rfl
  | some j => show (gb x j && !gb (sY σ) j) = gb (x &&& (sY σ ^^^ (-1))) j; rw [gb_and, gb_not (hl j e)]
theorem hit_1 {σ : Sg} {x : Int64} {i : Nat} (hi : i < 64) : hit σ x i 1 = (nb0 σ x i 1 && gb (sX σ ^^^ (-1)) i) := by
  rw [hit_eq]; unfold nb0
  cases e : nbr σ i 1 with
  | none => rfl
  | some j => show (gb x j && !gb (sX σ) i) = (gb x j && gb (sX σ ^^^ (-1)) i); rw [gb_not hi]
theorem hit_2 {σ : Sg} {x : Int64} {i : Nat} (hi : i < 64) : hit σ x i 2 = (nb0 σ x i 2 && gb (sY σ ^^^ (-1)) i) := by
  rw [hit_eq]; unfold nb0
  cases e : nbr σ i 2 with
  | none => rfl
  | some j => show (gb x j && !gb (sY σ) i) = (gb x j && gb (sY σ ^^^ (-1)) i); rw [gb_not hi]
theorem hit_3 {σ : Sg} {x : Int64} {i : Nat} (hl : ∀ j, nbr σ i 3 = some j → j < 64) : hit σ x i 3 = nb0 σ (x &&& (sX σ ^^^ (-1))) i 3 := by
  rw [hit_eq]; unfold nb0
  cases e : nbr σ i 3 with
  | none => rfl
  | some j => show (gb x j && !gb (sX σ) j) = gb (x &&& (sX σ ^^^ (-1))) j; rw [gb_and, gb_not (hl j e)]
theorem W_reach {t : WT} {σ : Sg} (E : EncW t σ) (h : WF σ) {x : Int64} (hx : inW x (sN σ)) {d : Nat} (hd : d < 4) {i : Nat} (hi : i < 64) : gb (f_X4_reaching t x (nI d)) i = (decide (i < sN σ) && hit σ x i d) := by
  have n := h.n64
  by_cases hN : i < sN σ
  · have hl : ∀ j, nbr σ i d = some j → j < 64 := fun j e => by have := nbr_lt h hN hd e; omega
    have k2 := W_kind2 E h hd
    have ex := E.2.2.2.2.2.2.1
    have ey := E.2.2.2.2.2.2.2.1
    unfold f_X4_reaching
    rw [dsp hd, dsp hd, ex, ey]
    rcases four hd with rfl | rfl | rfl | rfl
    · rw [hit_0 hl]
      have := W_above E h (inW_and (y := sY σ ^^^ (-1)) hx) hi
      by_cases j : sSd σ 0 = 2
      · rw [decide_eq_true j] at this; rw [if_pos (k2.mpr j)]; exact this
      · rw [decide_eq_false j] at this; rw [if_neg (fun z => j (k2.mp z))]; exact this
    · rw [hit_1 hi]
      have := W_right E h hx hi
      by_cases j : sSd σ 1 = 2
      · rw [decide_eq_true j] at this; rw [if_pos (k2.mpr j)]; show gb (_ &&& _) i = _; rw [gb_and, this, Bool.and_assoc]
      · rw [decide_eq_false j] at this; rw [if_neg (fun z => j (k2.mp z))]; show gb (_ &&& _) i = _; rw [gb_and, this, Bool.and_assoc]
    · rw [hit_2 hi]
      have := W_below E h hx hi
      by_cases j : sSd σ 2 = 2
      · rw [decide_eq_true j] at this; rw [if_pos (k2.mpr j)]; show gb (_ &&& _) i = _; rw [gb_and, this, Bool.and_assoc]
      · rw [decide_eq_false j] at this; rw [if_neg (fun z => j (k2.mp z))]; show gb (_ &&& _) i = _; rw [gb_and, this, Bool.and_assoc]
    · rw [hit_3 hl]
      have := W_left E h (inW_and (y := sX σ ^^^ (-1)) hx) hi
      by_cases j : sSd σ 3 = 2
      · rw [decide_eq_true j] at this; rw [if_pos (k2.mpr j)]; exact this
      · rw [decide_eq_false j] at this; rw [if_neg (fun z => j (k2.mp z))]; exact this
  · rw [decide_eq_false hN, Bool.false_and]
    have k2 := W_kind2 E h hd
    have ex := E.2.2.2.2.2.2.1
    have ey := E.2.2.2.2.2.2.2.1
    unfold f_X4_reaching
    rw [dsp hd, dsp hd, ex, ey]
    rcases four hd with rfl | rfl | rfl | rfl
    · have := W_above E h (inW_and (y := sY σ ^^^ (-1)) hx) hi
      rw [decide_eq_false hN, Bool.false_and] at this
      by_cases j : sSd σ 0 = 2
      · rw [decide_eq_true j] at this; rw [if_pos (k2.mpr j)]; exact this
      · rw [decide_eq_false j] at this; rw [if_neg (fun z => j (k2.mp z))]; exact this
    · have := W_right E h hx hi
      rw [decide_eq_false hN, Bool.false_and] at this
      by_cases j : sSd σ 1 = 2
      · rw [decide_eq_true j] at this; rw [if_pos (k2.mpr j)]; show gb (_ &&& _) i = _; rw [gb_and, this]; rfl
      · rw [decide_eq_false j] at this; rw [if_neg (fun z => j (k2.mp z))]; show gb (_ &&& _) i = _; rw [gb_and, this]; rfl
    · have := W_below E h hx hi
      rw [decide_eq_false hN, Bool.false_and] at this
      by_cases j : sSd σ 2 = 2
      · rw [decide_eq_true j] at this; rw [if_pos (k2.mpr j)]; show gb (_ &&& _) i = _; rw [gb_and, this]; rfl
      · rw [decide_eq_false j] at this; rw [if_neg (fun z => j (k2.mp z))]; show gb (_ &&& _) i = _; rw [gb_and, this]; rfl
    · have := W_left E h (inW_and (y := sX σ ^^^ (-1)) hx) hi
      rw [decide_eq_false hN, Bool.false_and] at this
      by_cases j : sSd σ 3 = 2
      · rw [decide_eq_true j] at this; rw [if_pos (k2.mpr j)]; exact this
      · rw [decide_eq_false j] at this; rw [if_neg (fun z => j (k2.mp z))]; exact this

