/-! about -/
def sB (σ : Sg) (i : Nat) : Nat := cnt (fun k => scr σ k 1) i + cnt (fun k => scr σ k 2) i
theorem cnt64 {p : Nat → Bool} {x : Int64} {N : Nat} (hN : N ≤ 64) (h : ∀ i, i < N → gb x i = p i) (h2 : ∀ i, N ≤ i → gb x i = false) : cnt (gb x) 64 = cnt p N := by
  rw [cnt_out h2 hN]
  exact cnt_cong h
theorem scr_1 {σ : Sg} (i : Nat) : scr σ i 1 = (gb (sX σ) i && (decide (sSd σ 1 = 2) || !onS (sR σ) (sC σ) i 1)) := by
  unfold scr nbr
  by_cases o : onS (sR σ) (sC σ) i 1 = true
  · rw [if_pos o, o]
    by_cases j : sSd σ 1 = 2
    · rw [if_pos j, decide_eq_true j]; show gb (sX σ) i = _; rw [Bool.true_or, Bool.and_true]
    · rw [if_neg j, decide_eq_false j]; show false = _; simp
  · have o2 : onS (sR σ) (sC σ) i 1 = false := by cases q : onS (sR σ) (sC σ) i 1; rfl; exact absurd q o
    rw [if_neg o, o2]; show gb (sX σ) i = _; simp
theorem scr_2 {σ : Sg} (i : Nat) : scr σ i 2 = (gb (sY σ) i && (decide (sSd σ 2 = 2) || !onS (sR σ) (sC σ) i 2)) := by
  unfold scr nbr
  by_cases o : onS (sR σ) (sC σ) i 2 = true
  · rw [if_pos o, o]
    by_cases j : sSd σ 2 = 2
    · rw [if_pos j, decide_eq_true j]; show gb (sY σ) i = _; rw [Bool.true_or, Bool.and_true]
    · rw [if_neg j, decide_eq_false j]; show false = _; simp
  · have o2 : onS (sR σ) (sC σ) i 2 = false := by cases q : onS (sR σ) (sC σ) i 2; rfl; exact absurd q o
    rw [if_neg o, o2]; show gb (sY σ) i = _; simp
theorem W_scratches {t : WT} {σ : Sg} (E : EncW t σ) (h : WF σ) : f_X4_scratches t = nI (sB σ (sN σ)) := by
  have n64 := h.n64
  have hX := h.2.2.2.2.2.2.2.2.2.1
  have hY := h.2.2.2.2.2.2.2.2.2.2
  have k1 : f_X4_kind t 1 = 2 ↔ sSd σ 1 = 2 := W_kind2 E h (d := 1) (by omega)
  have k2 : f_X4_kind t 2 = 2 ↔ sSd σ 2 = 2 := W_kind2 E h (d := 2) (by omega)
  have a1 := fun k => W_along E h (d := 1) (by omega) k
  have a2 := fun k => W_along E h (d := 2) (by omega) k
  have ex : f_X4_along t (nI 1) = w_rightColumn t := by unfold f_X4_along; rw [if_neg (by decide), if_pos (show nI 1 = 1 from rfl)]
  have ey : f_X4_along t (nI 2) = w_bottomRow t := by unfold f_X4_along; rw [if_neg (by decide), if_neg (by decide), if_pos (show nI 2 = 2 from rfl)]
  rw [ex] at a1
  rw [ey] at a2
  have b29 : ∀ z : Int64, f_X4_scratches_b29 t z = nI (cnt (gb z) 64 + cnt (fun k => scr σ k 2) (sN σ)) := by
    intro z
    unfold f_X4_scratches_b29
    simp only [lt_]
    by_cases j : sSd σ 2 = 2
    · rw [if_pos (k2.mpr j), bc_eq, bc_eq, nI_add, E.2.2.2.2.2.2.2.1, cnt64 (p := fun k => scr σ k 2) n64 (fun i hi => by rw [scr_2, decide_eq_true j, Bool.true_or, Bool.and_true]) (fun i hi => inW_f hY hi)]
    · rw [if_neg (fun q => j (k2.mp q)), bc_eq, bc_eq, nI_add, E.2.2.2.2.2.2.2.1, cnt64 (x := sY σ &&& (w_bottomRow t ^^^ (-1))) (p := fun k => scr σ k 2) n64 (fun i hi => by rw [gb_and, gb_not (by omega), a2, decide_eq_true hi, scr_2, decide_eq_false j, Bool.true_and, Bool.false_or]) (fun i hi => by rw [gb_and, inW_f hY hi]; rfl)]
  unfold f_X4_scratches sB
  by_cases j : sSd σ 1 = 2
  · rw [if_pos (k1.mpr j), b29, E.2.2.2.2.2.2.1, cnt64 (p := fun k => scr σ k 1) n64 (fun i hi => by rw [scr_1, decide_eq_true j, Bool.true_or, Bool.and_true]) (fun i hi => inW_f hX hi)]
  · rw [if_neg (fun q => j (k1.mp q)), b29, E.2.2.2.2.2.2.1, cnt64 (x := sX σ &&& (w_rightColumn t ^^^ (-1))) (p := fun k => scr σ k 1) n64 (fun i hi => by rw [gb_and, gb_not (by omega), a1, decide_eq_true hi, scr_1, decide_eq_false j, Bool.true_and, Bool.false_or]) (fun i hi => by rw [gb_and, inW_f hX hi]; rfl)]
def abA (σ : Sg) : Nat → Nat
  | 0 => sR σ
  | 1 => sC σ
  | 2 => cnt (gb (sF σ)) 64
  | 3 => sB σ (sN σ)
  | 4 => sRu σ
  | 5 => sNi σ
  | 6 => pN σ 64 (sF σ)
  | _ => pL σ 64 (sF σ) 0
theorem eight {x : Int32} (hx : rng x 0 7 = true) : ∃ d, d < 8 ∧ x = nI d := by
  obtain ⟨d, _, h2, h3⟩ := rng_ex (a := 0) (b := 7) hx (by omega)
  exact ⟨d, by omega, h3⟩
theorem eight' {d : Nat} (h : d < 8) : d = 0 ∨ d = 1 ∨ d = 2 ∨ d = 3 ∨ d = 4 ∨ d = 5 ∨ d = 6 ∨ d = 7 := by omega
theorem W_about {w : WT} {σ : Sg} (E : EncW w σ) (h : WF σ) {n : Nat} (hn : 100 ≤ n) {d : Nat} (hd : d < 8) : f_X5_about n w (nI d) = some (.inr (nI (abA σ d))) := by
  unfold f_X5_about
  rcases eight' hd with rfl | rfl | rfl | rfl | rfl | rfl | rfl | rfl
  · rw [if_pos (show nI 0 = 0 from rfl), E.1]; rfl
  · rw [if_neg (show ¬ nI 1 = 0 by decide), if_pos (show nI 1 = 1 from rfl), E.2.1]; rfl
  · rw [if_neg (show ¬ nI 2 = 0 by decide), if_neg (show ¬ nI 2 = 1 by decide), if_pos (show nI 2 = 2 from rfl), bc_eq, E.2.2.2.2.1]; rfl
  · rw [if_neg (show ¬ nI 3 = 0 by decide), if_neg (show ¬ nI 3 = 1 by decide), if_neg (show ¬ nI 3 = 2 by decide), if_pos (show nI 3 = 3 from rfl), W_scratches E h]; rfl
  · rw [if_neg (show ¬ nI 4 = 0 by decide), if_neg (show ¬ nI 4 = 1 by decide), if_neg (show ¬ nI 4 = 2 by decide), if_neg (show ¬ nI 4 = 3 by decide), if_pos (show nI 4 = 4 from rfl), E.2.2.1]; rfl
  · rw [if_neg (show ¬ nI 5 = 0 by decide), if_neg (show ¬ nI 5 = 1 by decide), if_neg (show ¬ nI 5 = 2 by decide), if_neg (show ¬ nI 5 = 3 by decide), if_neg (show ¬ nI 5 = 4 by decide), if_pos (show nI 5 = 5 from rfl), E.2.2.2.1]; rfl
  · rw [if_neg (show ¬ nI 6 = 0 by decide), if_neg (show ¬ nI 6 = 1 by decide), if_neg (show ¬ nI 6 = 2 by decide), if_neg (show ¬ nI 6 = 3 by decide), if_neg (show ¬ nI 6 = 4 by decide), if_neg (show ¬ nI 6 = 5 by decide), if_pos (show nI 6 = 6 from rfl), W_patches E h hn]; rfl
  · rw [if_neg (show ¬ nI 7 = 0 by decide), if_neg (show ¬ nI 7 = 1 by decide), if_neg (show ¬ nI 7 = 2 by decide), if_neg (show ¬ nI 7 = 3 by decide), if_neg (show ¬ nI 7 = 4 by decide), if_neg (show ¬ nI 7 = 5 by decide), if_neg (show ¬ nI 7 = 6 by decide), if_pos (show nI 7 = 7 from rfl), W_largest E h hn]; rfl
