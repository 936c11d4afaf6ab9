/-! about -/
def sB (σ : Sg) (i : Nat) : Nat := cnt (fun k => scr σ k 1) i + cnt (fun k => scr σ k 2) i
theorem cnt64 {p : Nat → Bool} {x : Int64} {N : Nat} (hN : N ≤ 64) (h : ∀ i, i < N → gb x i = p i) (h2 : ∀ i, N ≤ i → gb x i = false) : cnt (gb x) 64 = cnt p N := by
  rw [cnt_out h2 hN]
  exact cnt_cong h
theorem scr_1 {σ : Sg} (i : Nat) : scr σ i 1 = (gb (sX σ) i && (decide (sSd σ 1 = 2) || !onS (sR σ) (sC σ) i 1)) := by
  unfold scr nbr
  by_cases o : onS (sR σ) (sC σ) i 1 = true
  · rw [if_pos o, o]
    by_cases j : sSd σ 1 = 2
    · rw [if_pos j, decide_eq_true j]; show gb (sX σ) i = _; rw [Bool.true_or, Bool.and_true]
    · rw [if_neg j, decide_eq_false j]; show false = _; simp
  · have o2 : onS (sR σ) (sC σ) i 1 = false := by cases q : onS (sR σ) (sC σ) i 1; rfl; exact absurd q o
    rw [if_neg o, o2]; show gb (sX σ) i = _; simp
theorem scr_2 {σ : Sg} (i : Nat) : scr σ i 2 = (gb (sY σ) i && (decide (sSd σ 2 = 2) || !onS (sR σ) (sC σ) i 2)) := by
  unfold scr nbr
  by_cases o : onS (sR σ) (sC σ) i 2 = true
  · rw [if_pos o, o]
    by_cases j : sSd σ 2 = 2
    · rw [if_pos j, decide_eq_true j]; show gb (sY σ) i = _; rw [Bool.true_or, Bool.and_true]
    · rw [if_neg j, decide_eq_false j]; show false = _; simp
  · have o2 : onS (sR σ) (sC σ) i 2 = false := by cases q : onS (sR σ) (sC σ) i 2; rfl; exact absurd q o
    rw [if_neg o, o2]; show gb (sY σ) i = _; simp
theorem W_scratches {t : WT} {σ : Sg} (E : EncW t σ) (h : WF σ) : f_X4_scratches t = nI (sB σ (sN σ)) := by
  have n64 := h.n64
  have hX := h.2.2.2.2.2.2.2.2.2.1
  have hY := h.2.2.2.2.2.2.2.2.2.2
  have k1 : f_X4_kind t 1 = 2 ↔ sSd σ 1 = 2 := W_kind2 E h (d := 1) (by omega)
  have k2 : f_X4_kind t 2 = 2 ↔ sSd σ 2 = 2 := W_kind2 E h (d := 2) (by omega)
  have a1 := fun k => W_along E h (d := 1) (by omega) k
  have a2 := fun k => W_along E h (d := 2) (by omega) k
  have ex : f_X4_along t (nI 1) = w_rightColumn t := by unfold f_X4_along; rw [if_neg (by decide), if_pos (show nI 1 = 1 from rfl)]
  have ey : f_X4_along t (nI 2) = w_bottomRow t := by unfold f_X4_along; rw [if_neg (by decide), if_neg (by decide), if_pos (show nI 2 = 2 from rfl)]
  rw [ex] at a1
  rw [ey] at a2
  have b29 : ∀ z : Int64, f_X4_scratches_b29 t z = nI (cnt (gb z) 64 + cnt (fun k => scr σ k 2) (sN σ)) := by
    intro z
    unfold f_X4_scratches_b29
    simp only [lt_]
    by_cases j : sSd σ 2 = 2
    · rw [if_pos (k2.mpr j), bc_eq, bc_eq, nI_add, E.2.2.2.2.2.2.2.1, cnt64 (p := fun k => scr σ k 2) n64 (fun i hi => by rw [scr_2, decide_eq_true j, Bool.true_or, Bool.and_true]) (fun i hi => inW_f hY hi)]
    · rw [if_neg (fun q => j (k2.mp q)), bc_eq, bc_eq, nI_add, E.2.2.2.2.2.2.2.1, cnt64 (x := sY σ &&& (w_bottomRow t ^^^ (-1))) (p := fun k => scr σ k 2) n64 (fun i hi => by rw [gb_and, gb_not (by omega), a2, decide_eq_true hi, scr_2, decide_eq_false j, Bool.true_and, Bool.false_or]) (fun i hi => by rw [gb_and, inW_f hY hi]; rfl)]
  unfold f_X4_scratches sB
  by_cases j : sSd σ 1 = 2
  · rw [if_pos (k1.mpr j), b29, E.2.2.2.2.2.2.1, cnt64 (p := fun k => scr σ k 1) n64 (fun i hi => by rw [scr_1, decide_eq_true j, Bool.true_or, Bool.and_true]) (fun i hi => inW_f hX hi)]
  · rw [if_neg (fun q => j (k1.mp q)), b29, E.2.2.2.2.2.2.1, cnt64 (x := sX σ &&& (w_rightColumn t ^^^ (-1))) (p := fun k => scr σ k 1) n64 (fun i hi => by rw [gb_and, gb_not (by omega), a1, decide_eq_true hi, scr_1, decide_eq_false j, Bool.true_and, Bool.false_or]) (fun i hi => by rw [gb_and, inW_f hX hi]; rfl)]
def abA (σ : Sg) : Nat → Nat
  | 0 => sR σ
  | 1 => sC σ
  | 2 => cnt (gb (sF σ)) 64
  | 3 => sB σ (sN σ)
  | 4 => sRu σ
  | 5 => sNi σ
  | 6 => pN σ 64 (sF σ)
  | _ => pL σ 64 (sF σ) 0
theorem eight {x : Int32} (hx : rng x 0 7 = true) : ∃ d, d < 8 ∧ x = nI d := by
  obtain ⟨d, _, h2, h3⟩ := rng_ex (a := 0) (b := 7) hx (by omega)
  exact ⟨d, by omega, h3⟩
theorem eight' {d : Nat} (h : d < 8) : d = 0 ∨ d = 1 ∨ d = 2 ∨ d = 3 ∨ d = 4 ∨ d = 5 ∨ d = 6 ∨ d = 7 := by omega
theorem M_about {g : Nat → Int64} {σ : Sg} (M : EncM g σ) (h : WF σ) (m : MT) {n : Nat} (hn : 100 ≤ n) {d : Nat} (hd : d < 8) : f_X6_about_b39 n g (nI d) (nI (sN σ)) n m 0 0 = some (nI (abA σ d), m) := by
  have n64 := h.n64
  exact lp_run (fun f i => f_X6_about_b39 n g (nI d) (nI (sN σ)) f m (nI (sB σ i)) (nI i)) (sN σ) _
    (fun f i hi => by
      show f_X6_about_b39 n g (nI d) (nI (sN σ)) (f + 1) m (nI (sB σ i)) (nI i) = f_X6_about_b39 n g (nI d) (nI (sN σ)) f m (nI ((cnt (fun k => scr σ k 1) i + (if scr σ i 1 = true then 1 else 0)) + (cnt (fun k => scr σ k 2) i + (if scr σ i 2 = true then 1 else 0)))) (nI (i + 1))
      rw [f_X6_about_b39_s, if_neg (nI_ge hi (by omega)), show f_X6_isScratched g (nI i) 1 = _ from M_scr M h hi (d := 1) (by omega), show f_X6_isScratched g (nI i) 2 = _ from M_scr M h hi (d := 2) (by omega), ob_some, nI_succ]
      unfold sB
      generalize cnt (fun k => scr σ k 1) i = A
      generalize cnt (fun k => scr σ k 2) i = B
      have e : ∀ u v : Nat, nI (A + B) + (nI u + nI v) = nI (A + u + (B + v)) := fun u v => by rw [nI_add, nI_add]; congr 1; omega
      by_cases q1 : scr σ i 1 = true
      · rw [if_pos q1, if_pos q1, ob_some]
        by_cases q2 : scr σ i 2 = true
        · rw [if_pos q2, if_pos q2, ← e]; rfl
        · rw [if_neg q2, if_neg q2, ← e]; rfl
      · rw [if_neg q1, if_neg q1, ob_some]
        by_cases q2 : scr σ i 2 = true
        · rw [if_pos q2, if_pos q2, ← e]; rfl
        · rw [if_neg q2, if_neg q2, ← e]; rfl)
    (fun f => by
      show f_X6_about_b39 n g (nI d) (nI (sN σ)) (f + 1) m (nI (sB σ (sN σ))) (nI (sN σ)) = _
      rw [f_X6_about_b39_s, if_pos (nI_le (Nat.le_refl _) (by omega))]
      rcases eight' hd with rfl | rfl | rfl | rfl | rfl | rfl | rfl | rfl
      · rw [if_pos (show nI 0 = 0 from rfl), if_neg (nI_in (show 0 < 11 by omega) (by omega)), nI_clamp (by omega), M_R M, lN_i]; rfl
      · rw [if_neg (show ¬ nI 1 = 0 by decide), if_pos (show nI 1 = 1 from rfl), if_neg (nI_in (show 1 < 11 by omega) (by omega)), nI_clamp (by omega), M_C M, lN_i]; rfl
      · rw [if_neg (show ¬ nI 2 = 0 by decide), if_neg (show ¬ nI 2 = 1 by decide), if_pos (show nI 2 = 2 from rfl), M_bits hn, M.2.1]; rfl
      · rw [if_neg (show ¬ nI 3 = 0 by decide), if_neg (show ¬ nI 3 = 1 by decide), if_neg (show ¬ nI 3 = 2 by decide), if_pos (show nI 3 = 3 from rfl)]; rfl
      · rw [if_neg (show ¬ nI 4 = 0 by decide), if_neg (show ¬ nI 4 = 1 by decide), if_neg (show ¬ nI 4 = 2 by decide), if_neg (show ¬ nI 4 = 3 by decide), if_pos (show nI 4 = 4 from rfl), show nI 4 - 2 = nI 2 from pk_sub (a := 4) (b := 2) (by omega), if_neg (nI_in (show 2 < 11 by omega) (by omega)), nI_clamp (by omega), M_Ru M, lN_i]; rfl
      · rw [if_neg (show ¬ nI 5 = 0 by decide), if_neg (show ¬ nI 5 = 1 by decide), if_neg (show ¬ nI 5 = 2 by decide), if_neg (show ¬ nI 5 = 3 by decide), if_neg (show ¬ nI 5 = 4 by decide), if_pos (show nI 5 = 5 from rfl), show nI 5 - 2 = nI 3 from pk_sub (a := 5) (b := 2) (by omega), if_neg (nI_in (show 3 < 11 by omega) (by omega)), nI_clamp (by omega), M_Ni M, lN_i]; rfl
      · rw [if_neg (show ¬ nI 6 = 0 by decide), if_neg (show ¬ nI 6 = 1 by decide), if_neg (show ¬ nI 6 = 2 by decide), if_neg (show ¬ nI 6 = 3 by decide), if_neg (show ¬ nI 6 = 4 by decide), if_neg (show ¬ nI 6 = 5 by decide), if_pos (show nI 6 = 6 from rfl), M_patches M h hn]; rfl
      · rw [if_neg (show ¬ nI 7 = 0 by decide), if_neg (show ¬ nI 7 = 1 by decide), if_neg (show ¬ nI 7 = 2 by decide), if_neg (show ¬ nI 7 = 3 by decide), if_neg (show ¬ nI 7 = 4 by decide), if_neg (show ¬ nI 7 = 5 by decide), if_neg (show ¬ nI 7 = 6 by decide), M_largest M h hn]; rfl) n 0 (by omega) (by omega)
theorem W_about {w : WT} {σ : Sg} (E : EncW w σ) (h : WF σ) {n : Nat} (hn : 100 ≤ n) {d : Nat} (hd : d < 8) : f_X5_about n w (nI d) = some (.inr (nI (abA σ d))) := by
  unfold f_X5_about
  rcases eight' hd with rfl | rfl | rfl | rfl | rfl | rfl | rfl | rfl
  · rw [if_pos (show nI 0 = 0 from rfl), E.1]; rfl
  · rw [if_neg (show ¬ nI 1 = 0 by decide), if_pos (show nI 1 = 1 from rfl), E.2.1]; rfl
  · rw [if_neg (show ¬ nI 2 = 0 by decide), if_neg (show ¬ nI 2 = 1 by decide), if_pos (show nI 2 = 2 from rfl), bc_eq, E.2.2.2.2.1]; rfl
  · rw [if_neg (show ¬ nI 3 = 0 by decide), if_neg (show ¬ nI 3 = 1 by decide), if_neg (show ¬ nI 3 = 2 by decide), if_pos (show nI 3 = 3 from rfl), W_scratches E h]; rfl
  · rw [if_neg (show ¬ nI 4 = 0 by decide), if_neg (show ¬ nI 4 = 1 by decide), if_neg (show ¬ nI 4 = 2 by decide), if_neg (show ¬ nI 4 = 3 by decide), if_pos (show nI 4 = 4 from rfl), E.2.2.1]; rfl
  · rw [if_neg (show ¬ nI 5 = 0 by decide), if_neg (show ¬ nI 5 = 1 by decide), if_neg (show ¬ nI 5 = 2 by decide), if_neg (show ¬ nI 5 = 3 by decide), if_neg (show ¬ nI 5 = 4 by decide), if_pos (show nI 5 = 5 from rfl), E.2.2.2.1]; rfl
  · rw [if_neg (show ¬ nI 6 = 0 by decide), if_neg (show ¬ nI 6 = 1 by decide), if_neg (show ¬ nI 6 = 2 by decide), if_neg (show ¬ nI 6 = 3 by decide), if_neg (show ¬ nI 6 = 4 by decide), if_neg (show ¬ nI 6 = 5 by decide), if_pos (show nI 6 = 6 from rfl), W_patches E h hn]; rfl
  · rw [if_neg (show ¬ nI 7 = 0 by decide), if_neg (show ¬ nI 7 = 1 by decide), if_neg (show ¬ nI 7 = 2 by decide), if_neg (show ¬ nI 7 = 3 by decide), if_neg (show ¬ nI 7 = 4 by decide), if_neg (show ¬ nI 7 = 5 by decide), if_neg (show ¬ nI 7 = 6 by decide), if_pos (show nI 7 = 7 from rfl), W_largest E h hn]; rfl
theorem cs_about {w : WT} {g : Nat → Int64} {σ : Sg} (E : EncW w σ) (M : EncM g σ) (h : WF σ) {n : Nat} (hn : 100 ≤ n) (m : MT) (o : Nat → Int64) (x : Int32) :
    Same (f_L_about n w o x) (f_X6_about n m g x) (fun r1 r2 => f_X6_thrown r2.2 = r1.1 ∧ (r1.1 = 0 → r1.2 0 = r2.1.toInt64) ∧ r2.2 = mk m r1.1) := by
  by_cases q : rng x 0 7 = true
  · obtain ⟨d, hd, rfl⟩ := eight q
    refine same_i (0, vp_updL o 0 (nI (abA σ d)).toInt64) (nI (abA σ d), mk m 0) ?_ ?_ ⟨rfl, fun _ => rfl, rfl⟩
    · unfold f_L_about
      rw [W_about E h hn hd]; rfl
    · unfold f_X6_about
      rw [M_in, if_pos (show rng (nI d) (0 : Int64).toInt (7 : Int64).toInt = true from q), ref0, M_many M]
      exact M_about M h (mk m 0) hn hd
  · have ne : ∀ d, d < 8 → ¬ x = nI d := fun d hd z => q (by rw [z]; exact (rng_nI 0 7 (by omega)).trans (decide_eq_true (by omega)))
    refine same_i (1, o) (0, mk m 1) ?_ ?_ ⟨rfl, no1, rfl⟩
    · unfold f_L_about f_X5_about
      rw [if_neg (show ¬ x = 0 from ne 0 (by omega)), if_neg (show ¬ x = 1 from ne 1 (by omega)), if_neg (show ¬ x = 2 from ne 2 (by omega)), if_neg (show ¬ x = 3 from ne 3 (by omega)), if_neg (show ¬ x = 4 from ne 4 (by omega)), if_neg (show ¬ x = 5 from ne 5 (by omega)), if_neg (show ¬ x = 6 from ne 6 (by omega)), if_neg (show ¬ x = 7 from ne 7 (by omega))]; rfl
    · unfold f_X6_about
      rw [M_in, if_neg (show ¬ rng x (0 : Int64).toInt (7 : Int64).toInt = true from q), ref1]; rfl
