theorem W_takeOut {N k i : Nat} (hN : N ≤ 64) (hk : k < 64) (hi : i < N) {n : Nat} (hn : 100 ≤ n) {o u : Int64} (hw : inW o N) (T : Nat → Int64) : ∃ o2 T2, f_X0_takeOutOfOthers n (nI N, o, u) T (nI k) (nI i) = some ((nI N, o2, u), T2) ∧ inW o2 N ∧ (∀ l, l < N → T2 l = elR T k i l) ∧ (∀ l, l < N → gb o2 l = elB T k i (gb o) l) := by
  obtain ⟨o2, T2, e, h1, h2, h3⟩ := W_tol hN hk hi n o u T N n 0 o T (by omega) (by omega) hw (fun l _ => by rw [if_neg (Nat.not_lt_zero l)]) (fun l _ => by rw [if_neg (Nat.not_lt_zero l)])
  refine ⟨o2, T2, ?_, h1, h2, h3⟩
  have et : f_X0_term (nI N, o, u) T (nI i) = some (T i) := by
    unfold f_X0_term
    rw [if_neg (nI_pos (by omega)), if_neg (show ¬ (64 : Int32) ≤ nI i from nI_ge (b := 64) (by omega) (by omega)), if_neg (nI_in (show i < 64 by omega) (by omega)), nI_clamp (by omega)]
  unfold f_X0_takeOutOfOthers
  rw [et, ob_some, show f_X5_holds (e_odd (nI N, o, u)) (nI i) = gb o i from holds_gb (by omega)]
  exact e
theorem W_sol {N : Nat} (hN : N ≤ 64) {R0 : Nat → Int64} {b0 : Nat → Bool} (w : WT) {n : Nat} (hn : 100 ≤ n) : ∀ (m f k : Nat) (o u : Int64) (T : Nat → Int64) (P : Nat → Bool), k + m = N → m < f → inW o N → inW u N → Inv N R0 b0 k T (gb o) (gb u) P → ∃ o2 u2 T2 P2, f_X0_solve_b12 n w f (nI N, o, u) T (nI k) = some ((nI N, o2, u2), T2) ∧ inW o2 N ∧ inW u2 N ∧ Inv N R0 b0 N T2 (gb o2) (gb u2) P2
  | _, 0, _, _, _, _, _, _, hf, _, _, _ => absurd hf (Nat.not_lt_zero _)
  | 0, f + 1, k, o, u, T, P, hk, _, h1, h2, I => by
    obtain rfl : k = N := by omega
    refine ⟨o, u, T, P, ?_, h1, h2, I⟩
    rw [f_X0_solve_b12_s, if_pos (show nI k ≤ nI k from nI_le (Nat.le_refl _) (by omega))]
  | m + 1, f + 1, k, o, u, T, P, hk, hf, h1, h2, I => by
    rw [f_X0_solve_b12_s, if_neg (show ¬ nI N ≤ nI k from nI_ge (by omega) (by omega))]
    rcases W_unu hN (show k < 64 by omega) n o u T N n 0 (by omega) (by omega) (fun j hj => absurd hj (Nat.not_lt_zero j)) with ⟨j, q1, q2, q3, e⟩ | ⟨q, e⟩
    · obtain ⟨o2, T2, e2, g1, g2, g3⟩ := W_takeOut hN (show k < 64 by omega) q1 hn (u := u ||| jsl 1 (nI j)) h1 T
      have hu : ∀ l, gb (u ||| jsl 1 (nI j)) l = (gb u l || decide (l = j)) := fun l => by rw [gb_or, gb_one (by omega)]
      have I2 := Inv_el I q1 q2 q3 (U' := gb (u ||| jsl 1 (nI j))) (by rw [hu, decide_eq_true rfl, Bool.or_true]) (fun l _ hne => by rw [hu, decide_eq_false hne, Bool.or_false])
      have I3 := Inv_cong g2 g3 (fun _ _ => rfl) I2
      obtain ⟨o3, u3, T3, P3, e3, r⟩ := W_sol hN w hn m f (k + 1) o2 _ T2 _ (by omega) (by omega) g1 (inW_or h2 (inW_one q1 hN)) I3
      refine ⟨o3, u3, T3, P3, ?_, r⟩
      rw [show f_X0_unusedWith n (nI N, o, u) T (nI k) = some (nI j) from e, ob_some, if_neg (nI_m1 (by omega))]
      show (f_X0_takeOutOfOthers n (nI N, o, u ||| jsl 1 (nI j)) T (nI k) (nI j)).bind _ = _
      rw [e2, ob_some, nI_1]; exact e3
    · obtain ⟨o3, u3, T3, P3, e3, r⟩ := W_sol hN w hn m f (k + 1) o u T _ (by omega) (by omega) h1 h2 (Inv_no I q)
      refine ⟨o3, u3, T3, P3, ?_, r⟩
      rw [show f_X0_unusedWith n (nI N, o, u) T (nI k) = some (-1) from e, ob_some, if_pos rfl, nI_1]; exact e3
theorem W_solve {w : WT} {σ : Sg} (E : EncW w σ) (h : WF σ) (r : sRu σ ≠ 0) {n : Nat} (hn : 100 ≤ n) (s : ET) (T : Nat → Int64) : ∃ o u T2 P, f_X0_solve n s T w = some ((nI (sN σ), o, u), T2) ∧ inW o (sN σ) ∧ inW u (sN σ) ∧ Inv (sN σ) (eR σ) (eO σ) (sN σ) T2 (gb o) (gb u) P := by
  have h64 := h.n64
  obtain ⟨T', e, hT⟩ := W_write E h r hn s T
  have I0 : Inv (sN σ) (eR σ) (eO σ) 0 T' (gb (sF σ ^^^ night σ 0)) (gb 0) nob := Inv_cong (U := gb 0) hT (fun i hi => odd_eq h r hi) (fun _ _ => rfl) (Inv_0 _ _ _ (fun i _ => gb_0 i))
  obtain ⟨o, u, T2, P, e2, q⟩ := W_sol h64 w hn (sN σ) n 0 (sF σ ^^^ night σ 0) 0 T' nob (by omega) (by omega) (inW_xor h.2.2.2.2.2.2.2.2.1 (night_inW h 0)) (inW_0 _) I0
  refine ⟨o, u, T2, P, ?_, q⟩
  unfold f_X0_solve
  rw [e, ob_some]; exact e2
theorem W_isS {N : Nat} {c : Int32} {o u : Int64} (ho : inW o N) : f_X0_isSolved (c, o, u) = true ↔ Slv N (gb o) (gb u) := by
  unfold f_X0_isSolved
  have e : ((e_odd (c, o, u)) &&& ((e_used (c, o, u)) ^^^ (-1))) = 0 ↔ Slv N (gb o) (gb u) := by
    show (o &&& (u ^^^ (-1))) = 0 ↔ _
    constructor
    · intro q i hi hu
      cases g : gb o i
      · rfl
      · have g2 := gb_lt g
        have := congrArg (fun x => gb x i) q
        simp only [gb_and, gb_0] at this
        rw [gb_not g2, g, hu] at this; cases this
    · intro s
      apply gb_ext; intro i hi
      rw [gb_and, gb_not hi, gb_0]
      cases g : gb o i
      · rfl
      · cases g2 : gb u i
        · rw [s i (ho i g) g2] at g; cases g
        · rfl
  by_cases q : ((e_odd (c, o, u)) &&& ((e_used (c, o, u)) ^^^ (-1))) = 0
  · rw [if_pos q]; exact ⟨fun _ => e.mp q, fun _ => rfl⟩
  · rw [if_neg q]; exact ⟨fun z => (by cases z), fun z => absurd (e.mpr z) q⟩
theorem W_free {N : Nat} {c : Int32} {o u : Int64} (hN : N ≤ 64) (hu : inW u N) (hc : c = nI N) : f_X0_free (c, o, u) = nI (N - cnt (gb u) N) := by
  subst hc
  show nI N - f_J13_bitCount_95d88 u = _
  rw [bc_eq, cnt_out (p := gb u) (m := N) (fun i hi => inW_f hu hi) hN]
  exact pk_sub (cnt_le _ _)
theorem Out_step {N i : Nat} {R : Nat → Int64} {b U : Nat → Bool} {acc : Int64} (O : Out N R b U i acc) (hn : ¬ (U i = true ∧ b i = true)) : Out N R b U (i + 1) acc := fun k => (O k).trans ⟨fun ⟨j, h1, h⟩ => ⟨j, by omega, h⟩, fun ⟨j, h1, h2, h3, h⟩ => by
  by_cases q : j = i
  · subst q; exact absurd ⟨h2, h3⟩ hn
  · exact ⟨j, by omega, h2, h3, h⟩⟩
theorem Out_put {N i p : Nat} {R : Nat → Int64} {b U : Nat → Bool} {acc : Int64} (hN : N ≤ 64) (O : Out N R b U i acc) (hu : U i = true) (hb : b i = true) (hp : p < N) (v : Piv N R i p) : Out N R b U (i + 1) (acc ||| jsl 1 (nI p)) := fun k => by
  rw [gb_or, gb_one (by omega), Bool.or_eq_true, O k, decide_eq_true_iff]
  constructor
  · rintro (⟨j, h1, h⟩ | rfl)
    · exact ⟨j, by omega, h⟩
    · exact ⟨i, by omega, hu, hb, hp, v⟩
  · rintro ⟨j, h1, h2, h3, h4, h5⟩
    by_cases q : j = i
    · subst q; exact .inr (Piv_low h5 v)
    · exact .inl ⟨j, by omega, h2, h3, h4, h5⟩
theorem Out_0 (N : Nat) (R : Nat → Int64) (b U : Nat → Bool) : Out N R b U 0 0 := fun k => ⟨fun q => (by rw [gb_0] at q; cases q), fun ⟨_, q, _⟩ => absurd q (Nat.not_lt_zero _)⟩
theorem W_ls {N : Nat} (hN : N ≤ 64) {R0 T : Nat → Int64} {b0 P : Nat → Bool} {o u : Int64} (I : Inv N R0 b0 N T (gb o) (gb u) P) (n : Nat) : ∀ (m f i : Nat) (acc : Int64), i + m = N → m < f → Out N T (gb o) (gb u) i acc → ∃ a, f_X0_leastSolution_b4 n (nI N, o, u) T f acc (nI i) = some a ∧ Out N T (gb o) (gb u) N a
  | _, 0, _, _, _, hf, _ => absurd hf (Nat.not_lt_zero _)
  | 0, f + 1, i, acc, hi, _, O => by
    obtain rfl : i = N := by omega
    exact ⟨acc, by rw [f_X0_leastSolution_b4_s, if_pos (show nI i ≤ nI i from nI_le (Nat.le_refl _) (by omega))], O⟩
  | m + 1, f + 1, i, acc, hi, hf, O => by
    have et : f_X0_term (nI N, o, u) T (nI i) = some (T i) := by
      unfold f_X0_term
      rw [if_neg (nI_pos (by omega)), if_neg (show ¬ (64 : Int32) ≤ nI i from nI_ge (b := 64) (by omega) (by omega)), if_neg (nI_in (show i < 64 by omega) (by omega)), nI_clamp (by omega)]
    have eh : f_X5_holds ((e_used (nI N, o, u)) &&& (e_odd (nI N, o, u))) (nI i) = (gb u i && gb o i) := (holds_gb (x := u &&& o) (by omega)).trans (gb_and _ _ _)
    rw [f_X0_leastSolution_b4_s, if_neg (show ¬ nI N ≤ nI i from nI_ge (by omega) (by omega)), eh, et, ob_some, ob_some, nI_1]
    by_cases c : gb u i = true ∧ gb o i = true
    · obtain ⟨p, p1, p2, p3⟩ := I.2.2.1 i (by omega) c.1
      rw [if_pos (by rw [c.1, c.2]; rfl), low_bit (k := p) (by omega) p3.1 p3.2.1]
      exact W_ls hN I n m f (i + 1) _ (by omega) (by omega) (Out_put hN O c.1 c.2 p1 p3)
    · rw [if_neg (fun z => c (Bool.and_eq_true_iff.mp z))]
      exact W_ls hN I n m f (i + 1) _ (by omega) (by omega) (Out_step O c)

