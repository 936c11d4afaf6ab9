/-! simulations come to an end; windows that show the same look alike -/
theorem tk_flip {t : WT} (B : VOK t) {k : Nat} (hk2 : k < 2 ^ 31) : ∃ t', (f_X4_turn t (nI k)).2 = t' ∧ VOK t' := by
  obtain ⟨σ, h, E⟩ := B
  by_cases hk : k < sN σ
  · obtain ⟨t', e1, E'⟩ := W_turn E h hk
    exact ⟨t', by rw [e1], _, WF_flp h hk, E'⟩
  · exact ⟨t, by rw [W_turn0 E h hk2 hk], σ, h, E⟩
theorem tk_scr {t : WT} (B : VOK t) {k d : Nat} (hk2 : k < 2 ^ 31) (hd2 : d < 2 ^ 31) : ∃ t', (f_X4_scrape t (nI k) (nI d)).2 = t' ∧ VOK t' := by
  obtain ⟨σ, h, E⟩ := B
  cases c : canB σ k d
  · exact ⟨t, by rw [W_scrape0 E h hk2 hd2 c], σ, h, E⟩
  · obtain ⟨hk, hd, j, e⟩ := canB_ex c
    obtain ⟨t', e1, E'⟩ := W_scrape E h hk hd e
    exact ⟨t', by rw [e1], _, WF_scp h hk (nbr_lt h hk hd e), E'⟩
theorem tk_thaw {t : WT} (B : VOK t) {n : Nat} (hn : 1000 ≤ n) {k s : Nat} (hk2 : k < 2 ^ 31) (hs : s ≤ 9) : ∃ t', (f_X4_thaw n t (nI k) (nI s)).bind (fun r => some r.2) = some t' ∧ VOK t' := by
  obtain ⟨σ, h, E⟩ := B
  by_cases hk : k < sN σ
  · obtain ⟨t', e1, E'⟩ := W_thaw E h (n := n) (by omega) hk hs
    exact ⟨t', by rw [e1]; rfl, _, WF_thw h k s, E'⟩
  · exact ⟨t, by rw [W_thaw0 E h n hk2 (by omega) (fun q => hk q.1)]; rfl, σ, h, E⟩
theorem tk_ok {t : WT} (B : VOK t) {n : Nat} (hn : 1000 ≤ n) {R : Nat} (hR : R < 2 ^ 31) : ∃ t', f_X5_takeTurn n t (nI R) = some t' ∧ VOK t' := by
  have B0 := B
  obtain ⟨σ, h, E⟩ := B
  have i8 : irm (nI R) 8 = nI (R % 8) := irm_nI (d := 8) hR (by omega) (by omega)
  have d8 : nI R / 8 = nI (R / 8) := dv (d := 8) hR (by omega) (by omega)
  have q64 : irm (nI (R / 8)) 64 = nI (R / 8 % 64) := irm_nI (d := 64) (by omega) (by omega) (by omega)
  have q4 : irm (nI (R / 8)) 4 = nI (R / 8 % 4) := irm_nI (d := 4) (by omega) (by omega) (by omega)
  have q3 : irm (nI (R / 8)) 3 = nI (R / 8 % 3) := irm_nI (d := 3) (by omega) (by omega) (by omega)
  have q6 : irm (nI (R / 8)) 6 = nI (R / 8 % 6) := irm_nI (d := 6) (by omega) (by omega) (by omega)
  have a64 : nI (R / 8) / 64 = nI (R / 8 / 64) := dv (d := 64) (by omega) (by omega) (by omega)
  have a16 : nI (R / 8) / 16 = nI (R / 8 / 16) := dv (d := 16) (by omega) (by omega) (by omega)
  have a4 : nI (R / 8) / 4 = nI (R / 8 / 4) := dv (d := 4) (by omega) (by omega) (by omega)
  have b4 : irm (nI (R / 8 / 64)) 4 = nI (R / 8 / 64 % 4) := irm_nI (d := 4) (by omega) (by omega) (by omega)
  have b64 : irm (nI (R / 8 / 64)) 64 = nI (R / 8 / 64 % 64) := irm_nI (d := 64) (by omega) (by omega) (by omega)
  have b3 : irm (nI (R / 8 / 16)) 3 = nI (R / 8 / 16 % 3) := irm_nI (d := 3) (by omega) (by omega) (by omega)
  have c3 : irm (nI (R / 8 / 4)) 3 = nI (R / 8 / 4 % 3) := irm_nI (d := 3) (by omega) (by omega) (by omega)
  unfold f_X5_takeTurn
  rw [i8, d8, q64, q4, q3, q6, a64, a16, a4, b4, b64, b3, c3]
  have h8 := Nat.mod_lt R (show 0 < 8 by omega)
  generalize R % 8 = r at h8
  rcases seven h8 with rfl | rfl | rfl | rfl | rfl | rfl | rfl | rfl
  · obtain ⟨t', e1, B'⟩ := tk_flip B0 (k := R / 8 % 64) (by omega)
    refine ⟨t', ?_, B'⟩
    rw [if_pos (show nI 0 = 0 from rfl)]; show some _ = _; rw [e1]
  · obtain ⟨t', e1, B'⟩ := tk_flip B0 (k := R / 8 % 64) (by omega)
    refine ⟨t', ?_, B'⟩
    rw [if_neg (show ¬ nI 1 = 0 by decide), if_pos (show nI 1 = 1 from rfl)]; show some _ = _; rw [e1]
  · obtain ⟨t', e1, B'⟩ := tk_flip B0 (k := R / 8 % 64) (by omega)
    refine ⟨t', ?_, B'⟩
    rw [if_neg (show ¬ nI 2 = 0 by decide), if_neg (show ¬ nI 2 = 1 by decide), if_pos (show nI 2 = 2 from rfl)]; show some _ = _; rw [e1]
  · obtain ⟨t', e1, B'⟩ := tk_scr B0 (k := R / 8 % 64) (d := R / 8 / 64 % 4) (by omega) (by omega)
    refine ⟨t', ?_, B'⟩
    rw [if_neg (show ¬ nI 3 = 0 by decide), if_neg (show ¬ nI 3 = 1 by decide), if_neg (show ¬ nI 3 = 2 by decide), if_pos (show nI 3 = 3 from rfl)]; show some _ = _; rw [e1]
  · rw [if_neg (show ¬ nI 4 = 0 by decide), if_neg (show ¬ nI 4 = 1 by decide), if_neg (show ¬ nI 4 = 2 by decide), if_neg (show ¬ nI 4 = 3 by decide), if_pos (show nI 4 = 4 from rfl)]
    by_cases z : R / 8 / 16 % 3 = 0
    · obtain ⟨t', e1, E'⟩ := W_putKind E h (s := R / 8 % 4) (κ := R / 8 / 4 % 3) (by omega) (by omega)
      refine ⟨t', ?_, _, WF_brd h (by omega) (by omega), E'⟩
      rw [if_pos ((nI0 (by omega)).mpr z), e1]; rfl
    · obtain ⟨t', e1, B'⟩ := tk_thaw B0 hn (k := R / 8 / 64 % 64) (s := R / 8 % 4) (by omega) (by omega)
      refine ⟨t', ?_, B'⟩
      rw [if_neg (fun q => z ((nI0 (by omega)).mp q))]; exact e1
  · obtain ⟨t', e1, E'⟩ := W_putRule E (v := R / 8 % 3) (by omega)
    refine ⟨t', ?_, _, WF_Ru h (by omega), E'⟩
    rw [if_neg (show ¬ nI 5 = 0 by decide), if_neg (show ¬ nI 5 = 1 by decide), if_neg (show ¬ nI 5 = 2 by decide), if_neg (show ¬ nI 5 = 3 by decide), if_neg (show ¬ nI 5 = 4 by decide), if_pos (show nI 5 = 5 from rfl), e1]; rfl
  · obtain ⟨t', e1, E'⟩ := W_pass E h (n := n) (by omega) (m := 1 + R / 8 % 6) (by omega) (by omega)
    refine ⟨t', ?_, _, WF_pas h _, E'⟩
    rw [if_neg (show ¬ nI 6 = 0 by decide), if_neg (show ¬ nI 6 = 1 by decide), if_neg (show ¬ nI 6 = 2 by decide), if_neg (show ¬ nI 6 = 3 by decide), if_neg (show ¬ nI 6 = 4 by decide), if_neg (show ¬ nI 6 = 5 by decide), show (1 : Int32) + nI (R / 8 % 6) = nI (1 + R / 8 % 6) from nI_add 1 _, e1]; rfl
  · obtain ⟨t', e1, E'⟩ := W_pass E h (n := n) (by omega) (m := 1 + R / 8 % 6) (by omega) (by omega)
    refine ⟨t', ?_, _, WF_pas h _, E'⟩
    rw [if_neg (show ¬ nI 7 = 0 by decide), if_neg (show ¬ nI 7 = 1 by decide), if_neg (show ¬ nI 7 = 2 by decide), if_neg (show ¬ nI 7 = 3 by decide), if_neg (show ¬ nI 7 = 4 by decide), if_neg (show ¬ nI 7 = 5 by decide), show (1 : Int32) + nI (R / 8 % 6) = nI (1 + R / 8 % 6) from nI_add 1 _, e1]; rfl
theorem si_s (n : Nat) (w : WT) (v : Int32) (f : Nat) (x : Int64) (i : Int32) (hi : ¬ v ≤ i) : ∃ u : Int64, ∀ t, f_X5_simulate_b25 n w v (f + 1) t x i = (f_X5_takeTurn n t ((jus u 33).toInt32)).bind (fun r_4 => f_X5_simulate_b25 n w v f r_4 u (i + 1)) :=
  ⟨(x * 6364136223846793005) + 1442695040888963407, fun t => by rw [f_X5_simulate_b25_s, if_neg hi, lt_]⟩
theorem si_ok (w : WT) {n : Nat} (hn : 1000 ≤ n) {v : Nat} (hv : v ≤ 60) : ∀ (m f i : Nat) (t : WT) (x : Int64), i + m = v → m < f → VOK t → ∃ r t', f_X5_simulate_b25 n w (nI v) f t x (nI i) = some (.inr (r, t'))
  | _, 0, _, _, _, _, hf, _ => absurd hf (Nat.not_lt_zero _)
  | 0, f + 1, i, t, x, hi, _, ⟨σ, h, E⟩ => by
    refine ⟨100 * nI (cnt (gb (sF σ)) 64) + nI (pN σ 64 (sF σ)), t, ?_⟩
    rw [f_X5_simulate_b25_s, if_pos (nI_le (by omega) (by omega)), W_patches E h (by omega), ob_some, bc_eq, E.2.2.2.2.1]
  | m + 1, f + 1, i, t, x, hi, hf, B => by
    obtain ⟨u, a1⟩ := si_s n w (nI v) f x (nI i) (nI_ge (by omega) (by omega))
    obtain ⟨R, hR, eR⟩ := x_33 u
    obtain ⟨t', e1, B'⟩ := tk_ok B hn hR
    obtain ⟨r, t2, f1⟩ := si_ok w hn hv m f (i + 1) t' u (by omega) (by omega) B'
    exact ⟨r, t2, by rw [a1, eR, e1, ob_some, nI_1, f1]⟩
theorem ca_sim {v : VT} (V : VOK v.1) {n : Nat} (hn : 1000 ≤ n) (x : Int64) {y : Int32} (hy : rng y 1 60 = true) : ∃ r t', ∀ q : OT, vis q = v → g_L_doSimulate n q x y = some (r, t') := by
  obtain ⟨k, h1, h2, rfl⟩ := rng_ex (a := 1) (b := 60) hy (by omega)
  obtain ⟨r, t', e1⟩ := si_ok v.1 hn h2 k n 0 v.1 x (by omega) (by omega) V
  refine ⟨r, t', fun q hq => ?_⟩
  subst hq
  unfold g_L_doSimulate f_L_doSimulate f_X5_simulate
  rw [NR_t hy]
  show ((f_X5_simulate_b25 n (o_w q) (nI k) n (o_w q) x (nI 0)).bind _) = _
  rw [e1]; rfl
theorem W_cm {w : WT} {σ : Sg} (E : EncW w σ) (h : WF σ) (n : Nat) {v : Nat} (hv : v < 2 ^ 31) : ∀ (m f i : Nat), i + m = v → m < f → f_X5_coming_b20 n w (nI v) f (nightI σ (sF σ) i) (nI i) = some (.inr (nightI σ (sF σ) v))
  | _, 0, _, _, hf => absurd hf (Nat.not_lt_zero _)
  | 0, f + 1, i, hi, _ => by
    obtain rfl : i = v := by omega
    rw [f_X5_coming_b20_s, if_pos (nI_le (Nat.le_refl _) (by omega))]
  | m + 1, f + 1, i, hi, hf => by
    rw [f_X5_coming_b20_s, if_neg (nI_ge (by omega) (by omega)), W_after E h (nightI_inW h h.2.2.2.2.2.2.2.2.1 i), nI_1]
    exact W_cm E h n hv m f (i + 1) (by omega) (by omega)
theorem ca_looks {o : OT} {σ : Sg} (E : EncW (o_w o) σ) (h : WF σ) {n : Nat} (hn : 1000 ≤ n) {m : Nat} (h1 : 1 ≤ m) (h2 : m ≤ 200) : g_L_looks n o (nI m) = some (nightI σ (sF σ) m) := by
  have q : rng (nI m) 1 200 = true := by
    have := rng_nI (k := m) 1 200 (by omega)
    exact this.trans (decide_eq_true ⟨h1, h2⟩)
  unfold g_L_looks f_L_looks f_X5_coming
  rw [NR_t q]
  show ((f_X5_coming_b20 n (o_w o) (nI m) n (w_frozen (o_w o)) 0).bind _) = _
  have e := W_cm E h n (v := m) (by omega) m n 0 (by omega) (by omega)
  rw [show w_frozen (o_w o) = sF σ from E.2.2.2.2.1, show f_X5_coming_b20 n (o_w o) (nI m) n (sF σ) 0 = _ from e]; rfl
