/-! simulations and scripts -/
theorem x_lN (x : Int64) : x = lN (tN x) := by
  apply Int64.toBitVec_inj.mp
  show x.toBitVec = BitVec.ofNat 64 x.toBitVec.toNat
  rw [BitVec.ofNat_toNat, BitVec.setWidth_eq]
theorem x_33 (u : Int64) : ∃ R, R < 2 ^ 31 ∧ (jus u 33).toInt32 = nI R := by
  have e : tN (jus u 33) = tN u / 2 ^ 33 := tN_jus (k := 33) (by omega) u
  refine ⟨tN u / 2 ^ 33, ?_, ?_⟩
  · have := tN_lt u; omega
  · rw [x_lN (jus u 33), lN_i, e]
theorem dv {a d : Nat} (ha : a < 2 ^ 31) (h0 : 0 < d) (hd : d < 2 ^ 31) : nI a / nI d = nI (a / d) := pk_div ha h0 hd
theorem seven {d : Nat} (h : d < 8) : d = 0 ∨ d = 1 ∨ d = 2 ∨ d = 3 ∨ d = 4 ∨ d = 5 ∨ d = 6 ∨ d = 7 := by omega
def Both (t : WT) (g : Nat → Int64) : Prop := RelW t g
theorem turn_flip {t : WT} {g : Nat → Int64} (B : RelW t g) {k : Nat} (hk2 : k < 2 ^ 31) : ∃ t' g', (f_X4_turn t (nI k)).2 = t' ∧ (if f_X6_isCell g (nI k) = true then lt_ (f_X6_flipOn g (nI k)) (fun r => some r.2) else some g) = some g' ∧ RelW t' g' := by
  obtain ⟨σ, h, E, M⟩ := B
  by_cases hk : k < sN σ
  · obtain ⟨t', e1, E'⟩ := W_turn E h hk
    obtain ⟨g', e2, M'⟩ := M_flip M h hk
    refine ⟨t', g', by rw [e1], ?_, ⟨_, WF_flp h hk, E', M'⟩⟩
    rw [M_has M h hk2, if_pos (decide_eq_true hk), e2]; rfl
  · refine ⟨t, g, by rw [W_turn0 E h hk2 hk], ?_, ⟨σ, h, E, M⟩⟩
    rw [M_has M h hk2, if_neg (by rw [decide_eq_false hk]; decide)]
theorem turn_scr {t : WT} {g : Nat → Int64} (B : RelW t g) {k d : Nat} (hk2 : k < 2 ^ 31) (hd2 : d < 2 ^ 31) : ∃ t' g', (f_X4_scrape t (nI k) (nI d)).2 = t' ∧ (f_X6_canScratch g (nI k) (nI d)).bind (fun r_11 => (if r_11 = true then (f_X6_scratchOn g (nI k) (nI d)).bind (fun r_13 => (some r_13.2)) else (some g))) = some g' ∧ RelW t' g' := by
  obtain ⟨σ, h, E, M⟩ := B
  cases c : canB σ k d
  · refine ⟨t, g, by rw [W_scrape0 E h hk2 hd2 c], ?_, ⟨σ, h, E, M⟩⟩
    rw [M_can M h hk2 hd2, c, ob_some]; rfl
  · obtain ⟨hk, hd, j, e⟩ := canB_ex c
    obtain ⟨t', e1, E'⟩ := W_scrape E h hk hd e
    obtain ⟨g', e2, M'⟩ := M_scratch M h hk hd e
    refine ⟨t', g', by rw [e1], ?_, ⟨_, WF_scp h hk (nbr_lt h hk hd e), E', M'⟩⟩
    rw [M_can M h hk2 hd2, c, ob_some, if_pos rfl, e2]; rfl
theorem turn_thaw {t : WT} {g : Nat → Int64} (B : RelW t g) {n : Nat} (hn : 1000 ≤ n) {k s : Nat} (hk2 : k < 2 ^ 31) (hs : s ≤ 9) : ∃ t' g', (f_X4_thaw n t (nI k) (nI s)).bind (fun r => some r.2) = some t' ∧ (if f_X6_isCell g (nI k) = true then (f_X6_breatheOn n g (nI k) (nI s)).bind (fun r => some r.2) else some g) = some g' ∧ RelW t' g' := by
  obtain ⟨σ, h, E, M⟩ := B
  by_cases hk : k < sN σ
  · obtain ⟨t', e1, E'⟩ := W_thaw E h (n := n) (by omega) hk hs
    obtain ⟨g', e2, M'⟩ := M_breathe M h (n := n) (by omega) hk hs
    refine ⟨t', g', by rw [e1]; rfl, ?_, ⟨_, WF_thw h k s, E', M'⟩⟩
    rw [M_has M h hk2, if_pos (decide_eq_true hk), e2]; rfl
  · refine ⟨t, g, by rw [W_thaw0 E h n hk2 (by omega) (fun q => hk q.1)]; rfl, ?_, ⟨σ, h, E, M⟩⟩
    rw [M_has M h hk2, if_neg (by rw [decide_eq_false hk]; decide)]
theorem turn_both {t : WT} {g : Nat → Int64} (B : RelW t g) {n : Nat} (hn : 1000 ≤ n) {R : Nat} (hR : R < 2 ^ 31) : ∃ t' g', f_X5_takeTurn n t (nI R) = some t' ∧ f_X6_turn n g (nI R) = some g' ∧ RelW t' g' := by
  have B0 := B
  obtain ⟨σ, h, E, M⟩ := B
  have i8 : irm (nI R) 8 = nI (R % 8) := irm_nI (d := 8) hR (by omega) (by omega)
  have d8 : nI R / 8 = nI (R / 8) := dv (d := 8) hR (by omega) (by omega)
  have q64 : irm (nI (R / 8)) 64 = nI (R / 8 % 64) := irm_nI (d := 64) (by omega) (by omega) (by omega)
  have q4 : irm (nI (R / 8)) 4 = nI (R / 8 % 4) := irm_nI (d := 4) (by omega) (by omega) (by omega)
  have q3 : irm (nI (R / 8)) 3 = nI (R / 8 % 3) := irm_nI (d := 3) (by omega) (by omega) (by omega)
  have q6 : irm (nI (R / 8)) 6 = nI (R / 8 % 6) := irm_nI (d := 6) (by omega) (by omega) (by omega)
  have a64 : nI (R / 8) / 64 = nI (R / 8 / 64) := dv (d := 64) (by omega) (by omega) (by omega)
  have a16 : nI (R / 8) / 16 = nI (R / 8 / 16) := dv (d := 16) (by omega) (by omega) (by omega)
  have a4 : nI (R / 8) / 4 = nI (R / 8 / 4) := dv (d := 4) (by omega) (by omega) (by omega)
  have b4 : irm (nI (R / 8 / 64)) 4 = nI (R / 8 / 64 % 4) := irm_nI (d := 4) (by omega) (by omega) (by omega)
  have b64 : irm (nI (R / 8 / 64)) 64 = nI (R / 8 / 64 % 64) := irm_nI (d := 64) (by omega) (by omega) (by omega)
  have b3 : irm (nI (R / 8 / 16)) 3 = nI (R / 8 / 16 % 3) := irm_nI (d := 3) (by omega) (by omega) (by omega)
  have c3 : irm (nI (R / 8 / 4)) 3 = nI (R / 8 / 4 % 3) := irm_nI (d := 3) (by omega) (by omega) (by omega)
  unfold f_X5_takeTurn f_X6_turn
  rw [i8, d8, q64, q4, q3, q6, a64, a16, a4, b4, b64, b3, c3]
  have h8 := Nat.mod_lt R (show 0 < 8 by omega)
  generalize R % 8 = r at h8
  rcases seven h8 with rfl | rfl | rfl | rfl | rfl | rfl | rfl | rfl
  · obtain ⟨t', g', e1, e2, B'⟩ := turn_flip B0 (k := R / 8 % 64) (by omega)
    refine ⟨t', g', ?_, ?_, B'⟩
    · rw [if_pos (show nI 0 = 0 from rfl)]; show some _ = _; rw [e1]
    · rw [if_neg (show ¬ (3 : Int32) ≤ nI 0 by decide)]; exact e2
  · obtain ⟨t', g', e1, e2, B'⟩ := turn_flip B0 (k := R / 8 % 64) (by omega)
    refine ⟨t', g', ?_, ?_, B'⟩
    · rw [if_neg (show ¬ nI 1 = 0 by decide), if_pos (show nI 1 = 1 from rfl)]; show some _ = _; rw [e1]
    · rw [if_neg (show ¬ (3 : Int32) ≤ nI 1 by decide)]; exact e2
  · obtain ⟨t', g', e1, e2, B'⟩ := turn_flip B0 (k := R / 8 % 64) (by omega)
    refine ⟨t', g', ?_, ?_, B'⟩
    · rw [if_neg (show ¬ nI 2 = 0 by decide), if_neg (show ¬ nI 2 = 1 by decide), if_pos (show nI 2 = 2 from rfl)]; show some _ = _; rw [e1]
    · rw [if_neg (show ¬ (3 : Int32) ≤ nI 2 by decide)]; exact e2
  · obtain ⟨t', g', e1, e2, B'⟩ := turn_scr B0 (k := R / 8 % 64) (d := R / 8 / 64 % 4) (by omega) (by omega)
    refine ⟨t', g', ?_, ?_, B'⟩
    · rw [if_neg (show ¬ nI 3 = 0 by decide), if_neg (show ¬ nI 3 = 1 by decide), if_neg (show ¬ nI 3 = 2 by decide), if_pos (show nI 3 = 3 from rfl)]; show some _ = _; rw [e1]
    · rw [if_pos (show (3 : Int32) ≤ nI 3 by decide), if_pos (show nI 3 = 3 from rfl)]; exact e2
  · rw [if_neg (show ¬ nI 4 = 0 by decide), if_neg (show ¬ nI 4 = 1 by decide), if_neg (show ¬ nI 4 = 2 by decide), if_neg (show ¬ nI 4 = 3 by decide), if_pos (show nI 4 = 4 from rfl), if_pos (show (3 : Int32) ≤ nI 4 by decide), if_neg (show ¬ nI 4 = 3 by decide), if_pos (show nI 4 = 4 from rfl)]
    by_cases z : R / 8 / 16 % 3 = 0
    · obtain ⟨t', e1, E'⟩ := W_putKind E h (s := R / 8 % 4) (κ := R / 8 / 4 % 3) (by omega) (by omega)
      obtain ⟨g', e2, M'⟩ := M_border M h (s := R / 8 % 4) (κ := R / 8 / 4 % 3) (by omega) (by omega)
      refine ⟨t', g', ?_, ?_, ⟨_, WF_brd h (by omega) (by omega), E', M'⟩⟩
      · rw [if_pos ((nI0 (by omega)).mpr z), e1]; rfl
      · rw [if_pos ((nI0 (by omega)).mpr z), e2]; rfl
    · obtain ⟨t', g', e1, e2, B'⟩ := turn_thaw B0 hn (k := R / 8 / 64 % 64) (s := R / 8 % 4) (by omega) (by omega)
      refine ⟨t', g', ?_, ?_, B'⟩
      · rw [if_neg (fun q => z ((nI0 (by omega)).mp q))]; exact e1
      · rw [if_neg (fun q => z ((nI0 (by omega)).mp q))]; exact e2
  · obtain ⟨t', e1, E'⟩ := W_putRule E (v := R / 8 % 3) (by omega)
    obtain ⟨g', e2, M'⟩ := M_rule M (v := R / 8 % 3) (by omega)
    refine ⟨t', g', ?_, ?_, ⟨_, WF_Ru h (by omega), E', M'⟩⟩
    · rw [if_neg (show ¬ nI 5 = 0 by decide), if_neg (show ¬ nI 5 = 1 by decide), if_neg (show ¬ nI 5 = 2 by decide), if_neg (show ¬ nI 5 = 3 by decide), if_neg (show ¬ nI 5 = 4 by decide), if_pos (show nI 5 = 5 from rfl), e1]; rfl
    · rw [if_pos (show (3 : Int32) ≤ nI 5 by decide), if_neg (show ¬ nI 5 = 3 by decide), if_neg (show ¬ nI 5 = 4 by decide), if_pos (show nI 5 = 5 from rfl), e2]; rfl
  · obtain ⟨t', e1, E'⟩ := W_pass E h (n := n) (by omega) (m := 1 + R / 8 % 6) (by omega) (by omega)
    obtain ⟨g', e2, M'⟩ := M_pass M h (n := n) (by omega) (m := 1 + R / 8 % 6) (by omega) (by omega)
    refine ⟨t', g', ?_, ?_, ⟨_, WF_pas h _, E', M'⟩⟩
    · rw [if_neg (show ¬ nI 6 = 0 by decide), if_neg (show ¬ nI 6 = 1 by decide), if_neg (show ¬ nI 6 = 2 by decide), if_neg (show ¬ nI 6 = 3 by decide), if_neg (show ¬ nI 6 = 4 by decide), if_neg (show ¬ nI 6 = 5 by decide), show (1 : Int32) + nI (R / 8 % 6) = nI (1 + R / 8 % 6) from nI_add 1 _, e1]; rfl
    · rw [if_pos (show (3 : Int32) ≤ nI 6 by decide), if_neg (show ¬ nI 6 = 3 by decide), if_neg (show ¬ nI 6 = 4 by decide), if_neg (show ¬ nI 6 = 5 by decide), show (1 : Int32) + nI (R / 8 % 6) = nI (1 + R / 8 % 6) from nI_add 1 _, e2]; rfl
  · obtain ⟨t', e1, E'⟩ := W_pass E h (n := n) (by omega) (m := 1 + R / 8 % 6) (by omega) (by omega)
    obtain ⟨g', e2, M'⟩ := M_pass M h (n := n) (by omega) (m := 1 + R / 8 % 6) (by omega) (by omega)
    refine ⟨t', g', ?_, ?_, ⟨_, WF_pas h _, E', M'⟩⟩
    · rw [if_neg (show ¬ nI 7 = 0 by decide), if_neg (show ¬ nI 7 = 1 by decide), if_neg (show ¬ nI 7 = 2 by decide), if_neg (show ¬ nI 7 = 3 by decide), if_neg (show ¬ nI 7 = 4 by decide), if_neg (show ¬ nI 7 = 5 by decide), show (1 : Int32) + nI (R / 8 % 6) = nI (1 + R / 8 % 6) from nI_add 1 _, e1]; rfl
    · rw [if_pos (show (3 : Int32) ≤ nI 7 by decide), if_neg (show ¬ nI 7 = 3 by decide), if_neg (show ¬ nI 7 = 4 by decide), if_neg (show ¬ nI 7 = 5 by decide), show (1 : Int32) + nI (R / 8 % 6) = nI (1 + R / 8 % 6) from nI_add 1 _, e2]; rfl
theorem s5_s (n : Nat) (w : WT) (v : Int32) (f : Nat) (x : Int64) (i : Int32) (hi : ¬ v ≤ i) : ∃ u : Int64, (∀ t, f_X5_simulate_b25 n w v (f + 1) t x i = (f_X5_takeTurn n t ((jus u 33).toInt32)).bind (fun r_4 => f_X5_simulate_b25 n w v f r_4 u (i + 1))) ∧ ∀ (g0 g : Nat → Int64) (s : MT), f_X6_simulate_b45 n g0 v (f + 1) s g x i = (f_X6_turn n g ((jus u 33).toInt32)).bind (fun r_5 => f_X6_simulate_b45 n g0 v f s r_5 u (i + 1)) :=
  ⟨(x * 6364136223846793005) + 1442695040888963407, fun t => by rw [f_X5_simulate_b25_s, if_neg hi, lt_], fun g0 g s => by rw [f_X6_simulate_b45_s, if_neg hi, lt_]⟩
theorem sim_both (w : WT) (g0 : Nat → Int64) {n : Nat} (hn : 1000 ≤ n) (s : MT) {v : Nat} (hv : v ≤ 60) : ∀ (m f i : Nat) (t : WT) (g : Nat → Int64) (x : Int64), i + m = v → m < f → RelW t g → ∃ r t' g', f_X5_simulate_b25 n w (nI v) f t x (nI i) = some (.inr (r, t')) ∧ f_X6_simulate_b45 n g0 (nI v) f s g x (nI i) = some (r, s, g')
  | _, 0, _, _, _, _, _, hf, _ => absurd hf (Nat.not_lt_zero _)
  | 0, f + 1, i, t, g, x, hi, _, ⟨σ, h, E, M⟩ => by
    refine ⟨100 * nI (cnt (gb (sF σ)) 64) + nI (pN σ 64 (sF σ)), t, g, ?_, ?_⟩
    · rw [f_X5_simulate_b25_s, if_pos (nI_le (by omega) (by omega)), W_patches E h (by omega), ob_some, bc_eq, E.2.2.2.2.1]
    · rw [f_X6_simulate_b45_s, if_pos (nI_le (by omega) (by omega)), M.2.1, M_bits (by omega), ob_some, M_patches M h (by omega), ob_some]
  | m + 1, f + 1, i, t, g, x, hi, hf, B => by
    obtain ⟨u, a1, a2⟩ := s5_s n w (nI v) f x (nI i) (nI_ge (by omega) (by omega))
    obtain ⟨R, hR, eR⟩ := x_33 u
    obtain ⟨t', g', e1, e2, B'⟩ := turn_both B hn hR
    obtain ⟨r, t2, g2, f1, f2⟩ := sim_both w g0 hn s hv m f (i + 1) t' g' u (by omega) (by omega) B'
    exact ⟨r, t2, g2, by rw [a1, eR, e1, ob_some, nI_1, f1], by rw [a2, eR, e2, ob_some, nI_1, f2]⟩
theorem cs_simulate {w : WT} {g : Nat → Int64} (W : RelW w g) {n : Nat} (hn : 1000 ≤ n) (m : MT) (t : WT) (tr o : Nat → Int64) (x : Int64) (y : Int32) :
    Same (f_L_simulate n w t o x y) (f_X6_simulate n m g tr x y) (fun r1 r2 => f_X6_thrown r2.2.1 = r1.1 ∧ (r1.1 = 0 → r1.2.2 0 = r2.1.toInt64) ∧ r2.2.1 = mk m r1.1) := by
  by_cases q : rng y 1 60 = true
  · obtain ⟨v, h1, h2, rfl⟩ := rng_ex (a := 1) (b := 60) q (by omega)
    have W2 : RelW w (cpF g tr 0 0 11) := by
      obtain ⟨σ, h, E, M⟩ := W
      exact ⟨σ, h, E, EncM_tr M tr⟩
    obtain ⟨r, t', g', e1, e2⟩ := sim_both w g hn (mk m 0) h2 v n 0 w (cpF g tr 0 0 11) x (by omega) (by omega) W2
    refine same_i (0, t', vp_updL o 0 r.toInt64) (r, mk m 0, g') ?_ ?_ ⟨rfl, fun _ => rfl, rfl⟩
    · unfold f_L_simulate f_X5_simulate
      rw [NR_t q]
      show Option.bind (f_X5_simulate_b25 n w (nI v) n w x (nI 0)) _ = _
      rw [e1]; rfl
    · unfold f_X6_simulate
      rw [M_in, if_pos (show rng (nI v) (1 : Int64).toInt (60 : Int64).toInt = true from q), ref0]
      show Option.bind (f_X6_copyState n g tr 11 11 0 0) (fun r_12 => f_X6_simulate_b45 n g (nI v) n (mk m 0) r_12 x (nI 0)) = _
      rw [M_cpT (by omega), ob_some, e2]
  · refine same_i (1, t, o) (0, mk m 1, tr) ?_ ?_ ⟨rfl, no1, rfl⟩
    · unfold f_L_simulate f_X5_simulate
      rw [NR_f q]; rfl
    · unfold f_X6_simulate
      rw [M_in, if_neg (show ¬ rng y (1 : Int64).toInt (60 : Int64).toInt = true from q), ref1]; rfl
