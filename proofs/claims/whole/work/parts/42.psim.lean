/-! simulations and scripts -/
theorem x_lN (x : Int64) : x = lN (tN x) := by
  apply Int64.toBitVec_inj.mp
  show x.toBitVec = BitVec.ofNat 64 x.toBitVec.toNat
  rw [BitVec.ofNat_toNat, BitVec.setWidth_eq]
theorem x_33 (u : Int64) : ∃ R, R < 2 ^ 31 ∧ (jus u 33).toInt32 = nI R := by
  have e : tN (jus u 33) = tN u / 2 ^ 33 := tN_jus (k := 33) (by omega) u
  refine ⟨tN u / 2 ^ 33, ?_, ?_⟩
  · have := tN_lt u; omega
  · rw [x_lN (jus u 33), lN_i, e]
theorem dv {a d : Nat} (ha : a < 2 ^ 31) (h0 : 0 < d) (hd : d < 2 ^ 31) : nI a / nI d = nI (a / d) := pk_div ha h0 hd
theorem seven {d : Nat} (h : d < 8) : d = 0 ∨ d = 1 ∨ d = 2 ∨ d = 3 ∨ d = 4 ∨ d = 5 ∨ d = 6 ∨ d = 7 := by omega
def Both (t : WT) (g : Nat → Int64) : Prop := RelW t g
theorem turn_flip {t : WT} {g : Nat → Int64} (B : RelW t g) {k : Nat} (hk2 : k < 2 ^ 31) : ∃ t' g', (f_X4_turn t (nI k)).2 = t' ∧ (if f_X6_isCell g (nI k) = true then lt_ (f_X6_flipOn g (nI k)) (fun r => some r.2) else some g) = some g' ∧ RelW t' g' := by
  obtain ⟨σ, h, E, M⟩ := B
  by_cases hk : k < sN σ
  · obtain ⟨t', e1, E'⟩ := W_turn E h hk
    obtain ⟨g', e2, M'⟩ := M_flip M h hk
    refine ⟨t', g', by rw [e1], ?_, ⟨_, WF_flp h hk, E', M'⟩⟩
    rw [M_has M h hk2, if_pos (decide_eq_true hk), e2]; rfl
  · refine ⟨t, g, by rw [W_turn0 E h hk2 hk], ?_, ⟨σ, h, E, M⟩⟩
    rw [M_has M h hk2, if_neg (by rw [decide_eq_false hk]; decide)]
theorem turn_scr {t : WT} {g : Nat → Int64} (B : RelW t g) {k d : Nat} (hk2 : k < 2 ^ 31) (hd2 : d < 2 ^ 31) : ∃ t' g', (f_X4_scrape t (nI k) (nI d)).2 = t' ∧ (f_X6_canScratch g (nI k) (nI d)).bind (fun r_11 => (if r_11 = true then (f_X6_scratchOn g (nI k) (nI d)).bind (fun r_13 => (some r_13.2)) else (some g))) = some g' ∧ RelW t' g' := by
  obtain ⟨σ, h, E, M⟩ := B
  cases c : canB σ k d
  · refine ⟨t, g, by rw [W_scrape0 E h hk2 hd2 c], ?_, ⟨σ, h, E, M⟩⟩
    rw [M_can M h hk2 hd2, c, ob_some]; rfl
  · obtain ⟨hk, hd, j, e⟩ := canB_ex c
    obtain ⟨t', e1, E'⟩ := W_scrape E h hk hd e
    obtain ⟨g', e2, M'⟩ := M_scratch M h hk hd e
    refine ⟨t', g', by rw [e1], ?_, ⟨_, WF_scp h hk (nbr_lt h hk hd e), E', M'⟩⟩
    rw [M_can M h hk2 hd2, c, ob_some, if_pos rfl, e2]; rfl
theorem turn_thaw {t : WT} {g : Nat → Int64} (B : RelW t g) {n : Nat} (hn : 1000 ≤ n) {k s : Nat} (hk2 : k < 2 ^ 31) (hs : s ≤ 9) : ∃ t' g', (f_X4_thaw n t (nI k) (nI s)).bind (fun r => some r.2) = some t' ∧ (if f_X6_isCell g (nI k) = true then (f_X6_breatheOn n g (nI k) (nI s)).bind (fun r => some r.2) else some g) = some g' ∧ RelW t' g' := by
  obtain ⟨σ, h, E, M⟩ := B
  by_cases hk : k < sN σ
  · obtain ⟨t', e1, E'⟩ := W_thaw E h (n := n) (by omega) hk hs
    obtain ⟨g', e2, M'⟩ := M_breathe M h (n := n) (by omega) hk hs
    refine ⟨t', g', by rw [e1]; rfl, ?_, ⟨_, WF_thw h k s, E', M'⟩⟩
    rw [M_has M h hk2, if_pos (decide_eq_true hk), e2]; rfl
  · refine ⟨t, g, by rw [W_thaw0 E h n hk2 (by omega) (fun q => hk q.1)]; rfl, ?_, ⟨σ, h, E, M⟩⟩
    rw [M_has M h hk2, if_neg (by rw [decide_eq_false hk]; decide)]
