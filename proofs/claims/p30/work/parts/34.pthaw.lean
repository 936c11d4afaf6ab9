/-! breath, nights, new windows, copies -/
theorem and_m1 (x : Int64) : x &&& (-1) = x := gb_ext (fun i hi => by rw [gb_and, gb_m1 hi, Bool.and_true])
def wrm (σ : Sg) (k s : Nat) : Int64 := gIt σ (-1) s (jsl 1 (nI k))
def thw (σ : Sg) (k s : Nat) : Sg := setF σ (sF σ &&& (wrm σ k s ^^^ (-1)))
theorem gIt_suc {σ : Sg} {w : Int64} (m : Nat) (y : Int64) : gIt σ w (m + 1) y = grw σ w (gIt σ w m y) := gIt_comm m y
theorem WF_thw {σ : Sg} (h : WF σ) (k s : Nat) : WF (thw σ k s) := WF_setF h (inW_and h.2.2.2.2.2.2.2.2.1)
theorem W_thaw {t : WT} {σ : Sg} (E : EncW t σ) (h : WF σ) {n : Nat} (hn : 100 ≤ n) {k s : Nat} (hk : k < sN σ) (hs : s ≤ 9) : ∃ t', f_X4_thaw n t (nI k) (nI s) = some (nI (cnt (gb (sF σ &&& wrm σ k s)) 64), t') ∧ EncW t' (thw σ k s) := by
  have n64 := h.n64
  have h1 := inW_one hk n64
  refine ⟨_, ?_, EncW_F E _⟩
  unfold f_X4_thaw
  rw [if_pos (by rw [W_has E h (by omega), decide_eq_true hk]), if_pos (show f_X5_isWithin (nI s) 0 9 = true from (C_win (a := 0) (b := 9) (by omega) (by omega) (by omega)).trans (decide_eq_true (by omega)))]
  exact lp_run (fun f i => f_X4_thaw_b27 n (nI s) f t (gIt σ (-1) i (jsl 1 (nI k))) (nI i)) s _
    (fun f i hi => by
      show f_X4_thaw_b27 n (nI s) (f + 1) t (gIt σ (-1) i (jsl 1 (nI k))) (nI i) = f_X4_thaw_b27 n (nI s) f t (gIt σ (-1) (i + 1) (jsl 1 (nI k))) (nI (i + 1))
      rw [f_X4_thaw_b27_s, if_neg (nI_ge hi (by omega)), gIt_suc, W_around E h (gIt_inW h i h1), nI_succ]
      unfold grw
      rw [and_m1])
    (fun f => by
      show f_X4_thaw_b27 n (nI s) (f + 1) t (wrm σ k s) (nI s) = _
      rw [f_X4_thaw_b27_s, if_pos (nI_le (Nat.le_refl _) (by omega)), bc_eq, E.2.2.2.2.1]) n 0 (by omega) (by omega)
theorem W_thaw0 {t : WT} {σ : Sg} (E : EncW t σ) (h : WF σ) (n : Nat) {k s : Nat} (hk2 : k < 2 ^ 31) (hs2 : s < 2 ^ 31) (hc : ¬ (k < sN σ ∧ s ≤ 9)) : f_X4_thaw n t (nI k) (nI s) = some (-1, t) := by
  unfold f_X4_thaw
  by_cases hk : k < sN σ
  · rw [if_pos (by rw [W_has E h hk2, decide_eq_true hk]), if_neg (by rw [show f_X5_isWithin (nI s) 0 9 = _ from C_win (a := 0) (b := 9) (by omega) (by omega) (by omega), decide_eq_false (by omega)]; decide)]
  · rw [if_neg (by rw [W_has E h hk2, decide_eq_false hk]; decide)]
def pas (σ : Sg) (m : Nat) : Sg := setS (setF σ (nightI σ (sF σ) m)) 3 (sNi σ + m)
theorem WF_pas {σ : Sg} (h : WF σ) (m : Nat) : WF (pas σ m) := WF_Ni (WF_setF h (nightI_inW h h.2.2.2.2.2.2.2.2.1 m)) _
theorem W_pass {t : WT} {σ : Sg} (E : EncW t σ) (h : WF σ) {n : Nat} (hn : 100 ≤ n) {m : Nat} (h1 : 1 ≤ m) (h2 : m ≤ 60) : ∃ t', f_X4_pass n t (nI m) = some (nI (cnt (gb (sF (pas σ m))) 64), t') ∧ EncW t' (pas σ m) := by
  have hF := h.2.2.2.2.2.2.2.2.1
  refine ⟨_, ?_, EncW_Ni (EncW_F E (nightI σ (sF σ) m)) _⟩
  unfold f_X4_pass
  rw [if_pos (show f_X5_isWithin (nI m) 1 60 = true from (C_win (a := 1) (b := 60) (by omega) (by omega) (by omega)).trans (decide_eq_true (by omega)))]
  have := lp_run (fun f i => f_X4_pass_b14 n (nI m) f (wF t (nightI σ (sF σ) i)) (nI i)) m (some (nI (cnt (gb (sF (pas σ m))) 64), wNi (wF t (nightI σ (sF σ) m)) (nI (sNi σ + m))))
    (fun f i hi => by
      have ha : f_X4_after (wF t (nightI σ (sF σ) i)) (nightI σ (sF σ) i) = night σ (nightI σ (sF σ) i) := W_after (EncW_F E (nightI σ (sF σ) i)) (WF_setF h (nightI_inW h hF i)) (nightI_inW h hF i)
      show f_X4_pass_b14 n (nI m) (f + 1) (wF t (nightI σ (sF σ) i)) (nI i) = f_X4_pass_b14 n (nI m) f (wF t (night σ (nightI σ (sF σ) i))) (nI (i + 1))
      rw [f_X4_pass_b14_s, if_neg (nI_ge hi (by omega)), ha, nI_succ])
    (fun f => by
      show f_X4_pass_b14 n (nI m) (f + 1) (wF t (nightI σ (sF σ) m)) (nI m) = _
      rw [f_X4_pass_b14_s, if_pos (nI_le (Nat.le_refl _) (by omega)), bc_eq]
      show some (_, wNi (wF t (nightI σ (sF σ) m)) (w_nights t + nI m)) = _
      rw [E.2.2.2.1, nI_add]
      rfl) n 0 (by omega) (by omega)
  rw [show wF t (nightI σ (sF σ) 0) = t from by show wF t (sF σ) = t; rw [← E.2.2.2.2.1]] at this
  exact this
theorem W_pass0 {t : WT} (n : Nat) {m : Nat} (hm : m < 2 ^ 31) (hc : ¬ (1 ≤ m ∧ m ≤ 60)) : f_X4_pass n t (nI m) = some (-1, t) := by
  unfold f_X4_pass
  rw [if_neg (by rw [show f_X5_isWithin (nI m) 1 60 = _ from C_win (a := 1) (b := 60) (by omega) (by omega) (by omega), decide_eq_false hc]; decide)]
def newS (R C ru ni : Nat) : Sg := (fun i => if i = 0 then R else if i = 1 then C else if i = 2 then ru else if i = 3 then ni else 0, 0, 0, 0)
theorem WF_newS {R C ru : Nat} (h1 : 2 ≤ R) (h2 : R ≤ 8) (h3 : 2 ≤ C) (h4 : C ≤ 8) (h5 : ru ≤ 2) (ni : Nat) : WF (newS R C ru ni) := by
  refine ⟨h1, h2, h3, h4, h5, fun d hd => ?_, Iff.rfl, Iff.rfl, inW_0 _, inW_0 _, inW_0 _⟩
  rcases four hd with rfl | rfl | rfl | rfl <;> exact Nat.zero_le _
def lfc (C : Nat) : Nat → Int64
  | 0 => 0
  | i + 1 => lfc C i ||| jsl 1 (nI (i * C))
def layB (R C : Nat) : Bool := decide (jsl 1 (nI C) - 1 = mkN (fun k => onS R C k 0) (R * C)) && (decide (jsl (jsl 1 (nI C) - 1) (nI ((R - 1) * C)) = mkN (fun k => onS R C k 2) (R * C)) && (decide (lfc C R = mkN (fun k => onS R C k 3) (R * C)) && decide (jsl (lfc C R) (nI (C - 1)) = mkN (fun k => onS R C k 1) (R * C))))
theorem layB_all : ∀ i, i < 49 → layB (2 + i / 7) (2 + i % 7) = true := by decide +kernel
theorem layB_ok {R C : Nat} (h1 : 2 ≤ R) (h2 : R ≤ 8) (h3 : 2 ≤ C) (h4 : C ≤ 8) : jsl 1 (nI C) - 1 = mkN (fun k => onS R C k 0) (R * C) ∧ jsl (jsl 1 (nI C) - 1) (nI ((R - 1) * C)) = mkN (fun k => onS R C k 2) (R * C) ∧ lfc C R = mkN (fun k => onS R C k 3) (R * C) ∧ jsl (lfc C R) (nI (C - 1)) = mkN (fun k => onS R C k 1) (R * C) := by
  have a := layB_all (7 * (R - 2) + (C - 2)) (by omega)
  rw [show 2 + (7 * (R - 2) + (C - 2)) / 7 = R by omega, show 2 + (7 * (R - 2) + (C - 2)) % 7 = C by omega] at a
  unfold layB at a
  simp only [Bool.and_eq_true, decide_eq_true_eq] at a
  exact a
theorem W_layOut {n : Nat} (hn : 100 ≤ n) {R C : Nat} (h1 : 2 ≤ R) (h2 : R ≤ 8) (h3 : 2 ≤ C) (h4 : C ≤ 8) (ru ni : Nat) (top rc bot lc : Int64) : ∃ t', f_X4_layOut n (nI R, nI C, nI ru, nI ni, 0, 0, top, rc, bot, lc, 0, 0) = some t' ∧ EncW t' (newS R C ru ni) := by
  obtain ⟨b1, b2, b3, b4⟩ := layB_ok h1 h2 h3 h4
  refine ⟨(nI R, nI C, nI ru, nI ni, 0, 0, jsl 1 (nI C) - 1, jsl (lfc C R) (nI (C - 1)), jsl (jsl 1 (nI C) - 1) (nI ((R - 1) * C)), lfc C R, 0, 0), ?_, rfl, rfl, rfl, rfl, rfl, rfl, rfl, rfl, b1, b4, b2, b3⟩
  unfold f_X4_layOut
  show f_X4_layOut_b39 n n (nI R, nI C, nI ru, nI ni, 0, 0, jsl 1 (nI C) - 1, rc, jsl (jsl 1 (nI C) - 1) ((nI R - nI 1) * nI C), 0, 0, 0) 0 = _
  rw [pk_sub (by omega), pk_mul]
  exact lp_run (fun f i => f_X4_layOut_b39 n f (nI R, nI C, nI ru, nI ni, 0, 0, jsl 1 (nI C) - 1, rc, jsl (jsl 1 (nI C) - 1) (nI ((R - 1) * C)), lfc C i, 0, 0) (nI i)) R _
    (fun f i hi => by
      show f_X4_layOut_b39 n (f + 1) _ _ = f_X4_layOut_b39 n f (nI R, nI C, nI ru, nI ni, 0, 0, jsl 1 (nI C) - 1, rc, jsl (jsl 1 (nI C) - 1) (nI ((R - 1) * C)), lfc C i ||| jsl 1 (nI (i * C)), 0, 0) (nI (i + 1))
      rw [f_X4_layOut_b39_s]
      show (if nI R ≤ nI i then _ else f_X4_layOut_b39 n f (nI R, nI C, nI ru, nI ni, 0, 0, jsl 1 (nI C) - 1, rc, jsl (jsl 1 (nI C) - 1) (nI ((R - 1) * C)), lfc C i ||| jsl 1 (nI i * nI C), 0, 0) (nI i + 1)) = _
      rw [if_neg (nI_ge hi (by omega)), pk_mul, nI_succ])
    (fun f => by
      show f_X4_layOut_b39 n (f + 1) _ (nI R) = _
      rw [f_X4_layOut_b39_s]
      show (if nI R ≤ nI R then some (nI R, nI C, nI ru, nI ni, 0, 0, jsl 1 (nI C) - 1, jsl (lfc C R) (nI C - nI 1), jsl (jsl 1 (nI C) - 1) (nI ((R - 1) * C)), lfc C R, 0, 0) else _) = _
      rw [if_pos (nI_le (Nat.le_refl _) (by omega)), pk_sub (by omega)]) n 0 (by omega) (by omega)
theorem W_replace {t : WT} {ru ni : Nat} (e1 : w_rule t = nI ru) (e2 : w_nights t = nI ni) {n : Nat} (hn : 100 ≤ n) {R C : Nat} (h1 : 2 ≤ R) (h2 : R ≤ 8) (h3 : 2 ≤ C) (h4 : C ≤ 8) : ∃ t', f_X4_replace n t (nI R) (nI C) = some t' ∧ EncW t' (newS R C ru ni) := by
  obtain ⟨t', a, b⟩ := W_layOut hn h1 h2 h3 h4 ru ni (w_topRow t) (w_rightColumn t) (w_bottomRow t) (w_leftColumn t)
  refine ⟨t', ?_, b⟩
  unfold f_X4_replace
  rw [e1, e2, a]
  rfl
theorem W_renew {t : WT} {n : Nat} (hn : 100 ≤ n) {R C : Nat} (h1 : 2 ≤ R) (h2 : R ≤ 8) (h3 : 2 ≤ C) (h4 : C ≤ 8) : ∃ t', f_X4_renew n t (nI R) (nI C) = some t' ∧ EncW t' (newS R C 0 0) := by
  obtain ⟨t', a, b⟩ := W_replace (t := (w_rows t, w_cells t, 0, 0, w_frozen t, w_kinds t, w_topRow t, w_rightColumn t, w_bottomRow t, w_leftColumn t, w_rightScratches t, w_lowerScratches t)) (ru := 0) (ni := 0) rfl rfl hn h1 h2 h3 h4
  refine ⟨t', ?_, b⟩
  unfold f_X4_renew
  rw [a]
  rfl
def clF (g : Nat → Int64) (i : Nat) : Nat → Int64 := fun j => if j < i then 0 else g j
def cpF (g g2 : Nat → Int64) (a b i : Nat) : Nat → Int64 := fun j => if b ≤ j ∧ j < b + i then g (a + (j - b)) else g2 j
