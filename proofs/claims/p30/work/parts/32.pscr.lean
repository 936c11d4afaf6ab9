/-! scratches made and taken away -/
-- scratches
def scp (σ : Sg) (k j d : Nat) : Sg := if d % 2 = 0 then setY σ (sY σ ^^^ jsl 1 (nI (own k j d))) else setX σ (sX σ ^^^ jsl 1 (nI (own k j d)))
theorem scp_N (σ : Sg) (k j d : Nat) : sN (scp σ k j d) = sN σ := by unfold scp; split <;> rfl
theorem scp_nbr (σ : Sg) (k j d a b : Nat) : nbr (scp σ k j d) a b = nbr σ a b := by unfold scp; split <;> rfl
theorem WF_scp {σ : Sg} (h : WF σ) {k j d : Nat} (hk : k < sN σ) (hj : j < sN σ) : WF (scp σ k j d) := by
  have o := inW_one (own_lt (d := d) hk hj) h.n64
  unfold scp
  split
  · exact WF_Y h (inW_xor h.2.2.2.2.2.2.2.2.2.2 o)
  · exact WF_X h (inW_xor h.2.2.2.2.2.2.2.2.2.1 o)
theorem bsm2 {α : Type} (b : Bool) (x : α) : (if b = true then ((1 : Int32), x) else (0, x)) = (bI b, x) := by cases b <;> rfl
theorem W_scrape {t : WT} {σ : Sg} (E : EncW t σ) (h : WF σ) {k d j : Nat} (hk : k < sN σ) (hd : d < 4) (e : nbr σ k d = some j) : ∃ t', f_X4_scrape t (nI k) (nI d) = (bI (scr (scp σ k j d) k d), t') ∧ EncW t' (scp σ k j d) := by
  have n64 := h.n64
  have hj := nbr_lt h hk hd e
  have hw := WF_scp h (d := d) hk hj
  have hN := scp_N σ k j d
  have hu : f_X4_scrape t (nI k) (nI d) = f_X4_scrape_b49 t (nI k) (nI d) 1 (nI (own k j d)) := by
    unfold f_X4_scrape
    rw [if_pos (by rw [W_has E h (by omega), decide_eq_true hk]), if_pos (show f_X5_isWithin (nI d) 0 3 = true from (C_win (a := 0) (b := 3) (by omega) (by omega) (by omega)).trans (decide_eq_true (by omega))), W_beside E h hk hd, e, if_neg (fun q => nomatch (optI_m1 (o := some j) (fun i q => by cases q; omega)).mp q)]
    rcases four hd with rfl | rfl | rfl | rfl
    · rw [if_neg (by decide), if_neg (by decide)]; rfl
    · rw [if_pos (show nI 1 = 1 from rfl)]; rfl
    · rw [if_neg (by decide), if_pos (show nI 2 = 2 from rfl)]; rfl
    · rw [if_neg (by decide), if_neg (by decide)]; rfl
  rw [hu]
  unfold f_X4_scrape_b49
  simp only [lt_, bsm2]
  rcases four hd with rfl | rfl | rfl | rfl
  · have E2 : EncW (wY t (w_lowerScratches t ^^^ jsl 1 (nI (own k j 0)))) (scp σ k j 0) := by rw [E.2.2.2.2.2.2.2.1]; exact EncW_Y E _
    refine ⟨_, ?_, E2⟩
    rw [if_neg (by decide), if_neg (by decide), ← W_scr E2 hw (by rw [hN]; exact hk) hd]
  · have E2 : EncW (wX t (w_rightScratches t ^^^ jsl 1 (nI (own k j 1)))) (scp σ k j 1) := by rw [E.2.2.2.2.2.2.1]; exact EncW_X E _
    refine ⟨_, ?_, E2⟩
    rw [if_pos (show nI 1 = 1 from rfl), ← W_scr E2 hw (by rw [hN]; exact hk) hd]
  · have E2 : EncW (wY t (w_lowerScratches t ^^^ jsl 1 (nI (own k j 2)))) (scp σ k j 2) := by rw [E.2.2.2.2.2.2.2.1]; exact EncW_Y E _
    refine ⟨_, ?_, E2⟩
    rw [if_neg (by decide), if_neg (by decide), ← W_scr E2 hw (by rw [hN]; exact hk) hd]
  · have E2 : EncW (wX t (w_rightScratches t ^^^ jsl 1 (nI (own k j 3)))) (scp σ k j 3) := by rw [E.2.2.2.2.2.2.1]; exact EncW_X E _
    refine ⟨_, ?_, E2⟩
    rw [if_neg (by decide), if_pos (show nI 3 = 3 from rfl), ← W_scr E2 hw (by rw [hN]; exact hk) hd]
def canB (σ : Sg) (k d : Nat) : Bool := decide (k < sN σ ∧ d < 4) && (nbr σ k d).isSome
theorem canB_ex {σ : Sg} {k d : Nat} (h : canB σ k d = true) : k < sN σ ∧ d < 4 ∧ ∃ j, nbr σ k d = some j := by
  unfold canB at h
  rw [Bool.and_eq_true] at h
  obtain ⟨h1, h2⟩ := h
  have h1 := of_decide_eq_true h1
  exact ⟨h1.1, h1.2, Option.isSome_iff_exists.mp h2⟩
theorem canB_of {σ : Sg} {k d j : Nat} (hk : k < sN σ) (hd : d < 4) (e : nbr σ k d = some j) : canB σ k d = true := by
  unfold canB; rw [decide_eq_true ⟨hk, hd⟩, e]; rfl
theorem W_scrape0 {t : WT} {σ : Sg} (E : EncW t σ) (h : WF σ) {k d : Nat} (hk2 : k < 2 ^ 31) (hd2 : d < 2 ^ 31) (hc : canB σ k d = false) : f_X4_scrape t (nI k) (nI d) = (-1, t) := by
  have n64 := h.n64
  unfold f_X4_scrape
  by_cases hk : k < sN σ
  · rw [if_pos (by rw [W_has E h (by omega), decide_eq_true hk])]
    by_cases hd : d < 4
    · rw [if_pos (show f_X5_isWithin (nI d) 0 3 = true from (C_win (a := 0) (b := 3) (by omega) (by omega) (by omega)).trans (decide_eq_true (by omega))), W_beside E h hk hd]
      cases e : nbr σ k d with
      | none => exact if_pos rfl
      | some j => rw [canB_of hk hd e] at hc; cases hc
    · rw [if_neg (show ¬ f_X5_isWithin (nI d) 0 3 = true from by rw [show f_X5_isWithin (nI d) 0 3 = _ from C_win (a := 0) (b := 3) (by omega) (by omega) (by omega), decide_eq_false (by omega)]; decide)]
  · rw [if_neg (by rw [W_has E h (by omega), decide_eq_false hk]; decide)]
