theorem one_ex {x : Int32} (hx : rng x 0 1 = true) : x = nI 0 ∨ x = nI 1 := by
  obtain ⟨d, _, h2, h3⟩ := rng_ex (a := 0) (b := 1) hx (by omega)
  have : d = 0 ∨ d = 1 := by omega
  rcases this with rfl | rfl
  · exact .inl h3
  · exact .inr h3
theorem C_slot (x : Int32) : f_X5_needSlot x = if rng x 0 1 = true then some (.inr ()) else some (.inl 1) := by
  unfold f_X5_needSlot rng
  have z : (0 : Int32).toInt = 0 := by decide
  have o : (1 : Int32).toInt = 1 := by decide
  by_cases h : x < 0
  · rw [if_pos h]; rw [i_lt, z] at h; rw [if_neg (by rw [decide_eq_false (by omega)]; decide)]
  · rw [if_neg h]; rw [i_lt, z] at h
    by_cases h2 : x ≤ 1
    · rw [if_pos h2]; rw [i_le, o] at h2; rw [if_pos (decide_eq_true (by omega))]
    · rw [if_neg h2]; rw [i_le, o] at h2; rw [if_neg (by rw [decide_eq_false (by omega)]; decide)]
theorem ich_nI {c : Nat} (h : c < 65536) : ich (nI c) = nI c := by
  unfold ich
  rw [pk_char, pk_tn (by omega), Nat.mod_eq_of_lt h]
theorem nar_c {c : Nat} (h : c < 65536) : vp_nar .char (nI c) = nI c := by
  unfold vp_nar; rw [(pk_charN h).1]
def fzN (σ : Sg) (k : Nat) : Nat → Nat → Int32
  | 0, _ => -1
  | m + 1, i => if gb (nightI σ (sF σ) i) k = true then nI i else fzN σ k m (i + 1)
theorem W_fz {w : WT} {σ : Sg} (E : EncW w σ) (h : WF σ) (n : Nat) {k : Nat} (hk : k < sN σ) : ∀ (m f i : Nat), i + m = 101 → m < f → f_X5_freezesIn_b16 n w (nI k) f (nightI σ (sF σ) i) (nI i) = some (.inr (fzN σ k m i))
  | _, 0, _, _, hf => absurd hf (Nat.not_lt_zero _)
  | 0, f + 1, i, hi, _ => by
    rw [f_X5_freezesIn_b16_s, if_pos (show (100 : Int32) < nI i from nI_lt (a := 100) (by omega) (by omega))]; rfl
  | m + 1, f + 1, i, hi, hf => by
    have n64 := h.n64
    rw [f_X5_freezesIn_b16_s, if_neg (show ¬ (100 : Int32) < nI i from nI_nlt (a := 100) (by omega) (by omega)), holds_gb (by omega), fzN]
    by_cases q : gb (nightI σ (sF σ) i) k = true
    · rw [if_pos q, if_pos q]
    · rw [if_neg q, if_neg q, W_after E h (nightI_inW h h.2.2.2.2.2.2.2.2.1 i), nI_1]
      exact W_fz E h n hk m f (i + 1) (by omega) (by omega)
