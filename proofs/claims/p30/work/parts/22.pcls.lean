/-! the class's window, by the numbers -/
theorem nI_z (n : Nat) : nI n = Int32.ofInt (n : Int) := Int32.ofInt_eq_ofNat.symm
theorem dsp {α : Type} {d : Nat} (hd : d < 4) (a b c e : α) : (if nI d = 0 then a else if nI d = 1 then b else if nI d = 2 then c else e) = (match d with | 0 => a | 1 => b | 2 => c | _ => e) := by
  rcases four hd with rfl | rfl | rfl | rfl
  · exact if_pos rfl
  · rw [if_neg (by decide)]; exact if_pos rfl
  · rw [if_neg (by decide), if_neg (by decide)]; exact if_pos rfl
  · rw [if_neg (by decide), if_neg (by decide)]; exact if_neg (by decide)
theorem W_kind {t : WT} {σ : Sg} (E : EncW t σ) (h : WF σ) {d : Nat} (hd : d < 4) : f_X4_kind t (nI d) = nI (sSd σ d) := by
  obtain ⟨-, -, -, -, -, e, -⟩ := E
  obtain ⟨-, -, -, -, -, hs, -⟩ := h
  have h0 := hs 0 (by omega)
  have h1 := hs 1 (by omega)
  have h2 := hs 2 (by omega)
  have h3 := hs 3 (by omega)
  have hk : kindsN σ < 256 := by unfold kindsN; omega
  unfold f_X4_kind ius
  rw [e]
  rcases four hd with rfl | rfl | rfl | rfl
  · rw [pk_ushrN (by omega) (2 * nI 0) 0 (by decide +kernel), pk_andN (by omega) 2 (by decide +kernel)]
    congr 1; unfold kindsN; omega
  · rw [pk_ushrN (by omega) (2 * nI 1) 2 (by decide +kernel), pk_andN (by omega) 2 (by decide +kernel)]
    congr 1; unfold kindsN; omega
  · rw [pk_ushrN (by omega) (2 * nI 2) 4 (by decide +kernel), pk_andN (by omega) 2 (by decide +kernel)]
    congr 1; unfold kindsN; omega
  · rw [pk_ushrN (by omega) (2 * nI 3) 6 (by decide +kernel), pk_andN (by omega) 2 (by decide +kernel)]
    congr 1; unfold kindsN; omega
theorem W_kind2 {t : WT} {σ : Sg} (E : EncW t σ) (h : WF σ) {d : Nat} (hd : d < 4) : (f_X4_kind t (nI d) = 2) ↔ sSd σ d = 2 := by
  rw [W_kind E h hd]
  have := h.2.2.2.2.2.1 d hd
  exact nI_eq (b := 2) (by omega) (by omega)
theorem W_along {t : WT} {σ : Sg} (E : EncW t σ) (h : WF σ) {d : Nat} (hd : d < 4) (k : Nat) : gb (f_X4_along t (nI d)) k = (decide (k < sN σ) && onS (sR σ) (sC σ) k d) := by
  obtain ⟨-, -, -, -, -, -, -, -, e0, e1, e2, e3⟩ := E
  have n := h.n64
  unfold f_X4_along
  rw [dsp hd, e0, e1, e2, e3]
  rcases four hd with rfl | rfl | rfl | rfl <;> exact gb_mkN _ _ n k
theorem W_step {t : WT} {σ : Sg} (E : EncW t σ) {d : Nat} (hd : d < 4) : f_X4_step t (nI d) = Int32.ofInt (match d with | 0 => -(sC σ : Int) | 1 => 1 | 2 => (sC σ : Int) | _ => -1) := by
  obtain ⟨-, e, -⟩ := E
  unfold f_X4_step
  rw [dsp hd, e, nI_z]
  rcases four hd with rfl | rfl | rfl | rfl
  · exact (Int32.ofInt_neg _).symm
  · rfl
  · rfl
  · rfl
theorem mulR (σ : Sg) (h : WF σ) : sN σ = (sR σ - 1) * sC σ + sC σ := by
  show sR σ * sC σ = _
  obtain ⟨r, hr⟩ : ∃ r, sR σ = r + 1 := ⟨sR σ - 1, by have := h.1; omega⟩
  rw [hr, Nat.succ_mul]; rfl
theorem cast1 {a : Nat} (h : 1 ≤ a) : ((a - 1 : Nat) : Int) = (a : Int) - 1 := by omega
theorem W_across {t : WT} {σ : Sg} (E : EncW t σ) (h : WF σ) {d : Nat} (hd : d < 4) : f_X4_stepsAcross t (nI d) = Int32.ofInt (match d with | 0 => -(((sR σ - 1) * sC σ : Nat) : Int) | 1 => ((sC σ - 1 : Nat) : Int) | 2 => (((sR σ - 1) * sC σ : Nat) : Int) | _ => -((sC σ - 1 : Nat) : Int)) := by
  have hs := W_step E hd
  obtain ⟨e0, e1, -⟩ := E
  obtain ⟨h1, -, h3, -⟩ := h
  have a1 : (1 : Int32) = Int32.ofInt 1 := rfl
  unfold f_X4_stepsAcross
  rw [hs, e0, e1, nI_z (sR σ), nI_z (sC σ), a1, ← Int32.ofInt_sub, ← Int32.ofInt_sub]
  rcases four hd with rfl | rfl | rfl | rfl
  · rw [if_pos (show nI 0 = 0 from rfl), ← Int32.ofInt_mul]
    congr 1
    show -(sC σ : Int) * ((sR σ : Int) - 1) = -(((sR σ - 1) * sC σ : Nat) : Int)
    rw [Int.natCast_mul, cast1 (by omega), Int.neg_mul, Int.mul_comm]
  · rw [if_neg (by decide), if_neg (by decide), ← Int32.ofInt_mul]
    congr 1
    rw [cast1 (by omega)]; simp
  · rw [if_neg (show ¬ nI 2 = 0 by decide), if_pos (show nI 2 = 2 from rfl), ← Int32.ofInt_mul]
    congr 1
    show (sC σ : Int) * ((sR σ : Int) - 1) = (((sR σ - 1) * sC σ : Nat) : Int)
    rw [Int.natCast_mul, cast1 (by omega), Int.mul_comm]
  · rw [if_neg (by decide), if_neg (by decide), ← Int32.ofInt_mul]
    congr 1
    rw [cast1 (by omega)]; simp
theorem W_beside {t : WT} {σ : Sg} (E : EncW t σ) (h : WF σ) {k d : Nat} (hk : k < sN σ) (hd : d < 4) : f_X4_beside t (nI k) (nI d) = optI (nbr σ k d) := by
  have n := h.n64
  have hm := mulR σ h
  have ha := W_across E h hd
  have hs := W_step E hd
  have hC : 0 < sC σ := by have := h.2.2.1; omega
  have hdm := Nat.div_add_mod k (sC σ)
  have hml := Nat.mod_lt k hC
  unfold f_X4_beside
  rw [holds_gb (by omega), W_along E h hd, decide_eq_true hk, Bool.true_and]
  unfold nbr
  by_cases ho : onS (sR σ) (sC σ) k d = true
  · rw [if_pos ho, if_pos ho]
    by_cases hj : sSd σ d = 2
    · rw [if_pos ((W_kind2 E h hd).mpr hj), if_pos hj, ha, nI_z k, ← Int32.ofInt_sub]
      show _ = nI _
      rw [nI_z]
      congr 1
      rcases four hd with rfl | rfl | rfl | rfl <;> simp only [onS, acr, decide_eq_true_eq] at ho ⊢ <;> omega
    · rw [if_neg (fun q => hj ((W_kind2 E h hd).mp q)), if_neg hj]; rfl
  · rw [if_neg ho, if_neg ho, hs, nI_z k, ← Int32.ofInt_add]
    show _ = nI _
    rw [nI_z]
    congr 1
    have hk1 : d = 3 → 1 ≤ k := by
      intro e; subst e
      simp only [onS, decide_eq_true_eq] at ho
      rcases Nat.eq_zero_or_pos k with q | q
      · subst q; exact absurd (Nat.zero_mod _) ho
      · exact q
    rcases four hd with rfl | rfl | rfl | rfl <;> simp only [onS, stp, decide_eq_true_eq] at ho ⊢ <;> (try have := hk1 rfl) <;> omega
theorem optI_m1 {o : Option Nat} (h : ∀ j, o = some j → j < 64) : (optI o = -1) ↔ o = none := by
  cases o with
  | none => exact ⟨fun _ => rfl, fun _ => rfl⟩
  | some j =>
    have hj := h j rfl
    constructor
    · intro q
      have a := nI_toInt (n := j) (by omega)
      rw [show nI j = -1 from q] at a
      have b : (-1 : Int32).toInt = -1 := by decide
      omega
    · intro q; cases q
theorem W_scr {t : WT} {σ : Sg} (E : EncW t σ) (h : WF σ) {k d : Nat} (hk : k < sN σ) (hd : d < 4) : f_X4_isScratched t (nI k) (nI d) = scr σ k d := by
  have n := h.n64
  have hl : ∀ j, nbr σ k d = some j → j < 64 := fun j e => by have := nbr_lt h hk hd e; omega
  unfold f_X4_isScratched
  rw [W_beside E h hk hd, dsp hd]
  obtain ⟨-, -, -, -, -, -, ex, ey, -⟩ := E
  unfold scr
  cases e : nbr σ k d with
  | none => exact if_pos rfl
  | some j =>
    have hj := hl j e
    rw [if_neg (fun q => nomatch (optI_m1 (o := some j) (fun i q => by cases q; exact hj)).mp q), ex, ey]
    show _ = gb (sct σ d) (own k j d)
    rcases four hd with rfl | rfl | rfl | rfl
    · exact holds_gb hj
    · exact holds_gb (by omega)
    · exact holds_gb (by omega)
    · exact holds_gb hj
theorem hit_eq (σ : Sg) (x : Int64) (k d : Nat) : hit σ x k d = (match nbr σ k d with | none => false | some j => gb x j && !gb (sct σ d) (own k j d)) := by
  unfold hit nxt scr
  cases nbr σ k d with
  | none => rfl
  | some j =>
    cases hg : gb (sct σ d) (own k j d) <;> simp [hg]

