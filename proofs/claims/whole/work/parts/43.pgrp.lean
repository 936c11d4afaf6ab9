theorem bI_m1 (b : Bool) : ¬ bI b = -1 := by cases b <;> decide
theorem bI_ng (b : Bool) : ¬ bI b < 0 := by cases b <;> decide
theorem ten {h : Nat} (q : h < 10) : h = 0 ∨ h = 1 ∨ h = 2 ∨ h = 3 ∨ h = 4 ∨ h = 5 ∨ h = 6 ∨ h = 7 ∨ h = 8 ∨ h = 9 := by omega
theorem cm1 (t : WT) : (if (-1 : Int32) = -1 then (some (false, t) : Option (Bool × WT)) else some (true, t)) = some (false, t) := if_pos rfl
theorem g2n {a : Nat} (h : a < 2) : ¬ (2 : Int32) ≤ nI a := nI_ge (b := 2) h (by omega)
theorem g2y {a : Nat} (h : 2 ≤ a) (ha : a < 2 ^ 31) : (2 : Int32) ≤ nI a := nI_le (a := 2) h ha
theorem g3n {a : Nat} (h : a < 3) : ¬ (3 : Int32) ≤ nI a := nI_ge (b := 3) h (by omega)
theorem g3y {a : Nat} (h : 3 ≤ a) (ha : a < 2 ^ 31) : (3 : Int32) ≤ nI a := nI_le (a := 3) h ha
theorem g4n {a : Nat} (h : a < 4) : ¬ (4 : Int32) ≤ nI a := nI_ge (b := 4) h (by omega)
theorem g4y {a : Nat} (h : 4 ≤ a) (ha : a < 2 ^ 31) : (4 : Int32) ≤ nI a := nI_le (a := 4) h ha
theorem g10n {a : Nat} (h : a < 10) : ¬ (10 : Int32) ≤ nI a := nI_ge (b := 10) h (by omega)
theorem g10y {a : Nat} (h : 10 ≤ a) (ha : a < 2 ^ 31) : (10 : Int32) ≤ nI a := nI_le (a := 10) h ha
theorem g100n {a : Nat} (h : a < 100) : ¬ (100 : Int32) ≤ nI a := nI_ge (b := 100) h (by omega)
theorem g100y {a : Nat} (h : 100 ≤ a) (ha : a < 2 ^ 31) : (100 : Int32) ≤ nI a := nI_le (a := 100) h ha
theorem g2t {a : Nat} (h : a ≤ 2) : ¬ (2 : Int32) < nI a := nI_nlt (a := 2) h (by omega)
theorem g2u {a : Nat} (h : 2 < a) (ha : a < 2 ^ 31) : (2 : Int32) < nI a := nI_lt (a := 2) h ha
def GrpC (n : Nat) (t : WT) (h L M Y X : Nat) : Option (Bool × WT) := (if nI h = 1 then (if nI L = 0 then lt_ (f_X4_turn t (nI M)) (fun r_3 => (if r_3.1 = (-1) then (some (false, r_3.2)) else (some (true, r_3.2)))) else (some (false, t))) else (if nI h = 2 then lt_ (f_X4_scrape t (nI M) (nI L)) (fun r_6 => (if r_6.1 = (-1) then (some (false, r_6.2)) else (some (true, r_6.2)))) else (if nI h = 3 then (if 10 ≤ nI M then (some (false, t)) else lt_ (f_X4_putKind t (nI M) (nI L)) (fun r_10 => (if r_10.1 = (-1) then (some (false, r_10.2)) else (some (true, r_10.2))))) else (if nI h = 4 then (if nI M = 0 then lt_ (f_X4_putRule t (nI L)) (fun r_14 => (if r_14.1 = (-1) then (some (false, r_14.2)) else (some (true, r_14.2)))) else (some (false, t))) else (if nI h = 5 then (if 10 ≤ nI M then (some (false, t)) else (f_X4_pass n t (nI Y)).bind (fun r_18 => (if r_18.1 = (-1) then (some (false, r_18.2)) else (some (true, r_18.2))))) else (if nI h = 6 then (f_X4_thaw n t (nI M) (nI L)).bind (fun r_21 => (if r_21.1 = (-1) then (some (false, r_21.2)) else (some (true, r_21.2)))) else (if nI h = 7 then (if (f_X4_hasCell t (nI M)) = true then (if (f_X4_isFrozen t (nI M)) = true then (if nI L = 1 then (some (true, t)) else (some (false, t))) else (if nI L = 0 then (some (true, t)) else (some (false, t)))) else (some (false, t))) else (if nI h = 8 then (if (f_X4_hasCell t (nI M)) = true then (f_X4_cold n t (nI M)).bind (fun r_30 => (if nI L = r_30 then (some (true, t)) else (some (false, t)))) else (some (false, t))) else (if nI h = 9 then (if 10 ≤ nI M then (some (false, t)) else (if (f_J13_bitCount_95d88 (w_frozen t)) < nI Y then (some (false, t)) else (some (true, t)))) else (some (false, t)))))))))))
def GrpM (n : Nat) (g : Nat → Int64) (h L M N X : Nat) : Option (Bool × (Nat → Int64)) := (if nI h = 1 then (if nI L = 0 then (if (f_X6_isCell g (nI M)) = true then lt_ (f_X6_flipOn g (nI M)) (fun r_4 => (if r_4.1 < 0 then (some (false, r_4.2)) else (some (true, r_4.2)))) else (some (false, g))) else (some (false, g))) else (if nI h = 2 then (f_X6_canScratch g (nI M) (nI L)).bind (fun r_7 => (if r_7 = true then (f_X6_scratchOn g (nI M) (nI L)).bind (fun r_9 => (if r_9.1 < 0 then (some (false, r_9.2)) else (some (true, r_9.2)))) else (some (false, g)))) else (if nI h = 3 then (if 100 ≤ nI X then (some (false, g)) else (if 4 ≤ nI N then (some (false, g)) else (if 2 < nI L then (some (false, g)) else (f_X6_borderOn g (nI N) (nI L)).bind (fun r_15 => (if r_15.1 < 0 then (some (false, r_15.2)) else (some (true, r_15.2))))))) else (if nI h = 4 then (if 3 ≤ nI X then (some (false, g)) else lt_ (f_X6_ruleOn g (nI X)) (fun r_19 => (if r_19.1 < 0 then (some (false, r_19.2)) else (some (true, r_19.2))))) else (if nI h = 5 then (if (f_X6_in (nI X).toInt64 1 60) = true then (f_X6_nightsOn n g (nI X)).bind (fun r_23 => (if r_23.1 < 0 then (some (false, r_23.2)) else (some (true, r_23.2)))) else (some (false, g))) else (if nI h = 6 then (if (f_X6_isCell g (nI M)) = true then (f_X6_breatheOn n g (nI M) (nI L)).bind (fun r_27 => (if r_27.1 < 0 then (some (false, r_27.2)) else (some (true, r_27.2)))) else (some (false, g))) else (if nI h = 7 then (if (f_X6_isCell g (nI M)) = true then (if 2 ≤ nI L then (some (false, g)) else (if nI L = 1 then (if (bI (f_X6_has (g 8) (nI M))) = 1 then (some (true, g)) else (some (false, g))) else (if (bI (f_X6_has (g 8) (nI M))) = 0 then (some (true, g)) else (some (false, g))))) else (some (false, g))) else (if nI h = 8 then (if (f_X6_isCell g (nI M)) = true then (f_X6_cold n g (nI M)).bind (fun r_37 => (if r_37 = nI L then (some (true, g)) else (some (false, g)))) else (some (false, g))) else (if nI h = 9 then (if 100 ≤ nI X then (some (false, g)) else (f_X6_bits n (g 8)).bind (fun r_41 => (if r_41 < nI X then (some (false, g)) else (some (true, g))))) else (some (false, g)))))))))))
theorem GrpC_e (n : Nat) (t : WT) {h L M X : Nat} (hL : L < 10) (hM : M < 100) (hh : h < 10) (eX : X = 10 * M + L) : f_X5_succeeds n t (nI (1000 * h + X)) = GrpC n t h L M (X % 100) X := by
  have c1 : nI (1000 * h + X) / 1000 = nI h := (dv (a := 1000 * h + X) (d := 1000) (by omega) (by omega) (by omega)).trans (congrArg nI (by omega))
  have c2 : irm (nI (1000 * h + X)) 10 = nI L := (irm_nI (a := 1000 * h + X) (d := 10) (by omega) (by omega) (by omega)).trans (congrArg nI (by omega))
  have c0 : nI (1000 * h + X) / 10 = nI (100 * h + M) := (dv (a := 1000 * h + X) (d := 10) (by omega) (by omega) (by omega)).trans (congrArg nI (by omega))
  have c3 : irm (nI (100 * h + M)) 100 = nI M := (irm_nI (a := 100 * h + M) (d := 100) (by omega) (by omega) (by omega)).trans (congrArg nI (by omega))
  have c4 : irm (nI (1000 * h + X)) 100 = nI (X % 100) := (irm_nI (a := 1000 * h + X) (d := 100) (by omega) (by omega) (by omega)).trans (congrArg nI (by omega))
  unfold f_X5_succeeds GrpC
  rw [c1, c2, c0, c3, c4]
theorem GrpM_e (n : Nat) (s : MT) (g : Nat → Int64) {h L M X : Nat} (hL : L < 10) (hM : M < 100) (eX : X = 10 * M + L) : f_X6_command n s g (nI h) (nI X) = GrpM n g h L M (M % 10) X := by
  have c2 : irm (nI X) 10 = nI L := (irm_nI (a := X) (d := 10) (by omega) (by omega) (by omega)).trans (congrArg nI (by omega))
  have c0 : nI X / 10 = nI M := (dv (a := X) (d := 10) (by omega) (by omega) (by omega)).trans (congrArg nI (by omega))
  have c3 : irm (nI M) 10 = nI (M % 10) := irm_nI (a := M) (d := 10) (by omega) (by omega) (by omega)
  unfold f_X6_command GrpM
  rw [c2, c0, c3]
def Gp (a : Option (Bool × WT)) (b : Option (Bool × (Nat → Int64))) : Prop := ∃ r t' g', a = some (r, t') ∧ b = some (r, g') ∧ (r = true → RelW t' g')
theorem Gp_f {a : Option (Bool × WT)} {b : Option (Bool × (Nat → Int64))} {t : WT} {g : Nat → Int64} (h1 : a = some (false, t)) (h2 : b = some (false, g)) : Gp a b := ⟨false, t, g, h1, h2, fun q => by cases q⟩
theorem Gp_t {a : Option (Bool × WT)} {b : Option (Bool × (Nat → Int64))} {t : WT} {g : Nat → Int64} (h1 : a = some (true, t)) (h2 : b = some (true, g)) (h : RelW t g) : Gp a b := ⟨true, t, g, h1, h2, fun _ => h⟩
section
variable {t : WT} {g : Nat → Int64} (B : RelW t g) {n : Nat} (hn : 1000 ≤ n) {L M Y N X : Nat} (hL : L < 10) (hM : M < 100) (eX : X = 10 * M + L)

theorem Gp0 : Gp (GrpC n t 0 L M Y X) (GrpM n g 0 L M N X) := Gp_f (t := t) (g := g) (by unfold GrpC; rw [if_neg (show ¬ nI 0 = 1 by decide), if_neg (show ¬ nI 0 = 2 by decide), if_neg (show ¬ nI 0 = 3 by decide), if_neg (show ¬ nI 0 = 4 by decide), if_neg (show ¬ nI 0 = 5 by decide), if_neg (show ¬ nI 0 = 6 by decide), if_neg (show ¬ nI 0 = 7 by decide), if_neg (show ¬ nI 0 = 8 by decide), if_neg (show ¬ nI 0 = 9 by decide)]) (by unfold GrpM; rw [if_neg (show ¬ nI 0 = 1 by decide), if_neg (show ¬ nI 0 = 2 by decide), if_neg (show ¬ nI 0 = 3 by decide), if_neg (show ¬ nI 0 = 4 by decide), if_neg (show ¬ nI 0 = 5 by decide), if_neg (show ¬ nI 0 = 6 by decide), if_neg (show ¬ nI 0 = 7 by decide), if_neg (show ¬ nI 0 = 8 by decide), if_neg (show ¬ nI 0 = 9 by decide)])
theorem Gp1 {t : WT} {g : Nat → Int64} (B : RelW t g) {n : Nat} (hn : 1000 ≤ n) {L M Y N X : Nat} (hL : L < 10) (hM : M < 100) (eX : X = 10 * M + L) : Gp (GrpC n t 1 L M Y X) (GrpM n g 1 L M N X) := by
  obtain ⟨σ, h, E, W⟩ := B
  by_cases l0 : L = 0
  · subst l0
    by_cases k : M < sN σ
    · obtain ⟨t', e1, E'⟩ := W_turn E h k
      obtain ⟨g', e2, W'⟩ := M_flip W h k
      refine Gp_t (t := t') (g := g') ?_ ?_ ⟨_, WF_flp h k, E', W'⟩
      · unfold GrpC; rw [if_pos (show nI 1 = 1 from rfl)]; rw [if_pos (show nI 0 = 0 from rfl), e1]; exact if_neg (bI_m1 _)
      · unfold GrpM; rw [if_pos (show nI 1 = 1 from rfl)]; rw [if_pos (show nI 0 = 0 from rfl), M_has W h (by omega), if_pos (decide_eq_true k), e2]; exact if_neg (bI_ng _)
    · refine Gp_f (t := t) (g := g) ?_ ?_
      · unfold GrpC; rw [if_pos (show nI 1 = 1 from rfl)]; rw [if_pos (show nI 0 = 0 from rfl), W_turn0 E h (by omega) k]; exact cm1 t
      · unfold GrpM; rw [if_pos (show nI 1 = 1 from rfl)]; rw [if_pos (show nI 0 = 0 from rfl), M_has W h (by omega), if_neg (by rw [decide_eq_false k]; decide)]
  · refine Gp_f (t := t) (g := g) ?_ ?_
    · unfold GrpC; rw [if_pos (show nI 1 = 1 from rfl)]; rw [if_neg (nI_ne0 (by omega) (by omega))]
    · unfold GrpM; rw [if_pos (show nI 1 = 1 from rfl)]; rw [if_neg (nI_ne0 (by omega) (by omega))]
theorem Gp2 {t : WT} {g : Nat → Int64} (B : RelW t g) {n : Nat} (hn : 1000 ≤ n) {L M Y N X : Nat} (hL : L < 10) (hM : M < 100) (eX : X = 10 * M + L) : Gp (GrpC n t 2 L M Y X) (GrpM n g 2 L M N X) := by
  obtain ⟨σ, h, E, W⟩ := B
  cases c : canB σ M L
  · refine Gp_f (t := t) (g := g) ?_ ?_
    · unfold GrpC; rw [if_neg (show ¬ nI 2 = 1 by decide), if_pos (show nI 2 = 2 from rfl)]; rw [W_scrape0 E h (by omega) (by omega) c]; exact cm1 t
    · unfold GrpM; rw [if_neg (show ¬ nI 2 = 1 by decide), if_pos (show nI 2 = 2 from rfl)]; rw [M_can W h (by omega) (by omega), c, ob_some]; exact if_neg (by decide)
  · obtain ⟨hk, hd, j, e⟩ := canB_ex c
    obtain ⟨t', e1, E'⟩ := W_scrape E h hk hd e
    obtain ⟨g', e2, W'⟩ := M_scratch W h hk hd e
    refine Gp_t (t := t') (g := g') ?_ ?_ ⟨_, WF_scp h hk (nbr_lt h hk hd e), E', W'⟩
    · unfold GrpC; rw [if_neg (show ¬ nI 2 = 1 by decide), if_pos (show nI 2 = 2 from rfl)]; rw [e1]; exact if_neg (bI_m1 _)
    · unfold GrpM; rw [if_neg (show ¬ nI 2 = 1 by decide), if_pos (show nI 2 = 2 from rfl)]; rw [M_can W h (by omega) (by omega), c, ob_some, if_pos rfl, e2]; exact if_neg (bI_ng _)
theorem Gp3 {t : WT} {g : Nat → Int64} (B : RelW t g) {n : Nat} (hn : 1000 ≤ n) {L M Y N X : Nat} (hL : L < 10) (hM : M < 100) (eX : X = 10 * M + L) (hN : N = M % 10) : Gp (GrpC n t 3 L M Y X) (GrpM n g 3 L M N X) := by
  obtain ⟨σ, h, E, W⟩ := B
  by_cases m : M < 10
  · obtain rfl : N = M := by omega
    by_cases k : N < 4 ∧ L ≤ 2
    · obtain ⟨t', e1, E'⟩ := W_putKind E h k.1 k.2
      obtain ⟨g', e2, W'⟩ := M_border W h k.1 k.2
      have := h.2.2.2.2.2.1 N k.1
      refine Gp_t (t := t') (g := g') ?_ ?_ ⟨_, WF_brd h k.1 k.2, E', W'⟩
      · unfold GrpC; rw [if_neg (show ¬ nI 3 = 1 by decide), if_neg (show ¬ nI 3 = 2 by decide), if_pos (show nI 3 = 3 from rfl)]; rw [if_neg (g10n (by omega)), e1]; exact if_neg (nI_m1 (by omega))
      · unfold GrpM; rw [if_neg (show ¬ nI 3 = 1 by decide), if_neg (show ¬ nI 3 = 2 by decide), if_pos (show nI 3 = 3 from rfl)]; rw [if_neg (g100n (by omega)), if_neg (g4n (by omega)), if_neg (g2t (by omega)), e2]; exact if_neg (nI_pos (by omega))
    · refine Gp_f (t := t) (g := g) ?_ ?_
      · unfold GrpC; rw [if_neg (show ¬ nI 3 = 1 by decide), if_neg (show ¬ nI 3 = 2 by decide), if_pos (show nI 3 = 3 from rfl)]; rw [if_neg (g10n (by omega)), W_putKind0 (by omega) (by omega) k]; exact cm1 t
      · unfold GrpM; rw [if_neg (show ¬ nI 3 = 1 by decide), if_neg (show ¬ nI 3 = 2 by decide), if_pos (show nI 3 = 3 from rfl)]; rw [if_neg (g100n (by omega))]
        by_cases q : N < 4
        · rw [if_neg (g4n (by omega)), if_pos (g2u (by omega) (by omega))]
        · rw [if_pos (g4y (by omega) (by omega))]
  · refine Gp_f (t := t) (g := g) ?_ ?_
    · unfold GrpC; rw [if_neg (show ¬ nI 3 = 1 by decide), if_neg (show ¬ nI 3 = 2 by decide), if_pos (show nI 3 = 3 from rfl)]; rw [if_pos (g10y (by omega) (by omega))]
    · unfold GrpM; rw [if_neg (show ¬ nI 3 = 1 by decide), if_neg (show ¬ nI 3 = 2 by decide), if_pos (show nI 3 = 3 from rfl)]; rw [if_pos (g100y (by omega) (by omega))]
theorem Gp4 {t : WT} {g : Nat → Int64} (B : RelW t g) {n : Nat} (hn : 1000 ≤ n) {L M Y N X : Nat} (hL : L < 10) (hM : M < 100) (eX : X = 10 * M + L) : Gp (GrpC n t 4 L M Y X) (GrpM n g 4 L M N X) := by
  obtain ⟨σ, h, E, W⟩ := B
  by_cases m : M = 0
  · subst m
    obtain rfl : X = L := by omega
    by_cases k : X ≤ 2
    · obtain ⟨t', e1, E'⟩ := W_putRule E k
      obtain ⟨g', e2, W'⟩ := M_rule W k
      have := h.2.2.2.2.1
      refine Gp_t (t := t') (g := g') ?_ ?_ ⟨_, WF_Ru h k, E', W'⟩
      · unfold GrpC; rw [if_neg (show ¬ nI 4 = 1 by decide), if_neg (show ¬ nI 4 = 2 by decide), if_neg (show ¬ nI 4 = 3 by decide), if_pos (show nI 4 = 4 from rfl)]; rw [if_pos (show nI 0 = 0 from rfl), e1]; exact if_neg (nI_m1 (by omega))
      · unfold GrpM; rw [if_neg (show ¬ nI 4 = 1 by decide), if_neg (show ¬ nI 4 = 2 by decide), if_neg (show ¬ nI 4 = 3 by decide), if_pos (show nI 4 = 4 from rfl)]; rw [if_neg (g3n (by omega)), e2]; exact if_neg (nI_pos (by omega))
    · refine Gp_f (t := t) (g := g) ?_ ?_
      · unfold GrpC; rw [if_neg (show ¬ nI 4 = 1 by decide), if_neg (show ¬ nI 4 = 2 by decide), if_neg (show ¬ nI 4 = 3 by decide), if_pos (show nI 4 = 4 from rfl)]; rw [if_pos (show nI 0 = 0 from rfl), W_putRule0 (by omega) k]; exact cm1 t
      · unfold GrpM; rw [if_neg (show ¬ nI 4 = 1 by decide), if_neg (show ¬ nI 4 = 2 by decide), if_neg (show ¬ nI 4 = 3 by decide), if_pos (show nI 4 = 4 from rfl)]; rw [if_pos (g3y (by omega) (by omega))]
  · refine Gp_f (t := t) (g := g) ?_ ?_
    · unfold GrpC; rw [if_neg (show ¬ nI 4 = 1 by decide), if_neg (show ¬ nI 4 = 2 by decide), if_neg (show ¬ nI 4 = 3 by decide), if_pos (show nI 4 = 4 from rfl)]; rw [if_neg (nI_ne0 (by omega) (by omega))]
    · unfold GrpM; rw [if_neg (show ¬ nI 4 = 1 by decide), if_neg (show ¬ nI 4 = 2 by decide), if_neg (show ¬ nI 4 = 3 by decide), if_pos (show nI 4 = 4 from rfl)]; rw [if_pos (g3y (by omega) (by omega))]
theorem Gp5 {t : WT} {g : Nat → Int64} (B : RelW t g) {n : Nat} (hn : 1000 ≤ n) {L M Y N X : Nat} (hL : L < 10) (hM : M < 100) (eX : X = 10 * M + L) (hY : Y = X % 100) : Gp (GrpC n t 5 L M Y X) (GrpM n g 5 L M N X) := by
  obtain ⟨σ, h, E, W⟩ := B
  have i : f_X6_in (nI X).toInt64 1 60 = decide (1 ≤ X ∧ X ≤ 60) := (M_in _ _ _).trans (rng_nI 1 60 (by omega))
  by_cases m : M < 10
  · obtain rfl : Y = X := by omega
    by_cases k : 1 ≤ Y ∧ Y ≤ 60
    · obtain ⟨t', e1, E'⟩ := W_pass E h (n := n) (by omega) k.1 k.2
      obtain ⟨g', e2, W'⟩ := M_pass W h (n := n) (by omega) (m := Y) (by omega) (by omega)
      have := cnt_le (gb (sF (pas σ Y))) 64
      refine Gp_t (t := t') (g := g') ?_ ?_ ⟨_, WF_pas h _, E', W'⟩
      · unfold GrpC; rw [if_neg (show ¬ nI 5 = 1 by decide), if_neg (show ¬ nI 5 = 2 by decide), if_neg (show ¬ nI 5 = 3 by decide), if_neg (show ¬ nI 5 = 4 by decide), if_pos (show nI 5 = 5 from rfl)]; rw [if_neg (g10n (by omega)), e1]; exact if_neg (nI_m1 (by omega))
      · unfold GrpM; rw [if_neg (show ¬ nI 5 = 1 by decide), if_neg (show ¬ nI 5 = 2 by decide), if_neg (show ¬ nI 5 = 3 by decide), if_neg (show ¬ nI 5 = 4 by decide), if_pos (show nI 5 = 5 from rfl)]; rw [i, if_pos (decide_eq_true k), e2]; exact if_neg (nI_pos (by omega))
    · refine Gp_f (t := t) (g := g) ?_ ?_
      · unfold GrpC; rw [if_neg (show ¬ nI 5 = 1 by decide), if_neg (show ¬ nI 5 = 2 by decide), if_neg (show ¬ nI 5 = 3 by decide), if_neg (show ¬ nI 5 = 4 by decide), if_pos (show nI 5 = 5 from rfl)]; rw [if_neg (g10n (by omega)), W_pass0 n (by omega) k]; exact cm1 t
      · unfold GrpM; rw [if_neg (show ¬ nI 5 = 1 by decide), if_neg (show ¬ nI 5 = 2 by decide), if_neg (show ¬ nI 5 = 3 by decide), if_neg (show ¬ nI 5 = 4 by decide), if_pos (show nI 5 = 5 from rfl)]; rw [i, if_neg (by rw [decide_eq_false k]; decide)]
  · refine Gp_f (t := t) (g := g) ?_ ?_
    · unfold GrpC; rw [if_neg (show ¬ nI 5 = 1 by decide), if_neg (show ¬ nI 5 = 2 by decide), if_neg (show ¬ nI 5 = 3 by decide), if_neg (show ¬ nI 5 = 4 by decide), if_pos (show nI 5 = 5 from rfl)]; rw [if_pos (g10y (by omega) (by omega))]
    · unfold GrpM; rw [if_neg (show ¬ nI 5 = 1 by decide), if_neg (show ¬ nI 5 = 2 by decide), if_neg (show ¬ nI 5 = 3 by decide), if_neg (show ¬ nI 5 = 4 by decide), if_pos (show nI 5 = 5 from rfl)]; rw [i, if_neg (by rw [decide_eq_false (by omega)]; decide)]
theorem Gp6 {t : WT} {g : Nat → Int64} (B : RelW t g) {n : Nat} (hn : 1000 ≤ n) {L M Y N X : Nat} (hL : L < 10) (hM : M < 100) (eX : X = 10 * M + L) : Gp (GrpC n t 6 L M Y X) (GrpM n g 6 L M N X) := by
  obtain ⟨σ, h, E, W⟩ := B
  by_cases k : M < sN σ
  · obtain ⟨t', e1, E'⟩ := W_thaw E h (n := n) (by omega) k (s := L) (by omega)
    obtain ⟨g', e2, W'⟩ := M_breathe W h (n := n) (by omega) k (s := L) (by omega)
    have := cnt_le (gb (sF σ &&& wrm σ M L)) 64
    refine Gp_t (t := t') (g := g') ?_ ?_ ⟨_, WF_thw h M L, E', W'⟩
    · unfold GrpC; rw [if_neg (show ¬ nI 6 = 1 by decide), if_neg (show ¬ nI 6 = 2 by decide), if_neg (show ¬ nI 6 = 3 by decide), if_neg (show ¬ nI 6 = 4 by decide), if_neg (show ¬ nI 6 = 5 by decide), if_pos (show nI 6 = 6 from rfl)]; rw [e1]; exact if_neg (nI_m1 (by omega))
    · unfold GrpM; rw [if_neg (show ¬ nI 6 = 1 by decide), if_neg (show ¬ nI 6 = 2 by decide), if_neg (show ¬ nI 6 = 3 by decide), if_neg (show ¬ nI 6 = 4 by decide), if_neg (show ¬ nI 6 = 5 by decide), if_pos (show nI 6 = 6 from rfl)]; rw [M_has W h (by omega), if_pos (decide_eq_true k), e2]; exact if_neg (nI_pos (by omega))
  · refine Gp_f (t := t) (g := g) ?_ ?_
    · unfold GrpC; rw [if_neg (show ¬ nI 6 = 1 by decide), if_neg (show ¬ nI 6 = 2 by decide), if_neg (show ¬ nI 6 = 3 by decide), if_neg (show ¬ nI 6 = 4 by decide), if_neg (show ¬ nI 6 = 5 by decide), if_pos (show nI 6 = 6 from rfl)]; rw [W_thaw0 E h n (by omega) (by omega) (fun q => k q.1)]; exact cm1 t
    · unfold GrpM; rw [if_neg (show ¬ nI 6 = 1 by decide), if_neg (show ¬ nI 6 = 2 by decide), if_neg (show ¬ nI 6 = 3 by decide), if_neg (show ¬ nI 6 = 4 by decide), if_neg (show ¬ nI 6 = 5 by decide), if_pos (show nI 6 = 6 from rfl)]; rw [M_has W h (by omega), if_neg (by rw [decide_eq_false k]; decide)]
theorem Gp7 {t : WT} {g : Nat → Int64} (B : RelW t g) {n : Nat} (hn : 1000 ≤ n) {L M Y N X : Nat} (hL : L < 10) (hM : M < 100) (eX : X = 10 * M + L) : Gp (GrpC n t 7 L M Y X) (GrpM n g 7 L M N X) := by
  obtain ⟨σ, h, E, W⟩ := B
  have h64 := h.n64
  by_cases k : M < sN σ
  · have fz : f_X4_isFrozen t (nI M) = gb (sF σ) M := by
      show f_X5_holds (w_frozen t) (nI M) = _
      rw [E.2.2.2.2.1, holds_gb (by omega)]
    have c : GrpC n t 7 L M Y X = some ((if gb (sF σ) M = true then decide (L = 1) else decide (L = 0)), t) := by
      unfold GrpC; rw [if_neg (show ¬ nI 7 = 1 by decide), if_neg (show ¬ nI 7 = 2 by decide), if_neg (show ¬ nI 7 = 3 by decide), if_neg (show ¬ nI 7 = 4 by decide), if_neg (show ¬ nI 7 = 5 by decide), if_neg (show ¬ nI 7 = 6 by decide), if_pos (show nI 7 = 7 from rfl)]
      rw [W_has E h (by omega), if_pos (decide_eq_true k), fz]
      cases gb (sF σ) M
      · rw [if_neg (show ¬ false = true by decide), if_neg (show ¬ false = true by decide)]
        by_cases q : L = 0
        · rw [if_pos ((nI0 (by omega)).mpr q), decide_eq_true q]
        · rw [if_neg (fun z => q ((nI0 (by omega)).mp z)), decide_eq_false q]
      · rw [if_pos rfl, if_pos rfl]
        by_cases q : L = 1
        · rw [if_pos (show nI L = 1 from (nI_eq (b := 1) (by omega) (by omega)).mpr q), decide_eq_true q]
        · rw [if_neg (show ¬ nI L = 1 from fun z => q ((nI_eq (b := 1) (by omega) (by omega)).mp z)), decide_eq_false q]
    have d : GrpM n g 7 L M N X = some ((if gb (sF σ) M = true then decide (L = 1) else decide (L = 0)), g) := by
      unfold GrpM; rw [if_neg (show ¬ nI 7 = 1 by decide), if_neg (show ¬ nI 7 = 2 by decide), if_neg (show ¬ nI 7 = 3 by decide), if_neg (show ¬ nI 7 = 4 by decide), if_neg (show ¬ nI 7 = 5 by decide), if_neg (show ¬ nI 7 = 6 by decide), if_pos (show nI 7 = 7 from rfl)]
      rw [M_has W h (by omega), if_pos (decide_eq_true k), W.2.1, has_gb (by omega)]
      by_cases q2 : 2 ≤ L
      · rw [if_pos (g2y q2 (by omega))]
        cases gb (sF σ) M
        · rw [if_neg (show ¬ false = true by decide), decide_eq_false (by omega)]
        · rw [if_pos (show true = true from rfl), decide_eq_false (by omega)]
      · rw [if_neg (g2n (by omega))]
        have l2 : L = 0 ∨ L = 1 := by omega
        rcases l2 with rfl | rfl
        · rw [if_neg (show ¬ nI 0 = 1 by decide)]; cases gb (sF σ) M <;> rfl
        · rw [if_pos (show nI 1 = 1 from rfl)]; cases gb (sF σ) M <;> rfl
    exact ⟨_, t, g, c, d, fun _ => ⟨σ, h, E, W⟩⟩
  · refine Gp_f (t := t) (g := g) ?_ ?_
    · unfold GrpC; rw [if_neg (show ¬ nI 7 = 1 by decide), if_neg (show ¬ nI 7 = 2 by decide), if_neg (show ¬ nI 7 = 3 by decide), if_neg (show ¬ nI 7 = 4 by decide), if_neg (show ¬ nI 7 = 5 by decide), if_neg (show ¬ nI 7 = 6 by decide), if_pos (show nI 7 = 7 from rfl)]; rw [W_has E h (by omega), if_neg (by rw [decide_eq_false k]; decide)]
    · unfold GrpM; rw [if_neg (show ¬ nI 7 = 1 by decide), if_neg (show ¬ nI 7 = 2 by decide), if_neg (show ¬ nI 7 = 3 by decide), if_neg (show ¬ nI 7 = 4 by decide), if_neg (show ¬ nI 7 = 5 by decide), if_neg (show ¬ nI 7 = 6 by decide), if_pos (show nI 7 = 7 from rfl)]; rw [M_has W h (by omega), if_neg (by rw [decide_eq_false k]; decide)]
theorem Gp8 {t : WT} {g : Nat → Int64} (B : RelW t g) {n : Nat} (hn : 1000 ≤ n) {L M Y N X : Nat} (hL : L < 10) (hM : M < 100) (eX : X = 10 * M + L) : Gp (GrpC n t 8 L M Y X) (GrpM n g 8 L M N X) := by
  obtain ⟨σ, h, E, W⟩ := B
  by_cases k : M < sN σ
  · have e1 := W_cold E h (n := n) (by omega) k
    have e2 := M_cold W h k (n := n) (by omega)
    by_cases q : nI L = nI (coldN σ (sF σ) M)
    · refine Gp_t (t := t) (g := g) ?_ ?_ ⟨σ, h, E, W⟩
      · unfold GrpC; rw [if_neg (show ¬ nI 8 = 1 by decide), if_neg (show ¬ nI 8 = 2 by decide), if_neg (show ¬ nI 8 = 3 by decide), if_neg (show ¬ nI 8 = 4 by decide), if_neg (show ¬ nI 8 = 5 by decide), if_neg (show ¬ nI 8 = 6 by decide), if_neg (show ¬ nI 8 = 7 by decide), if_pos (show nI 8 = 8 from rfl)]; rw [W_has E h (by omega), if_pos (decide_eq_true k), e1]; exact if_pos q
      · unfold GrpM; rw [if_neg (show ¬ nI 8 = 1 by decide), if_neg (show ¬ nI 8 = 2 by decide), if_neg (show ¬ nI 8 = 3 by decide), if_neg (show ¬ nI 8 = 4 by decide), if_neg (show ¬ nI 8 = 5 by decide), if_neg (show ¬ nI 8 = 6 by decide), if_neg (show ¬ nI 8 = 7 by decide), if_pos (show nI 8 = 8 from rfl)]; rw [M_has W h (by omega), if_pos (decide_eq_true k), e2]; exact if_pos q.symm
    · refine Gp_f (t := t) (g := g) ?_ ?_
      · unfold GrpC; rw [if_neg (show ¬ nI 8 = 1 by decide), if_neg (show ¬ nI 8 = 2 by decide), if_neg (show ¬ nI 8 = 3 by decide), if_neg (show ¬ nI 8 = 4 by decide), if_neg (show ¬ nI 8 = 5 by decide), if_neg (show ¬ nI 8 = 6 by decide), if_neg (show ¬ nI 8 = 7 by decide), if_pos (show nI 8 = 8 from rfl)]; rw [W_has E h (by omega), if_pos (decide_eq_true k), e1]; exact if_neg q
      · unfold GrpM; rw [if_neg (show ¬ nI 8 = 1 by decide), if_neg (show ¬ nI 8 = 2 by decide), if_neg (show ¬ nI 8 = 3 by decide), if_neg (show ¬ nI 8 = 4 by decide), if_neg (show ¬ nI 8 = 5 by decide), if_neg (show ¬ nI 8 = 6 by decide), if_neg (show ¬ nI 8 = 7 by decide), if_pos (show nI 8 = 8 from rfl)]; rw [M_has W h (by omega), if_pos (decide_eq_true k), e2]; exact if_neg (fun z => q z.symm)
  · refine Gp_f (t := t) (g := g) ?_ ?_
    · unfold GrpC; rw [if_neg (show ¬ nI 8 = 1 by decide), if_neg (show ¬ nI 8 = 2 by decide), if_neg (show ¬ nI 8 = 3 by decide), if_neg (show ¬ nI 8 = 4 by decide), if_neg (show ¬ nI 8 = 5 by decide), if_neg (show ¬ nI 8 = 6 by decide), if_neg (show ¬ nI 8 = 7 by decide), if_pos (show nI 8 = 8 from rfl)]; rw [W_has E h (by omega), if_neg (by rw [decide_eq_false k]; decide)]
    · unfold GrpM; rw [if_neg (show ¬ nI 8 = 1 by decide), if_neg (show ¬ nI 8 = 2 by decide), if_neg (show ¬ nI 8 = 3 by decide), if_neg (show ¬ nI 8 = 4 by decide), if_neg (show ¬ nI 8 = 5 by decide), if_neg (show ¬ nI 8 = 6 by decide), if_neg (show ¬ nI 8 = 7 by decide), if_pos (show nI 8 = 8 from rfl)]; rw [M_has W h (by omega), if_neg (by rw [decide_eq_false k]; decide)]
theorem Gp9 {t : WT} {g : Nat → Int64} (B : RelW t g) {n : Nat} (hn : 1000 ≤ n) {L M Y N X : Nat} (hL : L < 10) (hM : M < 100) (eX : X = 10 * M + L) (hY : Y = X % 100) : Gp (GrpC n t 9 L M Y X) (GrpM n g 9 L M N X) := by
  obtain ⟨σ, h, E, W⟩ := B
  by_cases m : M < 10
  · obtain rfl : Y = X := by omega
    by_cases q : nI (cnt (gb (sF σ)) 64) < nI Y
    · refine Gp_f (t := t) (g := g) ?_ ?_
      · unfold GrpC; rw [if_neg (show ¬ nI 9 = 1 by decide), if_neg (show ¬ nI 9 = 2 by decide), if_neg (show ¬ nI 9 = 3 by decide), if_neg (show ¬ nI 9 = 4 by decide), if_neg (show ¬ nI 9 = 5 by decide), if_neg (show ¬ nI 9 = 6 by decide), if_neg (show ¬ nI 9 = 7 by decide), if_neg (show ¬ nI 9 = 8 by decide), if_pos (show nI 9 = 9 from rfl)]; rw [if_neg (g10n (by omega)), bc_eq, E.2.2.2.2.1, if_pos q]
      · unfold GrpM; rw [if_neg (show ¬ nI 9 = 1 by decide), if_neg (show ¬ nI 9 = 2 by decide), if_neg (show ¬ nI 9 = 3 by decide), if_neg (show ¬ nI 9 = 4 by decide), if_neg (show ¬ nI 9 = 5 by decide), if_neg (show ¬ nI 9 = 6 by decide), if_neg (show ¬ nI 9 = 7 by decide), if_neg (show ¬ nI 9 = 8 by decide), if_pos (show nI 9 = 9 from rfl)]; rw [if_neg (g100n (by omega)), W.2.1, M_bits (by omega)]; exact if_pos q
    · refine Gp_t (t := t) (g := g) ?_ ?_ ⟨σ, h, E, W⟩
      · unfold GrpC; rw [if_neg (show ¬ nI 9 = 1 by decide), if_neg (show ¬ nI 9 = 2 by decide), if_neg (show ¬ nI 9 = 3 by decide), if_neg (show ¬ nI 9 = 4 by decide), if_neg (show ¬ nI 9 = 5 by decide), if_neg (show ¬ nI 9 = 6 by decide), if_neg (show ¬ nI 9 = 7 by decide), if_neg (show ¬ nI 9 = 8 by decide), if_pos (show nI 9 = 9 from rfl)]; rw [if_neg (g10n (by omega)), bc_eq, E.2.2.2.2.1, if_neg q]
      · unfold GrpM; rw [if_neg (show ¬ nI 9 = 1 by decide), if_neg (show ¬ nI 9 = 2 by decide), if_neg (show ¬ nI 9 = 3 by decide), if_neg (show ¬ nI 9 = 4 by decide), if_neg (show ¬ nI 9 = 5 by decide), if_neg (show ¬ nI 9 = 6 by decide), if_neg (show ¬ nI 9 = 7 by decide), if_neg (show ¬ nI 9 = 8 by decide), if_pos (show nI 9 = 9 from rfl)]; rw [if_neg (g100n (by omega)), W.2.1, M_bits (by omega)]; exact if_neg q
  · refine Gp_f (t := t) (g := g) ?_ ?_
    · unfold GrpC; rw [if_neg (show ¬ nI 9 = 1 by decide), if_neg (show ¬ nI 9 = 2 by decide), if_neg (show ¬ nI 9 = 3 by decide), if_neg (show ¬ nI 9 = 4 by decide), if_neg (show ¬ nI 9 = 5 by decide), if_neg (show ¬ nI 9 = 6 by decide), if_neg (show ¬ nI 9 = 7 by decide), if_neg (show ¬ nI 9 = 8 by decide), if_pos (show nI 9 = 9 from rfl)]; rw [if_pos (g10y (by omega) (by omega))]
    · unfold GrpM; rw [if_neg (show ¬ nI 9 = 1 by decide), if_neg (show ¬ nI 9 = 2 by decide), if_neg (show ¬ nI 9 = 3 by decide), if_neg (show ¬ nI 9 = 4 by decide), if_neg (show ¬ nI 9 = 5 by decide), if_neg (show ¬ nI 9 = 6 by decide), if_neg (show ¬ nI 9 = 7 by decide), if_neg (show ¬ nI 9 = 8 by decide), if_pos (show nI 9 = 9 from rfl)]; rw [if_pos (g100y (by omega) (by omega))]
end
theorem grp_both {t : WT} {g : Nat → Int64} (B : RelW t g) {n : Nat} (hn : 1000 ≤ n) (s : MT) {G : Nat} (hG : G < 10000) : Gp (f_X5_succeeds n t (nI G)) (f_X6_command n s g (nI (G / 1000)) (nI (G % 1000))) := by
  obtain ⟨h, X, hh, eh, ex⟩ : ∃ h X, h < 10 ∧ G / 1000 = h ∧ G % 1000 = X := ⟨_, _, by omega, rfl, rfl⟩
  obtain ⟨M, L, hM, hL, eX⟩ : ∃ M L, M < 100 ∧ L < 10 ∧ X = 10 * M + L := ⟨X / 10, X % 10, by omega, by omega, by omega⟩
  have eG : G = 1000 * h + X := by omega
  rw [eh, ex, eG, GrpC_e n t hL hM hh eX, GrpM_e n s g hL hM eX]
  clear eG ex eh hG
  rcases ten hh with rfl | rfl | rfl | rfl | rfl | rfl | rfl | rfl | rfl | rfl
  · exact Gp0
  · exact Gp1 B hn hL hM eX
  · exact Gp2 B hn hL hM eX
  · exact Gp3 B hn hL hM eX rfl
  · exact Gp4 B hn hL hM eX
  · exact Gp5 B hn hL hM eX rfl
  · exact Gp6 B hn hL hM eX
  · exact Gp7 B hn hL hM eX
  · exact Gp8 B hn hL hM eX
  · exact Gp9 B hn hL hM eX rfl
