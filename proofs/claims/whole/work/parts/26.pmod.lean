/-! the reference's cells, neighbours, scratches -/
theorem ob_some {α β : Type} (a : α) (f : α → Option β) : Option.bind (some a) f = f a := rfl
theorem lp_run {ρ : Type} (F : Nat → Nat → ρ) (e : Nat) (r : ρ) (hs : ∀ k i, i < e → F (k + 1) i = F k (i + 1)) (he : ∀ k, F (k + 1) e = r) : ∀ n i, i ≤ e → e - i < n → F n i = r
  | 0, _, _, h => absurd h (Nat.not_lt_zero _)
  | n + 1, i, hi, h => by
    by_cases q : i = e
    · subst q; exact he n
    · rw [hs n i (by omega)]; exact lp_run F e r hs he n (i + 1) (by omega) (by omega)
theorem irm_nI {a d : Nat} (ha : a < 2 ^ 31) (h0 : 0 < d) (hd : d < 2 ^ 31) : irm (nI a) (nI d) = nI (a % d) := pk_rem ha h0 hd
theorem dT {α : Type} {b : Bool} (hb : b = true) (x y : α) : (if b = true then x else y) = x := if_pos hb
theorem dF {α : Type} {b : Bool} (hb : b = false) (x y : α) : (if b = true then x else y) = y := if_neg (by rw [hb]; decide)
theorem bsm (p : Prop) [Decidable p] : (if p then some true else some false) = some (decide p) := by
  by_cases h : p
  · rw [if_pos h, decide_eq_true h]
  · rw [if_neg h, decide_eq_false h]
theorem M_R {g : Nat → Int64} {σ : Sg} (E : EncM g σ) : g 0 = lN (sR σ) := E.1 0 (by omega)
theorem M_C {g : Nat → Int64} {σ : Sg} (E : EncM g σ) : g 1 = lN (sC σ) := E.1 1 (by omega)
theorem M_Ru {g : Nat → Int64} {σ : Sg} (E : EncM g σ) : g 2 = lN (sRu σ) := E.1 2 (by omega)
theorem M_Ni {g : Nat → Int64} {σ : Sg} (E : EncM g σ) : g 3 = lN (sNi σ) := E.1 3 (by omega)
theorem M_Sd {g : Nat → Int64} {σ : Sg} (E : EncM g σ) {d : Nat} (hd : d < 4) : g (4 + d) = lN (sSd σ d) := E.1 (4 + d) (by omega)
theorem M_many {g : Nat → Int64} {σ : Sg} (E : EncM g σ) : f_X6_many g = nI (sN σ) := by
  unfold f_X6_many; rw [M_R E, M_C E, lN_mul, lN_i]
theorem M_isCell {g : Nat → Int64} {σ : Sg} (E : EncM g σ) (h : WF σ) (x : Int32) : f_X6_isCell g x = rng x (0 : Nat) ((sN σ - 1 : Nat) : Int) := by
  have n := h.n64
  have n4 := h.n4
  unfold f_X6_isCell
  rw [M_many E, M_in, show (1 : Int32) = nI 1 from rfl, pk_sub (by omega), nI_l (by omega), lN_toInt (by omega)]
  rfl
theorem M_onS {g : Nat → Int64} {σ : Sg} (E : EncM g σ) (h : WF σ) {k d : Nat} (hk : k < sN σ) (hd : d < 4) : f_X6_isOnSide g (nI k) (nI d) = some (onS (sR σ) (sC σ) k d) := by
  have n := h.n64
  have hC1 := h.2.2.1
  have hC2 := h.2.2.2.1
  have hR1 := h.1
  have hR2 := h.2.1
  obtain ⟨q, r, e, hr, em⟩ := qr k (C := sC σ) (by omega)
  have hq : q < sR σ := by rw [e] at hk; exact (qr_lt hr).mp hk
  have hdv : k / sC σ = q := by rw [e, Nat.add_mul_div_left _ _ (by omega), Nat.div_eq_of_lt hr, Nat.zero_add]
  have g1 : (g 1).toInt32 = nI (sC σ) := by rw [M_C E, lN_i]
  have ne : ¬ nI (sC σ) = 0 := fun z => by have := (nI0 (by omega)).mp z; omega
  have o1 : (1 : Int64) = lN 1 := rfl
  unfold f_X6_isOnSide
  rw [g1, if_neg ne, if_neg ne, pk_div (by omega) (by omega) (by omega), irm_nI (by omega) (by omega) (by omega), hdv, em, M_R E, M_C E, o1, lN_sub (by omega), lN_sub (by omega), nI_l (by omega), nI_l (by omega)]
  simp only [bsm]
  rcases four hd with rfl | rfl | rfl | rfl
  · rw [if_pos (show nI 0 = 0 from rfl)]
    congr 1
    show _ = decide (k < sC σ)
    apply decide_eq_decide.mpr
    rw [nI0 (by omega)]
    constructor
    · intro z; subst z; omega
    · intro z
      rcases Nat.eq_zero_or_pos q with z2 | z2
      · exact z2
      · have := Nat.mul_le_mul (Nat.le_refl (sC σ)) z2; omega
  · rw [if_neg (show ¬ nI 1 = 0 by decide), if_neg (show ¬ nI 1 = 2 by decide), if_pos (show nI 1 = 1 from rfl)]
    congr 1
    show _ = decide (k % sC σ = sC σ - 1)
    rw [em]
    exact decide_eq_decide.mpr (lN_eq (by omega) (by omega))
  · rw [if_neg (show ¬ nI 2 = 0 by decide), if_pos (show nI 2 = 2 from rfl)]
    congr 1
    show _ = decide ((sR σ - 1) * sC σ ≤ k)
    apply decide_eq_decide.mpr
    rw [lN_eq (by omega) (by omega)]
    have : r + sC σ * q < (sR σ - 1) * sC σ ↔ q < sR σ - 1 := qr_lt hr
    rw [← e] at this
    omega
  · rw [if_neg (show ¬ nI 3 = 0 by decide), if_neg (show ¬ nI 3 = 2 by decide), if_neg (show ¬ nI 3 = 1 by decide)]
    congr 1
    show _ = decide (k % sC σ = 0)
    rw [em]
    exact decide_eq_decide.mpr (lN_eq (b := 0) (by omega) (by omega))
theorem ix4 {d : Nat} (hd : d < 4) : (4 : Int32) + nI d = nI (4 + d) := nI_add 4 d
theorem M_b33 {g : Nat → Int64} {σ : Sg} (E : EncM g σ) (h : WF σ) {k d : Nat} (hk : k < sN σ) (hd : d < 4) {z0 : Int32} {z : Int} (hz : z0 = Int32.ofInt z) (hs : 0 ≤ z0 ↔ 0 ≤ z) : f_X6_neighbourOf_b33 g (nI k) (nI d) (nI (sC σ)) z0 = some (if onS (sR σ) (sC σ) k d = true then (if sSd σ d = 2 then Int32.ofInt ((k : Int) + z + (if 0 ≤ z then -(((if d % 2 = 0 then sN σ else sC σ) : Nat) : Int) else (((if d % 2 = 0 then sN σ else sC σ) : Nat) : Int))) else -1) else Int32.ofInt ((k : Int) + z)) := by
  have hS := h.2.2.2.2.2.1 d hd
  unfold f_X6_neighbourOf_b33
  rw [M_onS E h hk hd, ob_some]
  show (if onS (sR σ) (sC σ) k d = true then _ else _) = _
  by_cases ho : onS (sR σ) (sC σ) k d = true
  · rw [if_pos ho, if_pos ho, ix4 hd, if_neg (nI_in (show 4 + d < 11 by omega) (by omega)), nI_clamp (by omega), M_Sd E hd, show (2 : Int64) = lN 2 from rfl, show (2 : Int32) = nI 2 from rfl, irm_nI (by omega) (by omega) (by omega), M_many E, hz]
    rw [hz] at hs
    by_cases j : sSd σ d = 2
    · rw [if_pos ((lN_eq (by omega) (by omega)).mpr j), if_pos j]
      by_cases p : d % 2 = 0
      · rw [if_pos ((nI0 (by omega)).mpr p), if_pos p]
        by_cases s : 0 ≤ z
        · rw [if_pos (hs.mpr s), if_pos s, nI_z, nI_z, ← Int32.ofInt_neg, ← Int32.ofInt_add, ← Int32.ofInt_add]
        · rw [if_neg (fun q => s (hs.mp q)), if_neg s, nI_z, nI_z, ← Int32.ofInt_add, ← Int32.ofInt_add]
      · rw [if_neg (fun q => p ((nI0 (by omega)).mp q)), if_neg p]
        by_cases s : 0 ≤ z
        · rw [if_pos (hs.mpr s), if_pos s, nI_z, nI_z, ← Int32.ofInt_neg, ← Int32.ofInt_add, ← Int32.ofInt_add]
        · rw [if_neg (fun q => s (hs.mp q)), if_neg s, nI_z, nI_z, ← Int32.ofInt_add, ← Int32.ofInt_add]
    · rw [if_neg (fun q => j ((lN_eq (by omega) (by omega)).mp q)), if_neg j]
  · rw [if_neg ho, if_neg ho, hz, nI_z, ← Int32.ofInt_add]
theorem negC {C : Nat} (h1 : 2 ≤ C) (h2 : C ≤ 8) : (0 ≤ -(nI C) ↔ (0 : Int) ≤ -(C : Int)) := by
  rcases rows7 h1 h2 with rfl | rfl | rfl | rfl | rfl | rfl | rfl <;> decide
theorem M_nbr {g : Nat → Int64} {σ : Sg} (E : EncM g σ) (h : WF σ) {k d : Nat} (hk : k < sN σ) (hd : d < 4) : f_X6_neighbourOf g (nI k) (nI d) = some (optI (nbr σ k d)) := by
  have hm := mulR σ h
  have hC1 := h.2.2.1
  have hC2 := h.2.2.2.1
  have g1 : (g 1).toInt32 = nI (sC σ) := by rw [M_C E, lN_i]
  have hml := Nat.mod_lt k (show 0 < sC σ by omega)
  have hdm := Nat.div_add_mod k (sC σ)
  have hk1 : d = 3 → ¬ onS (sR σ) (sC σ) k d = true → 1 ≤ k := by
    intro e ho; subst e
    simp only [onS, decide_eq_true_eq] at ho
    rcases Nat.eq_zero_or_pos k with q | q
    · subst q; exact absurd (Nat.zero_mod _) ho
    · exact q
  unfold f_X6_neighbourOf
  rw [g1]
  rcases four hd with rfl | rfl | rfl | rfl
  · rw [if_pos (show nI 0 = 0 from rfl), M_b33 E h hk hd (z := -(sC σ : Int)) (by rw [Int32.ofInt_neg, nI_z]) (negC hC1 hC2)]
    congr 1; unfold nbr
    by_cases ho : onS (sR σ) (sC σ) k 0 = true
    · rw [if_pos ho, if_pos ho]
      by_cases j : sSd σ 0 = 2
      · rw [if_pos j, if_pos j, if_neg (show ¬ (0 : Int) ≤ -(sC σ : Int) by omega), if_pos (show 0 % 2 = 0 from rfl)]
        show _ = nI _
        rw [nI_z]; congr 1
        simp only [onS, acr, decide_eq_true_eq] at ho ⊢; omega
      · rw [if_neg j, if_neg j]; rfl
    · rw [if_neg ho, if_neg ho]
      show _ = nI _
      rw [nI_z]; congr 1
      simp only [onS, stp, decide_eq_true_eq] at ho ⊢; omega
  · rw [if_neg (show ¬ nI 1 = 0 by decide), if_pos (show nI 1 = 1 from rfl), M_b33 E h hk hd (z0 := 1) (z := 1) rfl (by decide)]
    congr 1; unfold nbr
    by_cases ho : onS (sR σ) (sC σ) k 1 = true
    · rw [if_pos ho, if_pos ho]
      by_cases j : sSd σ 1 = 2
      · rw [if_pos j, if_pos j, if_pos (show (0 : Int) ≤ 1 by omega), if_neg (show ¬ 1 % 2 = 0 by decide)]
        show _ = nI _
        rw [nI_z]; congr 1
        simp only [onS, acr, decide_eq_true_eq] at ho ⊢; omega
      · rw [if_neg j, if_neg j]; rfl
    · rw [if_neg ho, if_neg ho]
      show _ = nI _
      rw [nI_z]; congr 1
  · rw [if_neg (show ¬ nI 2 = 0 by decide), if_neg (show ¬ nI 2 = 1 by decide), if_pos (show nI 2 = 2 from rfl), M_b33 E h hk hd (z := (sC σ : Int)) (nI_z _) (by constructor <;> intro _; omega; exact nI_pos' (by omega))]
    congr 1; unfold nbr
    by_cases ho : onS (sR σ) (sC σ) k 2 = true
    · rw [if_pos ho, if_pos ho]
      by_cases j : sSd σ 2 = 2
      · rw [if_pos j, if_pos j, if_pos (show (0 : Int) ≤ (sC σ : Int) by omega), if_pos (show 2 % 2 = 0 from rfl)]
        show _ = nI _
        rw [nI_z]; congr 1
        simp only [onS, acr, decide_eq_true_eq] at ho ⊢; omega
      · rw [if_neg j, if_neg j]; rfl
    · rw [if_neg ho, if_neg ho]
      show _ = nI _
      rw [nI_z]; congr 1
  · rw [if_neg (show ¬ nI 3 = 0 by decide), if_neg (show ¬ nI 3 = 1 by decide), if_neg (show ¬ nI 3 = 2 by decide), M_b33 E h hk hd (z0 := -1) (z := -1) rfl (by decide)]
    congr 1; unfold nbr
    by_cases ho : onS (sR σ) (sC σ) k 3 = true
    · rw [if_pos ho, if_pos ho]
      by_cases j : sSd σ 3 = 2
      · rw [if_pos j, if_pos j, if_neg (show ¬ (0 : Int) ≤ -1 by omega), if_neg (show ¬ 3 % 2 = 0 by decide)]
        show _ = nI _
        rw [nI_z]; congr 1
        simp only [onS, acr, decide_eq_true_eq] at ho ⊢; omega
      · rw [if_neg j, if_neg j]; rfl
    · have k1 := hk1 rfl ho
      rw [if_neg ho, if_neg ho]
      show _ = nI _
      rw [nI_z]; congr 1
      simp only [onS, stp, decide_eq_true_eq] at ho ⊢; omega
theorem M_ice {g : Nat → Int64} {σ : Sg} (E : EncM g σ) (h : WF σ) {k d : Nat} (hk : k < sN σ) (hd : d < 4) : f_X6_isIce g (nI k) (nI d) = some (ice σ k d) := by
  have hS := h.2.2.2.2.2.1 d hd
  unfold f_X6_isIce
  rw [M_onS E h hk hd, ob_some]
  show (if onS (sR σ) (sC σ) k d = true then _ else _) = _
  unfold ice
  by_cases ho : onS (sR σ) (sC σ) k d = true
  · rw [if_pos ho, ix4 hd, if_neg (nI_in (show 4 + d < 11 by omega) (by omega)), nI_clamp (by omega), M_Sd E hd, bsm, ho, Bool.true_and]
    congr 1
    exact decide_eq_decide.mpr (lN_eq (b := 1) (by omega) (by omega))
  · rw [if_neg ho]
    have : onS (sR σ) (sC σ) k d = false := by cases q : onS (sR σ) (sC σ) k d; rfl; exact absurd q ho
    rw [this]; rfl
def kOf (d : Nat) : Nat := if d % 2 = 0 then 10 else 9
theorem M_kOf {d : Nat} (hd : d < 4) : f_X6_kindOf (nI d) = nI (kOf d) := by
  rcases four hd with rfl | rfl | rfl | rfl <;> decide
theorem kOf_lt (d : Nat) : kOf d < 11 := by unfold kOf; split <;> omega
theorem M_sct {g : Nat → Int64} {σ : Sg} (E : EncM g σ) (d : Nat) : g (kOf d) = sct σ d := by
  unfold kOf sct
  by_cases p : d % 2 = 0
  · rw [if_pos p, if_pos p]; exact E.2.2.2
  · rw [if_neg p, if_neg p]; exact E.2.2.1
theorem M_own {g : Nat → Int64} {σ : Sg} (E : EncM g σ) (h : WF σ) {k d j : Nat} (hk : k < sN σ) (hd : d < 4) (e : nbr σ k d = some j) : f_X6_ownerOf g (nI k) (nI d) = some (nI (own k j d)) := by
  unfold f_X6_ownerOf
  rw [M_nbr E h hk hd, e]
  rcases four hd with rfl | rfl | rfl | rfl <;> rfl
theorem own_lt {k j d N : Nat} (hk : k < N) (hj : j < N) : own k j d < N := by unfold own; split <;> assumption
theorem M_scr {g : Nat → Int64} {σ : Sg} (E : EncM g σ) (h : WF σ) {k d : Nat} (hk : k < sN σ) (hd : d < 4) : f_X6_isScratched g (nI k) (nI d) = some (scr σ k d) := by
  have n := h.n64
  unfold f_X6_isScratched
  rw [M_nbr E h hk hd, ob_some]
  show (if optI (nbr σ k d) = -1 then _ else _) = _
  unfold scr
  cases e : nbr σ k d with
  | none => exact if_pos rfl
  | some j =>
    have hj := nbr_lt h hk hd e
    rw [if_neg (fun q => nomatch (optI_m1 (o := some j) (fun i q => by cases q; omega)).mp q), M_kOf hd, if_neg (nI_in (kOf_lt d) (by omega)), M_own E h hk hd e, ob_some, nI_clamp (by have := kOf_lt d; omega), M_sct E, has_gb (by have := own_lt (d := d) hk hj; omega), bsm]
    show some (decide _) = some (gb _ _)
    cases gb (sct σ d) (own k j d) <;> rfl
theorem M_nxt {g : Nat → Int64} {σ : Sg} (E : EncM g σ) (h : WF σ) {k d : Nat} (hk : k < sN σ) (hd : d < 4) : f_X6_next g (nI k) (nI d) = some (optI (nxt σ k d)) := by
  unfold f_X6_next
  rw [M_scr E h hk hd, ob_some]
  show (if scr σ k d = true then _ else _) = _
  unfold nxt
  by_cases q : scr σ k d = true
  · rw [if_pos q, if_pos q]; rfl
  · rw [if_neg q, if_neg q, M_nbr E h hk hd, ob_some]
theorem nxt_lt {σ : Sg} (h : WF σ) {k d j : Nat} (hk : k < sN σ) (hd : d < 4) (e : nxt σ k d = some j) : j < sN σ := by
  unfold nxt at e
  split at e
  · cases e
  · exact nbr_lt h hk hd e
