/-! what comes again -/
def Dis (a : Nat → Int64) (t : Nat) : Prop := ∀ i j, i < j → j < t → ¬ a i = a j
theorem fst_val {p : Nat → Bool} {T : Nat} : ∀ (m i : Nat), (∀ c, i ≤ c → c < T → p c = false) → p T = true → i ≤ T → T < i + m → fst' p m i = nI T
  | 0, i, _, _, h1, h2 => by omega
  | m + 1, i, h0, hT, h1, h2 => by
    rw [fst']
    by_cases q : i = T
    · subst q; rw [if_pos hT]
    · rw [if_neg (by rw [h0 i (Nat.le_refl _) (by omega)]; decide)]
      exact fst_val m (i + 1) (fun c hc => h0 c (by omega)) hT (by omega) (by omega)
theorem fst_none {p : Nat → Bool} : ∀ (m i : Nat), (∀ c, i ≤ c → c < i + m → p c = false) → fst' p m i = -1
  | 0, _, _ => rfl
  | m + 1, i, h0 => by
    rw [fst', if_neg (by rw [h0 i (Nat.le_refl _) (by omega)]; decide)]
    exact fst_none m (i + 1) (fun c hc hc2 => h0 c (by omega) (by omega))
theorem per_sh {a : Nat → Int64} {φ : Int64 → Int64} (ha : ∀ i, a (i + 1) = φ (a i)) {s l : Nat} (e : a (s + l) = a s) : ∀ k, a (s + k + l) = a (s + k)
  | 0 => e
  | k + 1 => by
    have ih := per_sh ha e k
    rw [show s + (k + 1) + l = s + k + l + 1 by omega, ha, ih, ← ha]; rfl
theorem per_mu {a : Nat → Int64} {φ : Int64 → Int64} (ha : ∀ i, a (i + 1) = φ (a i)) {s l : Nat} (e : a (s + l) = a s) (k : Nat) : ∀ q, a (s + (k + l * q)) = a (s + k)
  | 0 => rfl
  | q + 1 => by
    have ih := per_mu ha e k q
    have := per_sh ha e (k + l * q)
    rw [← ih, ← this]
    congr 1
    rw [Nat.mul_succ]; omega
theorem per_no {a : Nat → Int64} {φ : Int64 → Int64} (ha : ∀ i, a (i + 1) = φ (a i)) {s T : Nat} (hs : s < T) (hD : Dis a T) (e : a s = a T) {i j : Nat} (hi : s ≤ i) (hij : i < j) (hj : j < i + (T - s)) : ¬ a i = a j := by
  intro q
  have hl : 0 < T - s := by omega
  have e' : a (s + (T - s)) = a s := by rw [show s + (T - s) = T by omega]; exact e.symm
  have r : ∀ k, s ≤ k → a k = a (s + (k - s) % (T - s)) := fun k hk => by
    have d := Nat.div_add_mod (k - s) (T - s)
    have := per_mu ha e' ((k - s) % (T - s)) ((k - s) / (T - s))
    rw [← this]; congr 1; omega
  rw [r i hi, r j (by omega)] at q
  have b1 := Nat.mod_lt (i - s) hl
  have b2 := Nat.mod_lt (j - s) hl
  have em : (j - s) % (T - s) = (i - s) % (T - s) := by
    rcases Nat.lt_trichotomy ((i - s) % (T - s)) ((j - s) % (T - s)) with z | z | z
    · exact absurd q (hD _ _ (by omega) (by omega))
    · exact z.symm
    · exact absurd q.symm (hD _ _ (by omega) (by omega))
  have := Nat.sub_mod_eq_zero_of_mod_eq em
  rw [show j - s - (i - s) = j - i by omega, Nat.mod_eq_of_lt (by omega)] at this
  omega
-- the class
def lkF (L a : Nat → Int64) (i : Nat) : Nat → Int64 := fun j => if j < i then a j else L j
theorem W_look {w : WT} {σ : Sg} (E : EncW w σ) (h : WF σ) {n : Nat} (hn : 1000 ≤ n) (L : Nat → Int64) : f_X5_lookAhead n w L = some (lkF L (nightI σ (sF σ)) 301) := by
  have hF := h.2.2.2.2.2.2.2.2.1
  unfold f_X5_lookAhead
  rw [E.2.2.2.2.1]
  have := lp_run (fun f i => f_X5_lookAhead_b10 n w f (lkF L (nightI σ (sF σ)) i) (nightI σ (sF σ) i) (nI i)) 301 (some (lkF L (nightI σ (sF σ)) 301))
    (fun f i hi => by
      show f_X5_lookAhead_b10 n w (f + 1) (lkF L (nightI σ (sF σ)) i) (nightI σ (sF σ) i) (nI i) = f_X5_lookAhead_b10 n w f (lkF L (nightI σ (sF σ)) (i + 1)) (night σ (nightI σ (sF σ) i)) (nI (i + 1))
      rw [f_X5_lookAhead_b10_s, if_neg (show ¬ (301 : Int32) ≤ nI i from nI_ge (b := 301) hi (by omega)), if_neg (nI_in hi (by omega)), nI_clamp (by omega), W_after E h (nightI_inW h hF i), nI_succ]
      congr 1
      funext j
      unfold vp_updL lkF
      by_cases q : j = i
      · subst q; rw [if_pos rfl, if_pos (by omega)]
      · rw [if_neg q]
        by_cases q2 : j < i
        · rw [if_pos q2, if_pos (by omega)]
        · rw [if_neg q2, if_neg (by omega)])
    (fun f => by
      show f_X5_lookAhead_b10 n w (f + 1) (lkF L (nightI σ (sF σ)) 301) (nightI σ (sF σ) 301) (nI 301) = _
      rw [f_X5_lookAhead_b10_s, if_pos (by decide)]) n 0 (by omega) (by omega)
  rw [show lkF L (nightI σ (sF σ)) 0 = L from by funext j; unfold lkF; rw [if_neg (by omega)]] at this
  exact this
theorem look_at {L a : Nat → Int64} {i : Nat} (hi : i < 301) : f_X5_look (lkF L a 301) (nI i) = some (a i) := by
  unfold f_X5_look
  rw [if_neg (nI_pos (by omega)), if_neg (show ¬ (301 : Int32) ≤ nI i from nI_ge (b := 301) hi (by omega)), if_neg (nI_in hi (by omega)), nI_clamp (by omega)]
  unfold lkF
  rw [if_pos hi]
theorem W_per {L a : Nat → Int64} (n : Nat) (y : Int64) : ∀ (m f len : Nat), len + m = 301 → 1 ≤ len → m < f → f_X5_period_b10 n (lkF L a 301) y f (nI len) = some (fst' (fun c => decide (a (300 - c) = y)) m len)
  | _, 0, _, _, _, hf => absurd hf (Nat.not_lt_zero _)
  | 0, f + 1, len, hi, _, _ => by
    rw [f_X5_period_b10_s, if_pos (show (300 : Int32) < nI len from nI_lt (a := 300) (by omega) (by omega))]; rfl
  | m + 1, f + 1, len, hi, h1, hf => by
    rw [f_X5_period_b10_s, if_neg (show ¬ (300 : Int32) < nI len from nI_nlt (a := 300) (by omega) (by omega)), show (300 : Int32) - nI len = nI (300 - len) from pk_sub (a := 300) (by omega), look_at (by omega), ob_some, fst']
    by_cases q : a (300 - len) = y
    · rw [if_pos q, if_pos (decide_eq_true q)]
    · rw [if_neg q, if_neg (by rw [decide_eq_false q]; decide), nI_1]
      exact W_per n y m f (len + 1) (by omega) (by omega) (by omega)
theorem W_fop {L a : Nat → Int64} (n : Nat) {p : Nat} (hp : p ≤ 300) : ∀ (m f i : Nat), i + m + p = 301 → m < f → f_X5_firstOfPeriod_b2 n (lkF L a 301) (nI p) f (nI i) = some (fst' (fun c => decide (a c = a (c + p))) m i)
  | _, 0, _, _, hf => absurd hf (Nat.not_lt_zero _)
  | 0, f + 1, i, hi, _ => by
    rw [f_X5_firstOfPeriod_b2_s, nI_add, if_pos (show (300 : Int32) < nI (i + p) from nI_lt (a := 300) (by omega) (by omega))]; rfl
  | m + 1, f + 1, i, hi, hf => by
    rw [f_X5_firstOfPeriod_b2_s, nI_add, if_neg (show ¬ (300 : Int32) < nI (i + p) from nI_nlt (a := 300) (by omega) (by omega)), look_at (by omega), ob_some, look_at (by omega), ob_some, fst']
    by_cases q : a i = a (i + p)
    · rw [if_pos q, if_pos (decide_eq_true q)]
    · rw [if_neg q, if_neg (by rw [decide_eq_false q]; decide), nI_1]
      exact W_fop n hp m f (i + 1) (by omega) (by omega)
-- the reference
def Ans (a : Nat → Int64) (x : Int32) (r : Int32) : Prop := (∃ u T, u < T ∧ T ≤ 300 ∧ Dis a T ∧ a u = a T ∧ r = if x = 0 then nI u else nI (T - u)) ∨ (Dis a 301 ∧ r = -1)
theorem nI_m1 {k : Nat} (hk : k < 2 ^ 31) : ¬ nI k = -1 := fun q => by
  have a := nI_toInt hk
  rw [q] at a
  have b : (-1 : Int32).toInt = -1 := by decide
  omega
theorem W_ag {w : WT} {σ : Sg} (E : EncW w σ) (h : WF σ) {n : Nat} (hn : 1000 ≤ n) (L : Nat → Int64) {x r : Int32} (q : rng x 0 1 = true) (A : Ans (nightI σ (sF σ)) x r) : f_X5_again n w L x = some (.inr (r, lkF L (nightI σ (sF σ)) 301)) := by
  have ha : ∀ i, nightI σ (sF σ) (i + 1) = night σ (nightI σ (sF σ) i) := fun _ => rfl
  have hl := W_look E h hn L
  unfold f_X5_again f_X5_period
  rw [NR_t q, hl]
  generalize nightI σ (sF σ) = a at A ha
  show Option.bind (Option.bind (f_X5_look (lkF L a 301) (nI 300)) (fun r_4 => f_X5_period_b10 n (lkF L a 301) r_4 n (nI 1))) (fun r_3 => (if r_3 = (-1) then (some (Sum.inr (r_3, lkF L a 301))) else (if x = 1 then (some (Sum.inr (r_3, lkF L a 301))) else (f_X5_firstOfPeriod n (lkF L a 301) r_3).bind (fun r_6 => (some (Sum.inr (r_6, lkF L a 301))))))) = _
  rw [look_at (by omega), ob_some, W_per n (a 300) 300 n 1 (by omega) (by omega) (by omega), ob_some]
  rcases A with ⟨u, T, h1, h2, hD, e, rfl⟩ | ⟨hD, rfl⟩
  · have ep : fst' (fun c => decide (a (300 - c) = a 300)) 300 1 = nI (T - u) := by
      refine fst_val 300 1 (fun c hc hc2 => decide_eq_false ?_) (decide_eq_true ?_) (by omega) (by omega)
      · exact per_no ha h1 hD e (i := 300 - c) (j := 300) (by omega) (by omega) (by omega)
      · have := per_sh ha (s := u) (l := T - u) (by rw [show u + (T - u) = T by omega]; exact e.symm) (300 - (T - u) - u)
        rw [show u + (300 - (T - u) - u) + (T - u) = 300 by omega, show u + (300 - (T - u) - u) = 300 - (T - u) by omega] at this
        exact this.symm
    rw [ep, if_neg (nI_m1 (by omega))]
    rcases one_ex q with rfl | rfl
    · rw [if_neg (show ¬ nI 0 = 1 by decide), if_pos (show nI 0 = 0 from rfl)]
      unfold f_X5_firstOfPeriod
      have := W_fop (L := L) (a := a) n (p := T - u) (by omega) (301 - (T - u)) n 0 (by omega) (by omega)
      rw [show f_X5_firstOfPeriod_b2 n (lkF L a 301) (nI (T - u)) n 0 = _ from this, ob_some, fst_val (T := u) (301 - (T - u)) 0 (fun c _ hc => decide_eq_false (hD _ _ (by omega) (by omega))) (decide_eq_true (by rw [show u + (T - u) = T by omega]; exact e)) (by omega) (by omega)]
    · rw [if_pos (show nI 1 = 1 from rfl), if_neg (show ¬ nI 1 = 0 by decide)]
  · rw [fst_none 300 1 (fun c hc hc2 => decide_eq_false (hD _ _ (by omega) (by omega))), if_pos rfl]
