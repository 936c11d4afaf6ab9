/-! which scratch would keep a cell clear -/
def stB (τ : Sg) (k : Nat) : Nat → Nat → Bool
  | 0, _ => true
  | m + 1, i => if gb (nightI τ (sF τ) (i + 1)) k = true then false else stB τ k m (i + 1)
theorem W_st {t : WT} {τ : Sg} (E : EncW t τ) (h : WF τ) (n : Nat) {k v : Nat} (hk : k < sN τ) (hv : v < 2 ^ 31) : ∀ (m f i : Nat), i + m = v → m < f → f_X4_staysClear_b8 n t (nI k) (nI v) f (nightI τ (sF τ) i) (nI i) = some (stB τ k m i)
  | _, 0, _, _, hf => absurd hf (Nat.not_lt_zero _)
  | 0, f + 1, i, hi, _ => by
    rw [f_X4_staysClear_b8_s, if_pos (nI_le (by omega) (by omega))]; rfl
  | m + 1, f + 1, i, hi, hf => by
    have n64 := h.n64
    rw [f_X4_staysClear_b8_s, if_neg (nI_ge (by omega) (by omega)), W_after E h (nightI_inW h h.2.2.2.2.2.2.2.2.1 i), holds_gb (by omega), stB]
    show (if gb (nightI τ (sF τ) (i + 1)) k = true then _ else f_X4_staysClear_b8 n t (nI k) (nI v) f (nightI τ (sF τ) (i + 1)) _) = _
    by_cases q : gb (nightI τ (sF τ) (i + 1)) k = true
    · rw [if_pos q, if_pos q]
    · rw [if_neg q, if_neg q, nI_1]
      exact W_st E h n hk hv m f (i + 1) (by omega) (by omega)
/-- the first from a number on -/
def fst' (p : Nat → Bool) : Nat → Nat → Int32
  | 0, _ => -1
  | m + 1, i => if p i = true then nI i else fst' p m (i + 1)
theorem fst_eq {p q : Nat → Bool} (h1 : ∀ c, q c = true → p c = true) : ∀ (m i : Nat), (∀ c, c < i → p c = false) → (∀ c, c < i + m → p c = true → q c = true ∨ ∃ c', c' < c ∧ p c' = true) → fst' p m i = fst' q m i
  | 0, _, _, _ => rfl
  | m + 1, i, h2, h3 => by
    rw [fst', fst']
    by_cases a : p i = true
    · rcases h3 i (by omega) a with b | ⟨c', hc, b⟩
      · rw [if_pos a, if_pos b]
      · rw [h2 c' hc] at b; cases b
    · have b : ¬ q i = true := fun z => a (h1 i z)
      rw [if_neg a, if_neg b]
      exact fst_eq h1 m (i + 1) (fun c hc => by
        by_cases e : c = i
        · rw [e]; cases z : p i; rfl; exact absurd z a
        · exact h2 c (by omega)) (fun c hc z => h3 c (by omega) z)
def kGood (σ : Sg) (k v : Nat) (c : Nat) : Bool := match nxt σ (c / 4) (c % 4) with
  | none => false
  | some j => stB (scp σ (c / 4) j (c % 4)) k v 0
def kGood2 (σ : Sg) (k v : Nat) (c : Nat) : Bool := match nxt σ (c / 4) (c % 4) with
  | none => false
  | some j => decide (c / 4 < j) && stB (scp σ (c / 4) j (c % 4)) k v 0
theorem nxt_nbr {σ : Sg} {k d j : Nat} (e : nxt σ k d = some j) : nbr σ k d = some j := by
  unfold nxt at e
  split at e
  · cases e
  · exact e
theorem nbr_ne {σ : Sg} (h : WF σ) {k d j : Nat} (hk : k < sN σ) (hd : d < 4) (e : nbr σ k d = some j) : ¬ j = k := by
  intro q
  subst q
  have hm := mulR σ h
  obtain ⟨h1, h2, h3, h4, -⟩ := h
  have hp : sC σ ≤ (sR σ - 1) * sC σ := by
    have := Nat.mul_le_mul (show 1 ≤ sR σ - 1 by omega) (Nat.le_refl (sC σ))
    omega
  unfold nbr at e
  split at e
  · next ho =>
    split at e
    · have e := Option.some.inj e
      rcases four hd with rfl | rfl | rfl | rfl <;> simp only [onS, acr, decide_eq_true_eq] at ho e
      · omega
      · have := Nat.mod_le j (sC σ); omega
      · omega
      · omega
    · cases e
  · next ho =>
    have e := Option.some.inj e
    rcases four hd with rfl | rfl | rfl | rfl <;> simp only [onS, stp, decide_eq_true_eq] at ho e
    · omega
    · omega
    · omega
    · rcases Nat.eq_zero_or_pos j with z | z
      · subst z; exact ho (Nat.zero_mod _)
      · omega
theorem scp_mut (σ : Sg) (k j : Nat) {d : Nat} (hd : d < 4) : scp σ j k (opp d) = scp σ k j d := by
  unfold scp
  rw [own_mut k j hd]
  have : opp d % 2 = d % 2 := by rcases four hd with rfl | rfl | rfl | rfl <;> rfl
  rw [this]
theorem kGood_eq {σ : Sg} (h : WF σ) (k v : Nat) : fst' (kGood σ k v) (4 * sN σ) 0 = fst' (kGood2 σ k v) (4 * sN σ) 0 := by
  refine fst_eq (fun c z => ?_) _ _ (fun c hc => absurd hc (Nat.not_lt_zero c)) (fun c hc z => ?_)
  · unfold kGood2 at z
    unfold kGood
    cases e : nxt σ (c / 4) (c % 4) with
    | none => rw [e] at z; cases z
    | some j =>
      rw [e] at z
      have z : (decide (c / 4 < j) && stB (scp σ (c / 4) j (c % 4)) k v 0) = true := z
      rw [Bool.and_eq_true] at z
      exact z.2
  · unfold kGood at z
    cases e : nxt σ (c / 4) (c % 4) with
    | none => rw [e] at z; cases z
    | some j =>
      rw [e] at z
      have z : stB (scp σ (c / 4) j (c % 4)) k v 0 = true := z
      have hk : c / 4 < sN σ := by omega
      have hd : c % 4 < 4 := Nat.mod_lt _ (by omega)
      have ne := nbr_ne h hk hd (nxt_nbr e)
      by_cases q : c / 4 < j
      · refine .inl ?_
        unfold kGood2
        rw [e]
        show (decide (c / 4 < j) && stB (scp σ (c / 4) j (c % 4)) k v 0) = true
        rw [decide_eq_true q, z]; rfl
      · refine .inr ⟨4 * j + opp (c % 4), ?_, ?_⟩
        · have := opp_lt (c % 4); omega
        · have o := opp_lt (c % 4)
          have d1 : (4 * j + opp (c % 4)) / 4 = j := by omega
          have d2 : (4 * j + opp (c % 4)) % 4 = opp (c % 4) := by omega
          unfold kGood
          rw [d1, d2, nxt_mut h hk hd e]
          show stB (scp σ j (c / 4) (opp (c % 4))) k v 0 = true
          rw [scp_mut σ _ _ hd]; exact z
theorem xor_twice (x b : Int64) : x ^^^ b ^^^ b = x := gb_ext (fun i _ => by rw [gb_xor, gb_xor]; cases gb x i <;> cases gb b i <;> rfl)
theorem scp_twice (σ : Sg) (k j d : Nat) : scp (scp σ k j d) k j d = σ := by
  unfold scp
  by_cases q : d % 2 = 0
  · rw [if_pos q, if_pos q]
    show setY (setY σ (sY σ ^^^ jsl 1 (nI (own k j d)))) ((sY σ ^^^ jsl 1 (nI (own k j d))) ^^^ jsl 1 (nI (own k j d))) = σ
    rw [xor_twice]; rfl
  · rw [if_neg q, if_neg q]
    show setX (setX σ (sX σ ^^^ jsl 1 (nI (own k j d)))) ((sX σ ^^^ jsl 1 (nI (own k j d))) ^^^ jsl 1 (nI (own k j d))) = σ
    rw [xor_twice]; rfl
theorem W_can {w : WT} {σ : Sg} (E : EncW w σ) (h : WF σ) {k d : Nat} (hk : k < sN σ) (hd : d < 4) : f_X5_canBeTried w (nI k) (nI d) = (match nxt σ k d with | none => false | some j => decide (k < j)) := by
  have n64 := h.n64
  unfold f_X5_canBeTried
  rw [W_beside E h hk hd, W_scr E h hk hd]
  unfold nxt
  cases e : nbr σ k d with
  | none =>
    have e2 : scr σ k d = false := by unfold scr; rw [e]
    rw [if_pos (show optI none ≤ nI k by rw [i_le, nI_toInt (by omega)]; show (-1 : Int32).toInt ≤ _; have : (-1 : Int32).toInt = -1 := by decide
                                         omega), e2]
    rfl
  | some j =>
    have hj := nbr_lt h hk hd e
    show (if nI j ≤ nI k then false else _) = _
    by_cases q : j ≤ k
    · rw [if_pos (nI_le q (by omega))]
      cases scr σ k d
      · show false = decide (k < j); rw [decide_eq_false (by omega)]
      · rfl
    · rw [if_neg (nI_ge (by omega) (by omega))]
      cases scr σ k d
      · show true = decide (k < j); rw [decide_eq_true (by omega)]
      · rfl
theorem W_would {t : WT} {σ : Sg} (E : EncW t σ) (h : WF σ) {n : Nat} (hn : 1000 ≤ n) {k v a d j : Nat} (hk : k < sN σ) (hv : v ≤ 20) (ha : a < sN σ) (hd : d < 4) (e : nbr σ a d = some j) : ∃ t', f_X5_wouldKeep n t (nI a) (nI d) (nI k) (nI v) = some (stB (scp σ a j d) k v 0, t') ∧ EncW t' σ := by
  have hj := nbr_lt h ha hd e
  have hw := WF_scp h (d := d) ha hj
  have hN := scp_N σ a j d
  obtain ⟨t1, e1, E1⟩ := W_scrape E h ha hd e
  obtain ⟨t2, e2, E2⟩ := W_scrape E1 hw (k := a) (d := d) (j := j) (by omega) hd (by rw [scp_nbr]; exact e)
  rw [scp_twice] at E2
  refine ⟨t2, ?_, E2⟩
  unfold f_X5_wouldKeep
  rw [e1]
  show Option.bind (f_X4_staysClear_b8 n t1 (nI k) (nI v) n (w_frozen t1) (nI 0)) (fun r_2 => lt_ (f_X4_scrape t1 (nI a) (nI d)) (fun r_3 => some (r_2, r_3.2))) = _
  have := W_st E1 hw n (k := k) (v := v) (by omega) (by omega) v n 0 (by omega) (by omega)
  rw [E1.2.2.2.2.1]
  show Option.bind (f_X4_staysClear_b8 n t1 (nI k) (nI v) n (nightI (scp σ a j d) (sF (scp σ a j d)) 0) (nI 0)) _ = _
  rw [this, e2]; rfl
theorem W_keep {w : WT} {σ : Sg} (E : EncW w σ) (h : WF σ) {n : Nat} (hn : 1000 ≤ n) {k v : Nat} (hk : k < sN σ) (hv : v ≤ 20) : ∀ (m a d fo fi : Nat) (t : WT), EncW t σ → a < sN σ → d < 4 → 4 * a + d + m + 1 = 4 * sN σ → sN σ ≤ fo + a → 4 < fi + d → ∃ t', f_X5_keeps_b44 n w (nI k) (nI v) (nI (sN σ)) (nI a) (f_X5_keeps_b35 n w (nI k) (nI v) (nI (sN σ)) fo) fi t (nI d) = some (.inr (fst' (kGood2 σ k v) (m + 1) (4 * a + d), t')) := by
  have n64 := h.n64
  intro m
  induction m with
  | zero =>
    intro a d fo fi t Et ha hd hm hfo hfi
    have d3 : d = 3 := by omega
    have aN : a + 1 = sN σ := by omega
    subst d3
    obtain ⟨fi', rfl⟩ : ∃ fi', fi = fi' + 2 := ⟨fi - 2, by omega⟩
    obtain ⟨fo', rfl⟩ : ∃ fo', fo = fo' + 1 := ⟨fo - 1, by omega⟩
    have fin : ∀ t : WT, f_X5_keeps_b44 n w (nI k) (nI v) (nI (sN σ)) (nI a) (f_X5_keeps_b35 n w (nI k) (nI v) (nI (sN σ)) (fo' + 1)) (fi' + 1) t (nI 3 + 1) = some (.inr (-1, t)) := by
      intro t
      rw [f_X5_keeps_b44_s, if_pos (by decide), f_X5_keeps_b35_s, nI_1, if_pos (nI_le (by omega) (by omega))]
    rw [f_X5_keeps_b44_s, if_neg (by decide), W_can E h ha hd, fst', fst']
    have c1 : (4 * a + 3) / 4 = a := by omega
    have c2 : (4 * a + 3) % 4 = 3 := by omega
    unfold kGood2
    rw [c1, c2]
    cases e : nxt σ a 3 with
    | none =>
      rw [if_neg (show ¬ false = true by decide), if_neg (show ¬ false = true by decide)]
      exact ⟨t, fin t⟩
    | some j =>
      show ∃ t', (if decide (a < j) = true then _ else _) = some (Sum.inr (if (decide (a < j) && stB (scp σ a j 3) k v 0) = true then _ else _, t'))
      by_cases q : a < j
      · obtain ⟨t2, e2, E2⟩ := W_would Et h hn hk hv ha hd (nxt_nbr e)
        rw [decide_eq_true q, if_pos rfl, e2, ob_some, Bool.true_and]
        by_cases z : stB (scp σ a j 3) k v 0 = true
        · rw [if_pos z, if_pos z]
          exact ⟨t2, by rw [show (4 : Int32) * nI a = nI (4 * a) from pk_mul 4 a, nI_add]⟩
        · rw [if_neg z, if_neg z]; exact ⟨t2, fin t2⟩
      · rw [decide_eq_false q, if_neg (by decide), Bool.false_and, if_neg (by decide)]
        exact ⟨t, fin t⟩
  | succ m ih =>
    intro a d fo fi t Et ha hd hm hfo hfi
    obtain ⟨fi', rfl⟩ : ∃ fi', fi = fi' + 2 := ⟨fi - 2, by omega⟩
    have fin : ∀ t : WT, EncW t σ → ∃ t', f_X5_keeps_b44 n w (nI k) (nI v) (nI (sN σ)) (nI a) (f_X5_keeps_b35 n w (nI k) (nI v) (nI (sN σ)) fo) (fi' + 1) t (nI d + 1) = some (.inr (fst' (kGood2 σ k v) (m + 1) (4 * a + d + 1), t')) := by
      intro t Et
      by_cases d3 : d = 3
      · subst d3
        obtain ⟨fo', rfl⟩ : ∃ fo', fo = fo' + 1 := ⟨fo - 1, by omega⟩
        rw [f_X5_keeps_b44_s, if_pos (by decide), f_X5_keeps_b35_s, nI_1, if_neg (nI_ge (by omega) (by omega))]
        exact ih (a + 1) 0 fo' n t Et (by omega) (by omega) (by omega) (by omega) (by omega)
      · rw [nI_1]
        exact ih a (d + 1) fo (fi' + 1) t Et ha (by omega) (by omega) hfo (by omega)
    have c1 : (4 * a + d) / 4 = a := by omega
    have c2 : (4 * a + d) % 4 = d := by omega
    rw [f_X5_keeps_b44_s, if_neg (show ¬ (3 : Int32) < nI d from nI_nlt (a := 3) (by omega) (by omega)), W_can E h ha hd, fst']
    unfold kGood2
    rw [c1, c2]
    unfold kGood2 at fin
    cases e : nxt σ a d with
    | none =>
      rw [if_neg (show ¬ false = true by decide), if_neg (show ¬ false = true by decide)]
      exact fin t Et
    | some j =>
      show ∃ t', (if decide (a < j) = true then _ else _) = some (Sum.inr (if (decide (a < j) && stB (scp σ a j d) k v 0) = true then _ else _, t'))
      by_cases q : a < j
      · obtain ⟨t2, e2, E2⟩ := W_would Et h hn hk hv ha hd (nxt_nbr e)
        rw [decide_eq_true q, if_pos rfl, e2, ob_some, Bool.true_and]
        by_cases z : stB (scp σ a j d) k v 0 = true
        · rw [if_pos z, if_pos z]
          exact ⟨t2, by rw [show (4 : Int32) * nI a = nI (4 * a) from pk_mul 4 a, nI_add]⟩
        · rw [if_neg z, if_neg z]; exact fin t2 E2
      · rw [decide_eq_false q, if_neg (by decide), Bool.false_and, if_neg (by decide)]
        exact fin t Et
