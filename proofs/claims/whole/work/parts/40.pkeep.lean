/-! which scratch would keep a cell clear -/
def stB (τ : Sg) (k : Nat) : Nat → Nat → Bool
  | 0, _ => true
  | m + 1, i => if gb (nightI τ (sF τ) (i + 1)) k = true then false else stB τ k m (i + 1)
theorem W_st {t : WT} {τ : Sg} (E : EncW t τ) (h : WF τ) (n : Nat) {k v : Nat} (hk : k < sN τ) (hv : v < 2 ^ 31) : ∀ (m f i : Nat), i + m = v → m < f → f_X4_staysClear_b8 n t (nI k) (nI v) f (nightI τ (sF τ) i) (nI i) = some (stB τ k m i)
  | _, 0, _, _, hf => absurd hf (Nat.not_lt_zero _)
  | 0, f + 1, i, hi, _ => by
    rw [f_X4_staysClear_b8_s, if_pos (nI_le (by omega) (by omega))]; rfl
  | m + 1, f + 1, i, hi, hf => by
    have n64 := h.n64
    rw [f_X4_staysClear_b8_s, if_neg (nI_ge (by omega) (by omega)), W_after E h (nightI_inW h h.2.2.2.2.2.2.2.2.1 i), holds_gb (by omega), stB]
    show (if gb (nightI τ (sF τ) (i + 1)) k = true then _ else f_X4_staysClear_b8 n t (nI k) (nI v) f (nightI τ (sF τ) (i + 1)) _) = _
    by_cases q : gb (nightI τ (sF τ) (i + 1)) k = true
    · rw [if_pos q, if_pos q]
    · rw [if_neg q, if_neg q, nI_1]
      exact W_st E h n hk hv m f (i + 1) (by omega) (by omega)
theorem M_st {T : Nat → Int64} {τ : Sg} (M : EncM T τ) (h : WF τ) {n : Nat} (hn : 100 ≤ n) {k v : Nat} (hk : k < sN τ) (hv : v < 2 ^ 31) : ∀ (m f i : Nat), i + m = v → m < f → ∃ T', f_X6_staysClear_b2 n (nI k) (nI v) f (vp_updL T 8 (nightI τ (sF τ) i)) (nI i) = some (stB τ k m i, T')
  | _, 0, _, _, hf => absurd hf (Nat.not_lt_zero _)
  | 0, f + 1, i, hi, _ => by
    rw [f_X6_staysClear_b2_s, if_pos (nI_le (by omega) (by omega))]; exact ⟨_, rfl⟩
  | m + 1, f + 1, i, hi, hf => by
    have n64 := h.n64
    rw [f_X6_staysClear_b2_s, if_neg (nI_ge (by omega) (by omega)), M_night2 M h hn (nightI_inW h h.2.2.2.2.2.2.2.2.1 i), ob_some, pk_uLs, has_gb (by omega), stB]
    show ∃ T', (if gb (nightI τ (sF τ) (i + 1)) k = true then _ else f_X6_staysClear_b2 n (nI k) (nI v) f (vp_updL T 8 (nightI τ (sF τ) (i + 1))) _) = _
    by_cases q : gb (nightI τ (sF τ) (i + 1)) k = true
    · rw [if_pos q, if_pos q]; exact ⟨_, rfl⟩
    · rw [if_neg q, if_neg q, nI_1]
      exact M_st M h hn hk hv m f (i + 1) (by omega) (by omega)
/-- the first from a number on -/
def fst' (p : Nat → Bool) : Nat → Nat → Int32
  | 0, _ => -1
  | m + 1, i => if p i = true then nI i else fst' p m (i + 1)
theorem fst_eq {p q : Nat → Bool} (h1 : ∀ c, q c = true → p c = true) : ∀ (m i : Nat), (∀ c, c < i → p c = false) → (∀ c, c < i + m → p c = true → q c = true ∨ ∃ c', c' < c ∧ p c' = true) → fst' p m i = fst' q m i
  | 0, _, _, _ => rfl
  | m + 1, i, h2, h3 => by
    rw [fst', fst']
    by_cases a : p i = true
    · rcases h3 i (by omega) a with b | ⟨c', hc, b⟩
      · rw [if_pos a, if_pos b]
      · rw [h2 c' hc] at b; cases b
    · have b : ¬ q i = true := fun z => a (h1 i z)
      rw [if_neg a, if_neg b]
      exact fst_eq h1 m (i + 1) (fun c hc => by
        by_cases e : c = i
        · rw [e]; cases z : p i; rfl; exact absurd z a
        · exact h2 c (by omega)) (fun c hc z => h3 c (by omega) z)
def kGood (σ : Sg) (k v : Nat) (c : Nat) : Bool := match nxt σ (c / 4) (c % 4) with
  | none => false
  | some j => stB (scp σ (c / 4) j (c % 4)) k v 0
def kGood2 (σ : Sg) (k v : Nat) (c : Nat) : Bool := match nxt σ (c / 4) (c % 4) with
  | none => false
  | some j => decide (c / 4 < j) && stB (scp σ (c / 4) j (c % 4)) k v 0
theorem nxt_nbr {σ : Sg} {k d j : Nat} (e : nxt σ k d = some j) : nbr σ k d = some j := by
  unfold nxt at e
  split at e
  · cases e
  · exact e
theorem nbr_ne {σ : Sg} (h : WF σ) {k d j : Nat} (hk : k < sN σ) (hd : d < 4) (e : nbr σ k d = some j) : ¬ j = k := by
  intro q
  subst q
  have hm := mulR σ h
  obtain ⟨h1, h2, h3, h4, -⟩ := h
  have hp : sC σ ≤ (sR σ - 1) * sC σ := by
    have := Nat.mul_le_mul (show 1 ≤ sR σ - 1 by omega) (Nat.le_refl (sC σ))
    omega
  unfold nbr at e
  split at e
  · next ho =>
    split at e
    · have e := Option.some.inj e
      rcases four hd with rfl | rfl | rfl | rfl <;> simp only [onS, acr, decide_eq_true_eq] at ho e
      · omega
      · have := Nat.mod_le j (sC σ); omega
      · omega
      · omega
    · cases e
  · next ho =>
    have e := Option.some.inj e
    rcases four hd with rfl | rfl | rfl | rfl <;> simp only [onS, stp, decide_eq_true_eq] at ho e
    · omega
    · omega
    · omega
    · rcases Nat.eq_zero_or_pos j with z | z
      · subst z; exact ho (Nat.zero_mod _)
      · omega
theorem scp_mut (σ : Sg) (k j : Nat) {d : Nat} (hd : d < 4) : scp σ j k (opp d) = scp σ k j d := by
  unfold scp
  rw [own_mut k j hd]
  have : opp d % 2 = d % 2 := by rcases four hd with rfl | rfl | rfl | rfl <;> rfl
  rw [this]
theorem kGood_eq {σ : Sg} (h : WF σ) (k v : Nat) : fst' (kGood σ k v) (4 * sN σ) 0 = fst' (kGood2 σ k v) (4 * sN σ) 0 := by
  refine fst_eq (fun c z => ?_) _ _ (fun c hc => absurd hc (Nat.not_lt_zero c)) (fun c hc z => ?_)
  · unfold kGood2 at z
    unfold kGood
    cases e : nxt σ (c / 4) (c % 4) with
    | none => rw [e] at z; cases z
    | some j =>
      rw [e] at z
      have z : (decide (c / 4 < j) && stB (scp σ (c / 4) j (c % 4)) k v 0) = true := z
      rw [Bool.and_eq_true] at z
      exact z.2
  · unfold kGood at z
    cases e : nxt σ (c / 4) (c % 4) with
    | none => rw [e] at z; cases z
    | some j =>
      rw [e] at z
      have z : stB (scp σ (c / 4) j (c % 4)) k v 0 = true := z
      have hk : c / 4 < sN σ := by omega
      have hd : c % 4 < 4 := Nat.mod_lt _ (by omega)
      have ne := nbr_ne h hk hd (nxt_nbr e)
      by_cases q : c / 4 < j
      · refine .inl ?_
        unfold kGood2
        rw [e]
        show (decide (c / 4 < j) && stB (scp σ (c / 4) j (c % 4)) k v 0) = true
        rw [decide_eq_true q, z]; rfl
      · refine .inr ⟨4 * j + opp (c % 4), ?_, ?_⟩
        · have := opp_lt (c % 4); omega
        · have o := opp_lt (c % 4)
          have d1 : (4 * j + opp (c % 4)) / 4 = j := by omega
          have d2 : (4 * j + opp (c % 4)) % 4 = opp (c % 4) := by omega
          unfold kGood
          rw [d1, d2, nxt_mut h hk hd e]
          show stB (scp σ j (c / 4) (opp (c % 4))) k v 0 = true
          rw [scp_mut σ _ _ hd]; exact z
theorem M_keep {g : Nat → Int64} {σ : Sg} (M : EncM g σ) (h : WF σ) {n : Nat} (hn : 1000 ≤ n) (s : MT) {k v : Nat} (hk : k < sN σ) (hv : v ≤ 20) : ∀ (m f c : Nat) (tr : Nat → Int64), c + m = 4 * sN σ → m < f → ∃ tr', f_X6_keeps_b52 n g (nI k) (nI v) (nI (sN σ)) f s tr (nI c) = some (fst' (kGood σ k v) m c, s, tr')
  | _, 0, _, _, _, hf => absurd hf (Nat.not_lt_zero _)
  | 0, f + 1, c, tr, hc, _ => by
    have n64 := h.n64
    rw [f_X6_keeps_b52_s, show (4 : Int32) * nI (sN σ) = nI (4 * sN σ) from pk_mul 4 _, if_pos (nI_le (by omega) (by omega))]
    exact ⟨_, rfl⟩
  | m + 1, f + 1, c, tr, hc, hf => by
    have n64 := h.n64
    have hk2 : c / 4 < sN σ := by omega
    have hd : c % 4 < 4 := Nat.mod_lt _ (by omega)
    have ih := M_keep M h hn s hk hv m f (c + 1)
    rw [f_X6_keeps_b52_s, show (4 : Int32) * nI (sN σ) = nI (4 * sN σ) from pk_mul 4 _, if_neg (nI_ge (by omega) (by omega)), show nI c / 4 = nI (c / 4) from pk_div (d := 4) (by omega) (by omega) (by omega), show irm (nI c) 4 = nI (c % 4) from irm_nI (d := 4) (by omega) (by omega) (by omega), M_nxt M h hk2 hd, ob_some, nI_1, fst']
    unfold kGood at ih ⊢
    cases e : nxt σ (c / 4) (c % 4) with
    | none =>
      rw [if_pos (show optI none = -1 from rfl), if_neg (show ¬ false = true by decide)]
      exact ih tr (by omega) (by omega)
    | some j =>
      have hj := nxt_lt h hk2 hd e
      have eb := nxt_nbr e
      have hw := WF_scp h (d := c % 4) hk2 hj
      have hN := scp_N σ (c / 4) j (c % 4)
      obtain ⟨T, eT, MT⟩ := M_scratch (EncM_tr M tr) h hk2 hd eb
      obtain ⟨T', eT'⟩ := M_st MT hw (n := n) (by omega) (k := k) (v := v) (by omega) (by omega) v n 0 (by omega) (by omega)
      rw [show vp_updL T 8 (nightI (scp σ (c / 4) j (c % 4)) (sF (scp σ (c / 4) j (c % 4))) 0) = T from by
        show vp_updL T 8 (sF (scp σ (c / 4) j (c % 4))) = T
        rw [← MT.2.1, uL_same]] at eT'
      rw [if_neg (fun q => nomatch (optI_m1 (o := some j) (fun i q => by cases q; omega)).mp q), M_cpT (by omega), ob_some, eT, ob_some]
      show ∃ tr', Option.bind (f_X6_staysClear_b2 n (nI k) (nI v) n T (nI 0)) (fun r_6 => if r_6.1 = true then some (nI c, s, r_6.2) else f_X6_keeps_b52 n g (nI k) (nI v) (nI (sN σ)) f s r_6.2 (nI (c + 1))) = _
      rw [eT', ob_some]
      show ∃ tr', (if stB (scp σ (c / 4) j (c % 4)) k v 0 = true then some (nI c, s, T') else f_X6_keeps_b52 n g (nI k) (nI v) (nI (sN σ)) f s T' (nI (c + 1))) = some (if stB (scp σ (c / 4) j (c % 4)) k v 0 = true then nI c else _, s, tr')
      by_cases q : stB (scp σ (c / 4) j (c % 4)) k v 0 = true
      · rw [if_pos q, if_pos q]; exact ⟨_, rfl⟩
      · rw [if_neg q, if_neg q]
        exact ih T' (by omega) (by omega)
theorem xor_twice (x b : Int64) : x ^^^ b ^^^ b = x := gb_ext (fun i _ => by rw [gb_xor, gb_xor]; cases gb x i <;> cases gb b i <;> rfl)
theorem scp_twice (σ : Sg) (k j d : Nat) : scp (scp σ k j d) k j d = σ := by
  unfold scp
  by_cases q : d % 2 = 0
  · rw [if_pos q, if_pos q]
    show setY (setY σ (sY σ ^^^ jsl 1 (nI (own k j d)))) ((sY σ ^^^ jsl 1 (nI (own k j d))) ^^^ jsl 1 (nI (own k j d))) = σ
    rw [xor_twice]; rfl
  · rw [if_neg q, if_neg q]
    show setX (setX σ (sX σ ^^^ jsl 1 (nI (own k j d)))) ((sX σ ^^^ jsl 1 (nI (own k j d))) ^^^ jsl 1 (nI (own k j d))) = σ
    rw [xor_twice]; rfl
theorem W_can {w : WT} {σ : Sg} (E : EncW w σ) (h : WF σ) {k d : Nat} (hk : k < sN σ) (hd : d < 4) : f_X5_canBeTried w (nI k) (nI d) = (match nxt σ k d with | none => false | some j => decide (k < j)) := by
  have n64 := h.n64
  unfold f_X5_canBeTried
  rw [W_beside E h hk hd, W_scr E h hk hd]
  unfold nxt
  cases e : nbr σ k d with
  | none =>
    have e2 : scr σ k d = false := by unfold scr; rw [e]
    rw [if_pos (show optI none ≤ nI k by rw [i_le, nI_toInt (by omega)]; show (-1 : Int32).toInt ≤ _; have : (-1 : Int32).toInt = -1 := by decide
                                         omega), e2]
    rfl
  | some j =>
    have hj := nbr_lt h hk hd e
    show (if nI j ≤ nI k then false else _) = _
    by_cases q : j ≤ k
    · rw [if_pos (nI_le q (by omega))]
      cases scr σ k d
      · show false = decide (k < j); rw [decide_eq_false (by omega)]
      · rfl
    · rw [if_neg (nI_ge (by omega) (by omega))]
      cases scr σ k d
      · show true = decide (k < j); rw [decide_eq_true (by omega)]
      · rfl
theorem W_would {t : WT} {σ : Sg} (E : EncW t σ) (h : WF σ) {n : Nat} (hn : 1000 ≤ n) {k v a d j : Nat} (hk : k < sN σ) (hv : v ≤ 20) (ha : a < sN σ) (hd : d < 4) (e : nbr σ a d = some j) : ∃ t', f_X5_wouldKeep n t (nI a) (nI d) (nI k) (nI v) = some (stB (scp σ a j d) k v 0, t') ∧ EncW t' σ := by
  have hj := nbr_lt h ha hd e
  have hw := WF_scp h (d := d) ha hj
  have hN := scp_N σ a j d
  obtain ⟨t1, e1, E1⟩ := W_scrape E h ha hd e
  obtain ⟨t2, e2, E2⟩ := W_scrape E1 hw (k := a) (d := d) (j := j) (by omega) hd (by rw [scp_nbr]; exact e)
  rw [scp_twice] at E2
  refine ⟨t2, ?_, E2⟩
  unfold f_X5_wouldKeep
  rw [e1]
  show Option.bind (f_X4_staysClear_b8 n t1 (nI k) (nI v) n (w_frozen t1) (nI 0)) (fun r_2 => lt_ (f_X4_scrape t1 (nI a) (nI d)) (fun r_3 => some (r_2, r_3.2))) = _
  have := W_st E1 hw n (k := k) (v := v) (by omega) (by omega) v n 0 (by omega) (by omega)
  rw [E1.2.2.2.2.1]
  show Option.bind (f_X4_staysClear_b8 n t1 (nI k) (nI v) n (nightI (scp σ a j d) (sF (scp σ a j d)) 0) (nI 0)) _ = _
  rw [this, e2]; rfl
theorem W_keep {w : WT} {σ : Sg} (E : EncW w σ) (h : WF σ) {n : Nat} (hn : 1000 ≤ n) {k v : Nat} (hk : k < sN σ) (hv : v ≤ 20) : ∀ (m a d fo fi : Nat) (t : WT), EncW t σ → a < sN σ → d < 4 → 4 * a + d + m + 1 = 4 * sN σ → sN σ ≤ fo + a → 4 < fi + d → ∃ t', f_X5_keeps_b44 n w (nI k) (nI v) (nI (sN σ)) (nI a) (f_X5_keeps_b35 n w (nI k) (nI v) (nI (sN σ)) fo) fi t (nI d) = some (.inr (fst' (kGood2 σ k v) (m + 1) (4 * a + d), t')) := by
  have n64 := h.n64
  intro m
  induction m with
  | zero =>
    intro a d fo fi t Et ha hd hm hfo hfi
    have d3 : d = 3 := by omega
    have aN : a + 1 = sN σ := by omega
    subst d3
    obtain ⟨fi', rfl⟩ : ∃ fi', fi = fi' + 2 := ⟨fi - 2, by omega⟩
    obtain ⟨fo', rfl⟩ : ∃ fo', fo = fo' + 1 := ⟨fo - 1, by omega⟩
    have fin : ∀ t : WT, f_X5_keeps_b44 n w (nI k) (nI v) (nI (sN σ)) (nI a) (f_X5_keeps_b35 n w (nI k) (nI v) (nI (sN σ)) (fo' + 1)) (fi' + 1) t (nI 3 + 1) = some (.inr (-1, t)) := by
      intro t
      rw [f_X5_keeps_b44_s, if_pos (by decide), f_X5_keeps_b35_s, nI_1, if_pos (nI_le (by omega) (by omega))]
    rw [f_X5_keeps_b44_s, if_neg (by decide), W_can E h ha hd, fst', fst']
    have c1 : (4 * a + 3) / 4 = a := by omega
    have c2 : (4 * a + 3) % 4 = 3 := by omega
    unfold kGood2
    rw [c1, c2]
    cases e : nxt σ a 3 with
    | none =>
      rw [if_neg (show ¬ false = true by decide), if_neg (show ¬ false = true by decide)]
      exact ⟨t, fin t⟩
    | some j =>
      show ∃ t', (if decide (a < j) = true then _ else _) = some (Sum.inr (if (decide (a < j) && stB (scp σ a j 3) k v 0) = true then _ else _, t'))
      by_cases q : a < j
      · obtain ⟨t2, e2, E2⟩ := W_would Et h hn hk hv ha hd (nxt_nbr e)
        rw [decide_eq_true q, if_pos rfl, e2, ob_some, Bool.true_and]
        by_cases z : stB (scp σ a j 3) k v 0 = true
        · rw [if_pos z, if_pos z]
          exact ⟨t2, by rw [show (4 : Int32) * nI a = nI (4 * a) from pk_mul 4 a, nI_add]⟩
        · rw [if_neg z, if_neg z]; exact ⟨t2, fin t2⟩
      · rw [decide_eq_false q, if_neg (by decide), Bool.false_and, if_neg (by decide)]
        exact ⟨t, fin t⟩
  | succ m ih =>
    intro a d fo fi t Et ha hd hm hfo hfi
    obtain ⟨fi', rfl⟩ : ∃ fi', fi = fi' + 2 := ⟨fi - 2, by omega⟩
    have fin : ∀ t : WT, EncW t σ → ∃ t', f_X5_keeps_b44 n w (nI k) (nI v) (nI (sN σ)) (nI a) (f_X5_keeps_b35 n w (nI k) (nI v) (nI (sN σ)) fo) (fi' + 1) t (nI d + 1) = some (.inr (fst' (kGood2 σ k v) (m + 1) (4 * a + d + 1), t')) := by
      intro t Et
      by_cases d3 : d = 3
      · subst d3
        obtain ⟨fo', rfl⟩ : ∃ fo', fo = fo' + 1 := ⟨fo - 1, by omega⟩
        rw [f_X5_keeps_b44_s, if_pos (by decide), f_X5_keeps_b35_s, nI_1, if_neg (nI_ge (by omega) (by omega))]
        exact ih (a + 1) 0 fo' n t Et (by omega) (by omega) (by omega) (by omega) (by omega)
      · rw [nI_1]
        exact ih a (d + 1) fo (fi' + 1) t Et ha (by omega) (by omega) hfo (by omega)
    have c1 : (4 * a + d) / 4 = a := by omega
    have c2 : (4 * a + d) % 4 = d := by omega
    rw [f_X5_keeps_b44_s, if_neg (show ¬ (3 : Int32) < nI d from nI_nlt (a := 3) (by omega) (by omega)), W_can E h ha hd, fst']
    unfold kGood2
    rw [c1, c2]
    unfold kGood2 at fin
    cases e : nxt σ a d with
    | none =>
      rw [if_neg (show ¬ false = true by decide), if_neg (show ¬ false = true by decide)]
      exact fin t Et
    | some j =>
      show ∃ t', (if decide (a < j) = true then _ else _) = some (Sum.inr (if (decide (a < j) && stB (scp σ a j d) k v 0) = true then _ else _, t'))
      by_cases q : a < j
      · obtain ⟨t2, e2, E2⟩ := W_would Et h hn hk hv ha hd (nxt_nbr e)
        rw [decide_eq_true q, if_pos rfl, e2, ob_some, Bool.true_and]
        by_cases z : stB (scp σ a j d) k v 0 = true
        · rw [if_pos z, if_pos z]
          exact ⟨t2, by rw [show (4 : Int32) * nI a = nI (4 * a) from pk_mul 4 a, nI_add]⟩
        · rw [if_neg z, if_neg z]; exact fin t2 E2
      · rw [decide_eq_false q, if_neg (by decide), Bool.false_and, if_neg (by decide)]
        exact fin t Et
theorem cs_keeps {w : WT} {g : Nat → Int64} {σ : Sg} (E : EncW w σ) (M : EncM g σ) (h : WF σ) {n : Nat} (hn : 1000 ≤ n) (m : MT) (t : WT) (tr o : Nat → Int64) (x y : Int32) :
    Same (f_L_keeps n w t o x y) (f_X6_keeps n m g tr x y) (fun r1 r2 => f_X6_thrown r2.2.1 = r1.1 ∧ (r1.1 = 0 → r1.2.2 0 = r2.1.toInt64) ∧ r2.2.1 = mk m r1.1) := by
  have n64 := h.n64
  have n4 := h.n4
  by_cases q : rng x (0 : Nat) ((sN σ - 1 : Nat) : Int) = true
  · obtain ⟨k, hk, rfl⟩ := cell_ex h q
    by_cases q2 : rng y 1 20 = true
    · obtain ⟨v, h1, h2, rfl⟩ := rng_ex (a := 1) (b := 20) q2 (by omega)
      obtain ⟨tr', eT⟩ := M_keep M h hn (mk m 0) hk h2 (4 * sN σ) n 0 tr (by omega) (by omega)
      obtain ⟨n', rfl⟩ : ∃ n', n = n' + 1 := ⟨n - 1, by omega⟩
      obtain ⟨t', eW⟩ := W_keep E h hn hk h2 (4 * sN σ - 1) 0 0 n' (n' + 1) w E (by omega) (by omega) (by omega) (by omega) (by omega)
      have hM : 4 * sN σ - 1 + 1 = 4 * sN σ := by omega
      rw [hM, show 4 * 0 + 0 = 0 from rfl, ← kGood_eq h] at eW
      refine same_i (0, t', vp_updL o 0 (fst' (kGood σ k v) (4 * sN σ) 0).toInt64) (fst' (kGood σ k v) (4 * sN σ) 0, mk m 0, tr') ?_ ?_ ⟨rfl, fun _ => rfl, rfl⟩
      · unfold f_L_keeps f_X5_keeps
        rw [NC_t E h q, NR_t q2, W_count E]
        show Option.bind (f_X5_keeps_b35 (n' + 1) w (nI k) (nI v) (nI (sN σ)) (n' + 1) w (nI 0)) _ = _
        rw [f_X5_keeps_b35_s, if_neg (nI_ge (by omega) (by omega))]
        show Option.bind (f_X5_keeps_b44 (n' + 1) w (nI k) (nI v) (nI (sN σ)) (nI 0) (f_X5_keeps_b35 (n' + 1) w (nI k) (nI v) (nI (sN σ)) n') (n' + 1) w (nI 0)) _ = _
        rw [eW]; rfl
      · unfold f_X6_keeps
        rw [M_isCell M h, if_pos q, M_in, if_pos (show rng (nI v) (1 : Int64).toInt (20 : Int64).toInt = true from q2), ref0, M_many M]
        exact eT
    · refine same_i (2, t, o) (0, mk m 2, tr) ?_ ?_ ⟨rfl, no2, rfl⟩
      · unfold f_L_keeps f_X5_keeps
        rw [NC_t E h q, NR_f q2]; rfl
      · unfold f_X6_keeps
        rw [M_isCell M h, if_pos q, M_in, if_neg (show ¬ rng y (1 : Int64).toInt (20 : Int64).toInt = true from q2), ref2]; rfl
  · refine same_i (1, t, o) (0, mk m 1, tr) ?_ ?_ ⟨rfl, no1, rfl⟩
    · unfold f_L_keeps f_X5_keeps
      rw [NC_f E h q]; rfl
    · unfold f_X6_keeps
      rw [M_isCell M h, if_neg q, ref1]; rfl
