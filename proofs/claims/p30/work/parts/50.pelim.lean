/-! the class's elimination -/
theorem Piv_cong {N : Nat} {R R' : Nat → Int64} (h : ∀ i, i < N → R' i = R i) {i p : Nat} (hi : i < N) (a : Piv N R i p) : Piv N R' i p := ⟨by rw [h i hi]; exact a.1, fun q hq => by rw [h i hi]; exact a.2.1 q hq, fun j hj hne => by rw [h j hj]; exact a.2.2 j hj hne⟩
theorem Sat_cong {N : Nat} {R R' : Nat → Int64} {b b' : Nat → Bool} (h : ∀ i, i < N → R' i = R i) (hb : ∀ i, i < N → b' i = b i) (x : Nat → Bool) : Sat N R b x ↔ Sat N R' b' x := ⟨fun s i hi => by rw [h i hi, hb i hi]; exact s i hi, fun s i hi => by have := s i hi; rw [h i hi, hb i hi] at this; exact this⟩
theorem Inv_cong {N k : Nat} {R0 R R' : Nat → Int64} {b0 b b' U U' P : Nat → Bool} (h : ∀ i, i < N → R' i = R i) (hb : ∀ i, i < N → b' i = b i) (hU : ∀ i, i < N → U' i = U i) (I : Inv N R0 b0 k R b U P) : Inv N R0 b0 k R' b' U' P := by
  obtain ⟨h1, h2, h3, h4, h5, h6⟩ := I
  refine ⟨fun x => (h1 x).trans (Sat_cong h hb x), fun x => (h2 x).trans (Sat_cong h (fun _ _ => rfl) x), fun i hi hu => ?_, fun p hp hP => ?_, fun i hi hu q hq => ?_, ?_⟩
  · obtain ⟨p, a, c, d⟩ := h3 i hi (by rw [← hU i hi]; exact hu)
    exact ⟨p, a, c, Piv_cong h hi d⟩
  · obtain ⟨i, a, c, d⟩ := h4 p hp hP
    exact ⟨i, a, by rw [hU i a]; exact c, Piv_cong h a d⟩
  · rw [h i hi]; exact h5 i hi (by rw [← hU i hi]; exact hu) q hq
  · rw [← h6]; exact cnt_cong hU
def eT (σ : Sg) (k d : Nat) : Int64 := match nxt σ k d with
  | none => 0
  | some j => jsl 1 (nI j)
def eB (σ : Sg) (k : Nat) : Int64 := if sRu σ = 2 then jsl 1 (nI k) else 0
def eR (σ : Sg) (k : Nat) : Int64 := (((eB σ k ^^^ eT σ k 0) ^^^ eT σ k 1) ^^^ eT σ k 2) ^^^ eT σ k 3
def eO (σ : Sg) (k : Nat) : Bool := (((gb (sF σ) k ^^ ice σ k 0) ^^ ice σ k 1) ^^ ice σ k 2) ^^ ice σ k 3
theorem gb_eT {σ : Sg} (h : WF σ) {k d : Nat} (hk : k < sN σ) (hd : d < 4) (i : Nat) : gb (eT σ k d) i = decide (nxt σ k d = some i) := by
  unfold eT
  have h64 := h.n64
  cases e : nxt σ k d with
  | none => rw [decide_eq_false (fun q => by cases q)]; exact gb_0 i
  | some j =>
    have := nxt_lt h hk hd e
    show gb (jsl 1 (nI j)) i = _
    rw [gb_one (by omega)]
    apply decide_eq_decide.mpr
    exact ⟨fun q => by rw [q], fun q => (Option.some.inj q).symm⟩
theorem ice_nxt {σ : Sg} {k d j : Nat} (e : nxt σ k d = some j) : ice σ k d = false := by
  have := nxt_nbr e
  unfold nbr at this
  unfold ice
  by_cases q : onS (sR σ) (sC σ) k d = true
  · rw [if_pos q] at this
    by_cases q2 : sSd σ d = 2
    · rw [decide_eq_false (by omega), Bool.and_false]
    · rw [if_neg q2] at this; cases this
  · cases z : onS (sR σ) (sC σ) k d
    · rfl
    · exact absurd z q
theorem cld_0 (σ : Sg) (i d : Nat) : cld σ 0 i d = ice σ i d := by
  unfold cld hit
  cases nxt σ i d with
  | none => cases ice σ i d <;> rfl
  | some j =>
    show (ice σ i d || gb 0 j) = ice σ i d
    rw [gb_0]; cases ice σ i d <;> rfl
theorem cld_1 {σ : Sg} (h : WF σ) {i k d : Nat} (hi : i < sN σ) (hk : k < sN σ) (hd : d < 4) : cld σ (jsl 1 (nI k)) i d = (ice σ i d ^^ decide (nxt σ k (opp d) = some i)) := by
  have h64 := h.n64
  have sy : (nxt σ k (opp d) = some i) ↔ nxt σ i d = some k := by
    constructor
    · intro e
      have hd2 : opp d < 4 := Nat.mod_lt _ (by omega)
      have := nxt_mut h hk hd2 e
      rw [show opp (opp d) = d by unfold opp; omega] at this
      exact this
    · intro e; exact nxt_mut h hi hd e
  have e2 : decide (nxt σ k (opp d) = some i) = hit σ (jsl 1 (nI k)) i d := by
    rw [Bool.eq_iff_iff, hit_iff, decide_eq_true_iff, sy]
    constructor
    · intro e; exact ⟨k, e, by rw [gb_one (by omega)]; exact decide_eq_true rfl⟩
    · rintro ⟨j, e, g⟩
      rw [gb_one (by omega)] at g
      rw [e, of_decide_eq_true g]
  rw [e2]
  unfold cld
  cases z : hit σ (jsl 1 (nI k)) i d
  · cases ice σ i d <;> rfl
  · obtain ⟨j, e, -⟩ := hit_iff.mp z
    rw [ice_nxt e]; rfl
theorem oddB_0 (σ : Sg) (i : Nat) : oddB σ 0 i = (((ice σ i 0 ^^ ice σ i 1) ^^ ice σ i 2) ^^ ice σ i 3) := by
  unfold oddB
  rw [cld_0, cld_0, cld_0, cld_0]
theorem term_eq {σ : Sg} (h : WF σ) (r : sRu σ ≠ 0) {k : Nat} (hk : k < sN σ) : night σ (jsl 1 (nI k)) ^^^ night σ 0 = eR σ k := by
  have h64 := h.n64
  have hr := h.2.2.2.2.1
  apply gb_ext
  intro i hi
  unfold eR night
  rw [gb_xor, gb_xor, gb_xor, gb_xor, gb_xor, gb_mkN _ _ h.n64, gb_mkN _ _ h.n64, gb_eT h hk (by omega), gb_eT h hk (by omega), gb_eT h hk (by omega), gb_eT h hk (by omega)]
  have eb : gb (eB σ k) i = (decide (sRu σ = 2) && decide (i = k)) := by
    unfold eB
    by_cases q : sRu σ = 2
    · rw [if_pos q, gb_one (by omega), decide_eq_true q]; rfl
    · rw [if_neg q, gb_0, decide_eq_false q]; rfl
  rw [eb]
  by_cases hiN : i < sN σ
  · rw [decide_eq_true hiN]
    unfold will
    rw [if_neg r, if_neg r, oddB_0, gb_one (by omega), gb_0]
    unfold oddB
    rw [cld_1 h hiN hk (by omega), cld_1 h hiN hk (by omega), cld_1 h hiN hk (by omega), cld_1 h hiN hk (by omega)]
    rw [show opp 0 = 2 from rfl, show opp 1 = 3 from rfl, show opp 2 = 0 from rfl, show opp 3 = 1 from rfl]
    generalize decide (nxt σ k 0 = some i) = a0
    generalize decide (nxt σ k 1 = some i) = a1
    generalize decide (nxt σ k 2 = some i) = a2
    generalize decide (nxt σ k 3 = some i) = a3
    generalize ice σ i 0 = c0
    generalize ice σ i 1 = c1
    generalize ice σ i 2 = c2
    generalize ice σ i 3 = c3
    generalize decide (i = k) = z
    have hr2 : sRu σ = 1 ∨ sRu σ = 2 := by omega
    rcases hr2 with e | e
    · rw [if_pos e, if_pos e, decide_eq_false (by omega)]
      revert a0 a1 a2 a3 c0 c1 c2 c3 z; decide
    · rw [if_neg (by omega), if_neg (by omega), decide_eq_true e]
      revert a0 a1 a2 a3 c0 c1 c2 c3 z; decide
  · have no : ∀ d, d < 4 → decide (nxt σ k d = some i) = false := fun d hd => decide_eq_false (fun e => hiN (nxt_lt h hk hd e))
    rw [decide_eq_false hiN, no 0 (by omega), no 1 (by omega), no 2 (by omega), no 3 (by omega), decide_eq_false (show ¬ i = k by omega), Bool.and_false]; rfl
theorem odd_eq {σ : Sg} (h : WF σ) (r : sRu σ ≠ 0) {i : Nat} (hi : i < sN σ) : gb (sF σ ^^^ night σ 0) i = eO σ i := by
  unfold night
  rw [gb_xor, gb_mkN _ _ h.n64, decide_eq_true hi]
  unfold will eO
  rw [if_neg r, oddB_0, gb_0]
  generalize gb (sF σ) i = f
  generalize ice σ i 0 = c0
  generalize ice σ i 1 = c1
  generalize ice σ i 2 = c2
  generalize ice σ i 3 = c3
  by_cases e : sRu σ = 1
  · rw [if_pos e]; revert f c0 c1 c2 c3; decide
  · rw [if_neg e]; revert f c0 c1 c2 c3; decide
theorem W_wrl {w : WT} {σ : Sg} (E : EncW w σ) (h : WF σ) (r : sRu σ ≠ 0) (n : Nat) (o u : Int64) : ∀ (m f i : Nat) (T : Nat → Int64), i + m = sN σ → m < f → (∀ j, j < i → T j = eR σ j) → ∃ T', f_X0_write_b35 n w (night σ 0) f (nI (sN σ), o, u) T (nI i) = some ((nI (sN σ), o, u), T') ∧ ∀ j, j < sN σ → T' j = eR σ j
  | _, 0, _, _, _, hf, _ => absurd hf (Nat.not_lt_zero _)
  | 0, f + 1, i, T, hi, _, hT => by
    have h64 := h.n64
    refine ⟨T, ?_, fun j hj => hT j (by omega)⟩
    rw [f_X0_write_b35_s, if_pos (show nI (sN σ) ≤ nI i from nI_le (by omega) (by omega))]
  | m + 1, f + 1, i, T, hi, hf, hT => by
    have h64 := h.n64
    rw [f_X0_write_b35_s, if_neg (show ¬ nI (sN σ) ≤ nI i from nI_ge (by omega) (by omega)), if_neg (show ¬ (64 : Int32) ≤ nI i from nI_ge (b := 64) (by omega) (by omega)), if_neg (nI_in (show i < 64 by omega) (by omega)), nI_clamp (by omega), W_after E h (inW_one (by omega) h64), term_eq h r (by omega), nI_1]
    exact W_wrl E h r n o u m f (i + 1) _ (by omega) (by omega) (fun j hj => by
      by_cases q : j = i
      · subst q; exact pk_uLs
      · rw [pk_uLn q]; exact hT j (by omega))
theorem W_write {w : WT} {σ : Sg} (E : EncW w σ) (h : WF σ) (r : sRu σ ≠ 0) {n : Nat} (hn : 100 ≤ n) (s : ET) (T : Nat → Int64) : ∃ T', f_X0_write n s T w = some ((nI (sN σ), sF σ ^^^ night σ 0, e_used s), T') ∧ ∀ j, j < sN σ → T' j = eR σ j := by
  have h64 := h.n64
  have e1 : imn (nI (sN σ)) 64 = nI (sN σ) := by
    unfold imn
    by_cases q : (64 : Int32) < nI (sN σ)
    · have := (nI_ltI (a := 64) (b := sN σ) (by omega) (by omega)).mp q; omega
    · rw [if_neg q]
  obtain ⟨T', e, hT⟩ := W_wrl E h r n (sF σ ^^^ night σ 0) (e_used s) (sN σ) n 0 T (by omega) (by omega) (fun j hj => absurd hj (Nat.not_lt_zero j))
  refine ⟨T', ?_, hT⟩
  unfold f_X0_write
  rw [W_after E h (inW_0 _), W_count E, e1, E.2.2.2.2.1]
  exact e
theorem W_unu {N k : Nat} (hN : N ≤ 64) (hk : k < 64) (n : Nat) (o u : Int64) (T : Nat → Int64) : ∀ (m f i : Nat), i + m = N → m < f → (∀ j, j < i → gb u j = false → gb (T j) k = false) → (∃ j, j < N ∧ gb u j = false ∧ gb (T j) k = true ∧ f_X0_unusedWith_b2 n (nI N, o, u) T (nI k) f (nI i) = some (nI j)) ∨ ((∀ j, j < N → gb u j = false → gb (T j) k = false) ∧ f_X0_unusedWith_b2 n (nI N, o, u) T (nI k) f (nI i) = some (-1))
  | _, 0, _, _, hf, _ => absurd hf (Nat.not_lt_zero _)
  | 0, f + 1, i, hi, _, h => by
    refine .inr ⟨fun j hj => h j (by omega), ?_⟩
    rw [f_X0_unusedWith_b2_s, if_pos (show nI N ≤ nI i from nI_le (by omega) (by omega))]
  | m + 1, f + 1, i, hi, hf, h => by
    have et : f_X0_term (nI N, o, u) T (nI i) = some (T i) := by
      unfold f_X0_term
      rw [if_neg (nI_pos (by omega)), if_neg (show ¬ (64 : Int32) ≤ nI i from nI_ge (b := 64) (by omega) (by omega)), if_neg (nI_in (show i < 64 by omega) (by omega)), nI_clamp (by omega)]
    have e := f_X0_unusedWith_b2_s n (nI N, o, u) T (nI k) f (nI i)
    rw [if_neg (show ¬ nI N ≤ nI i from nI_ge (by omega) (by omega)), show f_X5_holds (e_used (nI N, o, u)) (nI i) = gb u i from holds_gb (by omega), et, ob_some, holds_gb hk, nI_1] at e
    have go := fun hh => W_unu hN hk n o u T m f (i + 1) (by omega) (by omega) hh
    cases cu : gb u i
    · rw [cu, if_neg (by decide)] at e
      cases ct : gb (T i) k
      · rw [ct, if_neg (by decide)] at e
        rw [e]
        exact go (fun j hj hu => by
          by_cases q : j = i
          · subst q; exact ct
          · exact h j (by omega) hu)
      · rw [ct, if_pos rfl] at e
        exact .inl ⟨i, by omega, cu, ct, e⟩
    · rw [cu, if_pos rfl] at e
      rw [e]
      exact go (fun j hj hu => by
        by_cases q : j = i
        · subst q; rw [cu] at hu; cases hu
        · exact h j (by omega) hu)
theorem W_tol {N k i : Nat} (hN : N ≤ 64) (hk : k < 64) (hi : i < N) (n : Nat) (o u : Int64) (T : Nat → Int64) : ∀ (m f j : Nat) (o' : Int64) (T' : Nat → Int64), j + m = N → m < f → inW o' N → (∀ l, l < N → T' l = if l < j then elR T k i l else T l) → (∀ l, l < N → gb o' l = if l < j then elB T k i (gb o) l else gb o l) → ∃ o2 T2, f_X0_takeOutOfOthers_b19 n (nI k) (nI i) (T i) (bI (gb o i)) f (nI N, o', u) T' (nI j) = some ((nI N, o2, u), T2) ∧ inW o2 N ∧ (∀ l, l < N → T2 l = elR T k i l) ∧ (∀ l, l < N → gb o2 l = elB T k i (gb o) l)
  | _, 0, _, _, _, _, hf, _, _, _ => absurd hf (Nat.not_lt_zero _)
  | 0, f + 1, j, o', T', hj, _, hw, h1, h2 => by
    refine ⟨o', T', ?_, hw, fun l hl => by rw [h1 l hl, if_pos (by omega)], fun l hl => by rw [h2 l hl, if_pos (by omega)]⟩
    rw [f_X0_takeOutOfOthers_b19_s, if_pos (show nI N ≤ nI j from nI_le (by omega) (by omega))]
  | m + 1, f + 1, j, o', T', hj, hf, hw, h1, h2 => by
    have tj : T' j = T j := by rw [h1 j (by omega), if_neg (Nat.lt_irrefl j)]
    have oj : gb o' j = gb o j := by rw [h2 j (by omega), if_neg (Nat.lt_irrefl j)]
    have hin : ¬ (nI j < 0 ∨ 64 ≤ (nI j).toNatClampNeg) := nI_in (show j < 64 by omega) (by omega)
    have stay : ¬ (j ≠ i ∧ gb (T j) k = true) → (∀ l, l < N → T' l = if l < j + 1 then elR T k i l else T l) ∧ (∀ l, l < N → gb o' l = if l < j + 1 then elB T k i (gb o) l else gb o l) := fun c => by
      refine ⟨fun l hl => ?_, fun l hl => ?_⟩
      · by_cases q : l = j
        · subst q; rw [if_pos (by omega), tj]; exact (if_neg c).symm
        · rw [h1 l hl]
          by_cases q2 : l < j
          · rw [if_pos q2, if_pos (by omega)]
          · rw [if_neg q2, if_neg (by omega)]
      · by_cases q : l = j
        · subst q; rw [if_pos (by omega), oj]; exact (if_neg c).symm
        · rw [h2 l hl]
          by_cases q2 : l < j
          · rw [if_pos q2, if_pos (by omega)]
          · rw [if_neg q2, if_neg (by omega)]
    rw [f_X0_takeOutOfOthers_b19_s, if_neg (show ¬ nI N ≤ nI j from nI_ge (by omega) (by omega)), if_neg (show ¬ (64 : Int32) ≤ nI j from nI_ge (b := 64) (by omega) (by omega))]
    by_cases ji : j = i
    · rw [if_pos (by rw [ji]), nI_1]
      obtain ⟨s1, s2⟩ := stay (fun c => c.1 ji)
      exact W_tol hN hk hi n o u T m f (j + 1) o' T' (by omega) (by omega) hw s1 s2
    · rw [if_neg (fun q => ji ((nI_eq (by omega) (by omega)).mp q)), if_neg hin, nI_clamp (by omega), holds_gb hk, tj]
      by_cases c : gb (T j) k = true
      · have cc : j ≠ i ∧ gb (T j) k = true := ⟨ji, c⟩
        have hin2 : ¬ (nI j < 0 ∨ 64 ≤ j) := fun q => q.elim (nI_pos (by omega)) (fun z => by omega)
        have s1 : ∀ l, l < N → vp_updL T' j (T j ^^^ T i) l = if l < j + 1 then elR T k i l else T l := fun l hl => by
          by_cases q : l = j
          · subst q; rw [pk_uLs, if_pos (by omega)]; exact (if_pos cc).symm
          · rw [pk_uLn q, h1 l hl]
            by_cases q2 : l < j
            · rw [if_pos q2, if_pos (by omega)]
            · rw [if_neg q2, if_neg (by omega)]
        have s2 : ∀ l, l < N → gb (o' ^^^ (if gb o i = true then jsl 1 (nI j) else 0)) l = if l < j + 1 then elB T k i (gb o) l else gb o l := fun l hl => by
          have eg : gb (if gb o i = true then jsl 1 (nI j) else 0) l = (gb o i && decide (l = j)) := by
            cases gb o i
            · rw [if_neg (by decide), gb_0]; rfl
            · rw [if_pos rfl, gb_one (by omega)]; rfl
          rw [gb_xor, eg]
          by_cases q : l = j
          · subst q
            rw [if_pos (by omega), oj, decide_eq_true rfl, Bool.and_true]; exact (if_pos cc).symm
          · rw [decide_eq_false q, Bool.and_false, Bool.xor_false, h2 l hl]
            by_cases q2 : l < j
            · rw [if_pos q2, if_pos (by omega)]
            · rw [if_neg q2, if_neg (by omega)]
        have s3 : inW (o' ^^^ (if gb o i = true then jsl 1 (nI j) else 0)) N := inW_xor hw (by
          cases gb o i
          · rw [if_neg (by decide)]; exact inW_0 _
          · rw [if_pos rfl]; exact inW_one (by omega) hN)
        have go := W_tol hN hk hi n o u T m f (j + 1) _ _ (by omega) (by omega) s3 s1 s2
        rw [if_pos c, if_neg hin2, if_neg hin2, nI_1]
        revert go
        cases gb o i
        · intro go; rw [if_pos (show bI false = 0 from rfl)]; exact go
        · intro go; rw [if_neg (show ¬ bI true = 0 by decide)]; exact go
      · rw [if_neg c, nI_1]
        obtain ⟨s1, s2⟩ := stay (fun z => c z.2)
        exact W_tol hN hk hi n o u T m f (j + 1) o' T' (by omega) (by omega) hw s1 s2

