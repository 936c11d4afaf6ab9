theorem M_inL (x a b : Int64) : f_X6_in x a b = decide (a ≤ x ∧ x ≤ b) := by
  unfold f_X6_in
  by_cases h1 : x < a
  · rw [if_pos h1]
    rw [decide_eq_false (fun q => by have := q.1; rw [Int64.lt_iff_toInt_lt] at h1; rw [Int64.le_iff_toInt_le] at this; omega)]
  · rw [if_neg h1]
    by_cases h2 : b < x
    · rw [if_pos h2]
      rw [decide_eq_false (fun q => by have := q.2; rw [Int64.lt_iff_toInt_lt] at h2; rw [Int64.le_iff_toInt_le] at this; omega)]
    · rw [if_neg h2]
      rw [decide_eq_true ⟨by rw [Int64.lt_iff_toInt_lt] at h1; rw [Int64.le_iff_toInt_le]; omega, by rw [Int64.lt_iff_toInt_lt] at h2; rw [Int64.le_iff_toInt_le]; omega⟩]
theorem W_low {S : Nat} (hS : S < 2 ^ 63) {c : Nat} (hc : c < 2 ^ 31) (n : Nat) : ∀ (m f i : Nat), i + m = c → m < f → f_X5_withoutLowest_b5 n (nI c) f (lN (S / 10000 ^ i)) (nI i) = some (lN (S / 10000 ^ c))
  | _, 0, _, _, hf => absurd hf (Nat.not_lt_zero _)
  | 0, f + 1, i, hi, _ => by
    obtain rfl : i = c := by omega
    rw [f_X5_withoutLowest_b5_s, if_pos (nI_le (Nat.le_refl _) (by omega))]
  | m + 1, f + 1, i, hi, hf => by
    have hd : S / 10000 ^ i < 2 ^ 63 := Nat.lt_of_le_of_lt (Nat.div_le_self _ _) hS
    have e : lN (S / 10000 ^ i) / 10000 = lN (S / 10000 ^ (i + 1)) := by
      rw [Nat.pow_succ, ← Nat.div_div_eq_div_mul]
      exact pk_lDiv (b := 10000) hd (by omega) (by omega)
    rw [f_X5_withoutLowest_b5_s, if_neg (nI_ge (by omega) (by omega)), e, nI_1]
    exact W_low hS hc n m f (i + 1) (by omega) (by omega)
theorem W_lowT {S : Nat} (hS : S < 2 ^ 63) {n c : Nat} (hc : c < n) (hc2 : c < 2 ^ 31) : f_X5_withoutLowest n (lN S) (nI c) = some (lN (S / 10000 ^ c)) := by
  have := W_low hS hc2 n c n 0 (by omega) hc
  rw [Nat.pow_zero, Nat.div_one] at this
  exact this
theorem pw {c : Nat} (h : c ≤ 3) : 0 < 10000 ^ c ∧ 10000 ^ c < 2 ^ 63 := by
  have : c = 0 ∨ c = 1 ∨ c = 2 ∨ c = 3 := by omega
  rcases this with rfl | rfl | rfl | rfl <;> decide
theorem scr_both (w : WT) (g0 : Nat → Int64) {n : Nat} (hn : 1000 ≤ n) (s : MT) {v S : Nat} (hv : v ≤ 3) (hS : S < 2 ^ 63) : ∀ (m f i : Nat) (t : WT) (g : Nat → Int64), i + m = v → m < f → RelW t g → ∃ r t' g', f_X5_runScript_b48 n w (nI v) (lN S) f t (nI i) = some (.inr (r, t')) ∧ f_X6_runScript_b86 n g0 (nI v) (lN S) f s g (lN (10000 ^ m)) (nI i) = some (r, s, g')
  | _, 0, _, _, _, _, hf, _ => absurd hf (Nat.not_lt_zero _)
  | 0, f + 1, i, t, g, hi, _, _ => by
    refine ⟨-1, t, g, ?_, ?_⟩
    · rw [f_X5_runScript_b48_s, if_pos (nI_le (by omega) (by omega))]
    · rw [f_X6_runScript_b86_s, if_pos (nI_le (by omega) (by omega))]
  | m + 1, f + 1, i, t, g, hi, hf, B => by
    have hp := pw (c := m) (by omega)
    have hp1 := pw (c := m + 1) (by omega)
    have hd : S / 10000 ^ m < 2 ^ 63 := Nat.lt_of_le_of_lt (Nat.div_le_self _ _) hS
    have hG : S / 10000 ^ m % 10000 < 10000 := Nat.mod_lt _ (by omega)
    have e1 : (nI v - 1) - nI i = nI m := by
      have a : nI v - 1 = nI (v - 1) := pk_sub (b := 1) (by omega)
      rw [a, pk_sub (by omega)]; congr 1; omega
    have e2 : lN (10000 ^ (m + 1)) / 10000 = lN (10000 ^ m) := by
      have a := pk_lDiv (a := 10000 ^ (m + 1)) (b := 10000) hp1.2 (by omega) (by omega)
      rw [Nat.pow_succ, Nat.mul_div_cancel _ (by omega)] at a
      rw [Nat.pow_succ]; exact a
    have e3 : lN S / lN (10000 ^ m) = lN (S / 10000 ^ m) := pk_lDiv hS hp.1 hp.2
    have e4 : lrm (lN (S / 10000 ^ m)) 10000 = lN (S / 10000 ^ m % 10000) := pk_lRem (b := 10000) hd (by omega) (by omega)
    have e5 : ¬ lN (10000 ^ m) = 0 := fun q => by
      have := (pk_lEQ (b := 0) hp.2 (by omega)).mp q
      omega
    rw [f_X5_runScript_b48_s, if_neg (nI_ge (by omega) (by omega)), e1, W_lowT hS (by omega) (by omega), ob_some, e4, lN_i, f_X6_runScript_b86_s, if_neg (nI_ge (by omega) (by omega)), e2, if_neg e5, e3, e4, lN_i]
    generalize S / 10000 ^ m % 10000 = G at hG
    have d1 : nI G / 1000 = nI (G / 1000) := dv (d := 1000) (by omega) (by omega) (by omega)
    have d2 : irm (nI G) 1000 = nI (G % 1000) := irm_nI (d := 1000) (by omega) (by omega) (by omega)
    rw [d1, d2]
    obtain ⟨r, t', g', f1, f2, f3⟩ := grp_both B hn s hG
    rw [f1, f2, ob_some, ob_some]
    cases r
    · exact ⟨nI i, t', g', rfl, rfl⟩
    · obtain ⟨r, t2, g2, k1, k2⟩ := scr_both w g0 hn s hv hS m f (i + 1) t' g' (by omega) (by omega) (f3 rfl)
      refine ⟨r, t2, g2, ?_, ?_⟩
      · rw [if_pos (show true = true from rfl), nI_1]; exact k1
      · rw [if_pos (show true = true from rfl), nI_1]; exact k2
theorem M_scrA (n : Nat) (g : Nat → Int64) (x : Int32) (y : Int64) (s : MT) (tr : Nat → Int64) : ∀ (m f i : Nat) (z : Int64), i + m = 3 → m < f → ∃ z', f_X6_runScript_b6 n g x y f s tr z (nI i) = f_X6_runScript_b32 n g s tr x y z'
  | _, 0, _, _, _, hf => absurd hf (Nat.not_lt_zero _)
  | 0, f + 1, i, z, hi, _ => by
    refine ⟨z, ?_⟩
    obtain rfl : i = 3 := by omega
    rw [f_X6_runScript_b6_s]
    by_cases q : x ≤ nI 3
    · rw [if_pos q]
    · rw [if_neg q]; exact if_pos (by decide)
  | m + 1, f + 1, i, z, hi, hf => by
    rw [f_X6_runScript_b6_s]
    by_cases q : x ≤ nI i
    · exact ⟨z, by rw [if_pos q]⟩
    · rw [if_neg q, if_neg (g3n (by omega)), nI_1]
      exact M_scrA n g x y s tr m f (i + 1) _ (by omega) (by omega)
theorem M_scrB (n : Nat) (g : Nat → Int64) {v : Nat} (hv : v ≤ 3) (y : Int64) (s : MT) (tr : Nat → Int64) : ∀ (m f i : Nat), i + m = v → m < f → f_X6_runScript_b6 n g (nI v) y f s tr (lN (10000 ^ i)) (nI i) = f_X6_runScript_b32 n g s tr (nI v) y (lN (10000 ^ v))
  | _, 0, _, _, hf => absurd hf (Nat.not_lt_zero _)
  | 0, f + 1, i, hi, _ => by
    obtain rfl : i = v := by omega
    rw [f_X6_runScript_b6_s, if_pos (nI_le (Nat.le_refl _) (by omega))]
  | m + 1, f + 1, i, hi, hf => by
    have e : lN (10000 ^ i) * 10000 = lN (10000 ^ (i + 1)) := by rw [Nat.pow_succ]; exact lN_mul _ 10000
    rw [f_X6_runScript_b6_s, if_neg (nI_ge (by omega) (by omega)), if_neg (g3n (by omega)), nI_1, e]
    exact M_scrB n g hv y s tr m f (i + 1) (by omega) (by omega)
theorem cs_runScript {w : WT} {g : Nat → Int64} (W : RelW w g) {n : Nat} (hn : 1000 ≤ n) (m : MT) (t : WT) (tr o : Nat → Int64) (x : Int32) (y : Int64) :
    Same (f_L_runScript n w t o x y) (f_X6_runScript n m g tr x y) (fun r1 r2 => f_X6_thrown r2.2.1 = r1.1 ∧ (r1.1 = 0 → r1.2.2 0 = r2.1.toInt64) ∧ r2.2.1 = mk m r1.1) := by
  have bad : f_L_runScript n w t o x y = some (1, t, o) → f_X6_runScript n m g tr x y = some (0, mk m 1, tr) → Same (f_L_runScript n w t o x y) (f_X6_runScript n m g tr x y) (fun r1 r2 => f_X6_thrown r2.2.1 = r1.1 ∧ (r1.1 = 0 → r1.2.2 0 = r2.1.toInt64) ∧ r2.2.1 = mk m r1.1) := fun a b => same_i _ _ a b ⟨rfl, no1, rfl⟩
  by_cases q : rng x 1 3 = true
  · obtain ⟨v, h1, h2, rfl⟩ := rng_ex (a := 1) (b := 3) q (by omega)
    have hp := pw h2
    have em : f_X6_runScript n m g tr (nI v) y = f_X6_runScript_b32 n g m tr (nI v) y (lN (10000 ^ v)) := M_scrB n g h2 y m tr v n 0 (by omega) (by omega)
    have ei : f_X6_in (nI v).toInt64 1 3 = true := (M_in _ _ _).trans q
    have e1 : lN (10000 ^ v) - 1 = lN (10000 ^ v - 1) := lN_sub (b := 1) hp.1
    have eb : f_X6_in y 0 (lN (10000 ^ v) - 1) = false → f_X6_runScript n m g tr (nI v) y = some (0, mk m 1, tr) := fun z => by
      rw [em]; unfold f_X6_runScript_b32
      rw [if_pos ei, if_neg (by rw [z]; decide), ref1]; rfl
    have eg : f_X6_in y 0 (lN (10000 ^ v) - 1) = true → f_X6_runScript n m g tr (nI v) y = f_X6_runScript_b86 n g (nI v) y n (mk m 0) (cpF g tr 0 0 11) (lN (10000 ^ v)) 0 := fun z => by
      rw [em]; unfold f_X6_runScript_b32
      rw [if_pos ei, if_pos z, ref0]
      show Option.bind (f_X6_copyState n g tr 11 11 0 0) _ = _
      rw [M_cpT (by omega), ob_some]
    by_cases y0 : y < 0
    · refine bad ?_ (eb ?_)
      · unfold f_L_runScript f_X5_runScript
        rw [NR_t q]
        show Option.bind (if y < 0 then _ else _) _ = _
        rw [if_pos y0]; rfl
      · rw [M_inL]; exact decide_eq_false (fun z => by have := z.1; rw [Int64.lt_iff_toInt_lt] at y0; rw [Int64.le_iff_toInt_le] at this; omega)
    · obtain ⟨S, hS, rfl⟩ := pk_lOf y0
      have ew : f_X5_withoutLowest n (lN S) (nI v) = some (lN (S / 10000 ^ v)) := W_lowT hS (by omega) (by omega)
      have in_ : f_X6_in (lN S) 0 (lN (10000 ^ v) - 1) = decide (S < 10000 ^ v) := by
        rw [M_inL, e1]
        have a1 : (0 : Int64) ≤ lN S := (pk_lLE (a := 0) (by omega) hS).mpr (Nat.zero_le _)
        have a2 := pk_lLE (a := S) (b := 10000 ^ v - 1) hS (by omega)
        exact decide_eq_decide.mpr ⟨fun z => by have := a2.mp z.2; omega, fun z => ⟨a1, a2.mpr (by omega)⟩⟩
      by_cases k : S < 10000 ^ v
      · have W2 : RelW w (cpF g tr 0 0 11) := by
          obtain ⟨σ, h, E, M⟩ := W
          exact ⟨σ, h, E, EncM_tr M tr⟩
        obtain ⟨r, t', g', e1, e2⟩ := scr_both w g hn (mk m 0) h2 hS v n 0 w (cpF g tr 0 0 11) (by omega) (by omega) W2
        refine same_i (0, t', vp_updL o 0 r.toInt64) (r, mk m 0, g') ?_ ?_ ⟨rfl, fun _ => rfl, rfl⟩
        · unfold f_L_runScript f_X5_runScript
          rw [NR_t q]
          show Option.bind (if lN S < 0 then _ else _) _ = _
          rw [if_neg y0, ew, Nat.div_eq_of_lt k, ob_some]
          show Option.bind (if lN 0 = 0 then f_X5_runScript_b48 n w (nI v) (lN S) n w (nI 0) else _) _ = _
          rw [if_pos (show lN 0 = 0 from rfl), e1]; rfl
        · rw [eg (by rw [in_]; exact decide_eq_true k)]; exact e2
      · have : ¬ lN (S / 10000 ^ v) = 0 := fun z => by
          have := (pk_lEQ (b := 0) (Nat.lt_of_le_of_lt (Nat.div_le_self _ _) hS) (by omega)).mp z
          have := (Nat.div_eq_zero_iff).mp this
          omega
        refine bad ?_ (eb (by rw [in_]; exact decide_eq_false k))
        unfold f_L_runScript f_X5_runScript
        rw [NR_t q]
        show Option.bind (if lN S < 0 then _ else _) _ = _
        rw [if_neg y0, ew, ob_some, if_neg this]; rfl
  · refine bad ?_ ?_
    · unfold f_L_runScript f_X5_runScript
      rw [NR_f q]; rfl
    · obtain ⟨z, e⟩ := M_scrA n g x y m tr 3 n 0 1 (by omega) (by omega)
      rw [show f_X6_runScript n m g tr x y = _ from e]
      unfold f_X6_runScript_b32
      rw [if_neg (show ¬ f_X6_in x.toInt64 1 3 = true by rw [M_in]; exact q), ref1]; rfl
