theorem NR_t {x a b : Int32} (h : rng x a.toInt b.toInt = true) : f_X5_needRange x a b = some (.inr ()) := by
  unfold f_X5_needRange; rw [C_within, if_pos h]
theorem NR_f {x a b : Int32} (h : ¬ rng x a.toInt b.toInt = true) : f_X5_needRange x a b = some (.inl 2) := by
  unfold f_X5_needRange; rw [C_within, if_neg h]
theorem NC_t {t : WT} {σ : Sg} (E : EncW t σ) (h : WF σ) {x : Int32} (hx : rng x (0 : Nat) ((sN σ - 1 : Nat) : Int) = true) : f_X5_needCell t x = some (.inr ()) := by
  unfold f_X5_needCell; rw [W_hasCell E h, if_pos hx]
theorem NC_f {t : WT} {σ : Sg} (E : EncW t σ) (h : WF σ) {x : Int32} (hx : ¬ rng x (0 : Nat) ((sN σ - 1 : Nat) : Int) = true) : f_X5_needCell t x = some (.inl 1) := by
  unfold f_X5_needCell; rw [W_hasCell E h, if_neg hx]
theorem cell_ex {σ : Sg} (h : WF σ) {x : Int32} (hx : rng x (0 : Nat) ((sN σ - 1 : Nat) : Int) = true) : ∃ k, k < sN σ ∧ x = nI k := by
  have n4 := h.n4
  exact rc_ex hx (by omega) h.n64
theorem dir_ex {x : Int32} (hx : rng x 0 3 = true) : ∃ d, d < 4 ∧ x = nI d := by
  obtain ⟨d, _, h2, h3⟩ := rng_ex (a := 0) (b := 3) hx (by omega)
  exact ⟨d, by omega, h3⟩
def Same {α β : Type} (o : Option α) (q : Option β) (P : α → β → Prop) : Prop := ∃ r1 r2, o = some r1 ∧ q = some r2 ∧ P r1 r2
theorem same_i {α β : Type} {o : Option α} {q : Option β} {P : α → β → Prop} (a : α) (b : β) (h1 : o = some a) (h2 : q = some b) (h3 : P a b) : Same o q P := ⟨a, b, h1, h2, h3⟩
theorem no1 {p : Prop} (z : (1 : Int32) = 0) : p := absurd z (by decide)
theorem no2 {p : Prop} (z : (2 : Int32) = 0) : p := absurd z (by decide)
theorem no3 {p : Prop} (z : (3 : Int32) = 0) : p := absurd z (by decide)
def sAt (σ : Sg) (k : Nat) : Nat → Int32
  | 0 => 0
  | i + 1 => sAt σ k i ||| (if scr σ k i = true then isl 1 (nI i) else 0)
theorem i_or0 (x : Int32) : x ||| 0 = x := Int32.or_zero
theorem W_sAt {t : WT} {σ : Sg} (E : EncW t σ) (h : WF σ) {n : Nat} (hn : 100 ≤ n) {k : Nat} (hk : k < sN σ) : f_X4_scratchesAt n t (nI k) = some (sAt σ k 4) := by
  unfold f_X4_scratchesAt
  exact lp_run (fun f i => f_X4_scratchesAt_b4 n t (nI k) f (sAt σ k i) (nI i)) 4 _
    (fun f i hi => by
      show f_X4_scratchesAt_b4 n t (nI k) (f + 1) (sAt σ k i) (nI i) = f_X4_scratchesAt_b4 n t (nI k) f (sAt σ k i ||| (if scr σ k i = true then isl 1 (nI i) else 0)) (nI (i + 1))
      rw [f_X4_scratchesAt_b4_s, if_neg (show ¬ (3 : Int32) < nI i from nI_nlt (a := 3) (by omega) (by omega)), W_scr E h hk hi, nI_succ]
      by_cases q : scr σ k i = true
      · rw [if_pos q, if_pos q]
      · rw [if_neg q, if_neg q, i_or0])
    (fun f => by
      show f_X4_scratchesAt_b4 n t (nI k) (f + 1) (sAt σ k 4) (nI 4) = _
      rw [f_X4_scratchesAt_b4_s, if_pos (by decide)]) n 0 (by omega) (by omega)
theorem W_cold {t : WT} {σ : Sg} (E : EncW t σ) (h : WF σ) {n : Nat} (hn : 100 ≤ n) {k : Nat} (hk : k < sN σ) : f_X4_cold n t (nI k) = some (nI (coldN σ (sF σ) k)) := by
  have n64 := h.n64
  have hF := h.2.2.2.2.2.2.2.2.1
  unfold f_X4_cold coldN
  exact lp_run (fun f i => f_X4_cold_b4 n t (nI k) f (nI (cnt (fun d => cld σ (sF σ) k d) i)) (nI i)) 4 _
    (fun f i hi => by
      show f_X4_cold_b4 n t (nI k) (f + 1) (nI (cnt (fun d => cld σ (sF σ) k d) i)) (nI i) = f_X4_cold_b4 n t (nI k) f (nI (cnt (fun d => cld σ (sF σ) k d) (i + 1))) (nI (i + 1))
      rw [f_X4_cold_b4_s, if_neg (show ¬ (3 : Int32) < nI i from nI_nlt (a := 3) (by omega) (by omega)), E.2.2.2.2.1, holds_gb (by omega), W_coldFrom E h hF hi (by omega), decide_eq_true hk, Bool.true_and, cnt, nI_succ]
      by_cases q : cld σ (sF σ) k i = true
      · rw [if_pos q, if_pos q, nI_1]
      · rw [if_neg q, if_neg q, Nat.add_zero])
    (fun f => by
      show f_X4_cold_b4 n t (nI k) (f + 1) (nI (cnt (fun d => cld σ (sF σ) k d) 4)) (nI 4) = _
      rw [f_X4_cold_b4_s, if_pos (by decide)]) n 0 (by omega) (by omega)
theorem grw_00 (σ : Sg) (w : Int64) : grw σ w 0 = 0 := by
  apply gb_ext; intro i hi
  unfold grw
  rw [gb_or, gb_and, gb_0]
  have e : gb (mkN (anyH σ 0) (sN σ)) i = false := by
    cases q : gb (mkN (anyH σ 0) (sN σ)) i
    · rfl
    · exfalso
      have z : ∀ (p : Nat → Bool), (∀ j, p j = false) → ∀ n, mkN p n = 0 := by
        intro p hp n
        induction n with
        | zero => rfl
        | succ n ih => rw [mkN, ih, hp n, if_neg (by decide)]; exact gb_ext (fun i _ => by rw [gb_or, gb_0]; rfl)
      rw [z _ (fun j => by
        cases q2 : anyH σ 0 j
        · rfl
        · obtain ⟨d, k, _, _, a⟩ := anyH_iff.mp q2
          rw [gb_0] at a; cases a), gb_0] at q
      cases q
  rw [e]; rfl
theorem W_patchAt {t : WT} {σ : Sg} (E : EncW t σ) (h : WF σ) {n : Nat} (hn : 100 ≤ n) {k : Nat} (hk : k < sN σ) : f_X4_patchAt n t (nI k) = some (if gb (sF σ) k = true then pch σ k else 0) := by
  have n64 := h.n64
  have e : (jsl 1 (nI k)) &&& (sF σ) = if gb (sF σ) k = true then jsl 1 (nI k) else 0 := by
    apply gb_ext; intro i hi
    rw [gb_and, gb_one (by omega)]
    by_cases q : gb (sF σ) k = true
    · rw [if_pos q, gb_one (by omega)]
      by_cases q2 : i = k
      · subst q2; rw [q, Bool.and_true]
      · rw [decide_eq_false q2]; rfl
    · rw [if_neg q, gb_0]
      by_cases q2 : i = k
      · subst q2; cases z : gb (sF σ) i
        · rw [Bool.and_false]
        · exact absurd z q
      · rw [decide_eq_false q2]; rfl
  unfold f_X4_patchAt
  rw [E.2.2.2.2.1, e]
  by_cases q : gb (sF σ) k = true
  · rw [if_pos q, if_pos q, W_patchFrom E h hn (inW_one hk n64)]; rfl
  · rw [if_neg q, if_neg q, W_patchFrom E h hn (inW_0 _), gIt_fix (grw_00 _ _)]; rfl
