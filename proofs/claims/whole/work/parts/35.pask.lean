/-! what there is -/
def mk (m : MT) (r : Int32) : MT := (r, m_size m, m_acts m, m_rank m, m_spot m, m_out m)
theorem ref0 (m : MT) : f_X6_refused m 0 = (false, mk m 0) := if_pos (by decide)
theorem ref1 (m : MT) : f_X6_refused m 1 = (true, mk m 1) := if_neg (by decide)
theorem ref2 (m : MT) : f_X6_refused m 2 = (true, mk m 2) := if_neg (by decide)
theorem ref3 (m : MT) : f_X6_refused m 3 = (true, mk m 3) := if_neg (by decide)
theorem NR_t {x a b : Int32} (h : rng x a.toInt b.toInt = true) : f_X5_needRange x a b = some (.inr ()) := by
  unfold f_X5_needRange; rw [C_within, if_pos h]
theorem NR_f {x a b : Int32} (h : ¬ rng x a.toInt b.toInt = true) : f_X5_needRange x a b = some (.inl 2) := by
  unfold f_X5_needRange; rw [C_within, if_neg h]
theorem NC_t {t : WT} {σ : Sg} (E : EncW t σ) (h : WF σ) {x : Int32} (hx : rng x (0 : Nat) ((sN σ - 1 : Nat) : Int) = true) : f_X5_needCell t x = some (.inr ()) := by
  unfold f_X5_needCell; rw [W_hasCell E h, if_pos hx]
theorem NC_f {t : WT} {σ : Sg} (E : EncW t σ) (h : WF σ) {x : Int32} (hx : ¬ rng x (0 : Nat) ((sN σ - 1 : Nat) : Int) = true) : f_X5_needCell t x = some (.inl 1) := by
  unfold f_X5_needCell; rw [W_hasCell E h, if_neg hx]
theorem cell_ex {σ : Sg} (h : WF σ) {x : Int32} (hx : rng x (0 : Nat) ((sN σ - 1 : Nat) : Int) = true) : ∃ k, k < sN σ ∧ x = nI k := by
  have n4 := h.n4
  exact rc_ex hx (by omega) h.n64
theorem dir_ex {x : Int32} (hx : rng x 0 3 = true) : ∃ d, d < 4 ∧ x = nI d := by
  obtain ⟨d, _, h2, h3⟩ := rng_ex (a := 0) (b := 3) hx (by omega)
  exact ⟨d, by omega, h3⟩
theorem M_dirx (x : Int32) : f_X6_isDirection x = rng x 0 3 := M_in x 0 3
-- the law asks: one answer, the same
def Same {α β : Type} (o : Option α) (q : Option β) (P : α → β → Prop) : Prop := ∃ r1 r2, o = some r1 ∧ q = some r2 ∧ P r1 r2
theorem same_i {α β : Type} {o : Option α} {q : Option β} {P : α → β → Prop} (a : α) (b : β) (h1 : o = some a) (h2 : q = some b) (h3 : P a b) : Same o q P := ⟨a, b, h1, h2, h3⟩
theorem no1 {p : Prop} (z : (1 : Int32) = 0) : p := absurd z (by decide)
theorem no2 {p : Prop} (z : (2 : Int32) = 0) : p := absurd z (by decide)
theorem no3 {p : Prop} (z : (3 : Int32) = 0) : p := absurd z (by decide)
theorem cs_side {w : WT} {g : Nat → Int64} {σ : Sg} (E : EncW w σ) (M : EncM g σ) (h : WF σ) (m : MT) (o : Nat → Int64) (x : Int32) :
    Same (f_L_side w o x) (f_X6_side m g x) (fun r1 r2 => f_X6_thrown r2.2 = r1.1 ∧ (r1.1 = 0 → r1.2 0 = r2.1.toInt64) ∧ r2.2 = mk m r1.1) := by
  by_cases q : rng x 0 3 = true
  · obtain ⟨d, hd, rfl⟩ := dir_ex q
    refine same_i (0, vp_updL o 0 (nI (sSd σ d)).toInt64) (nI (sSd σ d), mk m 0) ?_ ?_ ⟨rfl, fun _ => rfl, rfl⟩
    · unfold f_L_side f_X5_side
      rw [NR_t q, W_kind E h hd]; rfl
    · unfold f_X6_side
      rw [M_dirx, if_pos q, ref0]
      show (if (4 + nI d) < 0 ∨ 11 ≤ (4 + nI d).toNatClampNeg then none else (some ((g (4 + nI d).toNatClampNeg).toInt32, mk m 0))) = _
      rw [ix4 hd, if_neg (nI_in (show 4 + d < 11 by omega) (by omega)), nI_clamp (by omega), M_Sd M hd, lN_i]
  · refine same_i (1, o) (0, mk m 1) ?_ ?_ ⟨rfl, no1, rfl⟩
    · unfold f_L_side f_X5_side
      rw [NR_f q]; rfl
    · unfold f_X6_side
      rw [M_dirx, if_neg q, ref1]; rfl
theorem cs_neighbour {w : WT} {g : Nat → Int64} {σ : Sg} (E : EncW w σ) (M : EncM g σ) (h : WF σ) (m : MT) (o : Nat → Int64) (x y : Int32) :
    Same (f_L_neighbour w o x y) (f_X6_neighbour m g x y) (fun r1 r2 => f_X6_thrown r2.2 = r1.1 ∧ (r1.1 = 0 → r1.2 0 = r2.1.toInt64) ∧ r2.2 = mk m r1.1) := by
  by_cases q : rng x (0 : Nat) ((sN σ - 1 : Nat) : Int) = true
  · obtain ⟨k, hk, rfl⟩ := cell_ex h q
    by_cases q2 : rng y 0 3 = true
    · obtain ⟨d, hd, rfl⟩ := dir_ex q2
      refine same_i (0, vp_updL o 0 (optI (nbr σ k d)).toInt64) (optI (nbr σ k d), mk m 0) ?_ ?_ ⟨rfl, fun _ => rfl, rfl⟩
      · unfold f_L_neighbour f_X5_neighbour
        rw [NC_t E h q, NR_t q2, W_beside E h hk hd]; rfl
      · unfold f_X6_neighbour
        rw [M_isCell M h, if_pos q, M_dirx, if_pos q2, ref0, M_nbr M h hk hd]; rfl
    · refine same_i (2, o) (0, mk m 2) ?_ ?_ ⟨rfl, no2, rfl⟩
      · unfold f_L_neighbour f_X5_neighbour
        rw [NC_t E h q, NR_f q2]; rfl
      · unfold f_X6_neighbour
        rw [M_isCell M h, if_pos q, M_dirx, if_neg q2, ref2]; rfl
  · refine same_i (1, o) (0, mk m 1) ?_ ?_ ⟨rfl, no1, rfl⟩
    · unfold f_L_neighbour f_X5_neighbour
      rw [NC_f E h q]; rfl
    · unfold f_X6_neighbour
      rw [M_isCell M h, if_neg q, ref1]; rfl
-- cell
def sAt (σ : Sg) (k : Nat) : Nat → Int32
  | 0 => 0
  | i + 1 => sAt σ k i ||| (if scr σ k i = true then isl 1 (nI i) else 0)
theorem i_or0 (x : Int32) : x ||| 0 = x := Int32.or_zero
theorem W_sAt {t : WT} {σ : Sg} (E : EncW t σ) (h : WF σ) {n : Nat} (hn : 100 ≤ n) {k : Nat} (hk : k < sN σ) : f_X4_scratchesAt n t (nI k) = some (sAt σ k 4) := by
  unfold f_X4_scratchesAt
  exact lp_run (fun f i => f_X4_scratchesAt_b4 n t (nI k) f (sAt σ k i) (nI i)) 4 _
    (fun f i hi => by
      show f_X4_scratchesAt_b4 n t (nI k) (f + 1) (sAt σ k i) (nI i) = f_X4_scratchesAt_b4 n t (nI k) f (sAt σ k i ||| (if scr σ k i = true then isl 1 (nI i) else 0)) (nI (i + 1))
      rw [f_X4_scratchesAt_b4_s, if_neg (show ¬ (3 : Int32) < nI i from nI_nlt (a := 3) (by omega) (by omega)), W_scr E h hk hi, nI_succ]
      by_cases q : scr σ k i = true
      · rw [if_pos q, if_pos q]
      · rw [if_neg q, if_neg q, i_or0])
    (fun f => by
      show f_X4_scratchesAt_b4 n t (nI k) (f + 1) (sAt σ k 4) (nI 4) = _
      rw [f_X4_scratchesAt_b4_s, if_pos (by decide)]) n 0 (by omega) (by omega)
theorem W_cold {t : WT} {σ : Sg} (E : EncW t σ) (h : WF σ) {n : Nat} (hn : 100 ≤ n) {k : Nat} (hk : k < sN σ) : f_X4_cold n t (nI k) = some (nI (coldN σ (sF σ) k)) := by
  have n64 := h.n64
  have hF := h.2.2.2.2.2.2.2.2.1
  unfold f_X4_cold coldN
  exact lp_run (fun f i => f_X4_cold_b4 n t (nI k) f (nI (cnt (fun d => cld σ (sF σ) k d) i)) (nI i)) 4 _
    (fun f i hi => by
      show f_X4_cold_b4 n t (nI k) (f + 1) (nI (cnt (fun d => cld σ (sF σ) k d) i)) (nI i) = f_X4_cold_b4 n t (nI k) f (nI (cnt (fun d => cld σ (sF σ) k d) (i + 1))) (nI (i + 1))
      rw [f_X4_cold_b4_s, if_neg (show ¬ (3 : Int32) < nI i from nI_nlt (a := 3) (by omega) (by omega)), E.2.2.2.2.1, holds_gb (by omega), W_coldFrom E h hF hi (by omega), decide_eq_true hk, Bool.true_and, cnt, nI_succ]
      by_cases q : cld σ (sF σ) k i = true
      · rw [if_pos q, if_pos q, nI_1]
      · rw [if_neg q, if_neg q, Nat.add_zero])
    (fun f => by
      show f_X4_cold_b4 n t (nI k) (f + 1) (nI (cnt (fun d => cld σ (sF σ) k d) 4)) (nI 4) = _
      rw [f_X4_cold_b4_s, if_pos (by decide)]) n 0 (by omega) (by omega)
theorem grw_00 (σ : Sg) (w : Int64) : grw σ w 0 = 0 := by
  apply gb_ext; intro i hi
  unfold grw
  rw [gb_or, gb_and, gb_0]
  have e : gb (mkN (anyH σ 0) (sN σ)) i = false := by
    cases q : gb (mkN (anyH σ 0) (sN σ)) i
    · rfl
    · exfalso
      have z : ∀ (p : Nat → Bool), (∀ j, p j = false) → ∀ n, mkN p n = 0 := by
        intro p hp n
        induction n with
        | zero => rfl
        | succ n ih => rw [mkN, ih, hp n, if_neg (by decide)]; exact gb_ext (fun i _ => by rw [gb_or, gb_0]; rfl)
      rw [z _ (fun j => by
        cases q2 : anyH σ 0 j
        · rfl
        · obtain ⟨d, k, _, _, a⟩ := anyH_iff.mp q2
          rw [gb_0] at a; cases a), gb_0] at q
      cases q
  rw [e]; rfl
theorem W_patchAt {t : WT} {σ : Sg} (E : EncW t σ) (h : WF σ) {n : Nat} (hn : 100 ≤ n) {k : Nat} (hk : k < sN σ) : f_X4_patchAt n t (nI k) = some (if gb (sF σ) k = true then pch σ k else 0) := by
  have n64 := h.n64
  have e : (jsl 1 (nI k)) &&& (sF σ) = if gb (sF σ) k = true then jsl 1 (nI k) else 0 := by
    apply gb_ext; intro i hi
    rw [gb_and, gb_one (by omega)]
    by_cases q : gb (sF σ) k = true
    · rw [if_pos q, gb_one (by omega)]
      by_cases q2 : i = k
      · subst q2; rw [q, Bool.and_true]
      · rw [decide_eq_false q2]; rfl
    · rw [if_neg q, gb_0]
      by_cases q2 : i = k
      · subst q2; cases z : gb (sF σ) i
        · rw [Bool.and_false]
        · exact absurd z q
      · rw [decide_eq_false q2]; rfl
  unfold f_X4_patchAt
  rw [E.2.2.2.2.1, e]
  by_cases q : gb (sF σ) k = true
  · rw [if_pos q, if_pos q, W_patchFrom E h hn (inW_one hk n64)]; rfl
  · rw [if_neg q, if_neg q, W_patchFrom E h hn (inW_0 _), gIt_fix (grw_00 _ _)]; rfl
theorem M_cellQ {g : Nat → Int64} {σ : Sg} (M : EncM g σ) (h : WF σ) (m : MT) {n : Nat} (hn : 100 ≤ n) {k : Nat} (hk : k < sN σ) (y : Int32) : f_X6_cell_b59 n g (nI k) y (bI (gb (sF σ) k)) n m 0 0 = (if y = 0 then some (bI (gb (sF σ) k), m) else if y = 1 then some (nI (coldN σ (sF σ) k), m) else if y = 3 then some (sAt σ k 4, m) else some (nI (cnt (gb (if gb (sF σ) k = true then pch σ k else 0)) 64), m)) := by
  exact lp_run (fun f i => f_X6_cell_b59 n g (nI k) y (bI (gb (sF σ) k)) f m (sAt σ k i) (nI i)) 4 _
    (fun f i hi => by
      show f_X6_cell_b59 n g (nI k) y (bI (gb (sF σ) k)) (f + 1) m (sAt σ k i) (nI i) = f_X6_cell_b59 n g (nI k) y (bI (gb (sF σ) k)) f m (sAt σ k i ||| (if scr σ k i = true then isl 1 (nI i) else 0)) (nI (i + 1))
      rw [f_X6_cell_b59_s, if_neg (show ¬ (4 : Int32) ≤ nI i from nI_ge (b := 4) hi (by omega)), M_scr M h hk hi, ob_some, nI_succ]
      by_cases q : scr σ k i = true
      · rw [if_pos q, if_pos q]
      · rw [if_neg q, if_neg q])
    (fun f => by
      show f_X6_cell_b59 n g (nI k) y (bI (gb (sF σ) k)) (f + 1) m (sAt σ k 4) (nI 4) = _
      rw [f_X6_cell_b59_s, if_pos (by decide), M_cold M h hk hn, ob_some, M_patchOf M h hn hk, ob_some, M_bits hn, ob_some]
      cases gb (sF σ) k
      · rw [if_pos (show bI false = 0 from rfl), if_pos (show bI false = 0 from rfl), if_neg (show ¬ false = true by decide), cnt_zero (fun i _ => gb_0 i)]; rfl
      · rw [if_neg (show ¬ bI true = 0 by decide), if_neg (show ¬ bI true = 0 by decide), if_pos rfl]; rfl) n 0 (by omega) (by omega)
theorem cs_cell {w : WT} {g : Nat → Int64} {σ : Sg} (E : EncW w σ) (M : EncM g σ) (h : WF σ) {n : Nat} (hn : 100 ≤ n) (m : MT) (o : Nat → Int64) (x y : Int32) :
    Same (f_L_cell n w o x y) (f_X6_cell n m g x y) (fun r1 r2 => f_X6_thrown r2.2 = r1.1 ∧ (r1.1 = 0 → r1.2 0 = r2.1.toInt64) ∧ r2.2 = mk m r1.1) := by
  have n64 := h.n64
  by_cases q : rng x (0 : Nat) ((sN σ - 1 : Nat) : Int) = true
  · obtain ⟨k, hk, rfl⟩ := cell_ex h q
    by_cases q2 : rng y 0 3 = true
    · have hM : f_X6_cell n m g (nI k) y = f_X6_cell_b59 n g (nI k) y (bI (gb (sF σ) k)) n (mk m 0) 0 0 := by
        unfold f_X6_cell f_X6_cell_b33
        rw [M_isCell M h, if_pos q, M_in, if_pos (show rng y (0 : Int64).toInt (3 : Int64).toInt = true from q2), ref0, M.2.1, has_gb (by omega)]; rfl
      rw [hM, M_cellQ M h (mk m 0) hn hk y]
      obtain ⟨d, hd, rfl⟩ := dir_ex q2
      unfold f_L_cell f_X5_cell
      rw [NC_t E h q]
      rcases four hd with rfl | rfl | rfl | rfl
      · refine same_i (0, vp_updL o 0 (bI (gb (sF σ) k)).toInt64) _ ?_ rfl ⟨rfl, fun _ => rfl, rfl⟩
        show Option.bind (if f_X4_isFrozen w (nI k) = true then (some (Sum.inr 1)) else (some (Sum.inr 0))) _ = _
        unfold f_X4_isFrozen
        rw [E.2.2.2.2.1, holds_gb (by omega)]
        cases gb (sF σ) k <;> rfl
      · refine same_i (0, vp_updL o 0 (nI (coldN σ (sF σ) k)).toInt64) _ ?_ rfl ⟨rfl, fun _ => rfl, rfl⟩
        show Option.bind (Option.bind (f_X4_cold n w (nI k)) _) _ = _
        rw [W_cold E h hn hk]; rfl
      · refine same_i (0, vp_updL o 0 (nI (cnt (gb (if gb (sF σ) k = true then pch σ k else 0)) 64)).toInt64) _ ?_ rfl ⟨rfl, fun _ => rfl, rfl⟩
        show Option.bind (Option.bind (f_X4_patchAt n w (nI k)) _) _ = _
        rw [W_patchAt E h hn hk, ob_some, bc_eq]; rfl
      · refine same_i (0, vp_updL o 0 (sAt σ k 4).toInt64) _ ?_ rfl ⟨rfl, fun _ => rfl, rfl⟩
        show Option.bind (Option.bind (f_X4_scratchesAt n w (nI k)) _) _ = _
        rw [W_sAt E h hn hk]; rfl
    · have ne : ∀ d, d < 4 → ¬ y = nI d := fun d hd z => q2 (by rw [z]; exact (rng_nI 0 3 (by omega)).trans (decide_eq_true (by omega)))
      refine same_i (2, o) (0, mk m 2) ?_ ?_ ⟨rfl, no2, rfl⟩
      · unfold f_L_cell f_X5_cell
        rw [NC_t E h q]
        show Option.bind (if y = 0 then _ else _) _ = _
        rw [if_neg (show ¬ y = 0 from ne 0 (by omega)), if_neg (show ¬ y = 1 from ne 1 (by omega)), if_neg (show ¬ y = 2 from ne 2 (by omega)), if_neg (show ¬ y = 3 from ne 3 (by omega))]; rfl
      · unfold f_X6_cell f_X6_cell_b33
        rw [M_isCell M h, if_pos q, M_in, if_neg (show ¬ rng y (0 : Int64).toInt (3 : Int64).toInt = true from q2), ref2]; rfl
  · refine same_i (1, o) (0, mk m 1) ?_ ?_ ⟨rfl, no1, rfl⟩
    · unfold f_L_cell f_X5_cell
      rw [NC_f E h q]; rfl
    · unfold f_X6_cell f_X6_cell_b33
      rw [M_isCell M h, if_neg q, ref1]; rfl
