/-! the reference's elimination -/
theorem uL_uL {f : Nat → Int64} {k : Nat} {x y : Int64} : vp_updL (vp_updL f k x) k y = vp_updL f k y := by
  funext j
  by_cases q : j = k
  · subst q; rw [pk_uLs, pk_uLs]
  · rw [pk_uLn q, pk_uLn q, pk_uLn q]
theorem u_u {f : Nat → Int32} {k : Nat} {x y : Int32} : upd (upd f k x) k y = upd f k y := by
  funext j
  by_cases q : j = k
  · subst q; rw [pk_us, pk_us]
  · rw [pk_un q, pk_un q, pk_un q]
theorem nar_x (a c : Bool) : vp_nar .boolean ((bI a) ^^^ (bI c)) = bI (a ^^ c) := by cases a <;> cases c <;> decide
theorem nar_b (a : Bool) : vp_nar .boolean (bI a) = bI a := by cases a <;> decide
theorem lay_step {g : Nat → Int64} {σ : Sg} (W : EncM g σ) (h : WF σ) (n f : Nat) (s : MT) {k d : Nat} (hk : k < sN σ) (hd : d < 4) (K : (Nat → Int64) → (Nat → Int32) → Int32 → Option ((Nat → Int64) × (Nat → Int32))) (Q : Nat → Int64) (V : Nat → Int32) (x : Int64) (y : Bool) :
    f_X6_layEquations_b60 n s g (nI (sN σ)) (nI k) K (f + 1) (vp_updL Q k x) (upd V k (bI y)) (nI d) = f_X6_layEquations_b60 n s g (nI (sN σ)) (nI k) K f (vp_updL Q k (x ^^^ eT σ k d)) (upd V k (bI (y ^^ ice σ k d))) (nI (d + 1)) := by
  have h64 := h.n64
  have hin : ¬ (nI k < 0 ∨ 64 ≤ (nI k).toNatClampNeg) := nI_in (show k < 64 by omega) (by omega)
  have hin2 : ¬ (nI k < 0 ∨ 64 ≤ k) := fun q => q.elim (nI_pos (by omega)) (fun z => by omega)
  rw [f_X6_layEquations_b60_s, if_neg (show ¬ (4 : Int32) ≤ nI d from nI_ge (b := 4) hd (by omega)), M_nxt W h hk hd, ob_some, if_neg hin, M_ice W h hk hd, ob_some, ob_some, nI_clamp (by omega), if_neg hin2, if_neg hin2, if_neg hin2, if_neg hin2, if_neg hin2, if_neg hin2, pk_uLs, pk_us, nar_x, uL_uL, u_u, uL_uL, nI_1]
  unfold eT
  cases e : nxt σ k d with
  | none => exact if_pos rfl
  | some j => exact if_neg (nI_m1 (by have := nxt_lt h hk hd e; omega))
theorem lay_row {g : Nat → Int64} {σ : Sg} (W : EncM g σ) (h : WF σ) {n : Nat} (hn : 100 ≤ n) (s : MT) {k : Nat} (hk : k < sN σ) (K : (Nat → Int64) → (Nat → Int32) → Int32 → Option ((Nat → Int64) × (Nat → Int32))) (Q : Nat → Int64) (V : Nat → Int32) :
    f_X6_layEquations_b60 n s g (nI (sN σ)) (nI k) K n (vp_updL Q k (eB σ k)) (upd V k (bI (gb (sF σ) k))) 0 = K (vp_updL Q k (eR σ k)) (upd V k (bI (eO σ k))) (nI (k + 1)) := by
  obtain ⟨f, rfl⟩ : ∃ f, n = f + 5 := ⟨n - 5, by omega⟩
  have e0 := lay_step W h (f + 5) (f + 4) s hk (d := 0) (by omega) K Q V (eB σ k) (gb (sF σ) k)
  have e1 := lay_step W h (f + 5) (f + 3) s hk (d := 1) (by omega) K Q V (eB σ k ^^^ eT σ k 0) (gb (sF σ) k ^^ ice σ k 0)
  have e2 := lay_step W h (f + 5) (f + 2) s hk (d := 2) (by omega) K Q V ((eB σ k ^^^ eT σ k 0) ^^^ eT σ k 1) ((gb (sF σ) k ^^ ice σ k 0) ^^ ice σ k 1)
  have e3 := lay_step W h (f + 5) (f + 1) s hk (d := 3) (by omega) K Q V (((eB σ k ^^^ eT σ k 0) ^^^ eT σ k 1) ^^^ eT σ k 2) (((gb (sF σ) k ^^ ice σ k 0) ^^ ice σ k 1) ^^ ice σ k 2)
  refine (show _ = f_X6_layEquations_b60 (f + 5) s g (nI (sN σ)) (nI k) K (f + 4 + 1) (vp_updL Q k (eB σ k)) (upd V k (bI (gb (sF σ) k))) (nI 0) from rfl).trans (e0.trans (e1.trans (e2.trans (e3.trans ?_))))
  rw [f_X6_layEquations_b60_s, if_pos (show (4 : Int32) ≤ nI (3 + 1) by decide), nI_1]; rfl
theorem M_lay {g : Nat → Int64} {σ : Sg} (W : EncM g σ) (h : WF σ) {n : Nat} (hn : 100 ≤ n) (s : MT) : ∀ (m f k : Nat) (Q : Nat → Int64) (V : Nat → Int32), k + m = sN σ → m < f → (∀ j, j < k → Q j = eR σ j ∧ V j = bI (eO σ j)) → ∃ Q' V', f_X6_layEquations_b10 n s g (nI (sN σ)) f Q V (nI k) = some (Q', V') ∧ ∀ j, j < sN σ → Q' j = eR σ j ∧ V' j = bI (eO σ j)
  | _, 0, _, _, _, _, hf, _ => absurd hf (Nat.not_lt_zero _)
  | 0, f + 1, k, Q, V, hk, _, hq => by
    have h64 := h.n64
    exact ⟨Q, V, by rw [f_X6_layEquations_b10_s, if_pos (show nI (sN σ) ≤ nI k from nI_le (by omega) (by omega))], fun j hj => hq j (by omega)⟩
  | m + 1, f + 1, k, Q, V, hk, hf, hq => by
    have h64 := h.n64
    have hin : ¬ (nI k < 0 ∨ 64 ≤ (nI k).toNatClampNeg) := nI_in (show k < 64 by omega) (by omega)
    have hin2 : ¬ (nI k < 0 ∨ 64 ≤ k) := fun q => q.elim (nI_pos (by omega)) (fun z => by omega)
    have hr := h.2.2.2.2.1
    obtain ⟨Q', V', e, r⟩ := M_lay W h hn s m f (k + 1) (vp_updL Q k (eR σ k)) (upd V k (bI (eO σ k))) (by omega) (by omega) (fun j hj => by
      by_cases q : j = k
      · subst q; exact ⟨pk_uLs, pk_us⟩
      · rw [pk_uLn q, pk_un q]; exact hq j (by omega))
    refine ⟨Q', V', ?_, r⟩
    have row := lay_row W h hn s (show k < sN σ by omega) (f_X6_layEquations_b10 n s g (nI (sN σ)) f) Q V
    rw [f_X6_layEquations_b10_s, if_neg (show ¬ nI (sN σ) ≤ nI k from nI_ge (by omega) (by omega)), W.2.1, has_gb (by omega), nar_b, nI_clamp (by omega)]
    have g2 : g 2 = lN (sRu σ) := W.1 2 (by omega)
    rw [g2]
    unfold eB at row
    by_cases q : sRu σ = 2
    · rw [if_pos (show lN (sRu σ) = 2 from (lN_eq (b := 2) (by omega) (by omega)).mpr q), if_neg hin2, if_neg hin2]
      rw [if_pos q] at row
      exact row.trans e
    · rw [if_neg (show ¬ lN (sRu σ) = 2 from fun z => q ((lN_eq (b := 2) (by omega) (by omega)).mp z)), if_neg hin2, if_neg hin2]
      rw [if_neg q] at row
      exact row.trans e
theorem M_layT {g : Nat → Int64} {σ : Sg} (W : EncM g σ) (h : WF σ) {n : Nat} (hn : 100 ≤ n) (s : MT) (Q : Nat → Int64) (V : Nat → Int32) : ∃ Q' V', f_X6_layEquations n s g Q V = some (Q', V') ∧ ∀ j, j < sN σ → Q' j = eR σ j ∧ V' j = bI (eO σ j) := by
  have h64 := h.n64
  unfold f_X6_layEquations
  rw [M_many W]
  exact M_lay W h hn s (sN σ) n 0 Q V (by omega) (by omega) (fun j hj => absurd hj (Nat.not_lt_zero j))
/-- the row for a column -/
theorem M_fnd {N k r : Nat} (hN : N ≤ 64) (hk : k < 64) (n : Nat) (g : Nat → Int64) (K : MT → (Nat → Int64) → (Nat → Int32) → Int32 → Option (Bool × MT × (Nat → Int64) × (Nat → Int32))) (s : MT) (E : Nat → Int64) (V : Nat → Int32) : ∀ (m f y : Nat), r ≤ y → y + m = N → m < f → (∀ j, r ≤ j → j < y → gb (E j) k = false) → (∃ j, r ≤ j ∧ j < N ∧ gb (E j) k = true ∧ f_X6_solve_b25 n g (nI N) (nI k) K f s E V (nI y) = f_X6_solve_b49 n g (nI N) K s E V (nI k) (nI j)) ∨ ((∀ j, r ≤ j → j < N → gb (E j) k = false) ∧ f_X6_solve_b25 n g (nI N) (nI k) K f s E V (nI y) = K s E V (nI (k + 1)))
  | _, 0, _, _, _, hf, _ => absurd hf (Nat.not_lt_zero _)
  | 0, f + 1, y, hr, hy, _, h => by
    refine .inr ⟨fun j h1 h2 => h j h1 (by omega), ?_⟩
    rw [f_X6_solve_b25_s, if_pos (show nI N ≤ nI y from nI_le (by omega) (by omega))]
    unfold f_X6_solve_b49
    rw [if_pos (show nI N ≤ nI y from nI_le (by omega) (by omega)), nI_1]
  | m + 1, f + 1, y, hr, hy, hf, h => by
    rw [f_X6_solve_b25_s, if_neg (show ¬ nI N ≤ nI y from nI_ge (by omega) (by omega)), if_neg (nI_in (show y < 64 by omega) (by omega)), nI_clamp (by omega), has_gb hk]
    cases c : gb (E y) k
    · rw [if_neg (by decide), nI_1]
      exact M_fnd hN hk n g K s E V m f (y + 1) (by omega) (by omega) (by omega) (fun j h1 h2 => by
        by_cases q : j = y
        · subst q; exact c
        · exact h j h1 (by omega))
    · rw [if_pos rfl]
      exact .inl ⟨y, hr, by omega, c, rfl⟩
theorem M_tol {N k i : Nat} (hN : N ≤ 64) (hk : k < 64) (hi : i < N) (n : Nat) (g : Nat → Int64) (K : MT → (Nat → Int64) → (Nat → Int32) → Int32 → Option (Bool × MT × (Nat → Int64) × (Nat → Int32))) {rf sz ac sp ou : Int32} (T : Nat → Int64) (b : Nat → Bool) : ∀ (m f j : Nat) (T' : Nat → Int64) (V' : Nat → Int32), j + m = N → m < f → (∀ l, l < N → T' l = if l < j then elR T k i l else T l) → (∀ l, l < N → V' l = bI (if l < j then elB T k i b l else b l)) → ∃ T2 V2, f_X6_solve_b125 n g (nI N) (nI k) (T i) (bI (b i)) K f (rf, sz, ac, nI i, sp, ou) T' V' (nI j) = K (rf, sz, ac, nI (i + 1), sp, ou) T2 V2 (nI (k + 1)) ∧ (∀ l, l < N → T2 l = elR T k i l) ∧ (∀ l, l < N → V2 l = bI (elB T k i b l))
  | _, 0, _, _, _, _, hf, _, _ => absurd hf (Nat.not_lt_zero _)
  | 0, f + 1, j, T', V', hj, _, h1, h2 => by
    refine ⟨T', V', ?_, fun l hl => by rw [h1 l hl, if_pos (by omega)], fun l hl => by rw [h2 l hl, if_pos (by omega)]⟩
    rw [f_X6_solve_b125_s, if_pos (show nI N ≤ nI j from nI_le (by omega) (by omega)), show m_rank (rf, sz, ac, nI i, sp, ou) + 1 = nI (i + 1) from nI_1 i, nI_1]
  | m + 1, f + 1, j, T', V', hj, hf, h1, h2 => by
    have tj : T' j = T j := by rw [h1 j (by omega), if_neg (Nat.lt_irrefl j)]
    have vj : V' j = bI (b j) := by rw [h2 j (by omega), if_neg (Nat.lt_irrefl j)]
    have hin : ¬ (nI j < 0 ∨ 64 ≤ (nI j).toNatClampNeg) := nI_in (show j < 64 by omega) (by omega)
    have hin2 : ¬ (nI j < 0 ∨ 64 ≤ j) := fun q => q.elim (nI_pos (by omega)) (fun z => by omega)
    have stay : ¬ (j ≠ i ∧ gb (T j) k = true) → (∀ l, l < N → T' l = if l < j + 1 then elR T k i l else T l) ∧ (∀ l, l < N → V' l = bI (if l < j + 1 then elB T k i b l else b l)) := fun c => by
      refine ⟨fun l hl => ?_, fun l hl => ?_⟩
      · by_cases q : l = j
        · subst q; rw [if_pos (by omega), tj]; exact (if_neg c).symm
        · rw [h1 l hl]
          by_cases q2 : l < j
          · rw [if_pos q2, if_pos (by omega)]
          · rw [if_neg q2, if_neg (by omega)]
      · by_cases q : l = j
        · subst q; rw [if_pos (by omega), vj]; exact congrArg bI (if_neg c).symm
        · rw [h2 l hl]
          by_cases q2 : l < j
          · rw [if_pos q2, if_pos (by omega)]
          · rw [if_neg q2, if_neg (by omega)]
    rw [f_X6_solve_b125_s, if_neg (show ¬ nI N ≤ nI j from nI_ge (by omega) (by omega))]
    by_cases ji : j = i
    · rw [if_pos (show nI j = m_rank (rf, sz, ac, nI i, sp, ou) by rw [ji]), nI_1]
      obtain ⟨s1, s2⟩ := stay (fun c => c.1 ji)
      exact M_tol hN hk hi n g K T b m f (j + 1) T' V' (by omega) (by omega) s1 s2
    · rw [if_neg (show ¬ nI j = m_rank (rf, sz, ac, nI i, sp, ou) from fun q => ji ((nI_eq (by omega) (by omega)).mp q)), if_neg hin, nI_clamp (by omega), has_gb hk, tj]
      by_cases c : gb (T j) k = true
      · have cc : j ≠ i ∧ gb (T j) k = true := ⟨ji, c⟩
        rw [if_pos c, if_neg hin2, if_neg hin2, if_neg hin2, if_neg hin2, vj, nar_x, nI_1]
        refine M_tol hN hk hi n g K T b m f (j + 1) _ _ (by omega) (by omega) (fun l hl => ?_) (fun l hl => ?_)
        · by_cases q : l = j
          · subst q; rw [pk_uLs, if_pos (by omega)]; exact (if_pos cc).symm
          · rw [pk_uLn q, h1 l hl]
            by_cases q2 : l < j
            · rw [if_pos q2, if_pos (by omega)]
            · rw [if_neg q2, if_neg (by omega)]
        · by_cases q : l = j
          · subst q; rw [pk_us, if_pos (by omega)]; exact congrArg bI (if_pos cc).symm
          · rw [pk_un q, h2 l hl]
            by_cases q2 : l < j
            · rw [if_pos q2, if_pos (by omega)]
            · rw [if_neg q2, if_neg (by omega)]
      · rw [if_neg c, nI_1]
        obtain ⟨s1, s2⟩ := stay (fun z => c z.2)
        exact M_tol hN hk hi n g K T b m f (j + 1) T' V' (by omega) (by omega) s1 s2
theorem M_take {N k r j : Nat} (hN : N ≤ 64) (hk : k < 64) (hr : r ≤ j) (hj : j < N) {n : Nat} (hn : 100 ≤ n) (g : Nat → Int64) (K : MT → (Nat → Int64) → (Nat → Int32) → Int32 → Option (Bool × MT × (Nat → Int64) × (Nat → Int32))) {rf sz ac sp ou : Int32} (E : Nat → Int64) (V : Nat → Int32) (b : Nat → Bool) (hV : ∀ l, l < N → V l = bI (b l)) : ∃ T2 V2, f_X6_solve_b49 n g (nI N) K (rf, sz, ac, nI r, sp, ou) E V (nI k) (nI j) = K (rf, sz, ac, nI (r + 1), sp, ou) T2 V2 (nI (k + 1)) ∧ (∀ l, l < N → T2 l = elR (swp E j r) k r l) ∧ (∀ l, l < N → V2 l = bI (elB (swp E j r) k r (swp b j r) l)) := by
  have hin : ¬ (nI j < 0 ∨ 64 ≤ (nI j).toNatClampNeg) := nI_in (show j < 64 by omega) (by omega)
  have hin2 : ¬ (nI j < 0 ∨ 64 ≤ j) := fun q => q.elim (nI_pos (by omega)) (fun z => by omega)
  have hir : ¬ (m_rank (rf, sz, ac, nI r, sp, ou) < 0 ∨ 64 ≤ (m_rank (rf, sz, ac, nI r, sp, ou)).toNatClampNeg) := nI_in (show r < 64 by omega) (by omega)
  have hr2 : (m_rank (rf, sz, ac, nI r, sp, ou)).toNatClampNeg = r := nI_clamp (by omega)
  unfold f_X6_solve_b49
  rw [if_neg (show ¬ nI N ≤ nI j from nI_ge hj (by omega)), if_neg hin, if_neg hin, if_neg hir, if_neg hin, if_neg hir, if_neg hin, if_neg hir, if_neg hir, hr2, nI_clamp (by omega), hV j hj, hV r (by omega), nar_b, nar_b]
  have s1 : swp E j r r = E j := if_pos rfl
  have s2 : swp b j r r = b j := if_pos rfl
  have t := M_tol hN hk (show r < N by omega) n g K (rf := rf) (sz := sz) (ac := ac) (sp := sp) (ou := ou) (swp E j r) (swp b j r) N n 0 (vp_updL (vp_updL E j (E r)) r (E j)) (upd (upd V j (bI (b r))) r (bI (b j))) (by omega) (by omega) (fun l hl => by
    rw [if_neg (Nat.not_lt_zero l)]
    by_cases c1 : l = r
    · subst c1; rw [pk_uLs, s1]
    · rw [pk_uLn c1]
      by_cases c2 : l = j
      · subst c2; rw [pk_uLs]; exact ((if_neg c1).trans (if_pos rfl)).symm
      · rw [pk_uLn c2]; exact ((if_neg c1).trans (if_neg c2)).symm) (fun l hl => by
    rw [if_neg (Nat.not_lt_zero l)]
    by_cases c1 : l = r
    · subst c1; rw [pk_us, s2]
    · rw [pk_un c1]
      by_cases c2 : l = j
      · subst c2; rw [pk_us]; exact congrArg bI ((if_neg c1).trans (if_pos rfl)).symm
      · rw [pk_un c2, hV l hl]; exact congrArg bI ((if_neg c1).trans (if_neg c2)).symm)
  rw [s1, s2] at t
  exact t
def rkU (r : Nat) : Nat → Bool := fun i => decide (i < r)
theorem cnt_rk {r : Nat} : ∀ {N : Nat}, r ≤ N → cnt (rkU r) N = r
  | N, h => by
    have a : cnt (rkU r) N = cnt (rkU r) r := cnt_out (fun i hi => decide_eq_false (by omega)) h
    have c : ∀ m, m ≤ r → cnt (rkU r) m = m := fun m => by
      induction m with
      | zero => intro _; rfl
      | succ m ih => intro hm; rw [cnt, ih (by omega), if_pos (show rkU r m = true from decide_eq_true (show m < r by omega))]
    rw [a, c r (Nat.le_refl _)]
theorem M_sol {N : Nat} (hN : N ≤ 64) {R0 : Nat → Int64} {b0 : Nat → Bool} {n : Nat} (hn : 100 ≤ n) (g : Nat → Int64) {rf sz ac sp ou : Int32} : ∀ (m f k r : Nat) (E : Nat → Int64) (V : Nat → Int32) (b P : Nat → Bool), k + m = N → m < f → r ≤ N → (∀ l, l < N → V l = bI (b l)) → Inv N R0 b0 k E b (rkU r) P → ∃ r2 E2 V2 b2 P2, f_X6_solve_b15 n g (nI N) f (rf, sz, ac, nI r, sp, ou) E V (nI k) = f_X6_solve_b205 n g (nI N) n (rf, sz, ac, nI r2, sp, ou) E2 V2 (nI r2) ∧ r2 ≤ N ∧ (∀ l, l < N → V2 l = bI (b2 l)) ∧ Inv N R0 b0 N E2 b2 (rkU r2) P2
  | _, 0, _, _, _, _, _, _, _, hf, _, _, _ => absurd hf (Nat.not_lt_zero _)
  | 0, f + 1, k, r, E, V, b, P, hk, _, hr, hV, I => by
    obtain rfl : k = N := by omega
    refine ⟨r, E, V, b, P, ?_, hr, hV, I⟩
    rw [f_X6_solve_b15_s, if_pos (show nI k ≤ nI k from nI_le (Nat.le_refl _) (by omega))]
  | m + 1, f + 1, k, r, E, V, b, P, hk, hf, hr, hV, I => by
    rw [f_X6_solve_b15_s, if_neg (show ¬ nI N ≤ nI k from nI_ge (by omega) (by omega))]
    rcases M_fnd hN (show k < 64 by omega) n g (f_X6_solve_b15 n g (nI N) f) (rf, sz, ac, nI r, sp, ou) E V (N - r) n r (Nat.le_refl _) (by omega) (by omega) (fun j h1 h2 => absurd h2 (by omega)) with ⟨j, q1, q2, q3, e⟩ | ⟨q, e⟩
    · obtain ⟨T2, V2, e2, g1, g2⟩ := M_take hN (show k < 64 by omega) q1 q2 hn g (f_X6_solve_b15 n g (nI N) f) (rf := rf) (sz := sz) (ac := ac) (sp := sp) (ou := ou) E V b hV
      have uj : rkU r j = false := decide_eq_false (by omega)
      have ur : rkU r r = false := decide_eq_false (by omega)
      have I2 := Inv_el (U' := rkU (r + 1)) (Inv_swp I q2 (show r < N by omega) uj ur) (i := r) (by omega) ur (by rw [show swp E j r r = E j from if_pos rfl]; exact q3) (decide_eq_true (by omega)) (fun l _ hne => decide_eq_decide.mpr (by omega))
      have I3 := Inv_cong (b' := elB (swp E j r) k r (swp b j r)) g1 (fun _ _ => rfl) (fun _ _ => rfl) I2
      obtain ⟨r2, E2, V3, b2, P2, e3, rest⟩ := M_sol hN hn g (rf := rf) (sz := sz) (ac := ac) (sp := sp) (ou := ou) m f (k + 1) (r + 1) T2 V2 _ _ (by omega) (by omega) (by omega) g2 I3
      exact ⟨r2, E2, V3, b2, P2, (show f_X6_solve_b25 n g (nI N) (nI k) (f_X6_solve_b15 n g (nI N) f) n (rf, sz, ac, nI r, sp, ou) E V (nI r) = _ from e.trans (e2.trans e3)), rest⟩
    · obtain ⟨r2, E2, V3, b2, P2, e3, rest⟩ := M_sol hN hn g (rf := rf) (sz := sz) (ac := ac) (sp := sp) (ou := ou) m f (k + 1) r E V b _ (by omega) (by omega) hr hV (Inv_no I (fun i hi hu => q i (Nat.le_of_not_lt (of_decide_eq_false hu)) hi))
      exact ⟨r2, E2, V3, b2, P2, (show f_X6_solve_b25 n g (nI N) (nI k) (f_X6_solve_b15 n g (nI N) f) n (rf, sz, ac, nI r, sp, ou) E V (nI r) = _ from e.trans e3), rest⟩
theorem M_end {N : Nat} (hN : N ≤ 64) (n : Nat) (g : Nat → Int64) (s : MT) (E : Nat → Int64) (V : Nat → Int32) (b : Nat → Bool) (hV : ∀ l, l < N → V l = bI (b l)) (r : Nat) : ∀ (m f i : Nat), r ≤ i → i + m = N → m < f → (∀ j, r ≤ j → j < i → b j = false) → ∃ x, f_X6_solve_b205 n g (nI N) f s E V (nI i) = some (x, s, E, V) ∧ (x = true ↔ Slv N b (rkU r))
  | _, 0, _, _, _, hf, _ => absurd hf (Nat.not_lt_zero _)
  | 0, f + 1, i, hr, hi, _, h => by
    refine ⟨true, ?_, fun _ j hj hu => h j (Nat.le_of_not_lt (of_decide_eq_false hu)) (by omega), fun _ => rfl⟩
    rw [f_X6_solve_b205_s, if_pos (show nI N ≤ nI i from nI_le (by omega) (by omega))]
  | m + 1, f + 1, i, hr, hi, hf, h => by
    rw [f_X6_solve_b205_s, if_neg (show ¬ nI N ≤ nI i from nI_ge (by omega) (by omega)), if_neg (nI_in (show i < 64 by omega) (by omega)), nI_clamp (by omega), hV i (by omega)]
    cases c : b i
    · rw [if_pos (show bI false = 0 from rfl), nI_1]
      exact M_end hN n g s E V b hV r m f (i + 1) (by omega) (by omega) (by omega) (fun j h1 h2 => by
        by_cases q : j = i
        · subst q; exact c
        · exact h j h1 (by omega))
    · refine ⟨false, if_neg (show ¬ bI true = 0 by decide), fun q => (by cases q), fun q => ?_⟩
      have := q i (by omega) (decide_eq_false (by omega))
      rw [c] at this; cases this
theorem M_solve {g : Nat → Int64} {σ : Sg} (W : EncM g σ) (h : WF σ) {n : Nat} (hn : 100 ≤ n) (rf sz ac rk sp ou : Int32) (E : Nat → Int64) (V : Nat → Int32) (hE : ∀ j, j < sN σ → E j = eR σ j ∧ V j = bI (eO σ j)) : ∃ x r E2 V2 b P, f_X6_solve n (rf, sz, ac, rk, sp, ou) g E V = some (x, (rf, sz, ac, nI r, sp, ou), E2, V2) ∧ r ≤ sN σ ∧ (x = true ↔ Slv (sN σ) b (rkU r)) ∧ (∀ l, l < sN σ → V2 l = bI (b l)) ∧ Inv (sN σ) (eR σ) (eO σ) (sN σ) E2 b (rkU r) P := by
  have h64 := h.n64
  have I0 : Inv (sN σ) (eR σ) (eO σ) 0 E (eO σ) (rkU 0) nob := Inv_cong (U := rkU 0) (fun i hi => (hE i hi).1) (fun _ _ => rfl) (fun _ _ => rfl) (Inv_0 _ _ _ (fun i _ => decide_eq_false (Nat.not_lt_zero i)))
  obtain ⟨r, E2, V2, b, P, e, h1, h2, I⟩ := M_sol h64 hn g (rf := rf) (sz := sz) (ac := ac) (sp := sp) (ou := ou) (sN σ) n 0 0 E V (eO σ) nob (by omega) (by omega) (by omega) (fun l hl => (hE l hl).2) I0
  obtain ⟨x, e2, hx⟩ := M_end h64 n g (rf, sz, ac, nI r, sp, ou) E2 V2 b h2 r (sN σ - r) n r (Nat.le_refl _) (by omega) (by omega) (fun j a c => absurd c (by omega))
  refine ⟨x, r, E2, V2, b, P, ?_, h1, hx, h2, I⟩
  unfold f_X6_solve
  rw [M_many W]
  exact (show f_X6_solve_b15 n g (nI (sN σ)) n (rf, sz, ac, nI 0, sp, ou) E V (nI 0) = _ from e).trans e2
theorem M_low {x : Int64} {p : Nat} (hp : p < 64) (h1 : gb x p = true) (h2 : ∀ q, q < p → gb x q = false) (n : Nat) : ∀ (m f i : Nat), i + m = p → m < f → f_X6_lowest_b2 n x f (nI i) = some (nI p)
  | _, 0, _, _, hf => absurd hf (Nat.not_lt_zero _)
  | 0, f + 1, i, hi, _ => by
    obtain rfl : i = p := by omega
    rw [f_X6_lowest_b2_s, has_gb hp, if_pos h1]
  | m + 1, f + 1, i, hi, hf => by
    rw [f_X6_lowest_b2_s, has_gb (by omega), h2 i (by omega), if_neg (by decide), nI_1]
    exact M_low hp h1 h2 n m f (i + 1) (by omega) (by omega)
theorem M_ls {N : Nat} (hN : N ≤ 64) {R0 E : Nat → Int64} {b0 b P : Nat → Bool} {V : Nat → Int32} {r : Nat} (hr : r ≤ N) (hV : ∀ l, l < N → V l = bI (b l)) (I : Inv N R0 b0 N E b (rkU r) P) {n : Nat} (hn : 100 ≤ n) (g : Nat → Int64) {rf sz ac sp ou : Int32} : ∀ (m f i : Nat) (acc : Int64), i + m = r → m < f → Out N E b (rkU r) i acc → ∃ a, f_X6_before_b42 n g f (rf, sz, ac, nI r, sp, ou) E V acc (nI i) = some (a, (rf, sz, ac, nI r, sp, ou), E, V) ∧ Out N E b (rkU r) r a
  | _, 0, _, _, _, hf, _ => absurd hf (Nat.not_lt_zero _)
  | 0, f + 1, i, acc, hi, _, O => by
    obtain rfl : i = r := by omega
    exact ⟨acc, by rw [f_X6_before_b42_s, if_pos (show nI i ≤ nI i from nI_le (Nat.le_refl _) (by omega))], O⟩
  | m + 1, f + 1, i, acc, hi, hf, O => by
    have hin2 : ¬ (nI i < 0 ∨ 64 ≤ i) := fun q => q.elim (nI_pos (by omega)) (fun z => by omega)
    rw [f_X6_before_b42_s, if_neg (show ¬ nI r ≤ nI i from nI_ge (by omega) (by omega)), if_neg (nI_in (show i < 64 by omega) (by omega)), nI_clamp (by omega), hV i (by omega), nI_1]
    have hu : rkU r i = true := decide_eq_true (by omega)
    cases c : b i
    · rw [if_pos (show bI false = 0 from rfl), show acc ||| 0 = acc from gb_ext (fun k _ => by rw [gb_or, gb_0, Bool.or_false])]
      exact M_ls hN hr hV I hn g m f (i + 1) _ (by omega) (by omega) (Out_step O (fun q => by rw [c] at q; cases q.2))
    · obtain ⟨p, p1, p2, p3⟩ := I.2.2.1 i (by omega) hu
      have el : f_X6_lowest n (E i) = some (nI p) := M_low (by omega) p3.1 p3.2.1 n p n 0 (by omega) (by omega)
      rw [if_neg (show ¬ bI true = 0 by decide), if_neg hin2, el, ob_some]
      exact M_ls hN hr hV I hn g m f (i + 1) _ (by omega) (by omega) (Out_put hN O hu c p1 p3)
