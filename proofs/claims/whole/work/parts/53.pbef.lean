theorem Out_rk {N r : Nat} {R : Nat → Int64} {b : Nat → Bool} (hr : r ≤ N) {a : Int64} (O : Out N R b (rkU r) r a) : Out N R b (rkU r) N a := fun k => (O k).trans ⟨fun ⟨i, h1, h⟩ => ⟨i, by omega, h⟩, fun ⟨i, _, h2, h⟩ => ⟨i, of_decide_eq_true h2, h2, h⟩⟩
theorem slv_x {x : Bool} {A B : Prop} (h1 : x = true ↔ A) (h2 : A ↔ B) : (x = true) ↔ B := h1.trans h2
theorem cs_befores {w : WT} {g : Nat → Int64} {σ : Sg} (E : EncW w σ) (W : EncM g σ) (h : WF σ) {n : Nat} (hn : 1000 ≤ n) (m : MT) (s : ET) (T Q o : Nat → Int64) (V : Nat → Int32) :
    Same (f_L_befores n w s T o) (f_X6_befores n m g Q V) (fun r1 r2 => f_X6_thrown r2.2.1 = r1.1 ∧ (r1.1 = 0 → r1.2.2.2 0 = r2.1.toInt64) ∧ m_size r2.2.1 = m_size m ∧ m_acts r2.2.1 = m_acts m) := by
  have h64 := h.n64
  have hr := h.2.2.2.2.1
  have er : w_rule w = nI (sRu σ) := E.2.2.1
  have g2 : g 2 = lN (sRu σ) := W.1 2 (by omega)
  by_cases r : sRu σ = 0
  · refine same_i (1, s, T, o) (0, mk m 1, Q, V) ?_ ?_ ⟨rfl, no1, rfl, rfl⟩
    · unfold f_L_befores f_X5_befores f_X5_needLinearRule
      rw [er, r, if_pos (show nI 0 = 0 from rfl)]; rfl
    · unfold f_X6_befores
      rw [g2, r, if_pos (show lN 0 = 0 from rfl), ref1]; rfl
  · have nr : ¬ lN (sRu σ) = 0 := fun z => r ((lN_eq (b := 0) (by omega) (by omega)).mp z)
    have ni : ¬ nI (sRu σ) = 0 := nI_ne0 (by omega) (by omega)
    obtain ⟨ob, u, T2, P, e1, w1, w2, I1⟩ := W_solve E h r (n := n) (by omega) s T
    obtain ⟨Q1, V1, e2, hQ⟩ := M_layT W h (n := n) (by omega) (mk m 0) Q V
    obtain ⟨x, rr, Q2, V2, b, P2, e3, hle, hx, hV, I2⟩ := M_solve W h (n := n) (by omega) 0 (m_size m) (m_acts m) (m_rank m) (m_spot m) (m_out m) Q1 V1 hQ
    have iff := (W_isS (c := nI (sN σ)) (u := u) w1).trans ((Slv_iff I1 I2).trans hx.symm)
    have rank : cnt (gb u) (sN σ) = rr := (Inv_rank I1 I2).trans (cnt_rk hle)
    have A : f_L_befores n w s T o = (if f_X0_isSolved (nI (sN σ), ob, u) = true then some (0, (nI (sN σ), ob, u), T2, vp_updL o 0 (f_X0_free (nI (sN σ), ob, u)).toInt64) else some (0, (nI (sN σ), ob, u), T2, vp_updL o 0 (-1 : Int32).toInt64)) := by
      unfold f_L_befores f_X5_befores f_X5_needLinearRule
      rw [er, if_neg ni]
      show Option.bind (Option.bind (f_X0_solve n s T w) _) _ = _
      rw [e1, ob_some]
      show Option.bind (if f_X0_isSolved (nI (sN σ), ob, u) = true then _ else _) _ = _
      by_cases z : f_X0_isSolved (nI (sN σ), ob, u) = true
      · rw [if_pos z, if_pos z]; rfl
      · rw [if_neg z, if_neg z]; rfl
    have B : f_X6_befores n m g Q V = (if x = true then some (nI (sN σ) - nI rr, (0, m_size m, m_acts m, nI rr, m_spot m, m_out m), Q2, V2) else some (-1, (0, m_size m, m_acts m, nI rr, m_spot m, m_out m), Q2, V2)) := by
      unfold f_X6_befores
      rw [g2, if_neg nr, ref0]
      show Option.bind (f_X6_layEquations n (mk m 0) g Q V) _ = _
      rw [e2, ob_some]
      show Option.bind (f_X6_solve n (0, m_size m, m_acts m, m_rank m, m_spot m, m_out m) g Q1 V1) _ = _
      rw [e3, ob_some, M_many W]
    by_cases z : f_X0_isSolved (nI (sN σ), ob, u) = true
    · rw [if_pos z] at A
      rw [if_pos (iff.mp z)] at B
      refine same_i _ _ A B ⟨rfl, fun _ => ?_, rfl, rfl⟩
      show vp_updL o 0 (f_X0_free (nI (sN σ), ob, u)).toInt64 0 = (nI (sN σ) - nI rr).toInt64
      rw [pk_uLs, W_free h64 w2 rfl, rank, pk_sub hle]
    · rw [if_neg z] at A
      rw [if_neg (fun q => z (iff.mpr q))] at B
      exact same_i _ _ A B ⟨rfl, fun _ => rfl, rfl, rfl⟩
theorem cs_before {w : WT} {g : Nat → Int64} {σ : Sg} (E : EncW w σ) (W : EncM g σ) (h : WF σ) {n : Nat} (hn : 1000 ≤ n) (m : MT) (s : ET) (T Q o : Nat → Int64) (V : Nat → Int32) :
    Same (f_L_before n w s T o) (f_X6_before n m g Q V) (fun r1 r2 => f_X6_thrown r2.2.1 = r1.1 ∧ (r1.1 = 0 → r1.2.2.2 0 = r2.1) ∧ m_size r2.2.1 = m_size m ∧ m_acts r2.2.1 = m_acts m) := by
  have h64 := h.n64
  have hr := h.2.2.2.2.1
  have er : w_rule w = nI (sRu σ) := E.2.2.1
  have g2 : g 2 = lN (sRu σ) := W.1 2 (by omega)
  by_cases r : sRu σ = 0
  · refine same_i (1, s, T, o) (0, mk m 1, Q, V) ?_ ?_ ⟨rfl, no1, rfl, rfl⟩
    · unfold f_L_before f_X5_before f_X5_needLinearRule
      rw [er, r, if_pos (show nI 0 = 0 from rfl)]; rfl
    · unfold f_X6_before
      rw [g2, r, if_pos (show lN 0 = 0 from rfl), ref1]; rfl
  · have nr : ¬ lN (sRu σ) = 0 := fun z => r ((lN_eq (b := 0) (by omega) (by omega)).mp z)
    have ni : ¬ nI (sRu σ) = 0 := nI_ne0 (by omega) (by omega)
    obtain ⟨ob, u, T2, P, e1, w1, w2, I1⟩ := W_solve E h r (n := n) (by omega) s T
    obtain ⟨Q1, V1, e2, hQ⟩ := M_layT W h (n := n) (by omega) (mk m 0) Q V
    obtain ⟨x, rr, Q2, V2, b, P2, e3, hle, hx, hV, I2⟩ := M_solve W h (n := n) (by omega) 0 (m_size m) (m_acts m) (m_rank m) (m_spot m) (m_out m) Q1 V1 hQ
    have iff := (W_isS (c := nI (sN σ)) (u := u) w1).trans ((Slv_iff I1 I2).trans hx.symm)
    obtain ⟨a1, f1, O1⟩ := W_ls h64 I1 n (sN σ) n 0 0 (by omega) (by omega) (Out_0 _ _ _ _)
    obtain ⟨a2, f2, O2⟩ := M_ls h64 hle hV I2 (n := n) (by omega) g (rf := 0) (sz := m_size m) (ac := m_acts m) (sp := m_spot m) (ou := m_out m) rr n 0 0 (by omega) (by omega) (Out_0 _ _ _ _)
    have A : f_L_before n w s T o = (if f_X0_isSolved (nI (sN σ), ob, u) = true then some (0, (nI (sN σ), ob, u), T2, vp_updL o 0 a1) else some (0, (nI (sN σ), ob, u), T2, vp_updL o 0 0)) := by
      unfold f_L_before f_X5_before f_X5_needLinearRule
      rw [er, if_neg ni]
      show Option.bind (Option.bind (f_X0_solve n s T w) _) _ = _
      rw [e1, ob_some]
      show Option.bind (if f_X0_isSolved (nI (sN σ), ob, u) = true then Option.bind (f_X0_leastSolution_b4 n (nI (sN σ), ob, u) T2 n 0 (nI 0)) _ else _) _ = _
      rw [f1]
      by_cases z : f_X0_isSolved (nI (sN σ), ob, u) = true
      · rw [if_pos z, if_pos z]; rfl
      · rw [if_neg z, if_neg z]; rfl
    have B : f_X6_before n m g Q V = (if x = true then some (a2, (0, m_size m, m_acts m, nI rr, m_spot m, m_out m), Q2, V2) else some (0, (0, m_size m, m_acts m, nI rr, m_spot m, m_out m), Q2, V2)) := by
      unfold f_X6_before
      rw [g2, if_neg nr, ref0]
      show Option.bind (f_X6_layEquations n (mk m 0) g Q V) _ = _
      rw [e2, ob_some]
      show Option.bind (f_X6_solve n (0, m_size m, m_acts m, m_rank m, m_spot m, m_out m) g Q1 V1) _ = _
      rw [e3, ob_some]
      show (if x = true then f_X6_before_b42 n g n (0, m_size m, m_acts m, nI rr, m_spot m, m_out m) Q2 V2 0 (nI 0) else _) = _
      rw [f2]
    by_cases z : f_X0_isSolved (nI (sN σ), ob, u) = true
    · rw [if_pos z] at A
      rw [if_pos (iff.mp z)] at B
      refine same_i _ _ A B ⟨rfl, fun _ => ?_, rfl, rfl⟩
      show vp_updL o 0 a1 0 = a2
      rw [pk_uLs]
      exact Out_u I1 I2 ((W_isS w1).mp z) O1 (Out_rk hle O2)
    · rw [if_neg z] at A
      rw [if_neg (fun q => z (iff.mpr q))] at B
      exact same_i _ _ A B ⟨rfl, fun _ => rfl, rfl, rfl⟩
