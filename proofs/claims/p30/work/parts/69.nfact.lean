/-! nights, and the states before one: what the law asks of them -/
theorem pas_sd (σ : Sg) (m d : Nat) : sSd (pas σ m) d = sSd σ d := if_neg (show ¬ 4 + d = 3 by omega)
theorem pas_nbr (σ : Sg) (m k d : Nat) : nbr (pas σ m) k d = nbr σ k d := by
  unfold nbr; rw [pas_sd]; rfl
theorem pas_scr (σ : Sg) (m k d : Nat) : scr (pas σ m) k d = scr σ k d := by
  unfold scr; rw [pas_nbr]; rfl
theorem pas_nxt (σ : Sg) (m k d : Nat) : nxt (pas σ m) k d = nxt σ k d := by
  unfold nxt; rw [pas_nbr, pas_scr]
theorem pas_cld (σ : Sg) (m : Nat) (x : Int64) (k d : Nat) : cld (pas σ m) x k d = cld σ x k d := by
  unfold cld ice hit; rw [pas_nxt, pas_sd]; rfl
theorem pas_night (σ : Sg) (m : Nat) (x : Int64) : night (pas σ m) x = night σ x := by
  unfold night
  refine mkN_cong (fun i _ => ?_)
  unfold will oddB
  rw [pas_cld, pas_cld, pas_cld, pas_cld]; rfl
theorem gb_night {σ : Sg} (h : WF σ) (x : Int64) {i : Nat} (hi : i < sN σ) : gb (night σ x) i = will σ x i := by
  unfold night
  rw [gb_mkN _ _ h.n64, decide_eq_true hi, Bool.true_and]
theorem eT_par {σ : Sg} (h : WF σ) (x : Int64) {i d : Nat} (hi : i < sN σ) (hd : d < 4) : par (fun k => gb (eT σ i d) k && gb x k) (sN σ) = hit σ x i d := by
  unfold hit
  cases e : nxt σ i d with
  | none => exact par_zero (fun k _ => by rw [gb_eT h hi hd, e, decide_eq_false (fun q => by cases q)]; rfl)
  | some j =>
    have hj := nxt_lt h hi hd e
    rw [par_one hj (fun k _ hne => by rw [gb_eT h hi hd, e, decide_eq_false (fun q => hne (Option.some.inj q).symm)]; rfl), gb_eT h hi hd, e, decide_eq_true rfl]
    exact Bool.true_and _
theorem cld_x {σ : Sg} (x : Int64) (i d : Nat) : cld σ x i d = (ice σ i d ^^ hit σ x i d) := by
  unfold cld
  cases z : hit σ x i d
  · cases ice σ i d <;> rfl
  · obtain ⟨j, e, -⟩ := hit_iff.mp z
    rw [ice_nxt e]; rfl
theorem eR_par {σ : Sg} (h : WF σ) (r : sRu σ ≠ 0) (x : Int64) {i : Nat} (hi : i < sN σ) : par (fun k => gb (eR σ i) k && gb x k) (sN σ) = (gb (night σ x) i ^^ (((ice σ i 0 ^^ ice σ i 1) ^^ ice σ i 2) ^^ ice σ i 3)) := by
  have n64 := h.n64
  have hr := h.2.2.2.2.1
  have eb : par (fun k => gb (eB σ i) k && gb x k) (sN σ) = (decide (sRu σ = 2) && gb x i) := by
    unfold eB
    by_cases q : sRu σ = 2
    · rw [decide_eq_true q, Bool.true_and]
      rw [par_one (p := i) hi (fun k _ hne => by rw [if_pos q, gb_one (by omega), decide_eq_false hne]; rfl), if_pos q, gb_one (by omega), decide_eq_true rfl]; rfl
    · rw [decide_eq_false q, Bool.false_and]
      exact par_zero (fun k _ => by rw [if_neg q, gb_0]; rfl)
  unfold eR
  rw [par_add, par_add, par_add, par_add, eb, eT_par h x hi (by omega), eT_par h x hi (by omega), eT_par h x hi (by omega), eT_par h x hi (by omega), gb_night h x hi]
  unfold will oddB
  rw [if_neg r, cld_x, cld_x, cld_x, cld_x]
  generalize ice σ i 0 = c0
  generalize ice σ i 1 = c1
  generalize ice σ i 2 = c2
  generalize ice σ i 3 = c3
  generalize hit σ x i 0 = h0
  generalize hit σ x i 1 = h1
  generalize hit σ x i 2 = h2
  generalize hit σ x i 3 = h3
  generalize gb x i = g
  by_cases e : sRu σ = 1
  · rw [if_pos e, decide_eq_false (show ¬ sRu σ = 2 by omega)]
    cases c0 <;> cases c1 <;> cases c2 <;> cases c3 <;> cases h0 <;> cases h1 <;> cases h2 <;> cases h3 <;> rfl
  · rw [if_neg e, decide_eq_true (show sRu σ = 2 by omega)]
    cases c0 <;> cases c1 <;> cases c2 <;> cases c3 <;> cases h0 <;> cases h1 <;> cases h2 <;> cases h3 <;> cases g <;> rfl
theorem sat_of {σ : Sg} (h : WF σ) (r : sRu σ ≠ 0) {x : Int64} (e : night σ x = sF σ) : Sat (sN σ) (eR σ) (eO σ) (gb x) := fun i hi => by
  rw [eR_par h r x hi, e]
  unfold eO
  cases gb (sF σ) i <;> cases ice σ i 0 <;> cases ice σ i 1 <;> cases ice σ i 2 <;> cases ice σ i 3 <;> rfl
theorem all_P {P : Nat → Bool} : ∀ {N : Nat}, cnt P N = N → ∀ k, k < N → P k = true
  | 0, _, k, hk => absurd hk (Nat.not_lt_zero k)
  | N + 1, e, k, hk => by
    have a := cnt_le P N
    rw [cnt] at e
    by_cases q : P N = true
    · rw [if_pos q] at e
      by_cases z : k = N
      · rw [z]; exact q
      · exact all_P (N := N) (by omega) k (by omega)
    · rw [if_neg q] at e; omega
/-- where no column is free, there is one solution -/
theorem one_sol {N : Nat} {R0 R : Nat → Int64} {b0 b U P : Nat → Bool} (I : Inv N R0 b0 N R b U P) (hU : cnt U N = N) {x y : Int64} (hx : inW x N) (hy : inW y N) (sx : Sat N R0 b0 (gb x)) (sy : Sat N R0 b0 (gb y)) : y = x := by
  have hP := all_P (P := P) (N := N) (by rw [← I.2.2.2.2.2]; exact hU)
  apply gb_ext
  intro k _
  by_cases hk : k < N
  · rw [lsol_u I sx (fun k hk z => by rw [hP k hk] at z; cases z) hk, lsol_u I sy (fun k hk z => by rw [hP k hk] at z; cases z) hk]
  · rw [inW_f hx (by omega), inW_f hy (by omega)]
theorem lt_bit {x y f : Nat} (h0 : x.testBit f = false) (h1 : y.testBit f = true) (h : ∀ j, f < j → x.testBit j = y.testBit j) : x < y := by
  have a : x / 2 ^ f / 2 = y / 2 ^ f / 2 := by
    apply Nat.eq_of_testBit_eq
    intro i
    rw [Nat.div_div_eq_div_mul, Nat.div_div_eq_div_mul, ← Nat.pow_succ, Nat.testBit_div_two_pow, Nat.testBit_div_two_pow]
    exact h _ (by omega)
  rw [Nat.testBit_eq_decide_div_mod_eq] at h0 h1
  have b := of_decide_eq_false h0
  have c := of_decide_eq_true h1
  have d : x / 2 ^ f < y / 2 ^ f := by omega
  rcases Nat.lt_or_ge x y with z | z
  · exact z
  · have := Nat.div_le_div_right (c := 2 ^ f) z
    omega
theorem tN_bit (x : Int64) (i : Nat) : (tN x).testBit i = gb x i := rfl
/-- the solution that is given is the least one -/
theorem least_sol {N : Nat} (hN : N ≤ 64) {R0 R : Nat → Int64} {b0 b U P : Nat → Bool} (I : Inv N R0 b0 N R b U P) {a x : Int64} (O : Out N R b U N a) (hx : inW x N) (sx : Sat N R0 b0 (gb x)) : tN a ≤ tN x := by
  have S := Slv_of I sx
  by_cases e : a = x
  · rw [e]; exact Nat.le_refl _
  have ha : ∀ k, N ≤ k → gb a k = false := fun k hk => by
    cases q : gb a k
    · rfl
    · obtain ⟨_, _, _, _, q4, _⟩ := (O k).mp q
      omega
  have ex : ∃ k, k < 64 ∧ ¬ gb a (63 - k) = gb x (63 - k) := by
    apply Classical.byContradiction
    intro hn
    apply e
    apply gb_ext
    intro i hi
    apply Classical.byContradiction
    intro z
    exact hn ⟨63 - i, by omega, by rw [show 63 - (63 - i) = i by omega]; exact z⟩
  obtain ⟨k, ⟨k64, hk⟩, lst⟩ := pk_least (fun k => k < 64 ∧ ¬ gb a (63 - k) = gb x (63 - k)) ex
  have top : ∀ j, 63 - k < j → j < 64 → gb a j = gb x j := fun j h1 h2 => by
    apply Classical.byContradiction
    intro z
    exact lst (63 - j) (by omega) ⟨by omega, by rw [show 63 - (63 - j) = j by omega]; exact z⟩
  have fN : 63 - k < N := by
    apply Classical.byContradiction
    intro z
    exact hk (by rw [ha _ (by omega), inW_f hx (by omega)])
  have sa : Sat N R0 b0 (gb a) := fun i hi => by
    rw [← lsol_sat I S i hi]
    exact par_cong (fun j hj => by rw [Out_l I O hj])
  have sd : Sat N R0 nob (fun j => gb a j ^^ gb x j) := fun i hi => by
    have p := par_xor (fun j => gb (R0 i) j && gb a j) (fun j => gb (R0 i) j && gb x j) N
    rw [sa i hi, sx i hi] at p
    show par (fun j => gb (R0 i) j && (gb a j ^^ gb x j)) N = false
    rw [par_cong (g := fun j => (gb (R0 i) j && gb a j) ^^ (gb (R0 i) j && gb x j)) (fun j _ => by cases gb (R0 i) j <;> cases gb a j <;> cases gb x j <;> rfl), p]
    cases b0 i <;> rfl
  have nP : P (63 - k) = false := by
    cases q : P (63 - k)
    · rfl
    · refine absurd ⟨_, sd, ?_, fun j h1 h2 => ?_⟩ ((Inv_P I fN).mp q)
      · show (gb a (63 - k) ^^ gb x (63 - k)) = true
        revert hk
        cases gb a (63 - k) <;> cases gb x (63 - k) <;> intro hk
        · exact absurd rfl hk
        · rfl
        · rfl
        · exact absurd rfl hk
      · show (gb a j ^^ gb x j) = false
        rw [top j h1 (by omega)]
        cases gb x j <;> rfl
  have a0 : gb a (63 - k) = false := by
    rw [Out_l I O fN]
    show (P (63 - k) && _) = false
    rw [nP]; rfl
  have x1 : gb x (63 - k) = true := by
    cases q : gb x (63 - k)
    · exact absurd (by rw [a0, q]) hk
    · rfl
  refine Nat.le_of_lt (lt_bit (f := 63 - k) (by rw [tN_bit]; exact a0) (by rw [tN_bit]; exact x1) (fun j hj => ?_))
  rw [tN_bit, tN_bit]
  by_cases j64 : j < 64
  · exact top j hj j64
  · rw [gb_big (by omega), gb_big (by omega)]
/-! the calls -/
def oLk (o : OT) (g : Nat → Int64) : OT := (o_tx o, o_sg o, o_w o, o_tr o, o_p o, o_sk o, o_b0 o, o_k0 o, o_b1 o, o_k1 o, o_e o, o_g o, g)
section NF
variable {o : OT} {σ : Sg} {n : Nat}
theorem ca_befores (E : EncW (o_w o) σ) (h : WF σ) (hn : 1000 ≤ n) (r : sRu σ ≠ 0) {x : Int64} (hx : inW x (sN σ)) (e : night σ x = sF σ) (a b c : Int32) : ∃ f s g, f ≤ sN σ ∧ f_L_call n o 15 a b c = some (nI f, oEq o s g) ∧ (f = 0 → ∀ y, inW y (sN σ) → night σ y = sF σ → y = x) := by
  have n64 := h.n64
  have hr := h.2.2.2.2.1
  have er : w_rule (o_w o) = nI (sRu σ) := E.2.2.1
  have ni : ¬ nI (sRu σ) = 0 := nI_ne0 (by omega) (by omega)
  obtain ⟨ob, u, T2, P, e1, w1, w2, I⟩ := W_solve E h r (n := n) (by omega) (o_e o) (o_g o)
  have S := Slv_of I (sat_of h r e)
  have z : f_X0_isSolved (nI (sN σ), ob, u) = true := (W_isS w1).mpr S
  refine ⟨sN σ - cnt (gb u) (sN σ), (nI (sN σ), ob, u), T2, by omega, ?_, fun f0 y hy ey => ?_⟩
  · rw [fc_15]; unfold f_L_tryBefores f_X5_befores f_X5_needLinearRule
    have e2 : obx (if w_rule (o_w o) = 0 then (some (.inl 3) : Option (Nat ⊕ Unit)) else some (.inr ())) (fun _ => (f_X0_solve n (o_e o) (o_g o) (o_w o)).bind (fun r_2 => (if (f_X0_isSolved r_2.1) = true then (some (.inr ((f_X0_free r_2.1), r_2.1, r_2.2))) else (some (.inr ((-1), r_2.1, r_2.2)))))) = (some (.inr (nI (sN σ - cnt (gb u) (sN σ)), (nI (sN σ), ob, u), T2)) : Option (Nat ⊕ (Int32 × ET × (Nat → Int64)))) := by
      rw [er, if_neg ni]
      show (f_X0_solve n (o_e o) (o_g o) (o_w o)).bind _ = _
      rw [e1, ob_some]
      refine pif z ?_
      show some (Sum.inr (f_X0_free (nI (sN σ), ob, u), _)) = _
      rw [W_free n64 w2 rfl]
    show Option.bind (Option.bind (obx (if w_rule (o_w o) = 0 then (some (.inl 3) : Option (Nat ⊕ Unit)) else some (.inr ())) (fun _ => (f_X0_solve n (o_e o) (o_g o) (o_w o)).bind (fun r_2 => (if (f_X0_isSolved r_2.1) = true then (some (.inr ((f_X0_free r_2.1), r_2.1, r_2.2))) else (some (.inr ((-1), r_2.1, r_2.2))))))) _) _ = _
    rw [e2]; rfl
  · have := cnt_le (gb u) (sN σ)
    exact one_sol I (by omega) hx hy (sat_of h r e) (sat_of h r ey)
theorem ca_was (E : EncW (o_w o) σ) (h : WF σ) (hn : 1000 ≤ n) (r : sRu σ ≠ 0) {x : Int64} (hx : inW x (sN σ)) (e : night σ x = sF σ) : ∃ y s g, g_L_was n o = some (y, s, g) ∧ tN y ≤ tN x ∧ inW y (sN σ) ∧ Sat (sN σ) (eR σ) (eO σ) (gb y) := by
  have n64 := h.n64
  have hr := h.2.2.2.2.1
  have er : w_rule (o_w o) = nI (sRu σ) := E.2.2.1
  have ni : ¬ nI (sRu σ) = 0 := nI_ne0 (by omega) (by omega)
  obtain ⟨ob, u, T2, P, e1, w1, w2, I⟩ := W_solve E h r (n := n) (by omega) (o_e o) (o_g o)
  have S := Slv_of I (sat_of h r e)
  have z : f_X0_isSolved (nI (sN σ), ob, u) = true := (W_isS w1).mpr S
  obtain ⟨a, f1, O⟩ := W_ls n64 I n (sN σ) n 0 0 (by omega) (by omega) (Out_0 _ _ _ _)
  refine ⟨a, (nI (sN σ), ob, u), T2, ?_, least_sol n64 I O hx (sat_of h r e), fun k hk => ?_, fun i hi => ?_⟩
  · unfold g_L_was f_L_was f_X5_before f_X5_needLinearRule
    have e2 : obx (if w_rule (o_w o) = 0 then (some (.inl 3) : Option (Nat ⊕ Unit)) else some (.inr ())) (fun _ => (f_X0_solve n (o_e o) (o_g o) (o_w o)).bind (fun r_2 => (if (f_X0_isSolved r_2.1) = true then (f_X0_leastSolution n r_2.1 r_2.2).bind (fun r_4 => (some (.inr (r_4, r_2.1, r_2.2)))) else (some (.inr (0, r_2.1, r_2.2)))))) = (some (.inr (a, (nI (sN σ), ob, u), T2)) : Option (Nat ⊕ (Int64 × ET × (Nat → Int64)))) := by
      rw [er, if_neg ni]
      show (f_X0_solve n (o_e o) (o_g o) (o_w o)).bind _ = _
      rw [e1, ob_some]
      refine pif z ?_
      show (f_X0_leastSolution_b4 n (nI (sN σ), ob, u) T2 n 0 (nI 0)).bind _ = _
      rw [f1]; rfl
    show Option.bind (obx (if w_rule (o_w o) = 0 then (some (.inl 3) : Option (Nat ⊕ Unit)) else some (.inr ())) (fun _ => (f_X0_solve n (o_e o) (o_g o) (o_w o)).bind (fun r_2 => (if (f_X0_isSolved r_2.1) = true then (f_X0_leastSolution n r_2.1 r_2.2).bind (fun r_4 => (some (.inr (r_4, r_2.1, r_2.2)))) else (some (.inr (0, r_2.1, r_2.2))))))) _ = _
    rw [e2]; rfl
  · obtain ⟨_, _, _, _, q, _⟩ := (O k).mp hk
    exact q
  · rw [← lsol_sat I S i hi]
    exact par_cong (fun j hj => by rw [Out_l I O hj])
theorem cx_befores (E : EncW (o_w o) σ) (r : sRu σ = 0) (a b c : Int32) : f_L_call n o 15 a b c = some (-9999003, o) := by
  have er : w_rule (o_w o) = nI (sRu σ) := E.2.2.1
  rw [fc_15]; unfold f_L_tryBefores f_X5_befores f_X5_needLinearRule
  rw [er, r, if_pos (show nI 0 = 0 from rfl)]; rfl
theorem cx_was (E : EncW (o_w o) σ) (r : sRu σ = 0) : g_L_was n o = some (-9999003, o_e o, o_g o) := by
  have er : w_rule (o_w o) = nI (sRu σ) := E.2.2.1
  unfold g_L_was f_L_was f_X5_before f_X5_needLinearRule
  rw [er, r, if_pos (show nI 0 = 0 from rfl)]; rfl
theorem fz_spec (σ : Sg) (k : Nat) : ∀ (m i : Nat), (fzN σ k m i = -1 ∧ ∀ j, i ≤ j → j < i + m → gb (nightI σ (sF σ) j) k = false) ∨ (∃ t, i ≤ t ∧ t < i + m ∧ fzN σ k m i = nI t ∧ gb (nightI σ (sF σ) t) k = true ∧ ∀ j, i ≤ j → j < t → gb (nightI σ (sF σ) j) k = false)
  | 0, i => Or.inl ⟨rfl, fun j h1 h2 => by omega⟩
  | m + 1, i => by
    rw [fzN]
    by_cases q : gb (nightI σ (sF σ) i) k = true
    · rw [if_pos q]
      exact Or.inr ⟨i, Nat.le_refl _, by omega, rfl, q, fun j h1 h2 => by omega⟩
    · rw [if_neg q]
      have q' : gb (nightI σ (sF σ) i) k = false := by
        cases z : gb (nightI σ (sF σ) i) k
        · rfl
        · exact absurd z q
      rcases fz_spec σ k m (i + 1) with ⟨a, b⟩ | ⟨t, t1, t2, t3, t4, t5⟩
      · refine Or.inl ⟨a, fun j h1 h2 => ?_⟩
        by_cases e : j = i
        · rw [e]; exact q'
        · exact b j (by omega) (by omega)
      · refine Or.inr ⟨t, by omega, by omega, t3, t4, fun j h1 h2 => ?_⟩
        by_cases e : j = i
        · rw [e]; exact q'
        · exact t5 j (by omega) h2
theorem ca_freezes (E : EncW (o_w o) σ) (h : WF σ) (hn : 1000 ≤ n) {k : Nat} (hk : k < sN σ) (b c : Int32) : f_L_call n o 16 (nI k) b c = some (fzN σ k 101 0, o) := by
  rw [fc_16]; unfold f_L_tryFreezes f_X5_freezesIn
  rw [NC_t E h (cell_in h hk)]
  show ((f_X5_freezesIn_b16 n (o_w o) (nI k) n (w_frozen (o_w o)) (nI 0)).bind _).bind _ = _
  have e := W_fz E h n hk 101 n 0 (by omega) (by omega)
  rw [show w_frozen (o_w o) = nightI σ (sF σ) 0 from E.2.2.2.2.1, e]; rfl
theorem ca_again (E : EncW (o_w o) σ) (h : WF σ) (hn : 1000 ≤ n) {x r : Int32} (q : rng x 0 1 = true) (A : Ans (nightI σ (sF σ)) x r) (b c : Int32) : f_L_call n o 14 x b c = some (r, oLk o (lkF (o_l o) (nightI σ (sF σ)) 301)) := by
  rw [fc_14]; unfold f_L_tryAgain
  rw [W_ag E h hn (o_l o) q A]; rfl
theorem ag_ex (a : Nat → Int64) : ∃ r0 r1, Ans a 0 r0 ∧ Ans a 1 r1 ∧ ((r0 = -1 ∧ r1 = -1) ∨ ∃ u T, u < T ∧ T ≤ 300 ∧ a u = a T ∧ r0 = nI u ∧ r1 = nI (T - u)) := by
  by_cases ex : ∃ T, T ≤ 300 ∧ ∃ u, u < T ∧ a u = a T
  · obtain ⟨T, ⟨hT, u, hu, e⟩, lst⟩ := pk_least (fun T => T ≤ 300 ∧ ∃ u, u < T ∧ a u = a T) ex
    have D : Dis a T := fun i j hij hj z => lst j hj ⟨by omega, i, hij, z⟩
    exact ⟨nI u, nI (T - u), Or.inl ⟨u, T, hu, hT, D, e, (if_pos rfl).symm⟩, Or.inl ⟨u, T, hu, hT, D, e, (if_neg (by decide)).symm⟩, Or.inr ⟨u, T, hu, hT, e, rfl, rfl⟩⟩
  · have D : Dis a 301 := fun i j hij hj z => ex ⟨j, by omega, i, hij, z⟩
    exact ⟨-1, -1, Or.inr ⟨D, rfl⟩, Or.inr ⟨D, rfl⟩, Or.inl ⟨rfl, rfl⟩⟩
theorem ca_looks1 (E : EncW (o_w o) σ) (h : WF σ) (hn : 1000 ≤ n) : g_L_looks n o 1 = some (night σ (sF σ)) := ca_looks E h hn (m := 1) (by omega) (by omega)
end NF
theorem th_no {c : Nat} (hc : c < 14) : f_L_thrown (nI c) = false := by
  unfold f_L_thrown
  have t : ∀ z : Int32, z.toInt < 0 → ¬ nI c = z := fun z hz q => by
    have := congrArg Int32.toInt q
    rw [nI_toInt (by omega)] at this
    omega
  rw [if_neg (t _ (by decide)), if_neg (t _ (by decide)), if_neg (t _ (by decide))]
/-- nights, and their undo -/
theorem did_nights {v : VT} (V : VV v) {σ : Sg} (E : EncW v.1 σ) (h : WF σ) {n : Nat} (hn : 1000 ≤ n) {m : Nat} (m1 : 1 ≤ m) (m2 : m ≤ 60) : ∃ v1 v2 c r, VV v1 ∧ VV v2 ∧ v2.1 = v.1 ∧ EncW v1.1 (pas σ m) ∧ c < 14 ∧ (∀ q : OT, vis q = v → f_L_call n q 12 (nI m) 0 0 = some (r, put q v1)) ∧ ∀ q : OT, vis q = v1 → f_L_call n q 13 0 0 0 = some (nI c, put q v2) := by
  obtain ⟨w0, p0, sk0, b0, k0, b1, k1⟩ := v
  have q1 : rng (nI m) 1 60 = true := by
    have := rng_nI (k := m) 1 60 (by omega)
    exact this.trans (decide_eq_true ⟨m1, m2⟩)
  obtain ⟨p', sk', eP, HP, bk, hc⟩ := POK_rem V.2.1 V.1
  obtain ⟨w', eT, E'⟩ := W_pass E h (n := n) (by omega) m1 m2
  obtain ⟨p2, c2, c14, eB, HB, ec⟩ := bk w'
  refine ⟨(w', p', sk', b0, k0, b1, k1), (w0, p2, sk', b0, k0, b1, k1), c2, nI (cnt (gb (sF (pas σ m))) 64), W_did V ⟨_, WF_pas h m, E'⟩ HP, ⟨V.1, HB, V.2.2.1, V.2.2.2⟩, rfl, E', c14, fun q hq => ?_, fun q hq => ?_⟩
  · have eP : f_X1_remember p0 sk0 w0 = (p', sk') := eP
    have eT : f_X4_pass n w0 (nI m) = some (nI (cnt (gb (sF (pas σ m))) 64), w') := eT
    rw [fc_12]; unfold f_L_tryNights f_X5_nights
    obtain ⟨a1, a2, a3, a4, a5, a6, a7, a8, a9, a10, a11, a12, a13⟩ := q
    cases hq
    rw [NR_t q1, eP, eT]; rfl
  · have e : f_X5_undo w' p' sk' = some (.inr (nI c2, w0, p2)) := by
      unfold f_X5_undo
      rw [if_neg hc, eB, ← ec]; rfl
    rw [fc_13]; unfold f_L_tryUndo
    obtain ⟨a1, a2, a3, a4, a5, a6, a7, a8, a9, a10, a11, a12, a13⟩ := q
    cases hq
    rw [e]; rfl
