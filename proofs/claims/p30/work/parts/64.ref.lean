/-! calls that are refused leave everything as it was -/
theorem spx {β T : Type} {X : Option (Int32 × β)} {z : Int32} {o : β} {A B : Int32 × β → Option T} {R : Option T} (h : X = some (z, o)) (k : A (z, o) = R) : (X.bind (fun r => if r.1 = z then A r else B r)) = R := by
  rw [h]; exact (if_pos rfl).trans k
theorem slx {T : Type} {X : Option Int64} {z : Int64} {A B : Int64 → Option T} {R : Option T} (h : X = some z) (k : A z = R) : (X.bind (fun r => if r = z then A r else B r)) = R := by
  rw [h]; exact (if_pos rfl).trans k
theorem nif {T : Type} {c : Prop} [Decidable c] {a b R : T} (h : ¬ c) (k : b = R) : (if c then a else b) = R := (if_neg h).trans k
theorem pif {T : Type} {c : Prop} [Decidable c] {a b R : T} (h : c) (k : a = R) : (if c then a else b) = R := (if_pos h).trans k
theorem no_lo {x : Int32} {a b : Int} (h : x.toInt < a) : ¬ rng x a b = true := fun q => by have := of_decide_eq_true q; omega
theorem no_hi {x : Int32} {a b : Int} (h : b < x.toInt) : ¬ rng x a b = true := fun q => by have := of_decide_eq_true q; omega
theorem yes_r {x : Int32} {a b : Int} (h1 : a ≤ x.toInt) (h2 : x.toInt ≤ b) : rng x a b = true := decide_eq_true ⟨h1, h2⟩
theorem sb_I {a : Int} {z : Nat} (h1 : -1000 ≤ a) (h2 : a ≤ 1000) (hz : z ≤ 1000) : (Int32.ofInt a - nI z).toInt = a - z := by
  rw [nI_z, ← Int32.ofInt_sub, Int32.toInt_ofInt_of_le (by omega) (by omega)]
theorem ad_I {a z : Nat} (h : a + z < 2 ^ 31) : (nI a + nI z).toInt = ((a + z : Nat) : Int) := by rw [nI_add, nI_toInt h]
theorem m1_I {z : Nat} (hz : z ≤ 1000) : ((-1 : Int32) - nI z).toInt = -1 - z := by
  rw [show (-1 : Int32) = Int32.ofInt (-1) by decide]
  exact sb_I (a := -1) (by omega) (by omega) hz
theorem p1_I {z : Nat} (hz : z ≤ 1000) : ((1 : Int32) - nI z).toInt = 1 - z := by
  rw [show (1 : Int32) = Int32.ofInt 1 by decide]
  exact sb_I (a := 1) (by omega) (by omega) hz
theorem ng_I {z : Nat} (hz : z ≤ 1000) : (-(nI z)).toInt = -z := by
  rw [nI_z, ← Int32.ofInt_neg, Int32.toInt_ofInt_of_le (by omega) (by omega)]
theorem lw_low {S : Nat} (hS : S < 2 ^ 63) {c : Nat} (hc : c < 2 ^ 31) (n : Nat) : ∀ (m f i : Nat), i + m = c → m < f → f_X5_withoutLowest_b5 n (nI c) f (lN (S / 10000 ^ i)) (nI i) = some (lN (S / 10000 ^ c))
  | _, 0, _, _, hf => absurd hf (Nat.not_lt_zero _)
  | 0, f + 1, i, hi, _ => by
    obtain rfl : i = c := by omega
    rw [f_X5_withoutLowest_b5_s, if_pos (nI_le (Nat.le_refl _) (by omega))]
  | m + 1, f + 1, i, hi, hf => by
    have hd : S / 10000 ^ i < 2 ^ 63 := Nat.lt_of_le_of_lt (Nat.div_le_self _ _) hS
    have e : lN (S / 10000 ^ i) / 10000 = lN (S / 10000 ^ (i + 1)) := by
      rw [Nat.pow_succ, ← Nat.div_div_eq_div_mul]
      exact pk_lDiv (b := 10000) hd (by omega) (by omega)
    rw [f_X5_withoutLowest_b5_s, if_neg (nI_ge (by omega) (by omega)), e, nI_1]
    exact lw_low hS hc n m f (i + 1) (by omega) (by omega)
theorem cx_scp1 {n : Nat} (hn : 1000 ≤ n) {o : OT} {X : Nat} (hX : X < 2 ^ 31) : g_L_doScript n o 1 (10000 + (nI X).toInt64) = some (-9999002, o_tr o) := by
  have e : (10000 : Int64) + (nI X).toInt64 = lN (10000 + X) := by rw [nI_l hX]; exact lN_add 10000 X
  have e2 : f_X5_withoutLowest n (lN (10000 + X)) 1 = some (lN ((10000 + X) / 10000)) := by
    have := lw_low (S := 10000 + X) (by omega) (c := 1) (by omega) n 1 n 0 (by omega) (by omega)
    rw [Nat.pow_zero, Nat.div_one, Nat.pow_one] at this
    exact this
  have p0 : ¬ lN (10000 + X) < 0 := fun q => by have := (pk_lLT (b := 0) (by omega) (by omega)).mp q; omega
  have p1 : ¬ lN ((10000 + X) / 10000) = 0 := fun q => by have := (pk_lEQ (b := 0) (by omega) (by omega)).mp q; omega
  unfold g_L_doScript f_L_doScript f_X5_runScript
  rw [NR_t (x := 1) (a := 1) (b := 3) (by decide), e]
  show ((obx (some (Sum.inr ())) (fun _ => (if lN (10000 + X) < 0 then some (Sum.inl 2) else (f_X5_withoutLowest n (lN (10000 + X)) 1).bind _)) : Option (Nat ⊕ (Int32 × WT)))).bind _ = _
  have e3 : ∀ k : Unit → Option (Nat ⊕ (Int32 × WT)), obx (some (Sum.inr ())) k = k () := fun k => rfl
  rw [e3, if_neg p0, e2, ob_some, if_neg p1]; rfl
section RF
variable {o : OT} {σ : Sg} {n : Nat}
theorem rf_355 (E : EncW (o_w o) σ) (h : WF σ) (hn : 1000 ≤ n) {X : Nat} (hX : X < 2 ^ 31) {y3 z2 : Int32} (hno : ¬ rng y3 (0 : Nat) ((sN σ - 1 : Nat) : Int) = true) (hz : ¬ rng z2 0 2 = true) : f_L_refuses_b355 n o (nI X) (nI (sN σ)) y3 10 z2 = some (true, o) := by
  have n4 := h.n4
  have n64 := h.n64
  have m9 : irm (nI X) 9 = nI (X % 9) := irm_nI (d := 9) hX (by omega) (by omega)
  have m50 : irm (nI X) 50 = nI (X % 50) := irm_nI (d := 50) hX (by omega) (by omega)
  have mN : irm (nI X) (nI (sN σ)) = nI (X % sN σ) := irm_nI hX (by omega) (by omega)
  have hN : ¬ nI (sN σ) = 0 := nI_ne0 (by omega) (by omega)
  have hc := cell_in h (Nat.mod_lt X (show 0 < sN σ by omega))
  have l9 := Nat.mod_lt X (show 0 < 9 by omega)
  have l50 := Nat.mod_lt X (show 0 < 50 by omega)
  have big : ∀ {a k : Nat} {u v : Int}, k < 1000 → a < 1000 → v < a → ¬ rng (nI a + nI k) u v = true := fun {a k u v} h1 h2 h3 => no_hi (by rw [ad_I (by omega)]; omega)
  unfold f_L_refuses_b355
  rw [m9, m50, mN]
  refine spx (cx_rule hz 0 0) ?_
  refine spx (cx_thw1 E h hno 99 0) ?_
  refine nif hN ?_
  refine spx (cx_thw2 E h hc (big (a := 10) (by omega) (by omega) (by omega)) 0) ?_
  refine spx (cx_nights (big (a := 61) (by omega) (by omega) (by omega)) 0 0) ?_
  refine slx (cx_looks (big (a := 201) (by omega) (by omega) (by omega))) ?_
  refine slx (cx_looks (no_lo (by rw [ng_I (by omega)]; omega))) ?_
  refine spx (cx_again (big (a := 2) (by omega) (by omega) (by omega)) 0 0) ?_
  refine spx (cx_freezes E h hno 0 0) ?_
  refine spx (cx_keeps1 E h hno 0 0) ?_
  refine nif hN ?_
  refine spx (cx_keeps2 E h hc (big (a := 21) (by omega) (by omega) (by omega)) 0) ?_
  refine spx (cx_save (big (a := 2) (by omega) (by omega) (by omega)) 0 0) ?_
  refine spx (cx_back (no_lo (by rw [m1_I (by omega)]; omega)) 0 0) ?_
  refine spx cx_scp0 ?_
  refine spx (cx_scp1 hn hX) ?_
  refine spx (cx_sim (big (a := 61) (by omega) (by omega) (by omega))) ?_
  rfl
theorem rf_112 (E : EncW (o_w o) σ) (h : WF σ) (hn : 1000 ≤ n) {X : Nat} (hX : X < 2 ^ 31) {y3 y4 y5 z2 : Int32} (hno : ¬ rng y3 (0 : Nat) ((sN σ - 1 : Nat) : Int) = true) (hfar : ¬ rng y4 0 3 = true) (hbad : ¬ rng y5 2 8 = true) (hz : ¬ rng z2 0 255 = true) : f_L_refuses_b112 n o (nI X) (nI (sN σ)) y3 y4 y5 0 z2 = some (true, o) := by
  have n4 := h.n4
  have n64 := h.n64
  have m9 : irm (nI X) 9 = nI (X % 9) := irm_nI (d := 9) hX (by omega) (by omega)
  have m50 : irm (nI X) 50 = nI (X % 50) := irm_nI (d := 50) hX (by omega) (by omega)
  have m4 : irm (nI X) 4 = nI (X % 4) := irm_nI (d := 4) hX (by omega) (by omega)
  have m2 : irm (nI X) 2 = nI (X % 2) := irm_nI (d := 2) hX (by omega) (by omega)
  have mN : irm (nI X) (nI (sN σ)) = nI (X % sN σ) := irm_nI hX (by omega) (by omega)
  have hN : ¬ nI (sN σ) = 0 := nI_ne0 (by omega) (by omega)
  have hc := cell_in h (Nat.mod_lt X (show 0 < sN σ by omega))
  have l9 := Nat.mod_lt X (show 0 < 9 by omega)
  have l4 := Nat.mod_lt X (show 0 < 4 by omega)
  have l50 := Nat.mod_lt X (show 0 < 50 by omega)
  have big : ∀ {a k : Nat} {u v : Int}, k < 1000 → a < 1000 → v < a → ¬ rng (nI a + nI k) u v = true := fun {a k u v} h1 h2 h3 => no_hi (by rw [ad_I (by omega)]; omega)
  have h9 : ¬ rng (9 : Int32) 0 3 = true := by decide
  unfold f_L_refuses_b112
  rw [m9, m50, mN, m4, m2]
  refine spx (cx_append hz 0 0) ?_
  refine spx (cx_about (big (a := 8) (by omega) (by omega) (by omega)) 0 0) ?_
  refine spx (cx_cell1 E h hno 9 0) ?_
  refine nif hN ?_
  refine spx (cx_cell2 E h hc (big (a := 4) (by omega) (by omega) (by omega)) 0) ?_
  refine spx (cx_next1 E h hno 9 0) ?_
  refine nif hN ?_
  refine spx (cx_next2 E h hc hfar 0) ?_
  refine spx (cx_side hfar 0 0) ?_
  refine spx (cx_size1 hbad 4 0) ?_
  refine spx (cx_size2 (x := 4) (by decide) hbad 0) ?_
  refine spx (cx_flip E h hno 0 0) ?_
  refine spx (cx_scr1 E h hno 9 0) ?_
  refine nif hN ?_
  refine spx (cx_scr2 E h hc hfar 0) ?_
  refine spx (cx_brd1 hfar 0 0) ?_
  refine spx (cx_brd2 (dir_in l4) (big (a := 3) (by omega) (by omega) (by omega)) 0) ?_
  by_cases q : nI (X % 2) = 0
  · refine pif q ?_
    exact rf_355 E h hn hX hno (no_lo (by rw [m1_I (by omega)]; omega))
  · refine nif q ?_
    exact rf_355 E h hn hX hno (big (a := 3) (by omega) (by omega) (by omega))
theorem rf_ok (E : EncW (o_w o) σ) (h : WF σ) (hn : 1000 ≤ n) {X : Nat} (hX : X < 2 ^ 31) : f_L_refuses n o (nI X) = some (true, o) := by
  have n4 := h.n4
  have n64 := h.n64
  have m9 : irm (nI X) 9 = nI (X % 9) := irm_nI (d := 9) hX (by omega) (by omega)
  have m99 : irm (nI X) 99 = nI (X % 99) := irm_nI (d := 99) hX (by omega) (by omega)
  have m2 : irm (nI X) 2 = nI (X % 2) := irm_nI (d := 2) hX (by omega) (by omega)
  have l9 := Nat.mod_lt X (show 0 < 9 by omega)
  have l99 := Nat.mod_lt X (show 0 < 99 by omega)
  have big : ∀ {a k : Nat} {u v : Int}, k < 1000 → a < 1000 → v < a → ¬ rng (nI a + nI k) u v = true := fun {a k u v} h1 h2 h3 => no_hi (by rw [ad_I (by omega)]; omega)
  have e0 : f_L_call n o 2 0 0 0 = some (nI (sR σ), o) := ca_about E h hn (d := 0) (by omega) 0 0
  have e1 : f_L_call n o 2 1 0 0 = some (nI (sC σ), o) := ca_about E h hn (d := 1) (by omega) 0 0
  unfold f_L_refuses
  rw [e0, ob_some, e1, ob_some, m2, m99, pk_mul, show sR σ * sC σ = sN σ from rfl]
  have lo : ∀ {u v : Int}, -1 < u → ¬ rng ((-1 : Int32) - nI (X % 99)) u v = true := fun hu => no_lo (by rw [m1_I (by omega)]; omega)
  have k61 : ∀ {y3 y4 : Int32}, ¬ rng y3 (0 : Nat) ((sN σ - 1 : Nat) : Int) = true → ¬ rng y4 0 3 = true → f_L_refuses_b61 n o (nI X) (nI (sN σ)) y3 y4 = some (true, o) := by
    intro y3 y4 hno hfar
    unfold f_L_refuses_b61
    rw [m2, m99, m9]
    by_cases q : nI (X % 2) = 0
    · refine pif q (pif q ?_)
      exact rf_112 E h hn hX hno hfar (no_lo (by rw [p1_I (by omega)]; omega)) (no_lo (by rw [m1_I (by omega)]; omega))
    · refine nif q (nif q ?_)
      exact rf_112 E h hn hX hno hfar (big (a := 9) (by omega) (by omega) (by omega)) (big (a := 256) (by omega) (by omega) (by omega))
  by_cases q : nI (X % 2) = 0
  · refine pif q (pif q ?_)
    exact k61 (lo (by omega)) (lo (by omega))
  · refine nif q (nif q ?_)
    exact k61 (no_hi (by rw [ad_I (by omega)]; show ((sN σ - 1 : Nat) : Int) < ((sN σ + X % 99 : Nat) : Int); omega)) (big (a := 4) (by omega) (by omega) (by omega))
end RF
