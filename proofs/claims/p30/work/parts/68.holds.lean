/-! what holds with each window: the law's walk over it -/
theorem nb (a : Nat) (b : Bool) : nI a + bI b = nI (a + (if b = true then 1 else 0)) := by
  cases b
  · exact nI_add a 0
  · exact nI_add a 1
theorem nI_sb (a b : Nat) : nI (a + b) - nI b = nI a := by
  rw [← nI_add]; exact Int32.add_sub_cancel _ _
theorem a1_b (y : Int64) : (y &&& 1).toInt32 = bI (gb y 0) := by
  cases q : gb y 0
  · rw [(gb_a1 y).mpr q]; rfl
  · rw [(gb_a1' y).mpr q]; rfl
theorem js_b {x : Int64} {k : Nat} (hk : k < 64) : gb (jsr x (nI k)) 0 = gb x k := by
  rw [gb_jsr hk x (by omega), if_pos (by omega)]; rfl
theorem js_1 {x : Int64} {k : Nat} (hk : k < 64) : ((jsr x (nI k)) &&& 1) = 1 ↔ gb x k = true := by rw [gb_a1', js_b hk]
def sv4 (b0 b1 b2 b3 : Bool) : Int32 := ((((0 : Int32) ||| (if b0 = true then isl 1 (nI 0) else 0)) ||| (if b1 = true then isl 1 (nI 1) else 0)) ||| (if b2 = true then isl 1 (nI 2) else 0)) ||| (if b3 = true then isl 1 (nI 3) else 0)
theorem sv4_b (b0 b1 b2 b3 : Bool) : (((isr (sv4 b0 b1 b2 b3) (nI 0)) &&& 1) = 1 ↔ b0 = true) ∧ (((isr (sv4 b0 b1 b2 b3) (nI 1)) &&& 1) = 1 ↔ b1 = true) ∧ (((isr (sv4 b0 b1 b2 b3) (nI 2)) &&& 1) = 1 ↔ b2 = true) ∧ (((isr (sv4 b0 b1 b2 b3) (nI 3)) &&& 1) = 1 ↔ b3 = true) := by
  cases b0 <;> cases b1 <;> cases b2 <;> cases b3 <;> decide +kernel
theorem sat_b (σ : Sg) (k : Nat) {d : Nat} (hd : d < 4) : ((isr (sAt σ k 4) (nI d)) &&& 1) = 1 ↔ scr σ k d = true := by
  have e : sAt σ k 4 = sv4 (scr σ k 0) (scr σ k 1) (scr σ k 2) (scr σ k 3) := rfl
  rw [e]
  obtain ⟨a, b, c, d'⟩ := sv4_b (scr σ k 0) (scr σ k 1) (scr σ k 2) (scr σ k 3)
  rcases four hd with rfl | rfl | rfl | rfl
  · exact a
  · exact b
  · exact c
  · exact d'
theorem op_I {d : Nat} (hd : d < 4) : irm (nI d + 2) 4 = nI (opp d) := by
  have e : nI d + 2 = nI (d + 2) := nI_add d 2
  rw [e]
  exact irm_nI (d := 4) (by omega) (by omega) (by omega)
theorem bt0 : ¬ bI true = 0 := by decide
section HB
variable {n : Nat} {y1 y2 y3 : Int32} {y4 : Int64} {y6 y10 y13 y14 : Int32} {K154 K210 : OT → Int32 → Int32 → Int32 → Int32 → Int32 → Option (Bool × OT)} {o : OT} {y7 y8 y12 y15 y16 : Int32} {is cut th on : Bool}
theorem h535 (hc : th = true → cut = false → is = true → f_L_call n o 3 y16 2 0 = some (y14, o)) : f_L_holds_b535 n y1 y2 y3 y4 y6 y10 (bI is) y13 y14 K154 K210 o y7 y8 y12 y15 y16 (bI cut) (bI th) = K210 o y7 y8 1 y12 (y15 + 1) := by
  unfold f_L_holds_b535
  cases th
  · exact if_pos rfl
  · refine nif bt0 ?_
    cases cut
    · refine pif (show bI false = 0 from rfl) ?_
      cases is
      · exact if_pos rfl
      · refine nif bt0 ?_
        rw [hc rfl rfl rfl, ob_some]; exact if_pos rfl
    · exact if_neg bt0
theorem h467_n {z : Int32} : f_L_holds_b467 n y1 y2 y3 y4 y6 y10 (bI is) y13 y14 K154 K210 o y7 y8 y12 y15 (-1) (bI false) (bI false) z z = K210 o y7 y8 1 y12 (y15 + 1) := by
  unfold f_L_holds_b467
  refine pif rfl (pif rfl (pif rfl ?_))
  exact h535 (fun q => by cases q)
theorem h467_s {z s : Int32} {j : Nat} (hj : j < 64) (hn : f_L_call n o 4 (nI j) (irm (y15 + 2) 4) 0 = some (y10, o)) (hs : f_L_call n o 3 (nI j) 3 0 = some (s, o)) (hb : ((isr s (irm (y15 + 2) 4)) &&& 1) = 1 ↔ cut = true) (hc : th = true → cut = false → is = true → f_L_call n o 3 (nI j) 2 0 = some (y14, o)) : f_L_holds_b467 n y1 y2 y3 y4 y6 y10 (bI is) y13 y14 K154 K210 o y7 y8 y12 y15 (nI j) (bI cut) (bI th) z z = K210 o y7 y8 1 y12 (y15 + 1) := by
  unfold f_L_holds_b467
  refine pif rfl (nif (nI_m1 (by omega)) ?_)
  rw [hn, ob_some]
  refine pif rfl ?_
  rw [hs, ob_some]
  cases cut
  · refine nif (fun q => by have := hb.mp q; cases this) (pif rfl ?_)
    exact h535 hc
  · refine pif (hb.mpr rfl) (pif rfl ?_)
    exact h535 hc
theorem h430_n {z0 z1 sd : Int32} (hs : f_L_call n o 5 y15 0 0 = some (sd, o)) (h2 : ¬ 2 ≤ sd) : f_L_holds_b430 n y1 y2 y3 y4 y6 y10 (bI is) y13 y14 K154 K210 o y7 y8 y15 (-1) (bI true) (bI false) (bI false) z0 z1 = K210 o y7 y8 1 (z0 + z1) (y15 + 1) := by
  unfold f_L_holds_b430
  refine pif rfl (nif bt0 ?_)
  rw [hs, ob_some]
  refine nif h2 ?_
  exact h467_n
theorem h430_s {z0 z1 s : Int32} {j : Nat} (hj : j < 64) (hsd : on = true → ∃ sd, f_L_call n o 5 y15 0 0 = some (sd, o) ∧ 2 ≤ sd) (hn : f_L_call n o 4 (nI j) (irm (y15 + 2) 4) 0 = some (y10, o)) (hs : f_L_call n o 3 (nI j) 3 0 = some (s, o)) (hb : ((isr s (irm (y15 + 2) 4)) &&& 1) = 1 ↔ cut = true) (hc : th = true → cut = false → is = true → f_L_call n o 3 (nI j) 2 0 = some (y14, o)) : f_L_holds_b430 n y1 y2 y3 y4 y6 y10 (bI is) y13 y14 K154 K210 o y7 y8 y15 (nI j) (bI on) (bI cut) (bI th) z0 z1 = K210 o y7 y8 1 (z0 + z1) (y15 + 1) := by
  unfold f_L_holds_b430
  refine nif (nI_m1 (by omega)) ?_
  cases on
  · refine pif (show bI false = 0 from rfl) ?_
    exact h467_s hj hn hs hb hc
  · refine nif bt0 ?_
    obtain ⟨sd, e, h2⟩ := hsd rfl
    rw [e, ob_some]
    refine pif h2 ?_
    exact h467_s hj hn hs hb hc
theorem h384_n {sd : Int32} {ic : Bool} (hs : f_L_call n o 5 y15 0 0 = some (sd, o)) (h2 : ¬ 2 ≤ sd) (h1 : sd = 1 ↔ ic = true) : f_L_holds_b384 n y1 y2 y3 y4 y6 y10 (bI is) y13 y14 K154 K210 o y7 y8 y12 y15 (-1) (bI true) (bI false) (bI false) = K210 o y7 y8 1 (y12 + bI ic) (y15 + 1) := by
  unfold f_L_holds_b384
  refine pif rfl ?_
  rw [hs, ob_some]
  cases ic
  · refine nif (fun q => by have := h1.mp q; cases this) ?_
    exact h430_n hs h2
  · refine pif (h1.mpr rfl) ?_
    exact h430_n hs h2
theorem h384_s {s : Int32} {j : Nat} (hj : j < 64) (hsd : on = true → ∃ sd, f_L_call n o 5 y15 0 0 = some (sd, o) ∧ 2 ≤ sd) (hn : f_L_call n o 4 (nI j) (irm (y15 + 2) 4) 0 = some (y10, o)) (hs : f_L_call n o 3 (nI j) 3 0 = some (s, o)) (hb : ((isr s (irm (y15 + 2) 4)) &&& 1) = 1 ↔ cut = true) (hc : th = true → cut = false → is = true → f_L_call n o 3 (nI j) 2 0 = some (y14, o)) : f_L_holds_b384 n y1 y2 y3 y4 y6 y10 (bI is) y13 y14 K154 K210 o y7 y8 y12 y15 (nI j) (bI on) (bI cut) (bI th) = K210 o y7 y8 1 (y12 + bI (th && !cut)) (y15 + 1) := by
  unfold f_L_holds_b384
  refine nif (nI_m1 (by omega)) ?_
  cases th
  · refine pif (show bI false = 0 from rfl) ?_
    exact h430_s hj hsd hn hs hb hc
  · refine nif bt0 ?_
    cases cut
    · refine pif (show bI false = 0 from rfl) ?_
      exact h430_s hj hsd hn hs hb hc
    · refine nif bt0 ?_
      exact h430_s hj hsd hn hs hb hc
theorem h310_n {sd : Int32} {ic : Bool} (hcut : ¬ ((isr y13 y15) &&& 1) = 1) (hs : f_L_call n o 5 y15 0 0 = some (sd, o)) (h2 : ¬ 2 ≤ sd) (h1 : sd = 1 ↔ ic = true) : f_L_holds_b310 n y1 y2 y3 y4 y6 y10 (bI is) y13 y14 K154 K210 o y7 y8 y12 y15 (-1) (bI true) = K210 o (y7 + bI false) (y8 + bI true) 1 (y12 + bI ic) (y15 + 1) := by
  unfold f_L_holds_b310
  refine nif hcut ?_
  unfold f_L_holds_b342
  refine pif rfl (pif rfl ?_)
  exact h384_n hs h2 h1
theorem h310_s {s : Int32} {j : Nat} (hj : j < 64) (hcut : ((isr y13 y15) &&& 1) = 1 ↔ cut = true) (hth : ((jsr y4 (nI j)) &&& 1) = 1 ↔ th = true) (hsd : on = true → ∃ sd, f_L_call n o 5 y15 0 0 = some (sd, o) ∧ 2 ≤ sd) (hn : f_L_call n o 4 (nI j) (irm (y15 + 2) 4) 0 = some (y10, o)) (hs : f_L_call n o 3 (nI j) 3 0 = some (s, o)) (hb : ((isr s (irm (y15 + 2) 4)) &&& 1) = 1 ↔ cut = true) (hc : th = true → cut = false → is = true → f_L_call n o 3 (nI j) 2 0 = some (y14, o)) : f_L_holds_b310 n y1 y2 y3 y4 y6 y10 (bI is) y13 y14 K154 K210 o y7 y8 y12 y15 (nI j) (bI on) = K210 o (y7 + bI cut) (y8 + bI false) 1 (y12 + bI (th && !cut)) (y15 + 1) := by
  have m1 : ¬ nI j = -1 := nI_m1 (by omega)
  have go : ∀ z0 : Int32, f_L_holds_b342 n y1 y2 y3 y4 y6 y10 (bI is) y13 y14 K154 K210 o y8 y12 y15 (nI j) (bI on) (bI cut) z0 (bI cut) = K210 o (z0 + bI cut) (y8 + bI false) 1 (y12 + bI (th && !cut)) (y15 + 1) := by
    intro z0
    unfold f_L_holds_b342
    refine nif m1 (nif m1 ?_)
    cases th
    · refine nif (fun q => by have := hth.mp q; cases this) ?_
      exact h384_s (th := false) hj hsd hn hs hb hc
    · refine pif (hth.mpr rfl) ?_
      exact h384_s (th := true) hj hsd hn hs hb hc
  unfold f_L_holds_b310
  cases cut
  · refine nif (fun q => by have := hcut.mp q; cases this) ?_
    exact go y7
  · refine pif (hcut.mpr rfl) ?_
    exact go y7
end HB
theorem h_on {σ : Sg} (h : WF σ) {k d : Nat} (hk : k < sN σ) (hd : d < 4) {T : Type} (X0 X1 : Option T) : (if nI d = 0 then (if nI (sC σ) ≤ nI k then X0 else X1) else (if nI d = 1 then if nI (sC σ) = 0 then none else (if (irm (nI k) (nI (sC σ))) = (nI (sC σ) - 1) then X1 else X0) else (if nI d = 2 then (if nI k < (nI (sN σ) - nI (sC σ)) then X0 else X1) else if nI (sC σ) = 0 then none else (if (irm (nI k) (nI (sC σ))) = 0 then X1 else X0)))) = (if onS (sR σ) (sC σ) k d = true then X1 else X0) := by
  have n64 := h.n64
  have hm := mulR σ h
  have c2 := h.2.2.1
  have c8 := h.2.2.2.1
  have hC : ¬ nI (sC σ) = 0 := nI_ne0 (by omega) (by omega)
  have er : irm (nI k) (nI (sC σ)) = nI (k % sC σ) := irm_nI (by omega) (by omega) (by omega)
  have lr := Nat.mod_lt k (show 0 < sC σ by omega)
  have e1 : nI (sC σ) - 1 = nI (sC σ - 1) := by
    have := nI_pred (sC σ - 1)
    rw [show sC σ - 1 + 1 = sC σ by omega] at this
    exact this
  rcases four hd with rfl | rfl | rfl | rfl
  · rw [if_pos (show nI 0 = 0 from rfl)]
    by_cases q : sC σ ≤ k
    · rw [if_pos (nI_le q (by omega)), if_neg (show ¬ onS (sR σ) (sC σ) k 0 = true from fun z => by have := of_decide_eq_true z; omega)]
    · rw [if_neg (nI_ge (by omega) (by omega)), if_pos (show onS (sR σ) (sC σ) k 0 = true from decide_eq_true (by omega))]
  · rw [if_neg (show ¬ nI 1 = 0 by decide), if_pos (show nI 1 = 1 from rfl), if_neg hC, er, e1]
    by_cases q : k % sC σ = sC σ - 1
    · rw [if_pos (congrArg nI q), if_pos (show onS (sR σ) (sC σ) k 1 = true from decide_eq_true q)]
    · rw [if_neg (fun z => q ((nI_eq (by omega) (by omega)).mp z)), if_neg (show ¬ onS (sR σ) (sC σ) k 1 = true from fun z => q (of_decide_eq_true z))]
  · have e2 : nI (sN σ) - nI (sC σ) = nI ((sR σ - 1) * sC σ) := by rw [hm]; exact nI_sb _ _
    rw [if_neg (show ¬ nI 2 = 0 by decide), if_neg (show ¬ nI 2 = 1 by decide), if_pos (show nI 2 = 2 from rfl), e2]
    by_cases q : (sR σ - 1) * sC σ ≤ k
    · rw [if_neg (nI_nlt q (by omega)), if_pos (show onS (sR σ) (sC σ) k 2 = true from decide_eq_true q)]
    · rw [if_pos (nI_lt (by omega) (by omega)), if_neg (show ¬ onS (sR σ) (sC σ) k 2 = true from fun z => q (of_decide_eq_true z))]
  · rw [if_neg (show ¬ nI 3 = 0 by decide), if_neg (show ¬ nI 3 = 1 by decide), if_neg (show ¬ nI 3 = 2 by decide), if_neg hC, er]
    by_cases q : k % sC σ = 0
    · rw [if_pos ((nI0 (by omega)).mpr q), if_pos (show onS (sR σ) (sC σ) k 3 = true from decide_eq_true q)]
    · rw [if_neg (fun z => q ((nI0 (by omega)).mp z)), if_neg (show ¬ onS (sR σ) (sC σ) k 3 = true from fun z => q (of_decide_eq_true z))]
theorem bI_if {T : Type} (b : Bool) (f : Int32 → T) : (if b = true then f 1 else f 0) = f (bI b) := by cases b <;> rfl
theorem cld_n {σ : Sg} {x : Int64} {k d : Nat} (e : nbr σ k d = none) : onS (sR σ) (sC σ) k d = true ∧ ¬ sSd σ d = 2 ∧ scr σ k d = false ∧ cld σ x k d = decide (sSd σ d = 1) := by
  have s : scr σ k d = false := by unfold scr; rw [e]
  have t : nxt σ k d = none := by unfold nxt; rw [s]; exact e
  have a : onS (sR σ) (sC σ) k d = true ∧ ¬ sSd σ d = 2 := by
    unfold nbr at e
    by_cases p : onS (sR σ) (sC σ) k d = true
    · rw [if_pos p] at e
      by_cases q : sSd σ d = 2
      · rw [if_pos q] at e; cases e
      · exact ⟨p, q⟩
    · rw [if_neg p] at e; cases e
  refine ⟨a.1, a.2, s, ?_⟩
  unfold cld hit ice
  rw [t, a.1, Bool.or_false, Bool.true_and]
theorem cld_s {σ : Sg} {x : Int64} {k d j : Nat} (e : nbr σ k d = some j) : (onS (sR σ) (sC σ) k d = true → sSd σ d = 2) ∧ cld σ x k d = (gb x j && !scr σ k d) := by
  have a : onS (sR σ) (sC σ) k d = true → sSd σ d = 2 := fun p => by
    unfold nbr at e
    rw [if_pos p] at e
    by_cases q : sSd σ d = 2
    · exact q
    · rw [if_neg q] at e; cases e
  refine ⟨a, ?_⟩
  have ic : ice σ k d = false := by
    unfold ice
    cases p : onS (sR σ) (sC σ) k d
    · rfl
    · rw [a p]; rfl
  unfold cld hit nxt
  rw [ic, e]
  cases scr σ k d
  · show (false || gb x j) = (gb x j && true)
    rw [Bool.false_or, Bool.and_true]
  · show (false || false) = (gb x j && false)
    rw [Bool.and_false]; rfl
section HW
variable {o : OT} {σ : Sg} {n : Nat}
theorem h210 (E : EncW (o_w o) σ) (h : WF σ) (hn : 1000 ≤ n) {y6 : Int32} {S M k : Nat} (hk : k < sN σ) {K154 : OT → Int32 → Int32 → Int32 → Int32 → Int32 → Option (Bool × OT)} : ∀ (m f d : Nat), d + m = 4 → m < f → f_L_holds_b210 n (nI (sR σ)) (nI (sC σ)) (nI (sN σ)) (sF σ) y6 (nI k) (bI (gb (sF σ) k)) (sAt σ k 4) (nI (psz σ k)) K154 f o (nI (S + cnt (fun e => scr σ k e) d)) (nI (M + cnt (fun e => (nbr σ k e).isNone) d)) 1 (nI (cnt (fun e => cld σ (sF σ) k e) d)) (nI d) = f_L_holds_b577 n (nI (sR σ)) (nI (sC σ)) (nI (sN σ)) (sF σ) K154 o y6 (nI (S + sc4 σ k)) (nI (M + en4 σ k)) 1 (nI k) (bI (gb (sF σ) k)) (nI (coldN σ (sF σ) k)) (nI (psz σ k))
  | _, 0, _, _, hf => absurd hf (Nat.not_lt_zero _)
  | 0, f + 1, d, hd, _ => by
    obtain rfl : d = 4 := by omega
    rw [f_L_holds_b210_s, if_pos (show (4 : Int32) ≤ nI 4 by decide)]; rfl
  | m + 1, f + 1, d, hd, hf => by
    have n64 := h.n64
    have d4 : d < 4 := by omega
    rw [f_L_holds_b210_s, if_neg (show ¬ (4 : Int32) ≤ nI d from nI_ge (b := 4) (by omega) (by omega)), if_neg (show ¬ (1 : Int32) = 0 by decide), ca_next E h hk d4 0, ob_some]
    refine (h_on h hk d4 _ _).trans ?_
    refine (bI_if (onS (sR σ) (sC σ) k d) (fun z => f_L_holds_b310 n (nI (sR σ)) (nI (sC σ)) (nI (sN σ)) (sF σ) y6 (nI k) (bI (gb (sF σ) k)) (sAt σ k 4) (nI (psz σ k)) K154 (f_L_holds_b210 n (nI (sR σ)) (nI (sC σ)) (nI (sN σ)) (sF σ) y6 (nI k) (bI (gb (sF σ) k)) (sAt σ k 4) (nI (psz σ k)) K154 f) o (nI (S + cnt (fun e => scr σ k e) d)) (nI (M + cnt (fun e => (nbr σ k e).isNone) d)) (nI (cnt (fun e => cld σ (sF σ) k e) d)) (nI d) (optI (nbr σ k d)) z)).trans ?_
    have ih := h210 E h hn (y6 := y6) (S := S) (M := M) hk (K154 := K154) m f (d + 1) (by omega) (by omega)
    have e1 : nI (S + cnt (fun e => scr σ k e) d) + bI (scr σ k d) = nI (S + cnt (fun e => scr σ k e) (d + 1)) := (nb _ _).trans (congrArg nI (Nat.add_assoc _ _ _))
    have e2 : nI (M + cnt (fun e => (nbr σ k e).isNone) d) + bI (nbr σ k d).isNone = nI (M + cnt (fun e => (nbr σ k e).isNone) (d + 1)) := (nb _ _).trans (congrArg nI (Nat.add_assoc _ _ _))
    have e3 : nI (cnt (fun e => cld σ (sF σ) k e) d) + bI (cld σ (sF σ) k d) = nI (cnt (fun e => cld σ (sF σ) k e) (d + 1)) := nb _ _
    rw [← e1, ← e2, ← e3, ← nI_1 d] at ih
    refine Eq.trans ?_ ih
    have es := ca_side (n := n) E h d4 0 0
    cases e : nbr σ k d with
    | none =>
      obtain ⟨a1, a2, a3, a4⟩ := cld_n (x := sF σ) e
      have sd2 := h.2.2.2.2.2.1 d d4
      rw [a1, a3, a4]
      exact h310_n (fun q => by have := (sat_b σ k d4).mp q; rw [a3] at this; cases this) es (nI_ge (b := 2) (by omega) (by omega)) ((nI1 (by omega)).trans (decide_eq_true_iff).symm)
    | some j =>
      obtain ⟨a1, a2⟩ := cld_s (x := sF σ) e
      have hj := nbr_lt h hk d4 e
      have em := nbr_mut h hk d4 e
      have sm' := scr_mut h hk d4 e
      rw [a2]
      refine h310_s (on := onS (sR σ) (sC σ) k d) (cut := scr σ k d) (th := gb (sF σ) j) (s := sAt σ j 4) (by omega) (sat_b σ k d4) (js_1 (by omega)) (fun p => ⟨_, es, ?_⟩) ?_ (ca_sat E h hn hj 0) ?_ (fun p q r => ?_)
      · rw [a1 p]; decide
      · rw [op_I d4, ca_next E h hj (opp_lt d) 0, em]; rfl
      · rw [op_I d4, ← sm']; exact sat_b σ j (opp_lt d)
      · rw [ca_psz E h hn hj 0, psz_adj h hk d4 (show nxt σ k d = some j by unfold nxt; rw [q]; exact e) r p]
theorem h577 (E : EncW (o_w o) σ) (h : WF σ) (hn : 1000 ≤ n) {y1 y2 y3 y6 y7 y8 : Int32} {y4 : Int64} {k : Nat} (hk : k < sN σ) {K154 : OT → Int32 → Int32 → Int32 → Int32 → Int32 → Option (Bool × OT)} : f_L_holds_b577 n y1 y2 y3 y4 K154 o y6 y7 y8 1 (nI k) (bI (gb (sF σ) k)) (nI (coldN σ (sF σ) k)) (nI (psz σ k)) = K154 o y6 y7 y8 1 (nI k + 1) := by
  have n64 := h.n64
  have p64 := psz_64 σ k
  have hl := pL_le h 64 (sF σ) 0 (Nat.le_refl _) (fun _ q => q) (Nat.zero_le _)
  have c64 := cnt_le (gb (sF σ)) 64
  have pl := psz_le h k
  have ps := psz_pos (σ := σ) (k := k) (by omega)
  have e7 : f_L_call n o 2 7 0 0 = some (nI (pL σ 64 (sF σ) 0), o) := ca_about E h hn (d := 7) (by omega) 0 0
  have fin : ¬ nI (pL σ 64 (sF σ) 0) < nI (psz σ k) := nI_nlt pl (by omega)
  unfold f_L_holds_b577
  refine nif (show ¬ (1 : Int32) = 0 by decide) ?_
  rw [ca_is E h hk 0, ob_some]
  refine pif rfl ?_
  rw [ca_cold E h hn hk 0, ob_some]
  refine pif rfl ?_
  cases q : gb (sF σ) k
  · have z : psz σ k = 0 := by
      rw [q] at ps
      have z2 : ¬ 0 < psz σ k := fun w => by have y := ps.mp w; cases y
      omega
    refine pif (show nI (psz σ k) ≤ 0 by rw [z]; decide) ?_
    unfold f_L_holds_b620
    refine nif (show ¬ bI false = 1 by decide) (pif rfl ?_)
    rw [e7, ob_some]
    exact if_neg fin
  · have z : 0 < psz σ k := ps.mpr q
    refine nif (nI_nle z (by omega)) ?_
    unfold f_L_holds_b620
    refine pif (show bI true = 1 from rfl) (pif rfl ?_)
    rw [e7, ob_some]
    exact if_neg fin
theorem h154 (E : EncW (o_w o) σ) (h : WF σ) (hn : 1000 ≤ n) : ∀ (m f k : Nat), k + m = sN σ → m < f → f_L_holds_b154 n (nI (sR σ)) (nI (sC σ)) (nI (sN σ)) (sF σ) f o (nI (cnt (gb (sF σ)) k)) (nI (sm (sc4 σ) k)) (nI (sm (en4 σ) k)) 1 (nI k) = f_L_holds_b661 n o (nI (sR σ)) (nI (sC σ)) (nI (cnt (gb (sF σ)) (sN σ))) (nI (sm (sc4 σ) (sN σ))) (nI (sm (en4 σ) (sN σ))) 1
  | _, 0, _, _, hf => absurd hf (Nat.not_lt_zero _)
  | 0, f + 1, k, hk, _ => by
    have n64 := h.n64
    obtain rfl : k = sN σ := by omega
    rw [f_L_holds_b154_s, if_pos (nI_le (Nat.le_refl _) (by omega))]
  | m + 1, f + 1, k, hk, hf => by
    have n64 := h.n64
    have hkN : k < sN σ := by omega
    rw [f_L_holds_b154_s, if_neg (nI_ge (by omega) (by omega)), if_neg (show ¬ (1 : Int32) = 0 by decide), ca_sat E h hn hkN 0, ob_some, ca_psz E h hn hkN 0, ob_some, a1_b, js_b (by omega)]
    have st := h210 E h hn (y6 := nI (cnt (gb (sF σ)) k) + bI (gb (sF σ) k)) (S := sm (sc4 σ) k) (M := sm (en4 σ) k) hkN (K154 := f_L_holds_b154 n (nI (sR σ)) (nI (sC σ)) (nI (sN σ)) (sF σ) f) 4 5 0 (by omega) (by omega)
    refine Eq.trans st ?_
    rw [h577 E h hn hkN, nb, nI_1]
    exact h154 E h hn m f (k + 1) (by omega) (by omega)
theorem h84 (E : EncW (o_w o) σ) (h : WF σ) {y1 y2 y3 y6 y7 y8 : Int32} {y4 : Int64} : ∀ (m f d : Nat), d + m = 4 → m < f → f_L_holds_b84 n y1 y2 y3 y4 y6 y7 y8 f o 1 (nI d) = f_L_holds_b154 n y1 y2 y3 y4 65 o y6 y7 y8 1 0
  | _, 0, _, _, hf => absurd hf (Nat.not_lt_zero _)
  | 0, f + 1, d, hd, _ => by
    obtain rfl : d = 4 := by omega
    rw [f_L_holds_b84_s, if_pos (show (4 : Int32) ≤ nI 4 by decide)]
  | m + 1, f + 1, d, hd, hf => by
    have d4 : d < 4 := by omega
    have a1 := h.2.2.2.2.2.1 d d4
    have a2 := h.2.2.2.2.2.1 (opp d) (opp_lt d)
    have tw : sSd σ d = 2 ↔ sSd σ (opp d) = 2 := by
      have s02 := h.2.2.2.2.2.2.1
      have s13 := h.2.2.2.2.2.2.2.1
      rcases four d4 with rfl | rfl | rfl | rfl
      · exact s02
      · exact s13
      · exact s02.symm
      · exact s13.symm
    rw [f_L_holds_b84_s, if_neg (show ¬ (4 : Int32) ≤ nI d from nI_ge (b := 4) (by omega) (by omega)), if_neg (show ¬ (1 : Int32) = 0 by decide), ca_side E h d4 0 0, ob_some]
    have fin : f_L_holds_b84 n y1 y2 y3 y4 y6 y7 y8 f o 1 (nI d + 1) = f_L_holds_b154 n y1 y2 y3 y4 65 o y6 y7 y8 1 0 := by
      rw [nI_1]
      exact h84 E h m f (d + 1) (by omega) (by omega)
    by_cases q : sSd σ d = 2
    · refine pif ((nI2 (by omega)).mpr q) ?_
      unfold f_L_holds_b113
      rw [op_I d4, ca_side E h (opp_lt d) 0 0, ob_some]
      refine pif ((nI2 (by omega)).mpr (tw.mp q)) (pif rfl ?_)
      exact fin
    · refine nif (fun z => q ((nI2 (by omega)).mp z)) ?_
      unfold f_L_holds_b113
      rw [op_I d4, ca_side E h (opp_lt d) 0 0, ob_some]
      refine nif (fun z => q (tw.mpr ((nI2 (by omega)).mp z))) (pif rfl ?_)
      exact fin
theorem h661 (E : EncW (o_w o) σ) (h : WF σ) (hn : 1000 ≤ n) : f_L_holds_b661 n o (nI (sR σ)) (nI (sC σ)) (nI (cnt (gb (sF σ)) (sN σ))) (nI (sm (sc4 σ) (sN σ))) (nI (sm (en4 σ) (sN σ))) 1 = some (true, o) := by
  have n64 := h.n64
  obtain ⟨r2, r8, c2, c8, -⟩ := id h
  have hf := cntF h
  have c64 := cnt_le (gb (sF σ)) 64
  have hs := sc4_tot h
  have s8 : sB σ (sN σ) ≤ 128 := by
    have a := cnt_le (fun k => scr σ k 1) (sN σ)
    have b := cnt_le (fun k => scr σ k 2) (sN σ)
    unfold sB; omega
  have he := en4_tot h
  have p0 := pN_0 (σ := σ)
  have p1 := pN_le (σ := σ) 64 (sF σ) (Nat.le_refl _)
  have pl := pL_le h 64 (sF σ) 0 (Nat.le_refl _) (fun _ q => q) (Nat.zero_le _)
  have e2 : f_L_call n o 2 2 0 0 = some (nI (cnt (gb (sF σ)) 64), o) := ca_about E h hn (d := 2) (by omega) 0 0
  have e3 : f_L_call n o 2 3 0 0 = some (nI (sB σ (sN σ)), o) := ca_about E h hn (d := 3) (by omega) 0 0
  have e6 : f_L_call n o 2 6 0 0 = some (nI (pN σ 64 (sF σ)), o) := ca_about E h hn (d := 6) (by omega) 0 0
  have e7 : f_L_call n o 2 7 0 0 = some (nI (pL σ 64 (sF σ) 0), o) := ca_about E h hn (d := 7) (by omega) 0 0
  rw [← hf, hs]
  have dvq : nI (2 * sB σ (sN σ)) / 2 = nI (sB σ (sN σ)) := (dv (a := 2 * sB σ (sN σ)) (d := 2) (by omega) (by omega) (by omega)).trans (congrArg nI (by omega))
  have mdq : irm (nI (2 * sB σ (sN σ))) 2 = 0 := (irm_nI (a := 2 * sB σ (sN σ)) (d := 2) (by omega) (by omega) (by omega)).trans (by rw [show 2 * sB σ (sN σ) % 2 = 0 by omega]; rfl)
  have fin : ∀ z : Int32, f_L_holds_b732 n o (nI (sR σ)) (nI (sC σ)) (nI (cnt (gb (sF σ)) 64)) (nI (sm (en4 σ) (sN σ))) (nI (pN σ 64 (sF σ))) z z = some (true, o) := fun z => by
    unfold f_L_holds_b732
    refine pif rfl (nif (nI_nlt p1 (by omega)) ?_)
    rw [e7, ob_some]
    refine nif (nI_nlt pl (by omega)) ?_
    rw [nI_add, show (2 : Int32) * nI (sR σ + sC σ) = nI (2 * (sR σ + sC σ)) from pk_mul 2 _]
    exact if_neg (nI_nlt he (by omega))
  unfold f_L_holds_b661
  rw [e6, ob_some]
  refine nif (show ¬ (1 : Int32) = 0 by decide) ?_
  rw [e2, ob_some]
  refine pif rfl ?_
  rw [e3, ob_some]
  refine pif dvq.symm (pif mdq ?_)
  by_cases q : cnt (gb (sF σ)) 64 = 0
  · refine pif (show nI (pN σ 64 (sF σ)) = 0 by rw [p0.mpr q]; rfl) (pif (show nI (cnt (gb (sF σ)) 64) = 0 by rw [q]; rfl) ?_)
    exact fin 1
  · refine nif (fun z => q (p0.mp ((nI0 (by omega)).mp z))) (nif (fun z => q ((nI0 (by omega)).mp z)) ?_)
    exact fin 0
theorem hold_ok (E : EncW (o_w o) σ) (h : WF σ) (hn : 1000 ≤ n) : f_L_holds n o = some (true, o) := by
  have n64 := h.n64
  obtain ⟨r2, r8, c2, c8, -⟩ := id h
  have e0 : f_L_call n o 2 0 0 0 = some (nI (sR σ), o) := ca_about E h hn (d := 0) (by omega) 0 0
  have e1 : f_L_call n o 2 1 0 0 = some (nI (sC σ), o) := ca_about E h hn (d := 1) (by omega) 0 0
  have go : f_L_holds_b84 n (nI (sR σ)) (nI (sC σ)) (nI (sN σ)) (sF σ) 0 0 0 5 o 1 0 = some (true, o) := by
    have a := h84 (n := n) E h (y1 := nI (sR σ)) (y2 := nI (sC σ)) (y3 := nI (sN σ)) (y4 := sF σ) (y6 := 0) (y7 := 0) (y8 := 0) 4 5 0 (by omega) (by omega)
    have b := h154 E h hn (sN σ) 65 0 (by omega) (by omega)
    exact (a.trans b).trans (h661 E h hn)
  unfold f_L_holds
  rw [e0, ob_some, e1, ob_some]
  refine nif (nI_nlt (b := 2) r2 (by omega)) (nif (nI_nlt (a := 8) r8 (by omega)) (nif (nI_nlt (b := 2) c2 (by omega)) (nif (nI_nlt (a := 8) c8 (by omega)) ?_)))
  rw [pk_mul, show sR σ * sC σ = sN σ from rfl, show w_frozen (o_w o) = sF σ from E.2.2.2.2.1]
  by_cases q : sN σ = 64
  · refine pif (show nI (sN σ) = 64 from congrArg nI q) ?_
    exact go
  · refine nif (fun z => q ((nI_eq (b := 64) (by omega) (by omega)).mp z)) (pif ?_ ?_)
    · apply gb_ext
      intro i hi
      rw [gb_jsr (by omega) _ hi, gb_0]
      split
      · exact inW_f h.2.2.2.2.2.2.2.2.1 (by show sN σ ≤ sN σ + i; omega)
      · exact inW_f h.2.2.2.2.2.2.2.2.1 (by show sN σ ≤ 63; omega)
    · exact go
end HW
