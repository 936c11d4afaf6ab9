/-! two that show the same are alike -/
theorem W_of {o : OT} {v : VT} {σ : Sg} (E : EncW v.1 σ) (ho : vis o = v) : EncW (o_w o) σ := by rw [vis_w ho]; exact E
theorem al_161 {v : VT} {σ : Sg} (E : EncW v.1 σ) (h : WF σ) {n : Nat} (hn : 1000 ≤ n) {o q : OT} (ho : vis o = v) (hq : vis q = v) : ∀ (m f k : Nat), k + m = sN σ → m < f → f_L_alike_b161 n (nI (sN σ)) f o q 1 (nI k) = some (true, o, q)
  | _, 0, _, _, hf => absurd hf (Nat.not_lt_zero _)
  | 0, f + 1, k, hk, _ => by
    have n64 := h.n64
    rw [f_L_alike_b161_s, if_pos (nI_le (by omega) (by omega)), if_neg (show ¬ (1 : Int32) = 0 by decide), if_pos (show (1 : Int32) = 1 from rfl)]
  | m + 1, f + 1, k, hk, hf => by
    have n64 := h.n64
    have hkN : k < sN σ := by omega
    rw [f_L_alike_b161_s, if_neg (nI_ge (by omega) (by omega)), if_neg (show ¬ (1 : Int32) = 0 by decide), ca_cold (W_of E ho) h hn hkN 0, ob_some, ca_cold (W_of E hq) h hn hkN 0, ob_some]
    refine pif rfl ?_
    show (f_L_call n o 3 (nI k) 3 0).bind (fun r_10 => (f_L_call n q 3 (nI k) 3 0).bind (fun r_11 => (if r_10.1 = r_11.1 then f_L_alike_b161 n (nI (sN σ)) f r_10.2 r_11.2 1 (nI k + 1) else f_L_alike_b161 n (nI (sN σ)) f r_10.2 r_11.2 0 (nI k + 1)))) = _
    rw [ca_sat (W_of E ho) h hn hkN 0, ob_some, ca_sat (W_of E hq) h hn hkN 0, ob_some]
    refine pif rfl ?_
    rw [nI_1]
    exact al_161 E h hn ho hq m f (k + 1) (by omega) (by omega)
theorem al_sd {v : VT} {σ : Sg} (E : EncW v.1 σ) (h : WF σ) (n : Nat) {k : Nat} (hk : k < 8) : ∃ z, ∀ o : OT, vis o = v → f_L_call n o 5 (nI k) 0 0 = some (z, o) := by
  by_cases q : k < 4
  · exact ⟨_, fun o ho => ca_side (W_of E ho) h q 0 0⟩
  · refine ⟨_, fun o ho => cx_side (no_hi ?_) 0 0⟩
    rw [nI_toInt (by omega)]; omega
theorem al_91 {v : VT} {σ : Sg} (E : EncW v.1 σ) (h : WF σ) {n : Nat} (hn : 1000 ≤ n) {o q : OT} (ho : vis o = v) (hq : vis q = v) : ∀ (m f k : Nat), k + m = 8 → m < f → f_L_alike_b91 n (nI (sN σ)) f o q 1 (nI k) = some (true, o, q)
  | _, 0, _, _, hf => absurd hf (Nat.not_lt_zero _)
  | 0, f + 1, k, hk, _ => by
    have n64 := h.n64
    rw [f_L_alike_b91_s, if_pos (show (8 : Int32) ≤ nI k from nI_le (a := 8) (by omega) (by omega))]
    exact al_161 E h hn ho hq (sN σ) 65 0 (by omega) (by omega)
  | m + 1, f + 1, k, hk, hf => by
    obtain ⟨z, ez⟩ := al_sd E h n (k := k) (by omega)
    rw [f_L_alike_b91_s, if_neg (show ¬ (8 : Int32) ≤ nI k from nI_ge (b := 8) (by omega) (by omega)), if_neg (show ¬ (1 : Int32) = 0 by decide), ca_about (W_of E ho) h hn (d := k) (by omega) 0 0, ob_some, ca_about (W_of E hq) h hn (d := k) (by omega) 0 0, ob_some]
    refine pif rfl ?_
    show (f_L_call n o 5 (nI k) 0 0).bind (fun r_18 => (f_L_call n q 5 (nI k) 0 0).bind (fun r_19 => (if r_18.1 = r_19.1 then f_L_alike_b91 n (nI (sN σ)) f r_18.2 r_19.2 1 (nI k + 1) else f_L_alike_b91 n (nI (sN σ)) f r_18.2 r_19.2 0 (nI k + 1)))) = _
    rw [ez o ho, ob_some, ez q hq, ob_some]
    refine pif rfl ?_
    rw [nI_1]
    exact al_91 E h hn ho hq m f (k + 1) (by omega) (by omega)
theorem al_ok {v : VT} (V : VOK v.1) {n : Nat} (hn : 1000 ≤ n) {o q : OT} (ho : vis o = v) (hq : vis q = v) {X : Nat} (hX : X < 2 ^ 31) : ∃ o' q', vis o' = v ∧ vis q' = v ∧ f_L_alike n o q (nI X) = some (true, o', q') := by
  have V0 := V
  obtain ⟨σ, h, E⟩ := V
  have m20 : irm (nI X) 20 = nI (X % 20) := irm_nI (d := 20) hX (by omega) (by omega)
  have m40 : irm (nI X) 40 = nI (X % 40) := irm_nI (d := 40) hX (by omega) (by omega)
  have l20 := Nat.mod_lt X (show 0 < 20 by omega)
  have l40 := Nat.mod_lt X (show 0 < 40 by omega)
  have q1 : rng ((1 : Int32) + nI (X % 20)) 1 60 = true := yes_r (by have := ad_I (a := 1) (z := X % 20) (by omega); rw [show ((1 : Int32) + nI (X % 20)).toInt = _ from this]; omega) (by have := ad_I (a := 1) (z := X % 20) (by omega); rw [show ((1 : Int32) + nI (X % 20)).toInt = _ from this]; omega)
  obtain ⟨r, t, es⟩ := ca_sim V0 hn (nI X).toInt64 q1
  have e0 : f_L_call n o 2 0 0 0 = some (nI (sR σ), o) := ca_about (W_of E ho) h hn (d := 0) (by omega) 0 0
  have e1 : f_L_call n o 2 1 0 0 = some (nI (sC σ), o) := ca_about (W_of E ho) h hn (d := 1) (by omega) 0 0
  have lo : g_L_looks n (oTr o t) ((1 : Int32) + nI (X % 40)) = some (nightI σ (sF σ) (1 + X % 40)) := by
    have := ca_looks (o := oTr o t) (W_of E ho) h hn (m := 1 + X % 40) (by omega) (by omega)
    rw [← nI_add] at this; exact this
  have lq : g_L_looks n (oTr q t) ((1 : Int32) + nI (X % 40)) = some (nightI σ (sF σ) (1 + X % 40)) := by
    have := ca_looks (o := oTr q t) (W_of E hq) h hn (m := 1 + X % 40) (by omega) (by omega)
    rw [← nI_add] at this; exact this
  refine ⟨oTr o t, oTr q t, ho, hq, ?_⟩
  unfold f_L_alike
  rw [e0, ob_some, e1, ob_some, m20, m40, es o ho, ob_some, es q hq, ob_some]
  refine pif rfl ?_
  refine pif (show w_frozen (o_w (oTr o t)) = w_frozen (o_w (oTr q t)) from ?_) ?_
  · show w_frozen (o_w o) = w_frozen (o_w q)
    rw [vis_w ho, vis_w hq]
  show (g_L_looks n (oTr o t) (1 + nI (X % 40))).bind (fun r_27 => (g_L_looks n (oTr q t) (1 + nI (X % 40))).bind (fun r_28 => (if r_27 = r_28 then f_L_alike_b91 n (nI (sR σ) * nI (sC σ)) 9 (oTr o t) (oTr q t) 1 0 else f_L_alike_b91 n (nI (sR σ) * nI (sC σ)) 9 (oTr o t) (oTr q t) 0 0))) = _
  rw [lo, ob_some, lq, ob_some]
  refine pif rfl ?_
  rw [pk_mul]
  exact al_91 (v := v) E h hn (o := oTr o t) (q := oTr q t) ho hq 8 9 0 (by omega) (by omega)
