/-! nights as they were told: the law's walk -/
section NI
variable {n : Nat} {o q : OT} {v1 v2 : VT} {c : Nat} {F G : Int64} {y3 : Int32}
theorem n503 (U : ∀ q : OT, vis q = v1 → f_L_call n q 13 0 0 0 = some (nI c, put q v2)) (hc : c < 14) (ho : vis o = v1) (hq : vis q = v1) (hF : w_frozen v2.1 = F) : f_L_nights_b503 n o q F 1 = some (true, put o v2, put q v2) := by
  have th : ¬ f_L_thrown (nI c) = true := by rw [th_no hc]; decide
  unfold f_L_nights_b503
  refine nif (show ¬ (1 : Int32) = 0 by decide) ?_
  rw [U o ho, ob_some]
  refine nif th ?_
  rw [U q hq, ob_some]
  refine nif th ?_
  exact pif hF rfl
theorem n427_g {z : Int32} (hG : (G &&& F) = F) : f_L_nights_b427 n o q y3 F G 1 (-9999003) (-9999003) 1 z = f_L_nights_b503 n o q F 1 := by
  unfold f_L_nights_b427
  refine nif (show ¬ (1 : Int32) = 0 by decide) (nif (show ¬ (1 : Int32) = 0 by decide) (pif rfl (pif rfl (pif hG rfl))))
theorem n427_s {f N : Nat} {a : Int64} (hf : f ≤ N) (hN : N < 2 ^ 31) (h0 : f = 0 → a = F) : f_L_nights_b427 n o q (nI N) F G 1 (nI f) a 0 1 = f_L_nights_b503 n o q F 1 := by
  unfold f_L_nights_b427
  refine nif (show ¬ (1 : Int32) = 0 by decide) (pif rfl (nif (nI_pos (by omega)) (nif (nI_nlt hf hN) (nif (show ¬ (1 : Int32) = 0 by decide) ?_))))
  by_cases z : f = 0
  · subst z
    refine nif (show ¬ (0 : Int32) < nI 0 by decide) ?_
    exact pif (h0 rfl) rfl
  · exact pif (nI_lt (a := 0) (by omega) (by omega)) rfl
theorem n376_g (hG : (G &&& F) = F) : f_L_nights_b376 n o q y3 F G 1 (-9999003) (-9999003) 1 = f_L_nights_b503 n o q F 1 := by
  unfold f_L_nights_b376
  by_cases a : jus (-9999003) 32 < jus F 32
  · exact pif a (n427_g hG)
  · refine nif a ?_
    by_cases b : jus (-9999003) 32 = jus F 32
    · refine pif b ?_
      by_cases d : (F &&& 4294967295) < ((-9999003) &&& 4294967295)
      · exact pif d (n427_g hG)
      · exact nif d (n427_g hG)
    · exact nif b (n427_g hG)
theorem hi_I (x : Int64) : (jus x 32).toInt = ((tN x / 2 ^ 32 : Nat) : Int) := by
  have e : tN (jus x (nI 32)) = tN x / 2 ^ 32 := tN_jus (k := 32) (by omega) x
  have l := tN_lt x
  rw [x_lN (jus x 32), show tN (jus x 32) = tN x / 2 ^ 32 from e, pk_lT (by omega)]
theorem lo_I (x : Int64) : (x &&& 4294967295).toInt = ((tN x % 2 ^ 32 : Nat) : Int) := by
  have e : tN (x &&& 4294967295) = tN x % 2 ^ 32 := by
    rw [tN_and]
    have := Nat.and_two_pow_sub_one_eq_mod (tN x) 32
    rw [← this]; rfl
  rw [x_lN (x &&& 4294967295), e, pk_lT (by omega)]
theorem n376_s {f : Int32} {a : Int64} (h : tN a ≤ tN F) : f_L_nights_b376 n o q y3 F G 1 f a 0 = f_L_nights_b427 n o q y3 F G 1 f a 0 1 := by
  unfold f_L_nights_b376
  by_cases p : jus a 32 < jus F 32
  · exact pif p rfl
  · refine nif p ?_
    rw [l_lt, hi_I, hi_I] at p
    have e : jus a 32 = jus F 32 := Int64.toInt_inj.mp (by rw [hi_I, hi_I]; omega)
    refine pif e ?_
    refine nif ?_ rfl
    rw [l_lt, lo_I, lo_I]
    have e2 := congrArg Int64.toInt e
    rw [hi_I, hi_I] at e2
    omega
/-- one night, what it came from, and its undo -/
theorem n298 {v : VT} (V : VV v) {σ : Sg} (E : EncW v.1 σ) (h : WF σ) (hn : 1000 ≤ n) (ho : vis o = v) (hq : vis q = v) : ∃ o' q' v', VV v' ∧ vis o' = v' ∧ vis q' = v' ∧ f_L_nights_b298 n o q (nI (sN σ)) (sF σ) (night σ (sF σ)) 1 = some (true, o', q') := by
  have n64 := h.n64
  obtain ⟨v1, v2, c, r, V1, V2, ew, E1, hc, D, U⟩ := did_nights V E h hn (m := 1) (by omega) (by omega)
  have h1 : WF (pas σ 1) := WF_pas h 1
  have eF : sF (pas σ 1) = night σ (sF σ) := rfl
  have eN : sN (pas σ 1) = sN σ := rfl
  have eRu : sRu (pas σ 1) = sRu σ := rfl
  have hF : w_frozen v2.1 = sF σ := by rw [ew]; exact E.2.2.2.2.1
  have fr : w_frozen (o_w (put o v1)) = night σ (sF σ) := E1.2.2.2.2.1
  have hx : inW (sF σ) (sN (pas σ 1)) := h.2.2.2.2.2.2.2.2.1
  have e : night (pas σ 1) (sF σ) = sF (pas σ 1) := pas_night σ 1 (sF σ)
  have D1 : ∀ z : OT, vis z = v → f_L_call n z 12 1 0 0 = some (r, put z v1) := D
  by_cases ru : sRu σ = 0
  · have ru1 : sRu (pas σ 1) = 0 := ru
    refine ⟨put (oEq (put o v1) (o_e (put o v1)) (o_g (put o v1))) v2, put (put q v1) v2, v2, V2, rfl, rfl, ?_⟩
    have hG : (night σ (sF σ) &&& sF σ) = sF σ := by
      apply gb_ext
      intro i hi
      rw [gb_and]
      by_cases z : i < sN σ
      · rw [gb_night h _ z]
        unfold will
        rw [if_pos ru]
        cases gb (sF σ) i <;> cases oddB σ (sF σ) i <;> rfl
      · rw [inW_f h.2.2.2.2.2.2.2.2.1 (by omega), Bool.and_false]
    unfold f_L_nights_b298
    refine nif (show ¬ (1 : Int32) = 0 by decide) ?_
    rw [D1 o ho, ob_some, D1 q hq, ob_some]
    refine pif rfl (pif fr ?_)
    rw [cx_befores (n := n) (o := put o v1) E1 ru1 0 0 0, ob_some, cx_was (n := n) (o := put o v1) E1 ru1, ob_some]
    have e4 : f_L_call n (oEq (put o v1) (o_e (put o v1)) (o_g (put o v1))) 2 4 0 0 = some (nI 0, oEq (put o v1) (o_e (put o v1)) (o_g (put o v1))) := by
      have := ca_about (n := n) (o := oEq (put o v1) (o_e (put o v1)) (o_g (put o v1))) (σ := pas σ 1) E1 h1 hn (d := 4) (by omega) 0 0
      rw [show abA (pas σ 1) 4 = 0 from ru1] at this
      exact this
    rw [e4, ob_some]
    refine pif (show nI 0 = 0 from rfl) ?_
    refine Eq.trans (n376_g hG) ?_
    exact n503 U hc rfl rfl hF
  · have ru1 : sRu (pas σ 1) ≠ 0 := ru
    have hru := h.2.2.2.2.1
    obtain ⟨f, s1, g1, f1, f2, f3⟩ := ca_befores (o := put o v1) E1 h1 hn ru1 hx e 0 0 0
    obtain ⟨y, s2, g2, b1, b2, b3, b4⟩ := ca_was (o := oEq (put o v1) s1 g1) E1 h1 hn ru1 hx e
    refine ⟨put (oEq (oEq (put o v1) s1 g1) s2 g2) v2, put (put q v1) v2, v2, V2, rfl, rfl, ?_⟩
    unfold f_L_nights_b298
    refine nif (show ¬ (1 : Int32) = 0 by decide) ?_
    rw [D1 o ho, ob_some, D1 q hq, ob_some]
    refine pif rfl (pif fr ?_)
    rw [f2, ob_some, b1, ob_some]
    have e4 : f_L_call n (oEq (oEq (put o v1) s1 g1) s2 g2) 2 4 0 0 = some (nI (sRu σ), oEq (oEq (put o v1) s1 g1) s2 g2) :=
      ca_about (n := n) (o := oEq (oEq (put o v1) s1 g1) s2 g2) (σ := pas σ 1) E1 h1 hn (d := 4) (by omega) 0 0
    rw [e4, ob_some]
    refine nif (nI_ne0 (by omega) (by omega)) ?_
    refine Eq.trans (n376_s b2) ?_
    refine Eq.trans (n427_s (N := sN σ) f1 (by omega) (fun z => ?_)) ?_
    · have sy : night (pas σ 1) y = sF (pas σ 1) := by
        apply gb_ext
        intro i hi
        by_cases z : i < sN σ
        · have p := eR_par h1 ru1 y (i := i) z
          have p2 := eR_par h1 ru1 (sF σ) (i := i) z
          have s := sat_of h1 ru1 e i z
          rw [b4 i z] at p
          rw [s, e] at p2
          rw [p2] at p
          revert p
          generalize gb (sF (pas σ 1)) i = u1
          generalize gb (night (pas σ 1) y) i = u2
          generalize (((ice (pas σ 1) i 0 ^^ ice (pas σ 1) i 1) ^^ ice (pas σ 1) i 2) ^^ ice (pas σ 1) i 3) = u3
          cases u1 <;> cases u2 <;> cases u3 <;> simp
        · rw [inW_f (night_inW h1 y) (by show sN σ ≤ i; omega), inW_f h1.2.2.2.2.2.2.2.2.1 (by show sN σ ≤ i; omega)]
      exact f3 z y b3 sy
    · exact n503 U hc rfl rfl hF
/-- what follows on the first nights, when all was as told -/
theorem n253 {v1 v2 : VT} (V2 : VV v2) {σ : Sg} (E : EncW v2.1 σ) (h : WF σ) (hn : 1000 ≤ n) (U : ∀ q : OT, vis q = v1 → f_L_call n q 13 0 0 0 = some (nI c, put q v2)) (hc : c < 14) (ho : vis o = v1) (hq : vis q = v1) : ∃ o' q' v', VV v' ∧ vis o' = v' ∧ vis q' = v' ∧ f_L_nights_b253 n o q (nI (sN σ)) (sF σ) (night σ (sF σ)) = some (true, o', q') := by
  have th : ¬ f_L_thrown (nI c) = true := by rw [th_no hc]; decide
  obtain ⟨o', q', v', V', eo, eq, e⟩ := n298 (o := put o v2) (q := put q v2) V2 E h hn rfl rfl
  refine ⟨o', q', v', V', eo, eq, ?_⟩
  unfold f_L_nights_b253
  rw [U o ho, ob_some]
  refine nif th ?_
  rw [U q hq, ob_some]
  refine nif th ?_
  exact pif (show w_frozen (o_w (put o v2)) = sF σ from E.2.2.2.2.1) e
theorem n170 {v : VT} (V : VV v) {σ : Sg} (E : EncW v.1 σ) (h : WF σ) (hn : 1000 ≤ n) (ho : vis o = v) (hq : vis q = v) {m k : Nat} (m1 : 1 ≤ m) (m2 : m ≤ 20) (hk : k < sN σ) : ∃ o' q' v', VV v' ∧ vis o' = v' ∧ vis q' = v' ∧ f_L_nights_b170 n o q (nI (sN σ)) (nI m) (nI k) (sF σ) (nightI σ (sF σ) m) (night σ (sF σ)) (fzN σ k 101 0) 1 = some (true, o', q') := by
  have n64 := h.n64
  obtain ⟨v1, v2, c, r, V1, V2, ew, E1, hc, D, U⟩ := did_nights V E h hn (m := m) (by omega) (by omega)
  have fr : w_frozen (o_w (put o v1)) = nightI σ (sF σ) m := E1.2.2.2.2.1
  obtain ⟨o', q', v', V', eo, eq, e⟩ := n253 (o := put o v1) (q := put q v1) V2 (by rw [ew]; exact E) h hn U hc rfl rfl
  refine ⟨o', q', v', V', eo, eq, ?_⟩
  have bit0 : gb (nightI σ (sF σ) m) k = false → ((jsr (nightI σ (sF σ) m) (nI k)) &&& 1) = 0 := fun z => (gb_a1 _).mpr (by rw [js_b (by omega)]; exact z)
  unfold f_L_nights_b170
  refine nif (show ¬ (1 : Int32) = 0 by decide) ?_
  rw [D o ho, ob_some, D q hq, ob_some]
  refine pif rfl (pif fr ?_)
  rcases fz_spec σ k 101 0 with ⟨a, b⟩ | ⟨t, t1, t2, t3, t4, t5⟩
  · rw [a]
    refine nif (fun z => nI_m1 (k := m) (by omega) z.symm) ?_
    unfold f_L_nights_b229
    refine pif (show (-1 : Int32) < 0 by decide) (pif (bit0 (b m (by omega) (by omega))) ?_)
    exact e
  · rw [t3]
    have n229 : f_L_nights_b229 n (put o v1) (put q v1) (nI (sN σ)) (nI m) (nI k) (sF σ) (nightI σ (sF σ) m) (night σ (sF σ)) (nI t) = some (true, o', q') := by
      unfold f_L_nights_b229
      refine nif (nI_pos (by omega)) ?_
      by_cases z : t ≤ m
      · exact pif (nI_le z (by omega)) e
      · exact nif (nI_ge (by omega) (by omega)) (pif (bit0 (t5 m (by omega) (by omega))) e)
    by_cases z : t = m
    · subst z
      exact pif rfl (pif ((js_1 (by omega)).mpr t4) n229)
    · exact nif (fun w => z ((nI_eq (by omega) (by omega)).mp w)) n229
theorem night_ok {v : VT} (V : VV v) (hn : 1000 ≤ n) (ho : vis o = v) (hq : vis q = v) {X : Nat} (hX : X < 2 ^ 31) : ∃ o' q' v', VV v' ∧ vis o' = v' ∧ vis q' = v' ∧ f_L_nights n o q (nI X) = some (true, o', q') := by
  obtain ⟨σ, h, E⟩ := V.1
  have n64 := h.n64
  have n4 := h.n4
  have m20 : irm (nI X) 20 = nI (X % 20) := irm_nI (d := 20) hX (by omega) (by omega)
  have d20 : nI X / 20 = nI (X / 20) := dv (d := 20) hX (by omega) (by omega)
  have mN : irm (nI (X / 20)) (nI (sN σ)) = nI (X / 20 % sN σ) := irm_nI (by omega) (by omega) (by omega)
  have l20 := Nat.mod_lt X (show 0 < 20 by omega)
  have lN' := Nat.mod_lt (X / 20) (show 0 < sN σ by omega)
  have hN : ¬ nI (sN σ) = 0 := nI_ne0 (by omega) (by omega)
  have e1n : (1 : Int32) + nI (X % 20) = nI (1 + X % 20) := nI_add 1 _
  obtain ⟨r0, r1, A0, A1, cs⟩ := ag_ex (nightI σ (sF σ))
  have Eo := W_of E ho
  have e0 : f_L_call n o 2 0 0 0 = some (nI (sR σ), o) := ca_about Eo h hn (d := 0) (by omega) 0 0
  have e1 : f_L_call n o 2 1 0 0 = some (nI (sC σ), o) := ca_about Eo h hn (d := 1) (by omega) 0 0
  have fo : w_frozen (o_w o) = sF σ := Eo.2.2.2.2.1
  obtain ⟨o1, ho1, a0⟩ : ∃ o1, vis o1 = v ∧ f_L_call n o 14 0 0 0 = some (r0, o1) := ⟨oLk o (lkF (o_l o) (nightI σ (sF σ)) 301), ho, ca_again Eo h hn (x := 0) (by decide) A0 0 0⟩
  obtain ⟨o2, ho2, a1⟩ : ∃ o2, vis o2 = v ∧ f_L_call n o1 14 1 0 0 = some (r1, o2) := ⟨oLk o1 (lkF (o_l o1) (nightI σ (sF σ)) 301), ho1, ca_again (W_of E ho1) h hn (x := 1) (by decide) A1 0 0⟩
  obtain ⟨o', q', v', V', eo, eq, e⟩ := n170 (o := o2) (q := q) V E h hn ho2 hq (m := 1 + X % 20) (k := X / 20 % sN σ) (by omega) (by omega) lN'
  refine ⟨o', q', v', V', eo, eq, ?_⟩
  unfold f_L_nights
  rw [e0, ob_some, e1, ob_some, pk_mul]
  refine nif hN ?_
  rw [m20, d20, mN, e1n, ca_looks Eo h hn (m := 1 + X % 20) (by omega) (by omega), ob_some, ca_looks1 Eo h hn, ob_some, ca_freezes Eo h hn lN' 0 0, ob_some, a0, ob_some, a1, ob_some, fo]
  rcases cs with ⟨z0, z1⟩ | ⟨u, T, hu, hT, eT, z0, z1⟩
  · rw [z0, z1]
    refine pif rfl (pif rfl ?_)
    unfold f_L_nights_b111
    refine pif rfl (pif rfl ?_)
    exact e
  · rw [z0, z1]
    refine nif (nI_m1 (by omega)) (nif (nI_m1 (by omega)) ?_)
    unfold f_L_nights_b111
    refine pif rfl (nif (nI_m1 (by omega)) (nif (nI_nle (by omega) (by omega)) ?_))
    rw [nI_add, show u + (T - u) = T by omega]
    by_cases big : 200 < T
    · exact pif (nI_lt (a := 200) big (by omega)) e
    · refine nif (nI_nlt (a := 200) (by omega) (by omega)) ?_
      rw [ca_looks (W_of E ho2) h hn (m := T) (by omega) (by omega), ob_some]
      by_cases u0 : u = 0
      · subst u0
        refine pif (show nI 0 = 0 from rfl) (pif eT.symm ?_)
        exact e
      · refine nif (nI_ne0 (by omega) (by omega)) ?_
        rw [ca_looks (W_of E ho2) h hn (m := u) (by omega) (by omega), ob_some]
        exact pif eT.symm e
end NI
