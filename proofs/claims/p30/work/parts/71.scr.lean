/-! a scratch that keeps a cell clear: the law's walk -/
theorem scp_flip {σ : Sg} (h : WF σ) {k d j : Nat} (hk : k < sN σ) (hd : d < 4) (e : nbr σ k d = some j) : scr (scp σ k j d) k d = !scr σ k d := by
  have n64 := h.n64
  have hj := nbr_lt h hk hd e
  have ow : own k j d < 64 := Nat.lt_of_lt_of_le (own_lt hk hj) n64
  have a : scr (scp σ k j d) k d = gb (sct (scp σ k j d) d) (own k j d) := by unfold scr; rw [scp_nbr, e]
  have b : scr σ k d = gb (sct σ d) (own k j d) := by unfold scr; rw [e]
  have c : sct (scp σ k j d) d = sct σ d ^^^ jsl 1 (nI (own k j d)) := by
    unfold sct scp
    by_cases z : d % 2 = 0
    · rw [if_pos z, if_pos z, if_pos z]; rfl
    · rw [if_neg z, if_neg z, if_neg z]; rfl
  rw [a, b, c, gb_xor, gb_one ow, decide_eq_true rfl]
  cases gb (sct σ d) (own k j d) <;> rfl
theorem did_scratch {v : VT} (V : VV v) {σ : Sg} (E : EncW v.1 σ) (h : WF σ) {n : Nat} {k d j : Nat} (hk : k < sN σ) (hd : d < 4) (e : nbr σ k d = some j) : ∃ v1 v2 c, VV v1 ∧ VV v2 ∧ v2.1 = v.1 ∧ EncW v1.1 (scp σ k j d) ∧ c < 14 ∧ (∀ q : OT, vis q = v → f_L_call n q 8 (nI k) (nI d) 0 = some (bI (scr (scp σ k j d) k d), put q v1)) ∧ ∀ q : OT, vis q = v1 → f_L_call n q 13 0 0 0 = some (nI c, put q v2) := by
  obtain ⟨w0, p0, sk0, b0, k0, b1, k1⟩ := v
  have n64 := h.n64
  have hj := nbr_lt h hk hd e
  obtain ⟨p', sk', eP, HP, bk, hc⟩ := POK_rem V.2.1 V.1
  obtain ⟨w', eT, E'⟩ := W_scrape E h hk hd e
  obtain ⟨p2, c2, c14, eB, HB, ec⟩ := bk w'
  refine ⟨(w', p', sk', b0, k0, b1, k1), (w0, p2, sk', b0, k0, b1, k1), c2, W_did V ⟨_, WF_scp h hk hj, E'⟩ HP, ⟨V.1, HB, V.2.2.1, V.2.2.2⟩, rfl, E', c14, fun q hq => ?_, fun q hq => ?_⟩
  · rw [fc_8]; unfold f_L_tryScratch
    have e2 : f_X5_scratch w0 p0 sk0 (nI k) (nI d) = some (.inr (bI (scr (scp σ k j d) k d), w', p', sk')) := by
      unfold f_X5_scratch
      rw [NC_t E h (cell_in h hk), NR_t (dir_in hd), W_beside E h hk hd, e, if_neg (fun z => nomatch (optI_m1 (o := some j) (fun i z => by cases z; omega)).mp z), eP, eT]; rfl
    obtain ⟨a1, a2, a3, a4, a5, a6, a7, a8, a9, a10, a11, a12, a13⟩ := q
    cases hq
    rw [e2]; rfl
  · have e2 : f_X5_undo w' p' sk' = some (.inr (nI c2, w0, p2)) := by
      unfold f_X5_undo
      rw [if_neg hc, eB, ← ec]; rfl
    rw [fc_13]; unfold f_L_tryUndo
    obtain ⟨a1, a2, a3, a4, a5, a6, a7, a8, a9, a10, a11, a12, a13⟩ := q
    cases hq
    rw [e2]; rfl
section CL
variable {n : Nat} {o q : OT}
theorem c129 {v1 v2 : VT} {c : Nat} (U : ∀ q : OT, vis q = v1 → f_L_call n q 13 0 0 0 = some (nI c, put q v2)) (hc : c < 14) (ho : vis o = v1) (hq : vis q = v1) (b : Bool) : f_L_clear_b129 n o q (bI b) = some (b, put o v2, put q v2) := by
  have th : ¬ f_L_thrown (nI c) = true := by rw [th_no hc]; decide
  unfold f_L_clear_b129
  rw [U o ho, ob_some]
  refine nif th ?_
  rw [U q hq, ob_some]
  refine nif th ?_
  cases b
  · exact pif (show bI false = 0 from rfl) rfl
  · exact nif bt0 rfl
theorem c90 {v : VT} {τ : Sg} (E : EncW v.1 τ) (h : WF τ) (hn : 1000 ≤ n) (ho : vis o = v) {k u : Nat} (hk : k < sN τ) (hu : u ≤ 20) : ∀ (m f i : Nat), i + m = u → m + 1 < f → f_L_clear_b90 n (nI k) (nI u) f o q 1 (nI (i + 1)) = f_L_clear_b129 n o q (bI (stB τ k m i))
  | _, 0, _, _, hf => absurd hf (Nat.not_lt_zero _)
  | 0, f + 1, i, hi, _ => by
    rw [f_L_clear_b90_s, if_pos (nI_lt (by omega) (by omega))]; rfl
  | m + 1, f + 1, i, hi, hf => by
    have n64 := h.n64
    rw [f_L_clear_b90_s, if_neg (nI_nlt (by omega) (by omega)), if_neg (show ¬ (1 : Int32) = 0 by decide), ca_looks (W_of E ho) h hn (m := i + 1) (by omega) (by omega), ob_some, stB]
    by_cases z : gb (nightI τ (sF τ) (i + 1)) k = true
    · rw [if_pos z]
      refine nif (fun w => ?_) ?_
      · have := (gb_a1 _).mp w
        rw [js_b (by omega), z] at this
        cases this
      · obtain ⟨f', rfl⟩ : ∃ f', f = f' + 1 := ⟨f - 1, by omega⟩
        rw [f_L_clear_b90_s]
        by_cases w : nI u < nI (i + 1) + 1
        · rw [if_pos w]; rfl
        · rw [if_neg w, if_pos rfl]; rfl
    · rw [if_neg z]
      refine pif ((gb_a1 _).mpr ?_) ?_
      · rw [js_b (by omega)]
        cases w : gb (nightI τ (sF τ) (i + 1)) k
        · rfl
        · exact absurd w z
      · rw [nI_1]
        exact c90 E h hn ho hk hu m f (i + 1) (by omega) (by omega)
theorem clear_ok {v : VT} (V : VV v) {σ : Sg} (E : EncW v.1 σ) (h : WF σ) (hn : 1000 ≤ n) (ho : vis o = v) (hq : vis q = v) {k u a : Nat} (hk : k < sN σ) (hu : u ≤ 6) (ha : a < 4 * sN σ) : ∃ o' q' v', VV v' ∧ v'.1 = v.1 ∧ vis o' = v' ∧ vis q' = v' ∧ f_L_clear n o q (nI k) (nI u) (nI a) = some (kGood σ k u a, o', q') := by
  have n64 := h.n64
  have a4 : nI a / 4 = nI (a / 4) := dv (d := 4) (by omega) (by omega) (by omega)
  have m4 : irm (nI a) 4 = nI (a % 4) := irm_nI (d := 4) (by omega) (by omega) (by omega)
  have hA : a / 4 < sN σ := by omega
  have hd : a % 4 < 4 := Nat.mod_lt _ (by omega)
  have Eo := W_of E ho
  have sb := sat_b σ (a / 4) hd
  cases e : nbr σ (a / 4) (a % 4) with
  | none =>
    refine ⟨o, q, v, V, rfl, ho, hq, ?_⟩
    have g : kGood σ k u a = false := by
      unfold kGood nxt
      rw [e]
      cases scr σ (a / 4) (a % 4) <;> rfl
    unfold f_L_clear
    rw [a4, m4, ca_next Eo h hA hd 0, ob_some, e, g]
    exact pif rfl rfl
  | some j =>
    have hj := nbr_lt h hA hd e
    cases s : scr σ (a / 4) (a % 4) with
    | true =>
      refine ⟨o, q, v, V, rfl, ho, hq, ?_⟩
      have g : kGood σ k u a = false := by
        unfold kGood nxt
        rw [s]; rfl
      unfold f_L_clear
      rw [a4, m4, ca_next Eo h hA hd 0, ob_some, e, g]
      refine nif (nI_m1 (by omega)) ?_
      rw [ca_sat Eo h hn hA 0, ob_some]
      exact pif (sb.mpr s) rfl
    | false =>
      obtain ⟨v1, v2, c, V1, V2, ew, E1, hc, D, U⟩ := did_scratch (n := n) V E h hA hd e
      have h1 := WF_scp h (d := a % 4) hA hj
      have one : scr (scp σ (a / 4) j (a % 4)) (a / 4) (a % 4) = true := by rw [scp_flip h hA hd e, s]; rfl
      refine ⟨put (put o v1) v2, put (put q v1) v2, v2, V2, ew, rfl, rfl, ?_⟩
      have g : kGood σ k u a = stB (scp σ (a / 4) j (a % 4)) k u 0 := by
        unfold kGood nxt
        rw [s, e]; rfl
      unfold f_L_clear
      rw [a4, m4, ca_next Eo h hA hd 0, ob_some, e, g]
      refine nif (nI_m1 (by omega)) ?_
      rw [ca_sat Eo h hn hA 0, ob_some]
      refine nif (fun w => by have := sb.mp w; rw [s] at this; cases this) ?_
      rw [D o ho, ob_some, one]
      refine pif rfl ?_
      rw [D q hq, ob_some, one]
      refine pif rfl ?_
      refine Eq.trans (c90 (o := put o v1) (q := put q v1) E1 h1 hn rfl (by rw [scp_N]; exact hk) (by omega) u 8 0 (by omega) (by omega)) ?_
      exact c129 U hc rfl rfl _
theorem ca_keeps {σ : Sg} (E : EncW (o_w o) σ) (h : WF σ) (hn : 1000 ≤ n) {k u : Nat} (hk : k < sN σ) (h1 : 1 ≤ u) (h2 : u ≤ 20) : ∃ t, f_L_call n o 17 (nI k) (nI u) 0 = some (fst' (kGood σ k u) (4 * sN σ) 0, oTr o t) := by
  have n64 := h.n64
  have n4 := h.n4
  have q2 : rng (nI u) 1 20 = true := by
    have := rng_nI (k := u) 1 20 (by omega)
    exact this.trans (decide_eq_true ⟨h1, h2⟩)
  obtain ⟨n', rfl⟩ : ∃ n', n = n' + 1 := ⟨n - 1, by omega⟩
  obtain ⟨t', eW⟩ := W_keep E h hn hk h2 (4 * sN σ - 1) 0 0 n' (n' + 1) (o_w o) E (by omega) (by omega) (by omega) (by omega) (by omega)
  have hM : 4 * sN σ - 1 + 1 = 4 * sN σ := by omega
  rw [hM, show 4 * 0 + 0 = 0 from rfl, ← kGood_eq h] at eW
  refine ⟨t', ?_⟩
  rw [fc_17]; unfold f_L_tryKeeps f_X5_keeps
  rw [NC_t E h (cell_in h hk), NR_t q2, W_count E]
  show Option.bind (Option.bind (f_X5_keeps_b35 (n' + 1) (o_w o) (nI k) (nI u) (nI (sN σ)) (n' + 1) (o_w o) (nI 0)) _) _ = _
  rw [f_X5_keeps_b35_s, if_neg (nI_ge (by omega) (by omega))]
  show Option.bind (Option.bind (f_X5_keeps_b44 (n' + 1) (o_w o) (nI k) (nI u) (nI (sN σ)) (nI 0) (f_X5_keeps_b35 (n' + 1) (o_w o) (nI k) (nI u) (nI (sN σ)) n') (n' + 1) (o_w o) (nI 0)) _) _ = _
  rw [eW]; rfl
theorem fst_spec (p : Nat → Bool) : ∀ (m i : Nat), (fst' p m i = -1 ∧ ∀ c, i ≤ c → c < i + m → p c = false) ∨ (∃ c, i ≤ c ∧ c < i + m ∧ fst' p m i = nI c ∧ p c = true ∧ ∀ c', i ≤ c' → c' < c → p c' = false)
  | 0, i => Or.inl ⟨rfl, fun c h1 h2 => by omega⟩
  | m + 1, i => by
    rw [fst']
    by_cases q : p i = true
    · rw [if_pos q]
      exact Or.inr ⟨i, Nat.le_refl _, by omega, rfl, q, fun c h1 h2 => by omega⟩
    · rw [if_neg q]
      have q' : p i = false := by
        cases z : p i
        · rfl
        · exact absurd z q
      rcases fst_spec p m (i + 1) with ⟨a, b⟩ | ⟨c, t1, t2, t3, t4, t5⟩
      · refine Or.inl ⟨a, fun c h1 h2 => ?_⟩
        by_cases e : c = i
        · rw [e]; exact q'
        · exact b c (by omega) (by omega)
      · refine Or.inr ⟨c, by omega, by omega, t3, t4, fun c' h1 h2 => ?_⟩
        by_cases e : c' = i
        · rw [e]; exact q'
        · exact t5 c' (by omega) h2
theorem scr_ok {v : VT} (V : VV v) (hn : 1000 ≤ n) (ho : vis o = v) (hq : vis q = v) {X : Nat} (hX : X < 2 ^ 31) : ∃ o' q' v', VV v' ∧ vis o' = v' ∧ vis q' = v' ∧ f_L_scratches n o q (nI X) = some (true, o', q') := by
  obtain ⟨σ, h, E⟩ := V.1
  have n64 := h.n64
  have n4 := h.n4
  have mN : irm (nI X) (nI (sN σ)) = nI (X % sN σ) := irm_nI (by omega) (by omega) (by omega)
  have d64 : nI X / 64 = nI (X / 64) := dv (d := 64) hX (by omega) (by omega)
  have m6 : irm (nI (X / 64)) 6 = nI (X / 64 % 6) := irm_nI (d := 6) (by omega) (by omega) (by omega)
  have d400 : nI X / 400 = nI (X / 400) := dv (d := 400) hX (by omega) (by omega)
  have e4 : (4 : Int32) * nI (sN σ) = nI (4 * sN σ) := pk_mul 4 _
  have m4N : irm (nI (X / 400)) (nI (4 * sN σ)) = nI (X / 400 % (4 * sN σ)) := irm_nI (by omega) (by omega) (by omega)
  have lN' := Nat.mod_lt X (show 0 < sN σ by omega)
  have l6 := Nat.mod_lt (X / 64) (show 0 < 6 by omega)
  have lt' := Nat.mod_lt (X / 400) (show 0 < 4 * sN σ by omega)
  have e1n : (1 : Int32) + nI (X / 64 % 6) = nI (1 + X / 64 % 6) := nI_add 1 _
  have hN : ¬ nI (sN σ) = 0 := nI_ne0 (by omega) (by omega)
  have h4N : ¬ nI (4 * sN σ) = 0 := nI_ne0 (by omega) (by omega)
  have Eo := W_of E ho
  have e0 : f_L_call n o 2 0 0 0 = some (nI (sR σ), o) := ca_about Eo h hn (d := 0) (by omega) 0 0
  have e1 : f_L_call n o 2 1 0 0 = some (nI (sC σ), o) := ca_about Eo h hn (d := 1) (by omega) 0 0
  obtain ⟨t, ek⟩ := ca_keeps Eo h hn (k := X % sN σ) (u := 1 + X / 64 % 6) lN' (by omega) (by omega)
  rcases fst_spec (kGood σ (X % sN σ) (1 + X / 64 % 6)) (4 * sN σ) 0 with ⟨z, al⟩ | ⟨c, c1, c2, z, pc, lo⟩
  · obtain ⟨o1, q1, v1, V1, -, eo1, eq1, ec⟩ := clear_ok (o := oTr o t) V E h hn ho hq (k := X % sN σ) (u := 1 + X / 64 % 6) (a := X / 400 % (4 * sN σ)) lN' (by omega) lt'
    refine ⟨o1, q1, v1, V1, eo1, eq1, ?_⟩
    unfold f_L_scratches
    rw [e0, ob_some, e1, ob_some, pk_mul]
    refine nif hN ?_
    rw [mN, d64, m6, e1n, ek, ob_some, e4]
    refine nif h4N ?_
    rw [d400, m4N, z]
    refine pif rfl (pif rfl ?_)
    unfold f_L_scratches_b91
    refine pif rfl (nif (show ¬ (1 : Int32) = 0 by decide) ?_)
    rw [ec, ob_some, al _ (by omega) (by omega)]
    exact nif (show ¬ false = true from Bool.false_ne_true) rfl
  · obtain ⟨o1, q1, v1, V1, ew1, eo1, eq1, ec⟩ := clear_ok (o := oTr o t) V E h hn ho hq (k := X % sN σ) (u := 1 + X / 64 % 6) (a := c) lN' (by omega) (by omega)
    have c31 : c < 2 ^ 31 := by omega
    by_cases lt9 : c ≤ X / 400 % (4 * sN σ)
    · refine ⟨o1, q1, v1, V1, eo1, eq1, ?_⟩
      unfold f_L_scratches
      rw [e0, ob_some, e1, ob_some, pk_mul]
      refine nif hN ?_
      rw [mN, d64, m6, e1n, ek, ob_some, e4]
      refine nif h4N ?_
      rw [d400, m4N, z]
      refine nif (nI_m1 c31) (nif (nI_m1 c31) (pif (nI_le lt9 (by omega)) ?_))
      unfold f_L_scratches_b91
      refine nif (nI_m1 c31) ?_
      rw [ec, ob_some, pc]
      exact pif rfl (pif rfl rfl)
    · obtain ⟨o2, q2, v2, V2, -, eo2, eq2, ec2⟩ := clear_ok (o := o1) (q := q1) V1 (by rw [ew1]; exact E) h hn eo1 eq1 (k := X % sN σ) (u := 1 + X / 64 % 6) (a := X / 400 % (4 * sN σ)) lN' (by omega) lt'
      refine ⟨o2, q2, v2, V2, eo2, eq2, ?_⟩
      unfold f_L_scratches
      rw [e0, ob_some, e1, ob_some, pk_mul]
      refine nif hN ?_
      rw [mN, d64, m6, e1n, ek, ob_some, e4]
      refine nif h4N ?_
      rw [d400, m4N, z]
      refine nif (nI_m1 c31) (nif (nI_m1 c31) (nif (nI_ge (by omega) (by omega)) ?_))
      unfold f_L_scratches_b91
      refine nif (nI_m1 c31) ?_
      rw [ec, ob_some, pc]
      refine pif rfl (nif (show ¬ (1 : Int32) = 0 by decide) ?_)
      rw [ec2, ob_some, lo _ (by omega) (by omega)]
      exact nif (show ¬ false = true from Bool.false_ne_true) rfl
end CL
