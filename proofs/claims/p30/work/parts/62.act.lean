/-! what an object shows; an action does the same to all that show the same -/
abbrev VT : Type := WT × PT × (Nat → WT) × Bool × WT × Bool × WT
abbrev vis (o : OT) : VT := (o_w o, o_p o, o_sk o, o_b0 o, o_k0 o, o_b1 o, o_k1 o)
abbrev put (o : OT) (v : VT) : OT := (o_tx o, o_sg o, v.1, o_tr o, v.2.1, v.2.2.1, v.2.2.2.1, v.2.2.2.2.1, v.2.2.2.2.2.1, v.2.2.2.2.2.2, o_e o, o_g o, o_l o)
def VOK (w : WT) : Prop := ∃ σ, WF σ ∧ EncW w σ
def POK (p : PT) (sk : Nat → WT) : Prop := ∃ c v, c ≤ 14 ∧ v < 14 ∧ p = (nI c, nI v) ∧ ∀ i, i < c → VOK (sk ((v + 14 - i) % 14))
def VV (v : VT) : Prop := VOK v.1 ∧ POK v.2.1 v.2.2.1 ∧ (v.2.2.2.1 = true → VOK v.2.2.2.2.1) ∧ (v.2.2.2.2.2.1 = true → VOK v.2.2.2.2.2.2)
theorem vis_put (o : OT) (v : VT) : vis (put o v) = v := rfl
theorem put_vis (o : OT) : put o (vis o) = o := rfl
theorem vis_tr (o : OT) (t : WT) : vis (oTr o t) = vis o := rfl
theorem vis_eq (o : OT) (e : ET) (g : Nat → Int64) : vis (oEq o e g) = vis o := rfl
/-- remembered, and taken back -/
theorem POK_rem {p : PT} {sk : Nat → WT} {w : WT} (P : POK p sk) (hw : VOK w) : ∃ p' sk', f_X1_remember p sk w = (p', sk') ∧ POK p' sk' ∧ (∀ x, ∃ p2 c2, c2 < 14 ∧ f_X1_takeBack p' sk' x = (p2, w) ∧ POK p2 sk' ∧ p_count p2 = nI c2) ∧ ¬ p_count p' = 0 := by
  obtain ⟨c, v, hc, hv, rfl, hr⟩ := P
  have up : ∀ j, updW sk ((v + 1) % 14) w j = if j = (v + 1) % 14 then w else sk j := fun j => rfl
  obtain ⟨c', hc'⟩ : ∃ c', min (c + 1) 14 = c' + 1 := ⟨min (c + 1) 14 - 1, by omega⟩
  have old : ∀ i, i < c' → VOK (updW sk ((v + 1) % 14) w ((v + 14 - i) % 14)) := fun i hi => by
    rw [up, if_neg (by omega)]; exact hr i (by omega)
  refine ⟨_, _, C_rem hc hv sk w, ⟨min (c + 1) 14, (v + 1) % 14, by omega, Nat.mod_lt _ (by omega), rfl, fun i hi => ?_⟩, fun x => ⟨(nI c', nI v), c', by omega, ?_, ⟨c', v, by omega, hv, rfl, old⟩, rfl⟩, fun z => ?_⟩
  · cases i with
    | zero => rw [show ((v + 1) % 14 + 14 - 0) % 14 = (v + 1) % 14 by omega, up, if_pos rfl]; exact hw
    | succ i =>
      rw [show ((v + 1) % 14 + 14 - (i + 1)) % 14 = (v + 14 - i) % 14 by omega]
      exact old i (by omega)
  · rw [hc', C_back (by omega) (Nat.mod_lt _ (by omega)), up, if_pos rfl, show ((v + 1) % 14 + 13) % 14 = v by omega]
  · have z : nI (min (c + 1) 14) = 0 := z
    have := (nI0 (by omega)).mp z
    omega
theorem POK_0 {p : PT} {sk : Nat → WT} (P : POK p sk) : POK (f_X1_forget p) sk := by
  obtain ⟨c, v, hc, hv, rfl, hr⟩ := P
  exact ⟨0, v, by omega, hv, rfl, fun i hi => absurd hi (Nat.not_lt_zero i)⟩
def Act (n : Nat) (what a b : Int32) (v : VT) (r : Int32) (v' : VT) : Prop := VV v' ∧ ∀ (q : OT), vis q = v → ∀ c, f_L_call n q what a b c = some (r, put q v')
section AC
variable {v : VT} {n : Nat}
/-- an action that remembers first -/
theorem W_did (V : VV v) {w' : WT} {p' : PT} {sk' : Nat → WT} (hw : VOK w') (hp : POK p' sk') : VV (w', p', sk', v.2.2.2) := ⟨hw, hp, V.2.2.1, V.2.2.2⟩
theorem ac_flip (V : VV v) (x b : Int32) : ∃ r v', Act n 7 x b v r v' := by
  obtain ⟨σ, h, E⟩ := V.1
  by_cases q1 : rng x (0 : Nat) ((sN σ - 1 : Nat) : Int) = true
  · obtain ⟨k, hk, rfl⟩ := cell_ex h q1
    obtain ⟨p', sk', eP, HP, -⟩ := POK_rem V.2.1 V.1
    obtain ⟨w', eT, E'⟩ := W_turn E h hk
    refine ⟨bI (gb (sF (flp σ k)) k), (w', p', sk', v.2.2.2), W_did V ⟨_, WF_flp h hk, E'⟩ HP, fun q hq c => ?_⟩
    subst hq
    rw [fc_7]; unfold f_L_tryFlip f_X5_flip
    rw [NC_t E h q1, eP, eT]; rfl
  · exact ⟨-9999001, v, V, fun q hq c => by subst hq; exact cx_flip E h q1 b c⟩
theorem ac_scratch (V : VV v) (x y : Int32) : ∃ r v', Act n 8 x y v r v' := by
  obtain ⟨σ, h, E⟩ := V.1
  have n64 := h.n64
  by_cases q1 : rng x (0 : Nat) ((sN σ - 1 : Nat) : Int) = true
  · by_cases q2 : rng y 0 3 = true
    · obtain ⟨k, hk, rfl⟩ := cell_ex h q1
      obtain ⟨d, hd, rfl⟩ := dir_ex q2
      cases e : nbr σ k d with
      | none => exact ⟨-9999003, v, V, fun q hq c => by subst hq; exact cx_scr3 E h hk hd e c⟩
      | some j =>
        have hj := nbr_lt h hk hd e
        obtain ⟨p', sk', eP, HP, -⟩ := POK_rem V.2.1 V.1
        obtain ⟨w', eT, E'⟩ := W_scrape E h hk hd e
        refine ⟨bI (scr (scp σ k j d) k d), (w', p', sk', v.2.2.2), W_did V ⟨_, WF_scp h hk hj, E'⟩ HP, fun q hq c => ?_⟩
        subst hq
        rw [fc_8]; unfold f_L_tryScratch f_X5_scratch
        rw [NC_t E h q1, NR_t q2, W_beside E h hk hd, e, if_neg (fun z => nomatch (optI_m1 (o := some j) (fun i z => by cases z; omega)).mp z), eP, eT]; rfl
    · exact ⟨-9999002, v, V, fun q hq c => by subst hq; exact cx_scr2 E h q1 q2 c⟩
  · exact ⟨-9999001, v, V, fun q hq c => by subst hq; exact cx_scr1 E h q1 y c⟩
theorem ac_border (V : VV v) (x y : Int32) : ∃ r v', Act n 9 x y v r v' := by
  obtain ⟨σ, h, E⟩ := V.1
  by_cases q1 : rng x 0 3 = true
  · by_cases q2 : rng y 0 2 = true
    · obtain ⟨s, hs, rfl⟩ := dir_ex q1
      obtain ⟨κ, hκ, rfl⟩ := two_ex q2
      obtain ⟨p', sk', eP, HP, -⟩ := POK_rem V.2.1 V.1
      obtain ⟨w', eT, E'⟩ := W_putKind E h hs hκ
      refine ⟨nI (sSd σ s), (w', p', sk', v.2.2.2), W_did V ⟨_, WF_brd h hs hκ, E'⟩ HP, fun q hq c => ?_⟩
      subst hq
      rw [fc_9]; unfold f_L_tryBorder f_X5_border
      rw [NR_t q1, NR_t q2, eP, eT]; rfl
    · exact ⟨-9999002, v, V, fun q hq c => by subst hq; exact cx_brd2 q1 q2 c⟩
  · exact ⟨-9999002, v, V, fun q hq c => by subst hq; exact cx_brd1 q1 y c⟩
theorem ac_rule (V : VV v) (x b : Int32) : ∃ r v', Act n 10 x b v r v' := by
  obtain ⟨σ, h, E⟩ := V.1
  by_cases q1 : rng x 0 2 = true
  · obtain ⟨κ, hκ, rfl⟩ := two_ex q1
    obtain ⟨p', sk', eP, HP, -⟩ := POK_rem V.2.1 V.1
    obtain ⟨w', eT, E'⟩ := W_putRule E hκ
    refine ⟨nI (sRu σ), (w', p', sk', v.2.2.2), W_did V ⟨_, WF_Ru h hκ, E'⟩ HP, fun q hq c => ?_⟩
    subst hq
    rw [fc_10]; unfold f_L_tryRule f_X5_rule
    rw [NR_t q1, eP, eT]; rfl
  · exact ⟨-9999002, v, V, fun q hq c => by subst hq; exact cx_rule q1 b c⟩
theorem nine_ex {x : Int32} (hx : rng x 0 9 = true) : ∃ d, d ≤ 9 ∧ x = nI d := by
  obtain ⟨d, _, h2, h3⟩ := rng_ex (a := 0) (b := 9) hx (by omega)
  exact ⟨d, h2, h3⟩
theorem ac_breathe (V : VV v) (hn : 1000 ≤ n) (x y : Int32) : ∃ r v', Act n 11 x y v r v' := by
  obtain ⟨σ, h, E⟩ := V.1
  by_cases q1 : rng x (0 : Nat) ((sN σ - 1 : Nat) : Int) = true
  · by_cases q2 : rng y 0 9 = true
    · obtain ⟨k, hk, rfl⟩ := cell_ex h q1
      obtain ⟨s, hs, rfl⟩ := nine_ex q2
      obtain ⟨p', sk', eP, HP, -⟩ := POK_rem V.2.1 V.1
      obtain ⟨w', eT, E'⟩ := W_thaw E h (n := n) (by omega) hk hs
      refine ⟨nI (cnt (gb (sF σ &&& wrm σ k s)) 64), (w', p', sk', v.2.2.2), W_did V ⟨_, WF_thw h k s, E'⟩ HP, fun q hq c => ?_⟩
      subst hq
      rw [fc_11]; unfold f_L_tryBreathe f_X5_breathe
      rw [NC_t E h q1, NR_t q2, eP, eT]; rfl
    · exact ⟨-9999002, v, V, fun q hq c => by subst hq; exact cx_thw2 E h q1 q2 c⟩
  · exact ⟨-9999001, v, V, fun q hq c => by subst hq; exact cx_thw1 E h q1 y c⟩
theorem sixty_ex {x : Int32} (hx : rng x 1 60 = true) : ∃ d, 1 ≤ d ∧ d ≤ 60 ∧ x = nI d := rng_ex (a := 1) (b := 60) hx (by omega)
theorem ac_nights (V : VV v) (hn : 1000 ≤ n) (x b : Int32) : ∃ r v', Act n 12 x b v r v' := by
  obtain ⟨σ, h, E⟩ := V.1
  by_cases q1 : rng x 1 60 = true
  · obtain ⟨m, m1, m2, rfl⟩ := sixty_ex q1
    obtain ⟨p', sk', eP, HP, -⟩ := POK_rem V.2.1 V.1
    obtain ⟨w', eT, E'⟩ := W_pass E h (n := n) (by omega) m1 m2
    refine ⟨nI (cnt (gb (sF (pas σ m))) 64), (w', p', sk', v.2.2.2), W_did V ⟨_, WF_pas h m, E'⟩ HP, fun q hq c => ?_⟩
    subst hq
    rw [fc_12]; unfold f_L_tryNights f_X5_nights
    rw [NR_t q1, eP, eT]; rfl
  · exact ⟨-9999002, v, V, fun q hq c => by subst hq; exact cx_nights q1 b c⟩
theorem ac_size (V : VV v) (hn : 1000 ≤ n) (x y : Int32) : ∃ r v', Act n 6 x y v r v' := by
  obtain ⟨σ, h, E⟩ := V.1
  by_cases q1 : rng x 2 8 = true
  · by_cases q2 : rng y 2 8 = true
    · obtain ⟨R, r1, r2, rfl⟩ := rng_ex (a := 2) (b := 8) q1 (by omega)
      obtain ⟨C, c1, c2, rfl⟩ := rng_ex (a := 2) (b := 8) q2 (by omega)
      obtain ⟨p', sk', eP, HP, -⟩ := POK_rem V.2.1 V.1
      obtain ⟨w', eT, E'⟩ := W_replace (t := v.1) E.2.2.1 E.2.2.2.1 (n := n) (by omega) r1 r2 c1 c2
      refine ⟨f_X4_count w', (w', p', sk', v.2.2.2), W_did V ⟨_, WF_newS r1 r2 c1 c2 h.2.2.2.2.1 _, E'⟩ HP, fun q hq c => ?_⟩
      subst hq
      rw [fc_6]; unfold f_L_trySize f_X5_size
      rw [NR_t q1, NR_t q2, eP, eT]; rfl
    · exact ⟨-9999002, v, V, fun q hq c => by subst hq; exact cx_size2 q1 q2 c⟩
  · exact ⟨-9999002, v, V, fun q hq c => by subst hq; exact cx_size1 q1 y c⟩
theorem ac_undo (V : VV v) (a b : Int32) : ∃ r v', Act n 13 a b v r v' := by
  obtain ⟨⟨w, p, sk, s⟩, rfl⟩ : ∃ z : WT × PT × (Nat → WT) × (Bool × WT × Bool × WT), v = z := ⟨v, rfl⟩
  obtain ⟨c, u, hc, hu, ep, hr⟩ := V.2.1
  have ep : p = (nI c, nI u) := ep
  cases c with
  | zero =>
    refine ⟨-9999003, (w, p, sk, s), V, fun q hq c => ?_⟩
    have e : f_X5_undo w p sk = some (.inl 3) := by
      unfold f_X5_undo
      rw [ep]; exact if_pos (show nI 0 = 0 from rfl)
    rw [fc_13]; unfold f_L_tryUndo
    obtain ⟨a1, a2, a3, a4, a5, a6, a7, a8, a9, a10, a11, a12, a13⟩ := q
    cases hq
    rw [e]; rfl
  | succ c =>
    have h0 := hr 0 (by omega)
    rw [show (u + 14 - 0) % 14 = u by omega] at h0
    have ne : ¬ nI (c + 1) = 0 := fun z => by have := (nI0 (by omega)).mp z; omega
    refine ⟨nI c, (sk u, (nI c, nI ((u + 13) % 14)), sk, s), ⟨h0, ⟨c, (u + 13) % 14, by omega, Nat.mod_lt _ (by omega), rfl, fun i hi => ?_⟩, V.2.2.1, V.2.2.2⟩, fun q hq c9 => ?_⟩
    · have := hr (i + 1) (by omega)
      rw [show (u + 14 - (i + 1)) % 14 = ((u + 13) % 14 + 14 - i) % 14 by omega] at this
      exact this
    · have e : f_X5_undo w p sk = some (.inr (nI c, sk u, (nI c, nI ((u + 13) % 14)))) := by
        unfold f_X5_undo
        rw [ep, if_neg ne, C_back hc hu]; rfl
      rw [fc_13]; unfold f_L_tryUndo
      obtain ⟨a1, a2, a3, a4, a5, a6, a7, a8, a9, a10, a11, a12, a13⟩ := q
      cases hq
      rw [e]; rfl
theorem ac_save (V : VV v) (x b : Int32) : ∃ r v', Act n 18 x b v r v' := by
  by_cases q1 : rng x 0 1 = true
  · rcases one_ex q1 with rfl | rfl
    · refine ⟨w_nights v.1, (v.1, v.2.1, v.2.2.1, true, v.1, v.2.2.2.2.2.1, v.2.2.2.2.2.2), ⟨V.1, V.2.1, fun _ => V.1, V.2.2.2⟩, fun q hq c => ?_⟩
      subst hq
      rw [fc_18]; unfold f_L_tryKeep f_X5_save
      rw [C_slot, if_pos q1]; rfl
    · refine ⟨w_nights v.1, (v.1, v.2.1, v.2.2.1, v.2.2.2.1, v.2.2.2.2.1, true, v.1), ⟨V.1, V.2.1, V.2.2.1, fun _ => V.1⟩, fun q hq c => ?_⟩
      subst hq
      rw [fc_18]; unfold f_L_tryKeep f_X5_save
      rw [C_slot, if_pos q1]; rfl
  · exact ⟨-9999001, v, V, fun q hq c => by subst hq; exact cx_save q1 b c⟩
theorem ac_back (V : VV v) (x b : Int32) : ∃ r v', Act n 19 x b v r v' := by
  obtain ⟨⟨w, p, sk, b0, k0, b1, k1⟩, rfl⟩ : ∃ z, v = z := ⟨v, rfl⟩
  by_cases q1 : rng x 0 1 = true
  · rcases one_ex q1 with rfl | rfl
    · cases b0 with
      | true =>
        refine ⟨w_nights k0, (k0, f_X1_forget p, sk, true, k0, b1, k1), ⟨V.2.2.1 rfl, POK_0 V.2.1, V.2.2.1, V.2.2.2⟩, fun q hq c => ?_⟩
        rw [fc_19]; unfold f_L_tryBack f_X5_restore
        rw [C_slot, if_pos q1]
        obtain ⟨a1, a2, a3, a4, a5, a6, a7, a8, a9, a10, a11, a12, a13⟩ := q
        cases hq; rfl
      | false =>
        refine ⟨-9999003, (w, p, sk, false, k0, b1, k1), V, fun q hq c => ?_⟩
        rw [fc_19]; unfold f_L_tryBack f_X5_restore
        rw [C_slot, if_pos q1]
        obtain ⟨a1, a2, a3, a4, a5, a6, a7, a8, a9, a10, a11, a12, a13⟩ := q
        cases hq; rfl
    · cases b1 with
      | true =>
        refine ⟨w_nights k1, (k1, f_X1_forget p, sk, b0, k0, true, k1), ⟨V.2.2.2 rfl, POK_0 V.2.1, V.2.2.1, V.2.2.2⟩, fun q hq c => ?_⟩
        rw [fc_19]; unfold f_L_tryBack f_X5_restore
        rw [C_slot, if_pos q1]
        obtain ⟨a1, a2, a3, a4, a5, a6, a7, a8, a9, a10, a11, a12, a13⟩ := q
        cases hq; rfl
      | false =>
        refine ⟨-9999003, (w, p, sk, b0, k0, false, k1), V, fun q hq c => ?_⟩
        rw [fc_19]; unfold f_L_tryBack f_X5_restore
        rw [C_slot, if_pos q1]
        obtain ⟨a1, a2, a3, a4, a5, a6, a7, a8, a9, a10, a11, a12, a13⟩ := q
        cases hq; rfl
  · exact ⟨-9999001, _, V, fun q hq c => by rw [← hq]; exact cx_back q1 b c⟩
end AC
