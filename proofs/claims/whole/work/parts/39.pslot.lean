/-! slots, text growing, what would be -/
def RelS (b0 : Bool) (k0 : WT) (b1 : Bool) (k1 : WT) (kp : Nat → Int64) (ik : Nat → Int32) : Prop := ik 0 = bI b0 ∧ ik 1 = bI b1 ∧ (b0 = true → RelW k0 kp) ∧ (b1 = true → RelW k1 (fun j => kp (11 + j)))
theorem one_ex {x : Int32} (hx : rng x 0 1 = true) : x = nI 0 ∨ x = nI 1 := by
  obtain ⟨d, _, h2, h3⟩ := rng_ex (a := 0) (b := 1) hx (by omega)
  have : d = 0 ∨ d = 1 := by omega
  rcases this with rfl | rfl
  · exact .inl h3
  · exact .inr h3
theorem C_slot (x : Int32) : f_X5_needSlot x = if rng x 0 1 = true then some (.inr ()) else some (.inl 1) := by
  unfold f_X5_needSlot rng
  have z : (0 : Int32).toInt = 0 := by decide
  have o : (1 : Int32).toInt = 1 := by decide
  by_cases h : x < 0
  · rw [if_pos h]; rw [i_lt, z] at h; rw [if_neg (by rw [decide_eq_false (by omega)]; decide)]
  · rw [if_neg h]; rw [i_lt, z] at h
    by_cases h2 : x ≤ 1
    · rw [if_pos h2]; rw [i_le, o] at h2; rw [if_pos (decide_eq_true (by omega))]
    · rw [if_neg h2]; rw [i_le, o] at h2; rw [if_neg (by rw [decide_eq_false (by omega)]; decide)]
theorem cs_save {w : WT} {g : Nat → Int64} (W : RelW w g) {n : Nat} (hn : 1000 ≤ n) (m : MT) {b0 b1 : Bool} {k0 k1 : WT} {kp : Nat → Int64} {ik : Nat → Int32} (S : RelS b0 k0 b1 k1 kp ik) (o : Nat → Int64) (x : Int32) :
    Same (f_L_save w b0 k0 b1 k1 o x) (f_X6_save n m g kp ik x) (fun r1 r2 => f_X6_thrown r2.2.1 = r1.1 ∧ (r1.1 = 0 → r1.2.2.2.2.2 0 = r2.1.toInt64) ∧ RelS r1.2.1 r1.2.2.1 r1.2.2.2.1 r1.2.2.2.2.1 r2.2.2.1 r2.2.2.2 ∧ r2.2.1 = mk m r1.1) := by
  obtain ⟨s1, s2, s3, s4⟩ := S
  have W0 := W
  obtain ⟨σ, h, E, M⟩ := W
  have hw : ∀ t : WT, f_X4_copy t w = w := fun _ => rfl
  by_cases q : rng x 0 1 = true
  · rcases one_ex q with rfl | rfl
    · refine same_i (0, true, w, b1, k1, vp_updL o 0 (nI (sNi σ)).toInt64) (nI (sNi σ), mk m 0, cpF g kp 0 0 11, upd ik 0 (vp_nar .boolean 1)) ?_ ?_ ⟨rfl, fun _ => rfl, ⟨(pk_us : upd ik 0 (vp_nar .boolean 1) 0 = _).trans rfl, (pk_un (by omega) : upd ik 0 (vp_nar .boolean 1) 1 = _).trans s2, fun _ => RelW_cong W0 (fun j hj => ?_), fun z => RelW_cong (s4 z) (fun j hj => ?_)⟩, rfl⟩
      · unfold f_L_save f_X5_save
        rw [C_slot, if_pos q, E.2.2.2.1]; rfl
      · unfold f_X6_save
        rw [M_in, if_pos (show rng (nI 0) (0 : Int64).toInt (1 : Int64).toInt = true from q), ref0]
        show Option.bind (f_X6_copyState n g kp 11 22 0 (11 * nI 0)) (fun r_8 => if nI 0 < 0 ∨ 2 ≤ (nI 0).toNatClampNeg then none else some ((g 3).toInt32, mk m 0, r_8, upd ik (nI 0).toNatClampNeg (vp_nar .boolean 1))) = _
        rw [show f_X6_copyState n g kp 11 22 0 (11 * nI 0) = _ from M_copy (by omega) (a := 0) (b := 0) (by omega) (by omega) (by omega) (by omega), ob_some, if_neg (nI_in (by omega) (by omega)), nI_clamp (by omega), M_Ni M, lN_i]
      · show cpF g kp 0 0 11 j = g j
        unfold cpF; rw [if_pos (by omega)]; exact congrArg g (by omega)
      · show cpF g kp 0 0 11 (11 + j) = kp (11 + j)
        unfold cpF; rw [if_neg (by omega)]
    · refine same_i (0, b0, k0, true, w, vp_updL o 0 (nI (sNi σ)).toInt64) (nI (sNi σ), mk m 0, cpF g kp 0 11 11, upd ik 1 (vp_nar .boolean 1)) ?_ ?_ ⟨rfl, fun _ => rfl, ⟨(pk_un (by omega) : upd ik 1 (vp_nar .boolean 1) 0 = _).trans s1, (pk_us : upd ik 1 (vp_nar .boolean 1) 1 = _).trans rfl, fun z => RelW_cong (s3 z) (fun j hj => ?_), fun _ => RelW_cong W0 (fun j hj => ?_)⟩, rfl⟩
      · unfold f_L_save f_X5_save
        rw [C_slot, if_pos q, E.2.2.2.1]; rfl
      · unfold f_X6_save
        rw [M_in, if_pos (show rng (nI 1) (0 : Int64).toInt (1 : Int64).toInt = true from q), ref0]
        show Option.bind (f_X6_copyState n g kp 11 22 0 (11 * nI 1)) (fun r_8 => if nI 1 < 0 ∨ 2 ≤ (nI 1).toNatClampNeg then none else some ((g 3).toInt32, mk m 0, r_8, upd ik (nI 1).toNatClampNeg (vp_nar .boolean 1))) = _
        rw [show f_X6_copyState n g kp 11 22 0 (11 * nI 1) = _ from M_copy (by omega) (a := 0) (b := 11) (by omega) (by omega) (by omega) (by omega), ob_some, if_neg (nI_in (by omega) (by omega)), nI_clamp (by omega), M_Ni M, lN_i]
      · show cpF g kp 0 11 11 j = kp j
        unfold cpF; rw [if_neg (by omega)]
      · show cpF g kp 0 11 11 (11 + j) = g j
        unfold cpF; rw [if_pos (by omega)]; exact congrArg g (by omega)
  · refine same_i (1, b0, k0, b1, k1, o) (0, mk m 1, kp, ik) ?_ ?_ ⟨rfl, no1, ⟨s1, s2, s3, s4⟩, rfl⟩
    · unfold f_L_save f_X5_save
      rw [C_slot, if_neg q]; rfl
    · unfold f_X6_save
      rw [M_in, if_neg (show ¬ rng x (0 : Int64).toInt (1 : Int64).toInt = true from q), ref1]; rfl
theorem cs_restore {w : WT} {g : Nat → Int64} (W : RelW w g) {n : Nat} (hn : 1000 ≤ n) {p : PT} {sk : Nat → WT} {m : MT} {dia : Nat → Int64} (H : RelP p sk m dia) {b0 b1 : Bool} {k0 k1 : WT} {kp : Nat → Int64} {ik : Nat → Int32} (S : RelS b0 k0 b1 k1 kp ik) (o : Nat → Int64) (x : Int32) :
    Same (f_L_restore w p b0 k0 b1 k1 o x) (f_X6_restore n m g kp ik x) (fun r1 r2 => f_X6_thrown r2.2.1 = r1.1 ∧ (r1.1 = 0 → r1.2.2.2 0 = r2.1.toInt64) ∧ RelW r1.2.1 r2.2.2 ∧ RelP r1.2.2.1 sk r2.2.1 dia ∧ m_size r2.2.1 = m_size m) := by
  obtain ⟨s1, s2, s3, s4⟩ := S
  have hfo : ∀ m' : MT, m_acts m' = 0 → RelP (f_X1_forget p) sk m' dia := by
    intro m' hm'
    obtain ⟨c, v, hc, hv, e1, e2, e3, hr⟩ := H
    exact ⟨0, v, by omega, hv, rfl, e2, hm', fun i hi => absurd hi (Nat.not_lt_zero i)⟩
  by_cases q : rng x 0 1 = true
  · rcases one_ex q with rfl | rfl
    · cases hb : b0
      · refine same_i (2, w, p, o) (0, mk m 2, g) ?_ ?_ ⟨rfl, no2, W, H, rfl⟩
        · unfold f_L_restore f_X5_restore
          rw [C_slot, if_pos q]; rfl
        · unfold f_X6_restore f_X6_restore_b29
          rw [M_in, if_pos (show rng (nI 0) (0 : Int64).toInt (1 : Int64).toInt = true from q), if_neg (nI_in (by omega) (by omega)), nI_clamp (by omega), s1, hb, if_pos (show bI false = 0 from rfl), ref2]; rfl
      · obtain ⟨τ, hτ, Eτ, Mτ⟩ := s3 hb
        refine same_i (0, k0, f_X1_forget p, vp_updL o 0 (nI (sNi τ)).toInt64) (nI (sNi τ), mkA (mk m 0) 0, cpF kp g 0 0 11) ?_ ?_ ⟨rfl, fun _ => rfl, ⟨τ, hτ, Eτ, EncM_cp0 (a := 0) (EncM_cong Mτ (fun j _ => congrArg kp (by omega)))⟩, hfo _ rfl, rfl⟩
        · unfold f_L_restore f_X5_restore
          rw [C_slot, if_pos q]
          show some (0, k0, f_X1_forget p, vp_updL o 0 (w_nights k0).toInt64) = _
          rw [Eτ.2.2.2.1]
        · unfold f_X6_restore f_X6_restore_b29
          rw [M_in, if_pos (show rng (nI 0) (0 : Int64).toInt (1 : Int64).toInt = true from q), if_neg (nI_in (by omega) (by omega)), nI_clamp (by omega), s1, hb, if_neg (show ¬ bI true = 0 by decide), ref0]
          show Option.bind (f_X6_copyState n kp g 22 11 (11 * nI 0) 0) (fun r_3 => some ((r_3 3).toInt32, mkA (mk m 0) 0, r_3)) = _
          rw [show f_X6_copyState n kp g 22 11 (11 * nI 0) 0 = _ from M_copy (by omega) (a := 0) (b := 0) (by omega) (by omega) (by omega) (by omega), ob_some]
          show some ((kp 3).toInt32, mkA (mk m 0) 0, cpF kp g 0 0 11) = _
          rw [M_Ni Mτ, lN_i]
    · cases hb : b1
      · refine same_i (2, w, p, o) (0, mk m 2, g) ?_ ?_ ⟨rfl, no2, W, H, rfl⟩
        · unfold f_L_restore f_X5_restore
          rw [C_slot, if_pos q]; rfl
        · unfold f_X6_restore f_X6_restore_b29
          rw [M_in, if_pos (show rng (nI 1) (0 : Int64).toInt (1 : Int64).toInt = true from q), if_neg (nI_in (by omega) (by omega)), nI_clamp (by omega), s2, hb, if_pos (show bI false = 0 from rfl), ref2]; rfl
      · obtain ⟨τ, hτ, Eτ, Mτ⟩ := s4 hb
        refine same_i (0, k1, f_X1_forget p, vp_updL o 0 (nI (sNi τ)).toInt64) (nI (sNi τ), mkA (mk m 0) 0, cpF kp g 11 0 11) ?_ ?_ ⟨rfl, fun _ => rfl, ⟨τ, hτ, Eτ, EncM_cp0 (a := 11) Mτ⟩, hfo _ rfl, rfl⟩
        · unfold f_L_restore f_X5_restore
          rw [C_slot, if_pos q]
          show some (0, k1, f_X1_forget p, vp_updL o 0 (w_nights k1).toInt64) = _
          rw [Eτ.2.2.2.1]
        · unfold f_X6_restore f_X6_restore_b29
          rw [M_in, if_pos (show rng (nI 1) (0 : Int64).toInt (1 : Int64).toInt = true from q), if_neg (nI_in (by omega) (by omega)), nI_clamp (by omega), s2, hb, if_neg (show ¬ bI true = 0 by decide), ref0]
          show Option.bind (f_X6_copyState n kp g 22 11 (11 * nI 1) 0) (fun r_3 => some ((r_3 3).toInt32, mkA (mk m 0) 0, r_3)) = _
          rw [show f_X6_copyState n kp g 22 11 (11 * nI 1) 0 = _ from M_copy (by omega) (a := 11) (b := 0) (by omega) (by omega) (by omega) (by omega), ob_some]
          show some ((kp (11 + 3)).toInt32, mkA (mk m 0) 0, cpF kp g 11 0 11) = _
          rw [show kp (11 + 3) = lN (sNi τ) from M_Ni Mτ, lN_i]
  · refine same_i (1, w, p, o) (0, mk m 1, g) ?_ ?_ ⟨rfl, no1, W, H, rfl⟩
    · unfold f_L_restore f_X5_restore
      rw [C_slot, if_neg q]; rfl
    · unfold f_X6_restore f_X6_restore_b29
      rw [M_in, if_neg (show ¬ rng x (0 : Int64).toInt (1 : Int64).toInt = true from q), ref1]; rfl
-- text
def RelT (ts : TT) (sg : Nat → Int32) (m : MT) (tx : Nat → Int32) : Prop := ∃ L, L ≤ 120 ∧ t_length ts = nI L ∧ m_size m = nI L ∧ ∀ i, i < L → ∃ c, c < 256 ∧ sg i = nI c ∧ tx i = nI c
theorem ich_nI {c : Nat} (h : c < 65536) : ich (nI c) = nI c := by
  unfold ich
  rw [pk_char, pk_tn (by omega), Nat.mod_eq_of_lt h]
theorem nar_c {c : Nat} (h : c < 65536) : vp_nar .char (nI c) = nI c := by
  unfold vp_nar; rw [(pk_charN h).1]
theorem cs_append {ts : TT} {sg : Nat → Int32} {m : MT} {tx : Nat → Int32} (T : RelT ts sg m tx) (o : Nat → Int64) (x : Int32) :
    Same (f_L_append ts sg o x) (f_X6_append m tx x) (fun r1 r2 => f_X6_thrown r2.2.1 = r1.1 ∧ (r1.1 = 0 → r1.2.2.2 0 = r2.1.toInt64) ∧ RelT r1.2.1 r1.2.2.1 r2.2.1 r2.2.2 ∧ m_acts r2.2.1 = m_acts m) := by
  have T0 := T
  obtain ⟨L, hL, e1, e2, hs⟩ := T
  by_cases q : rng x 0 255 = true
  · obtain ⟨c, _, hc, rfl⟩ := rng_ex (a := 0) (b := 255) q (by omega)
    by_cases hl : L = 120
    · refine same_i (2, ts, sg, o) (0, mk m 2, tx) ?_ ?_ ⟨rfl, no2, T0, rfl⟩
      · unfold f_L_append f_X5_append f_X3_isFull
        rw [NR_t q, e1, hl, if_neg (show ¬ nI 120 < 120 by decide)]; rfl
      · unfold f_X6_append f_X6_append_b31
        rw [M_in, if_pos (show rng (nI c) (0 : Int64).toInt (255 : Int64).toInt = true from q), e2, hl, if_pos (show nI 120 = 120 by decide), ref2]; rfl
    · refine same_i (0, (t_letter ts, t_first ts, t_second ts, nI (L + 1), t_place ts), upd sg L (nI c), vp_updL o 0 (nI (L + 1)).toInt64) (nI (L + 1), (0, nI (L + 1), m_acts m, m_rank m, m_spot m, m_out m), upd tx L (nI c)) ?_ ?_ ⟨rfl, fun _ => rfl, ⟨L + 1, by omega, rfl, rfl, fun i hi => ?_⟩, rfl⟩
      · unfold f_L_append f_X5_append f_X3_isFull f_X3_add
        rw [NR_t q, e1, if_pos (show nI L < 120 from nI_lt (b := 120) (by omega) (by omega)), if_neg (show ¬ nI L < 0 from nI_pos (by omega)), if_neg (show ¬ (120 : Int32) ≤ nI L from nI_ge (b := 120) (by omega) (by omega)), if_neg (nI_in (show L < 120 by omega) (by omega)), nI_clamp (by omega), ich_nI (by omega), nar_c (by omega), nI_1]; rfl
      · unfold f_X6_append f_X6_append_b31
        rw [M_in, if_pos (show rng (nI c) (0 : Int64).toInt (255 : Int64).toInt = true from q), e2, if_neg (show ¬ nI L = 120 from fun z => hl ((nI_eq (b := 120) (by omega) (by omega)).mp z)), ref0]
        show (if m_size m < 0 ∨ 120 ≤ (m_size m).toNatClampNeg then none else some (m_size m + 1, (0, m_size m + 1, m_acts m, m_rank m, m_spot m, m_out m), upd tx (m_size m).toNatClampNeg (nI c))) = _
        rw [e2, if_neg (nI_in (show L < 120 by omega) (by omega)), nI_clamp (by omega), nI_1]
      · show ∃ c', c' < 256 ∧ upd sg L (nI c) i = nI c' ∧ upd tx L (nI c) i = nI c'
        by_cases z : i = L
        · subst z; exact ⟨c, by omega, pk_us, pk_us⟩
        · rw [pk_un z, pk_un z]; exact hs i (by omega)
  · refine same_i (1, ts, sg, o) (0, mk m 1, tx) ?_ ?_ ⟨rfl, no1, T0, rfl⟩
    · unfold f_L_append f_X5_append
      rw [NR_f q]; rfl
    · unfold f_X6_append f_X6_append_b31
      rw [M_in, if_neg (show ¬ rng x (0 : Int64).toInt (255 : Int64).toInt = true from q), ref1]; rfl
-- what would be
theorem EncM_tr {g : Nat → Int64} {σ : Sg} (M : EncM g σ) (tr : Nat → Int64) : EncM (cpF g tr 0 0 11) σ := EncM_cp0 (a := 0) (EncM_cong M (fun j _ => congrArg g (by omega)))
theorem M_cpT {n : Nat} (hn : 100 ≤ n) (g tr : Nat → Int64) : f_X6_copyState n g tr 11 11 0 0 = some (cpF g tr 0 0 11) := M_copy hn (a := 0) (b := 0) (by omega) (by omega) (by omega) (by omega)
theorem cs_coming {w : WT} {g : Nat → Int64} {σ : Sg} (E : EncW w σ) (M : EncM g σ) (h : WF σ) {n : Nat} (hn : 1000 ≤ n) (m : MT) (tr o : Nat → Int64) (x : Int32) :
    Same (f_L_coming n w o x) (f_X6_coming n m g tr x) (fun r1 r2 => f_X6_thrown r2.2.1 = r1.1 ∧ (r1.1 = 0 → r1.2 0 = r2.1) ∧ r2.2.1 = mk m r1.1) := by
  have hF := h.2.2.2.2.2.2.2.2.1
  by_cases q : rng x 1 200 = true
  · obtain ⟨v, h1, h2, rfl⟩ := rng_ex (a := 1) (b := 200) q (by omega)
    obtain ⟨tr', eT, MT⟩ := M_pass (EncM_tr M tr) h (n := n) (by omega) (m := v) (by omega) (by omega)
    refine same_i (0, vp_updL o 0 (nightI σ (sF σ) v)) (nightI σ (sF σ) v, mk m 0, tr') ?_ ?_ ⟨rfl, fun _ => rfl, rfl⟩
    · unfold f_L_coming f_X5_coming
      have := lp_run (fun f i => f_X5_coming_b20 n w (nI v) f (nightI σ (sF σ) i) (nI i)) v (some (.inr (nightI σ (sF σ) v)))
        (fun f i hi => by
          show f_X5_coming_b20 n w (nI v) (f + 1) (nightI σ (sF σ) i) (nI i) = f_X5_coming_b20 n w (nI v) f (night σ (nightI σ (sF σ) i)) (nI (i + 1))
          rw [f_X5_coming_b20_s, if_neg (nI_ge hi (by omega)), W_after E h (nightI_inW h hF i), nI_succ])
        (fun f => by
          show f_X5_coming_b20 n w (nI v) (f + 1) (nightI σ (sF σ) v) (nI v) = _
          rw [f_X5_coming_b20_s, if_pos (nI_le (Nat.le_refl _) (by omega))]) n 0 (by omega) (by omega)
      rw [NR_t q, E.2.2.2.2.1]
      show Option.bind (f_X5_coming_b20 n w (nI v) n (nightI σ (sF σ) 0) (nI 0)) _ = _
      rw [this]; rfl
    · unfold f_X6_coming
      rw [M_in, if_pos (show rng (nI v) (1 : Int64).toInt (200 : Int64).toInt = true from q), ref0]
      show Option.bind (f_X6_copyState n g tr 11 11 0 0) (fun r_8 => Option.bind (f_X6_nightsOn n r_8 (nI v)) (fun r_9 => some (r_9.2 8, mk m 0, r_9.2))) = _
      rw [M_cpT (by omega), ob_some, eT, ob_some]
      show some (tr' 8, mk m 0, tr') = _
      rw [MT.2.1]
      rfl
  · refine same_i (1, o) (0, mk m 1, tr) ?_ ?_ ⟨rfl, no1, rfl⟩
    · unfold f_L_coming f_X5_coming
      rw [NR_f q]; rfl
    · unfold f_X6_coming
      rw [M_in, if_neg (show ¬ rng x (1 : Int64).toInt (200 : Int64).toInt = true from q), ref1]; rfl
def fzN (σ : Sg) (k : Nat) : Nat → Nat → Int32
  | 0, _ => -1
  | m + 1, i => if gb (nightI σ (sF σ) i) k = true then nI i else fzN σ k m (i + 1)
theorem W_fz {w : WT} {σ : Sg} (E : EncW w σ) (h : WF σ) (n : Nat) {k : Nat} (hk : k < sN σ) : ∀ (m f i : Nat), i + m = 101 → m < f → f_X5_freezesIn_b16 n w (nI k) f (nightI σ (sF σ) i) (nI i) = some (.inr (fzN σ k m i))
  | _, 0, _, _, hf => absurd hf (Nat.not_lt_zero _)
  | 0, f + 1, i, hi, _ => by
    rw [f_X5_freezesIn_b16_s, if_pos (show (100 : Int32) < nI i from nI_lt (a := 100) (by omega) (by omega))]; rfl
  | m + 1, f + 1, i, hi, hf => by
    have n64 := h.n64
    rw [f_X5_freezesIn_b16_s, if_neg (show ¬ (100 : Int32) < nI i from nI_nlt (a := 100) (by omega) (by omega)), holds_gb (by omega), fzN]
    by_cases q : gb (nightI σ (sF σ) i) k = true
    · rw [if_pos q, if_pos q]
    · rw [if_neg q, if_neg q, W_after E h (nightI_inW h h.2.2.2.2.2.2.2.2.1 i), nI_1]
      exact W_fz E h n hk m f (i + 1) (by omega) (by omega)
theorem M_fz {g T : Nat → Int64} {σ : Sg} (M : EncM T σ) (h : WF σ) {n : Nat} (hn : 100 ≤ n) (s : MT) {k : Nat} (hk : k < sN σ) : ∀ (m f i : Nat), i + m = 101 → m < f → ∃ tr', f_X6_freezesIn_b40 n g (nI k) f s (vp_updL T 8 (nightI σ (sF σ) i)) (nI i) = some (fzN σ k m i, s, tr')
  | _, 0, _, _, hf => absurd hf (Nat.not_lt_zero _)
  | 0, f + 1, i, hi, _ => by
    rw [f_X6_freezesIn_b40_s, if_pos (show (100 : Int32) < nI i from nI_lt (a := 100) (by omega) (by omega))]; exact ⟨_, rfl⟩
  | m + 1, f + 1, i, hi, hf => by
    have n64 := h.n64
    rw [f_X6_freezesIn_b40_s, if_neg (show ¬ (100 : Int32) < nI i from nI_nlt (a := 100) (by omega) (by omega)), pk_uLs, has_gb (by omega), fzN]
    by_cases q : gb (nightI σ (sF σ) i) k = true
    · rw [if_pos q, if_pos q]; exact ⟨_, rfl⟩
    · rw [if_neg q, if_neg q, M_night2 M h hn (nightI_inW h h.2.2.2.2.2.2.2.2.1 i), nI_1, ob_some]
      exact M_fz M h hn s hk m f (i + 1) (by omega) (by omega)
theorem cs_freezesIn {w : WT} {g : Nat → Int64} {σ : Sg} (E : EncW w σ) (M : EncM g σ) (h : WF σ) {n : Nat} (hn : 1000 ≤ n) (m : MT) (tr o : Nat → Int64) (x : Int32) :
    Same (f_L_freezesIn n w o x) (f_X6_freezesIn n m g tr x) (fun r1 r2 => f_X6_thrown r2.2.1 = r1.1 ∧ (r1.1 = 0 → r1.2 0 = r2.1.toInt64) ∧ r2.2.1 = mk m r1.1) := by
  by_cases q : rng x (0 : Nat) ((sN σ - 1 : Nat) : Int) = true
  · obtain ⟨k, hk, rfl⟩ := cell_ex h q
    have MT := EncM_tr M tr
    obtain ⟨tr', eT⟩ := M_fz (g := g) MT h (n := n) (by omega) (mk m 0) hk 101 n 0 (by omega) (by omega)
    have eT0 : vp_updL (cpF g tr 0 0 11) 8 (nightI σ (sF σ) 0) = cpF g tr 0 0 11 := by
      show vp_updL (cpF g tr 0 0 11) 8 (sF σ) = _
      rw [← MT.2.1, uL_same]
    rw [eT0] at eT
    refine same_i (0, vp_updL o 0 (fzN σ k 101 0).toInt64) (fzN σ k 101 0, mk m 0, tr') ?_ ?_ ⟨rfl, fun _ => rfl, rfl⟩
    · unfold f_L_freezesIn f_X5_freezesIn
      rw [NC_t E h q, E.2.2.2.2.1]
      show Option.bind (f_X5_freezesIn_b16 n w (nI k) n (nightI σ (sF σ) 0) (nI 0)) _ = _
      rw [W_fz E h n hk 101 n 0 (by omega) (by omega)]; rfl
    · unfold f_X6_freezesIn
      rw [M_isCell M h, if_pos q, ref0]
      show Option.bind (f_X6_copyState n g tr 11 11 0 0) (fun r_10 => f_X6_freezesIn_b40 n g (nI k) n (mk m 0) r_10 (nI 0)) = _
      rw [M_cpT (by omega), ob_some, eT]
  · refine same_i (1, o) (0, mk m 1, tr) ?_ ?_ ⟨rfl, no1, rfl⟩
    · unfold f_L_freezesIn f_X5_freezesIn
      rw [NC_f E h q]; rfl
    · unfold f_X6_freezesIn
      rw [M_isCell M h, if_neg q, ref1]; rfl
