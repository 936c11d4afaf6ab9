/-! the actions, both sides -/
theorem RelP_mk {p : PT} {sk : Nat → WT} {m : MT} {dia : Nat → Int64} (H : RelP p sk m dia) (r : Int32) : RelP p sk (mk m r) dia := H
def actP (m : MT) (r1 : Int32 × WT × PT × (Nat → WT) × (Nat → Int64)) (r2 : Int32 × MT × (Nat → Int64) × (Nat → Int64)) : Prop := f_X6_thrown r2.2.1 = r1.1 ∧ (r1.1 = 0 → r1.2.2.2.2 0 = r2.1.toInt64) ∧ RelW r1.2.1 r2.2.2.1 ∧ RelP r1.2.2.1 r1.2.2.2.1 r2.2.1 r2.2.2.2 ∧ m_size r2.2.1 = m_size m
theorem rngb (x : Int32) (a b : Int32) : rng x a.toInt b.toInt = rng x a.toInt b.toInt := rfl
theorem cs_flip {w : WT} {g : Nat → Int64} {σ : Sg} (E : EncW w σ) (M : EncM g σ) (h : WF σ) {n : Nat} (hn : 1000 ≤ n) {p : PT} {sk : Nat → WT} {m : MT} {dia : Nat → Int64} (H : RelP p sk m dia) (o : Nat → Int64) (x : Int32) :
    Same (f_L_flip w p sk o x) (f_X6_flip n m g dia x) (actP m) := by
  by_cases q : rng x (0 : Nat) ((sN σ - 1 : Nat) : Int) = true
  · obtain ⟨k, hk, rfl⟩ := cell_ex h q
    obtain ⟨p', sk', m', dia', eP, eM, HP, hz, hf⟩ := P_rem hn (RelP_mk H 0) (w := w) (g := g) ⟨σ, h, E, M⟩
    obtain ⟨w', eT, E'⟩ := W_turn E h hk
    obtain ⟨g', eF, M'⟩ := M_flip M h hk
    refine same_i (0, w', p', sk', vp_updL o 0 (bI (gb (sF (flp σ k)) k)).toInt64) (bI (gb (sF (flp σ k)) k), m', g', dia') ?_ ?_ ⟨hf, fun _ => rfl, ⟨_, WF_flp h hk, E', M'⟩, HP, hz⟩
    · unfold f_L_flip f_X5_flip
      rw [NC_t E h q, eP, eT]; rfl
    · unfold f_X6_flip
      rw [M_isCell M h, if_pos q, ref0]
      show Option.bind (f_X6_remember n (mk m 0) g dia) (fun r_8 => lt_ (f_X6_flipOn g (nI k)) (fun r_9 => some (r_9.1, r_8.1, r_9.2, r_8.2))) = _
      rw [eM, eF]; rfl
  · refine same_i (1, w, p, sk, o) (0, mk m 1, g, dia) ?_ ?_ ⟨rfl, no1, ⟨σ, h, E, M⟩, H, rfl⟩
    · unfold f_L_flip f_X5_flip
      rw [NC_f E h q]; rfl
    · unfold f_X6_flip
      rw [M_isCell M h, if_neg q, ref1]; rfl
theorem cs_scratch {w : WT} {g : Nat → Int64} {σ : Sg} (E : EncW w σ) (M : EncM g σ) (h : WF σ) {n : Nat} (hn : 1000 ≤ n) {p : PT} {sk : Nat → WT} {m : MT} {dia : Nat → Int64} (H : RelP p sk m dia) (o : Nat → Int64) (x y : Int32) :
    Same (f_L_scratch w p sk o x y) (f_X6_scratch n m g dia x y) (actP m) := by
  have n64 := h.n64
  by_cases q : rng x (0 : Nat) ((sN σ - 1 : Nat) : Int) = true
  · obtain ⟨k, hk, rfl⟩ := cell_ex h q
    by_cases q2 : rng y 0 3 = true
    · obtain ⟨d, hd, rfl⟩ := dir_ex q2
      have hcan := M_can M h (k := k) (d := d) (by omega) (by omega)
      cases e : nbr σ k d with
      | none =>
        have e2 : canB σ k d = false := by unfold canB; rw [e]; simp
        refine same_i (3, w, p, sk, o) (0, mk m 3, g, dia) ?_ ?_ ⟨rfl, no3, ⟨σ, h, E, M⟩, H, rfl⟩
        · unfold f_L_scratch f_X5_scratch
          rw [NC_t E h q, NR_t q2, W_beside E h hk hd, e]; rfl
        · unfold f_X6_scratch f_X6_scratch_b44
          rw [M_isCell M h, if_pos q, M_dirx, if_pos q2, hcan, e2, ref3]; rfl
      | some j =>
        have hj := nbr_lt h hk hd e
        obtain ⟨p', sk', m', dia', eP, eM, HP, hz, hf⟩ := P_rem hn (RelP_mk H 0) (w := w) (g := g) ⟨σ, h, E, M⟩
        obtain ⟨w', eT, E'⟩ := W_scrape E h hk hd e
        obtain ⟨g', eF, M'⟩ := M_scratch M h hk hd e
        refine same_i (0, w', p', sk', vp_updL o 0 (bI (scr (scp σ k j d) k d)).toInt64) (bI (scr (scp σ k j d) k d), m', g', dia') ?_ ?_ ⟨hf, fun _ => rfl, ⟨_, WF_scp h hk hj, E', M'⟩, HP, hz⟩
        · unfold f_L_scratch f_X5_scratch
          rw [NC_t E h q, NR_t q2, W_beside E h hk hd, e, if_neg (fun z => nomatch (optI_m1 (o := some j) (fun i z => by cases z; omega)).mp z), eP, eT]; rfl
        · unfold f_X6_scratch f_X6_scratch_b44
          rw [M_isCell M h, if_pos q, M_dirx, if_pos q2, hcan, canB_of hk hd e, ref0]
          show Option.bind (f_X6_remember n (mk m 0) g dia) (fun r_8 => Option.bind (f_X6_scratchOn g (nI k) (nI d)) (fun r_9 => some (r_9.1, r_8.1, r_9.2, r_8.2))) = _
          rw [eM, eF]; rfl
    · refine same_i (2, w, p, sk, o) (0, mk m 2, g, dia) ?_ ?_ ⟨rfl, no2, ⟨σ, h, E, M⟩, H, rfl⟩
      · unfold f_L_scratch f_X5_scratch
        rw [NC_t E h q, NR_f q2]; rfl
      · unfold f_X6_scratch f_X6_scratch_b44
        rw [M_isCell M h, if_pos q, M_dirx, if_neg q2, ref2]; rfl
  · refine same_i (1, w, p, sk, o) (0, mk m 1, g, dia) ?_ ?_ ⟨rfl, no1, ⟨σ, h, E, M⟩, H, rfl⟩
    · unfold f_L_scratch f_X5_scratch
      rw [NC_f E h q]; rfl
    · unfold f_X6_scratch f_X6_scratch_b44
      rw [M_isCell M h, if_neg q, ref1]; rfl
theorem two_ex {x : Int32} (hx : rng x 0 2 = true) : ∃ d, d ≤ 2 ∧ x = nI d := by
  obtain ⟨d, _, h2, h3⟩ := rng_ex (a := 0) (b := 2) hx (by omega)
  exact ⟨d, h2, h3⟩
theorem cs_border {w : WT} {g : Nat → Int64} {σ : Sg} (E : EncW w σ) (M : EncM g σ) (h : WF σ) {n : Nat} (hn : 1000 ≤ n) {p : PT} {sk : Nat → WT} {m : MT} {dia : Nat → Int64} (H : RelP p sk m dia) (o : Nat → Int64) (x y : Int32) :
    Same (f_L_border w p sk o x y) (f_X6_border n m g dia x y) (actP m) := by
  by_cases q : rng x 0 3 = true
  · obtain ⟨s, hs, rfl⟩ := dir_ex q
    by_cases q2 : rng y 0 2 = true
    · obtain ⟨κ, hκ, rfl⟩ := two_ex q2
      obtain ⟨p', sk', m', dia', eP, eM, HP, hz, hf⟩ := P_rem hn (RelP_mk H 0) (w := w) (g := g) ⟨σ, h, E, M⟩
      obtain ⟨w', eT, E'⟩ := W_putKind E h hs hκ
      obtain ⟨g', eF, M'⟩ := M_border M h hs hκ
      refine same_i (0, w', p', sk', vp_updL o 0 (nI (sSd σ s)).toInt64) (nI (sSd σ s), m', g', dia') ?_ ?_ ⟨hf, fun _ => rfl, ⟨_, WF_brd h hs hκ, E', M'⟩, HP, hz⟩
      · unfold f_L_border f_X5_border
        rw [NR_t q, NR_t q2, eP, eT]; rfl
      · unfold f_X6_border
        rw [M_dirx, if_pos q, M_in, if_pos (show rng (nI κ) (0 : Int64).toInt (2 : Int64).toInt = true from q2), ref0]
        show Option.bind (f_X6_remember n (mk m 0) g dia) (fun r_8 => Option.bind (f_X6_borderOn g (nI s) (nI κ)) (fun r_9 => some (r_9.1, r_8.1, r_9.2, r_8.2))) = _
        rw [eM, eF]; rfl
    · refine same_i (1, w, p, sk, o) (0, mk m 1, g, dia) ?_ ?_ ⟨rfl, no1, ⟨σ, h, E, M⟩, H, rfl⟩
      · unfold f_L_border f_X5_border
        rw [NR_t q, NR_f q2]; rfl
      · unfold f_X6_border
        rw [M_dirx, if_pos q, M_in, if_neg (show ¬ rng y (0 : Int64).toInt (2 : Int64).toInt = true from q2), ref1]; rfl
  · refine same_i (1, w, p, sk, o) (0, mk m 1, g, dia) ?_ ?_ ⟨rfl, no1, ⟨σ, h, E, M⟩, H, rfl⟩
    · unfold f_L_border f_X5_border
      rw [NR_f q]; rfl
    · unfold f_X6_border
      rw [M_dirx, if_neg q, ref1]; rfl
theorem cs_rule {w : WT} {g : Nat → Int64} {σ : Sg} (E : EncW w σ) (M : EncM g σ) (h : WF σ) {n : Nat} (hn : 1000 ≤ n) {p : PT} {sk : Nat → WT} {m : MT} {dia : Nat → Int64} (H : RelP p sk m dia) (o : Nat → Int64) (x : Int32) :
    Same (f_L_rule w p sk o x) (f_X6_rule n m g dia x) (actP m) := by
  by_cases q : rng x 0 2 = true
  · obtain ⟨v, hv, rfl⟩ := two_ex q
    obtain ⟨p', sk', m', dia', eP, eM, HP, hz, hf⟩ := P_rem hn (RelP_mk H 0) (w := w) (g := g) ⟨σ, h, E, M⟩
    obtain ⟨w', eT, E'⟩ := W_putRule E hv
    obtain ⟨g', eF, M'⟩ := M_rule M hv
    refine same_i (0, w', p', sk', vp_updL o 0 (nI (sRu σ)).toInt64) (nI (sRu σ), m', g', dia') ?_ ?_ ⟨hf, fun _ => rfl, ⟨_, WF_Ru h hv, E', M'⟩, HP, hz⟩
    · unfold f_L_rule f_X5_rule
      rw [NR_t q, eP, eT]; rfl
    · unfold f_X6_rule
      rw [M_in, if_pos (show rng (nI v) (0 : Int64).toInt (2 : Int64).toInt = true from q), ref0]
      show Option.bind (f_X6_remember n (mk m 0) g dia) (fun r_8 => lt_ (f_X6_ruleOn g (nI v)) (fun r_9 => some (r_9.1, r_8.1, r_9.2, r_8.2))) = _
      rw [eM, eF]; rfl
  · refine same_i (1, w, p, sk, o) (0, mk m 1, g, dia) ?_ ?_ ⟨rfl, no1, ⟨σ, h, E, M⟩, H, rfl⟩
    · unfold f_L_rule f_X5_rule
      rw [NR_f q]; rfl
    · unfold f_X6_rule
      rw [M_in, if_neg (show ¬ rng x (0 : Int64).toInt (2 : Int64).toInt = true from q), ref1]; rfl
theorem cs_breathe {w : WT} {g : Nat → Int64} {σ : Sg} (E : EncW w σ) (M : EncM g σ) (h : WF σ) {n : Nat} (hn : 1000 ≤ n) {p : PT} {sk : Nat → WT} {m : MT} {dia : Nat → Int64} (H : RelP p sk m dia) (o : Nat → Int64) (x y : Int32) :
    Same (f_L_breathe n w p sk o x y) (f_X6_breathe n m g dia x y) (actP m) := by
  by_cases q : rng x (0 : Nat) ((sN σ - 1 : Nat) : Int) = true
  · obtain ⟨k, hk, rfl⟩ := cell_ex h q
    by_cases q2 : rng y 0 9 = true
    · obtain ⟨s, _, hs, rfl⟩ := rng_ex (a := 0) (b := 9) q2 (by omega)
      obtain ⟨p', sk', m', dia', eP, eM, HP, hz, hf⟩ := P_rem hn (RelP_mk H 0) (w := w) (g := g) ⟨σ, h, E, M⟩
      obtain ⟨w', eT, E'⟩ := W_thaw E h (n := n) (by omega) hk hs
      obtain ⟨g', eF, M'⟩ := M_breathe M h (n := n) (by omega) hk hs
      refine same_i (0, w', p', sk', vp_updL o 0 (nI (cnt (gb (sF σ &&& wrm σ k s)) 64)).toInt64) (nI (cnt (gb (sF σ &&& wrm σ k s)) 64), m', g', dia') ?_ ?_ ⟨hf, fun _ => rfl, ⟨_, WF_thw h k s, E', M'⟩, HP, hz⟩
      · unfold f_L_breathe f_X5_breathe
        rw [NC_t E h q, NR_t q2, eP, eT]; rfl
      · unfold f_X6_breathe
        rw [M_isCell M h, if_pos q, M_in, if_pos (show rng (nI s) (0 : Int64).toInt (9 : Int64).toInt = true from q2), ref0]
        show Option.bind (f_X6_remember n (mk m 0) g dia) (fun r_8 => Option.bind (f_X6_breatheOn n g (nI k) (nI s)) (fun r_9 => some (r_9.1, r_8.1, r_9.2, r_8.2))) = _
        rw [eM, eF]; rfl
    · refine same_i (2, w, p, sk, o) (0, mk m 2, g, dia) ?_ ?_ ⟨rfl, no2, ⟨σ, h, E, M⟩, H, rfl⟩
      · unfold f_L_breathe f_X5_breathe
        rw [NC_t E h q, NR_f q2]; rfl
      · unfold f_X6_breathe
        rw [M_isCell M h, if_pos q, M_in, if_neg (show ¬ rng y (0 : Int64).toInt (9 : Int64).toInt = true from q2), ref2]; rfl
  · refine same_i (1, w, p, sk, o) (0, mk m 1, g, dia) ?_ ?_ ⟨rfl, no1, ⟨σ, h, E, M⟩, H, rfl⟩
    · unfold f_L_breathe f_X5_breathe
      rw [NC_f E h q]; rfl
    · unfold f_X6_breathe
      rw [M_isCell M h, if_neg q, ref1]; rfl
theorem cs_nights {w : WT} {g : Nat → Int64} {σ : Sg} (E : EncW w σ) (M : EncM g σ) (h : WF σ) {n : Nat} (hn : 1000 ≤ n) {p : PT} {sk : Nat → WT} {m : MT} {dia : Nat → Int64} (H : RelP p sk m dia) (o : Nat → Int64) (x : Int32) :
    Same (f_L_nights n w p sk o x) (f_X6_nights n m g dia x) (actP m) := by
  by_cases q : rng x 1 60 = true
  · obtain ⟨v, h1, h2, rfl⟩ := rng_ex (a := 1) (b := 60) q (by omega)
    obtain ⟨p', sk', m', dia', eP, eM, HP, hz, hf⟩ := P_rem hn (RelP_mk H 0) (w := w) (g := g) ⟨σ, h, E, M⟩
    obtain ⟨w', eT, E'⟩ := W_pass E h (n := n) (by omega) h1 h2
    obtain ⟨g', eF, M'⟩ := M_pass M h (n := n) (by omega) (m := v) (by omega) (by omega)
    refine same_i (0, w', p', sk', vp_updL o 0 (nI (cnt (gb (sF (pas σ v))) 64)).toInt64) (nI (cnt (gb (sF (pas σ v))) 64), m', g', dia') ?_ ?_ ⟨hf, fun _ => rfl, ⟨_, WF_pas h v, E', M'⟩, HP, hz⟩
    · unfold f_L_nights f_X5_nights
      rw [NR_t q, eP, eT]; rfl
    · unfold f_X6_nights
      rw [M_in, if_pos (show rng (nI v) (1 : Int64).toInt (60 : Int64).toInt = true from q), ref0]
      show Option.bind (f_X6_remember n (mk m 0) g dia) (fun r_8 => Option.bind (f_X6_nightsOn n g (nI v)) (fun r_9 => some (r_9.1, r_8.1, r_9.2, r_8.2))) = _
      rw [eM, eF]; rfl
  · refine same_i (1, w, p, sk, o) (0, mk m 1, g, dia) ?_ ?_ ⟨rfl, no1, ⟨σ, h, E, M⟩, H, rfl⟩
    · unfold f_L_nights f_X5_nights
      rw [NR_f q]; rfl
    · unfold f_X6_nights
      rw [M_in, if_neg (show ¬ rng x (1 : Int64).toInt (60 : Int64).toInt = true from q), ref1]; rfl
theorem M_sz (x : Int32) : f_X6_isSize x = rng x 2 8 := M_in x 2 8
theorem EncM_new {g' : Nat → Int64} {R C ru ni : Nat} (h : EncM g' (newS R C 0 0)) : EncM (vp_updL (vp_updL g' 2 (lN ru)) 3 (lN ni)) (newS R C ru ni) := by
  have a := EncM_setS (EncM_setS h (j := 2) (by omega) ru) (j := 3) (by omega) ni
  have e : setS (setS (newS R C 0 0) 2 ru) 3 ni = newS R C ru ni := by
    unfold setS newS
    refine Prod.ext (funext fun i => ?_) rfl
    show (if i = 3 then ni else if i = 2 then ru else if i = 0 then R else if i = 1 then C else if i = 2 then 0 else if i = 3 then 0 else 0) = if i = 0 then R else if i = 1 then C else if i = 2 then ru else if i = 3 then ni else 0
    by_cases i3 : i = 3
    · subst i3; rfl
    · by_cases i2 : i = 2
      · subst i2; rfl
      · rw [if_neg i3, if_neg i2, if_neg i2, if_neg i3, if_neg i2, if_neg i3]
  rw [e] at a
  exact a
theorem cs_size {w : WT} {g : Nat → Int64} {σ : Sg} (E : EncW w σ) (M : EncM g σ) (h : WF σ) {n : Nat} (hn : 1000 ≤ n) {p : PT} {sk : Nat → WT} {m : MT} {dia : Nat → Int64} (H : RelP p sk m dia) (o : Nat → Int64) (x y : Int32) :
    Same (f_L_size n w p sk o x y) (f_X6_size n m g dia x y) (actP m) := by
  by_cases q : rng x 2 8 = true
  · obtain ⟨R, r1, r2, rfl⟩ := rng_ex (a := 2) (b := 8) q (by omega)
    by_cases q2 : rng y 2 8 = true
    · obtain ⟨C, c1, c2, rfl⟩ := rng_ex (a := 2) (b := 8) q2 (by omega)
      obtain ⟨p', sk', m', dia', eP, eM, HP, hz, hf⟩ := P_rem hn (RelP_mk H 0) (w := w) (g := g) ⟨σ, h, E, M⟩
      obtain ⟨w', eT, E'⟩ := W_replace (t := w) E.2.2.1 E.2.2.2.1 (n := n) (by omega) r1 r2 c1 c2
      obtain ⟨g', eF, M', -⟩ := M_clear g (n := n) (by omega) r2 c2
      have hr := h.2.2.2.2.1
      refine same_i (0, w', p', sk', vp_updL o 0 (nI (R * C)).toInt64) (nI (R * C), m', vp_updL (vp_updL g' 2 (lN (sRu σ))) 3 (lN (sNi σ)), dia') ?_ ?_ ⟨hf, fun _ => rfl, ⟨_, WF_newS r1 r2 c1 c2 hr _, E', EncM_new M'⟩, HP, hz⟩
      · unfold f_L_size f_X5_size
        rw [NR_t q, NR_t q2, eP, eT]
        show some (0, w', p', sk', vp_updL o 0 (f_X4_count w').toInt64) = _
        rw [W_count E']; rfl
      · unfold f_X6_size f_X6_size_b20
        rw [M_sz, if_pos q, M_sz, if_pos q2, ref0]
        show Option.bind (f_X6_remember n (mk m 0) g dia) (fun r_3 => Option.bind (f_X6_clear n g (nI R) (nI C)) (fun r_4 => some (nI R * nI C, r_3.1, vp_updL (vp_updL r_4 2 (g 2)) 3 (g 3), r_3.2))) = _
        rw [eM, eF, M_Ru M, M_Ni M, pk_mul]; rfl
    · refine same_i (1, w, p, sk, o) (0, mk m 1, g, dia) ?_ ?_ ⟨rfl, no1, ⟨σ, h, E, M⟩, H, rfl⟩
      · unfold f_L_size f_X5_size
        rw [NR_t q, NR_f q2]; rfl
      · unfold f_X6_size f_X6_size_b20
        rw [M_sz, if_pos q, M_sz, if_neg q2, ref1]; rfl
  · refine same_i (1, w, p, sk, o) (0, mk m 1, g, dia) ?_ ?_ ⟨rfl, no1, ⟨σ, h, E, M⟩, H, rfl⟩
    · unfold f_L_size f_X5_size
      rw [NR_f q]; rfl
    · unfold f_X6_size f_X6_size_b20
      rw [M_sz, if_neg q, ref1]; rfl
theorem cs_undo {w : WT} {g : Nat → Int64} {σ : Sg} (E : EncW w σ) (M : EncM g σ) (h : WF σ) {n : Nat} (hn : 1000 ≤ n) {p : PT} {sk : Nat → WT} {m : MT} {dia : Nat → Int64} (H : RelP p sk m dia) (o : Nat → Int64) :
    Same (f_L_undo w p sk o) (f_X6_undo n m g dia) (fun r1 r2 => f_X6_thrown r2.2.1 = r1.1 ∧ (r1.1 = 0 → r1.2.2.2 0 = r2.1.toInt64) ∧ RelW r1.2.1 r2.2.2 ∧ RelP r1.2.2.1 sk r2.2.1 dia ∧ m_size r2.2.1 = m_size m) := by
  have H0 := H
  obtain ⟨c, v, hc, hv, e1, e2, e3, hr⟩ := H
  have ep : p = (nI c, nI v) := by rw [← e1, ← e2]
  cases c with
  | zero =>
    refine same_i (1, w, p, o) (0, mk m 1, g) ?_ ?_ ⟨rfl, no1, ⟨σ, h, E, M⟩, H0, rfl⟩
    · unfold f_L_undo f_X5_undo
      rw [e1, if_pos (show nI 0 = 0 from rfl)]; rfl
    · unfold f_X6_undo
      rw [e3, if_pos (show nI 0 = 0 from rfl), ref1]; rfl
  | succ c =>
    have h0 := hr 0 (by omega)
    rw [show (v + 14 - 0) % 14 = v by omega] at h0
    obtain ⟨τ, hτ, Eτ, Mτ⟩ := h0
    have ne : ¬ nI (c + 1) = 0 := fun z => by have := (nI0 (by omega)).mp z; omega
    refine same_i (0, sk v, (nI c, nI ((v + 13) % 14)), vp_updL o 0 (nI c).toInt64) (nI c, mkA (mk m 0) (nI c), cpF dia g (11 * c) 0 11) ?_ ?_ ⟨rfl, fun _ => rfl, ⟨τ, hτ, Eτ, EncM_cp0 (a := 11 * c) Mτ⟩, ⟨c, (v + 13) % 14, by omega, Nat.mod_lt _ (by omega), rfl, rfl, rfl, fun i hi => ?_⟩, rfl⟩
    · unfold f_L_undo f_X5_undo
      rw [e1, if_neg ne, ep, C_back hc hv]; rfl
    · unfold f_X6_undo
      rw [e3, if_neg ne, ref0]
      show Option.bind (f_X6_copyState n dia g 154 11 (11 * (m_acts m - 1)) 0) (fun r_4 => some (m_acts m - 1, mkA (mk m 0) (m_acts m - 1), r_4)) = _
      rw [e3, nI_pred, show (11 : Int32) * nI c = nI (11 * c) from pk_mul 11 c, show f_X6_copyState n dia g 154 11 (nI (11 * c)) 0 = _ from M_copy (by omega) (a := 11 * c) (b := 0) (by omega) (by omega) (by omega) (by omega)]; rfl
    · have a := hr (i + 1) (by omega)
      rw [show ((v + 13) % 14 + 14 - i) % 14 = (v + 14 - (i + 1)) % 14 by omega]
      exact RelW_cong a (fun j _ => congrArg dia (by omega))
