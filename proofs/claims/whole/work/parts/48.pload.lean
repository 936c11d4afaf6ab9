/-! errorPosition, load -/
def RunB (n : Nat) (sg tx : Nat → Int32) (len f p i : Nat) (t : WT) (g : Nat → Int64) : Prop :=
  (∃ e, e < 2 ^ 30 ∧ (∀ a b c, ∃ a' b' c', f_X3_firstError_b14 n sg f (a, b, c, nI len, nI p) (nI i) = some (nI e, (a', b', c', nI len, nI e))) ∧ (∀ rf ac rk ou, ∃ ou' g', f_X6_readText_b71 n tx f (rf, nI len, ac, rk, nI p, ou) g = some (nI e, (rf, nI len, ac, rk, nI e, ou'), g'))) ∨
  (∃ e K t' g', RelW t' g' ∧ (∀ a b c, ∃ a' b' c', f_X3_firstError_b14 n sg f (a, b, c, nI len, nI p) (nI i) = some (-1, (a', b', c', nI len, nI e))) ∧ (∀ rf ac rk ou, f_X6_readText_b71 n tx f (rf, nI len, ac, rk, nI p, ou) g = some (-1, (rf, nI len, ac, rk, nI e, ou + K), g')) ∧ (∀ a b c P (b0 b1 : Bool) y, ∃ a' b' c', f_X5_load_b75 n sg f (a, b, c, nI len, nI p) t P b0 b1 y (nI i) = some (.inr (y + K, (a', b', c', nI len, nI e), t', P, b0, b1))))
section TXT5
variable {T : Nat → Nat} {len : Nat} {sg tx : Nat → Int32} (hlen : len ≤ 120) (hT : ∀ i, i < len → T i < 256 ∧ sg i = nI (T i) ∧ tx i = nI (T i))
theorem run_both {T : Nat → Nat} {len : Nat} {sg tx : Nat → Int32} (hlen : len ≤ 120) (hT : ∀ i, i < len → T i < 256 ∧ sg i = nI (T i) ∧ tx i = nI (T i)) {n : Nat} (hn : 100 ≤ n) : ∀ (f p i : Nat) (t : WT) (g : Nat → Int64), 1 ≤ f → len < f + p → i ≤ p → p < 1000 → RelW t g → RunB n sg tx len f p i t g
  | 0, _, _, _, _, h0, _, _, _, _ => absurd h0 (by omega)
  | f + 1, p, i, t, g, _, hf, hi, hp, B => by
    by_cases q : p < len
    · have hi2 : ¬ (120 : Int32) ≤ nI i := nI_ge (b := 120) (by omega) (by omega)
      have hp2 : ¬ nI len ≤ nI p := nI_ge q (by omega)
      rcases Cmd_all hlen hT B hn q with ⟨e, he, h1, h2⟩ | ⟨e, x, t', g', he1, he2, B', h1, h2⟩
      · refine .inl ⟨e, he, fun a b c => ?_, fun rf ac rk ou => ?_⟩
        · obtain ⟨a', b', c', h⟩ := h1 a b c
          refine ⟨a', b', c', ?_⟩
          rw [f_X3_firstError_b14_s, if_neg hi2, if_neg hp2, h]; rfl
        · refine ⟨ou, g, ?_⟩
          rw [f_X6_readText_b71_s, if_neg hp2, h2]; rfl
      · have cls : ∀ a b c, ∃ a' b' c', f_X3_firstError_b14 n sg (f + 1) (a, b, c, nI len, nI p) (nI i) = f_X3_firstError_b14 n sg f (a', b', c', nI len, nI e) (nI (i + 1)) := fun a b c => by
          obtain ⟨a', b', c', r, h, -⟩ := h1 a b c
          refine ⟨a', b', c', ?_⟩
          rw [f_X3_firstError_b14_s, if_neg hi2, if_neg hp2, h, nI_1]; rfl
        have mdl : ∀ rf ac rk ou, f_X6_readText_b71 n tx (f + 1) (rf, nI len, ac, rk, nI p, ou) g = f_X6_readText_b71 n tx f (rf, nI len, ac, rk, nI e, ou + bI x) g' := fun rf ac rk ou => by
          rw [f_X6_readText_b71_s, if_neg hp2, h2]; rfl
        rcases run_both hlen hT hn f e (i + 1) t' g' (by omega) (by omega) (by omega) (by omega) B' with ⟨e2, k0, k1, k2⟩ | ⟨e2, K, t2, g2, B2, k1, k2, k3⟩
        · refine .inl ⟨e2, k0, fun a b c => ?_, fun rf ac rk ou => ?_⟩
          · obtain ⟨a', b', c', z⟩ := cls a b c
            rw [z]; exact k1 a' b' c'
          · rw [mdl]; exact k2 rf ac rk _
        · refine .inr ⟨e2, bI x + K, t2, g2, B2, fun a b c => ?_, fun rf ac rk ou => ?_, fun a b c P b0 b1 y => ?_⟩
          · obtain ⟨a', b', c', z⟩ := cls a b c
            rw [z]; exact k1 a' b' c'
          · rw [mdl, k2, Int32.add_assoc]
          · obtain ⟨a', b', c', r, h, ho, hx⟩ := h1 a b c
            obtain ⟨a2, b2, c2, z⟩ := k3 a' b' c' P b0 b1 (y + bI x)
            refine ⟨a2, b2, c2, ?_⟩
            rw [f_X5_load_b75_s, if_neg hi2, h, nI_1]
            show Option.bind (f_X5_obey n t a' b' c') _ = _
            rw [ho]
            show (if r = -1 then f_X5_load_b75 n sg f (a', b', c', nI len, nI e) t' P b0 b1 (y + 1) (nI (i + 1)) else f_X5_load_b75 n sg f (a', b', c', nI len, nI e) t' P b0 b1 y (nI (i + 1))) = _
            rw [← Int32.add_assoc, ← z]
            cases x
            · rw [if_neg (fun q => by have := hx.mp q; cases this), show y + bI false = y from Int32.add_zero y]
            · rw [if_pos (hx.mpr rfl)]; rfl
    · have hp2 : nI len ≤ nI p := nI_le (by omega) (by omega)
      refine .inr ⟨p, 0, t, g, B, fun a b c => ⟨a, b, c, ?_⟩, fun rf ac rk ou => ?_, fun a b c P b0 b1 y => ⟨a, b, c, ?_⟩⟩
      · rw [f_X3_firstError_b14_s]
        by_cases z : (120 : Int32) ≤ nI i
        · rw [if_pos z]
        · rw [if_neg z, if_pos hp2]
      · rw [f_X6_readText_b71_s, if_pos hp2, Int32.add_zero]
      · have e : f_X3_readCommand n (a, b, c, nI len, nI p) sg = some (false, (a, b, c, nI len, nI p)) := by
          unfold f_X3_readCommand
          exact if_neg (show ¬ nI p < nI len from nI_nlt (by omega) (by omega))
        rw [f_X5_load_b75_s, Int32.add_zero]
        by_cases z : (120 : Int32) ≤ nI i
        · rw [if_pos z]
        · rw [if_neg z, e]; rfl
/-- the whole text -/
theorem text_both {T : Nat → Nat} {len : Nat} {sg tx : Nat → Int32} (hlen : len ≤ 120) (hT : ∀ i, i < len → T i < 256 ∧ sg i = nI (T i) ∧ tx i = nI (T i)) {n : Nat} (hn : 1000 ≤ n) (w : WT) (g : Nat → Int64) :
    (∃ e, e < 2 ^ 30 ∧ (∀ a b c d, ∃ a' b' c', f_X3_firstError n (a, b, c, nI len, d) sg = some (nI e, (a', b', c', nI len, nI e))) ∧ (∀ rf ac rk sp ou, ∃ ou' g', f_X6_readText n (rf, nI len, ac, rk, sp, ou) tx g = some (nI e, (rf, nI len, ac, rk, nI e, ou'), g'))) ∨
    (∃ e K t' g', RelW t' g' ∧ (∀ a b c d, ∃ a' b' c', f_X3_firstError n (a, b, c, nI len, d) sg = some (-1, (a', b', c', nI len, nI e))) ∧ (∀ rf ac rk sp ou, f_X6_readText n (rf, nI len, ac, rk, sp, ou) tx g = some (-1, (rf, nI len, ac, rk, nI e, 0 + K), g')) ∧ (∀ a b c d, ∃ z t0, f_X3_readWindow n (a, b, c, nI len, d) sg = some (true, z) ∧ f_X4_renew n w (t_first z) (t_second z) = some t0 ∧ ∀ P (b0 b1 : Bool), ∃ a' b' c', f_X5_load_b75 n sg n z t0 P b0 b1 0 0 = some (.inr (0 + K, (a', b', c', nI len, nI e), t', P, b0, b1)))) := by
  have sgn : ∀ a b c, f_X3_sign (a, b, c, nI len, 0) sg = some (if 0 < len then nI (T 0) else -1) := fun a b c => X3_sign hlen hT (p := 0) (by omega)
  have bad : (∀ a b c d, f_X3_readWindow n (a, b, c, nI len, d) sg = some (false, (a, b, c, nI len, nI 0))) → (∀ rf ac rk sp ou, f_X6_readText n (rf, nI len, ac, rk, sp, ou) tx g = some (nI 0, (rf, nI len, ac, rk, nI 0, 0), g)) → (∃ e, e < 2 ^ 30 ∧ (∀ a b c d, ∃ a' b' c', f_X3_firstError n (a, b, c, nI len, d) sg = some (nI e, (a', b', c', nI len, nI e))) ∧ (∀ rf ac rk sp ou, ∃ ou' g', f_X6_readText n (rf, nI len, ac, rk, sp, ou) tx g = some (nI e, (rf, nI len, ac, rk, nI e, ou'), g'))) := fun h1 h2 =>
    ⟨0, by omega, fun a b c d => ⟨a, b, c, by unfold f_X3_firstError; rw [h1]; rfl⟩, fun rf ac rk sp ou => ⟨0, g, h2 rf ac rk sp ou⟩⟩
  by_cases l0 : 0 < len
  · have hq := (hT 0 l0).1
    have ml : ¬ nI len = 0 := nI_ne0 l0 (by omega)
    by_cases c0 : T 0 = 87
    · have win : ∀ a b c d, f_X3_readWindow n (a, b, c, nI len, d) sg = (f_X3_readFirst n (a, b, c, nI len, nI 1) sg 1 (nI 2) (nI 8)).bind (fun r_3 => (if r_3.1 = true then (f_X3_readSecond n r_3.2 sg (nI 2) (nI 8)).bind (fun r_5 => (if r_5.1 = true then (some (true, r_5.2)) else (some (false, r_5.2)))) else (some (false, r_3.2)))) := fun a b c d => by
        unfold f_X3_readWindow
        show Option.bind (f_X3_sign (a, b, c, nI len, 0) sg) _ = _
        rw [sgn, if_pos l0, ob_some, c0, if_pos (show nI 87 = 87 from rfl)]; rfl
      have mdl : ∀ rf ac rk sp ou, f_X6_readText n (rf, nI len, ac, rk, sp, ou) tx g = (f_X6_figures n (rf, nI len, ac, rk, nI 1, 0) tx 0 1 (nI 2) (nI 8)).bind (fun r_6 => (f_X6_figures n r_6.2 tx r_6.1 1 (nI 2) (nI 8)).bind (fun r_7 => (if r_7.1 = (-1) then (some ((m_spot r_7.2), r_7.2, g)) else (f_X6_clear n g r_6.1 r_7.1).bind (fun r_9 => f_X6_readText_b71 n tx n r_7.2 r_9)))) := fun rf ac rk sp ou => by
        unfold f_X6_readText
        show (if nI len = 0 then _ else if tx 0 = 87 then _ else _) = _
        rw [if_neg ml, (hT 0 l0).2.2, c0, if_pos (show nI 87 = 87 from rfl)]; rfl
      rcases hr : rd1 T len 1 2 8 with ⟨_ | R, e⟩
      · have hb := rd1_b hlen hT hr
        refine .inl ⟨e, by omega, fun a b c d => ⟨a, -1, c, ?_⟩, fun rf ac rk sp ou => ⟨0, g, ?_⟩⟩
        · unfold f_X3_firstError
          rw [win, X3_first1 hlen hT (by omega) (by omega) (by omega) (by omega), hr]; rfl
        · rw [mdl, X6_rd1 hlen hT (by decide) (by omega) (by omega) (by omega) (by omega), hr, ob_some, show f_X6_figures n _ tx (optI none) 1 (nI 2) (nI 8) = _ from X6_no n _ tx _ _ (by omega)]; rfl
      · have hR := rd1_s T len hr
        have win2 : ∀ a b c d, f_X3_readWindow n (a, b, c, nI len, d) sg = (f_X3_readSecond n (a, nI R, c, nI len, nI e) sg (nI 2) (nI 8)).bind (fun r_5 => (if r_5.1 = true then (some (true, r_5.2)) else (some (false, r_5.2)))) := fun a b c d => by
          rw [win, X3_first1 hlen hT (by omega) (by omega) (by omega) (by omega), hr]; rfl
        have mdl2 : ∀ rf ac rk sp ou, f_X6_readText n (rf, nI len, ac, rk, sp, ou) tx g = (f_X6_figures n (rf, nI len, ac, rk, nI e, 0) tx (nI R) 1 (nI 2) (nI 8)).bind (fun r_7 => (if r_7.1 = (-1) then (some ((m_spot r_7.2), r_7.2, g)) else (f_X6_clear n g (nI R) r_7.1).bind (fun r_9 => f_X6_readText_b71 n tx n r_7.2 r_9))) := fun rf ac rk sp ou => by
          rw [mdl, X6_rd1 hlen hT (by decide) (by omega) (by omega) (by omega) (by omega), hr]; rfl
        rcases hr2 : rd1 T len e 2 8 with ⟨_ | C, e2⟩
        · have hb := rd1_b hlen hT hr2
          refine .inl ⟨e2, by omega, fun a b c d => ⟨a, nI R, -1, ?_⟩, fun rf ac rk sp ou => ⟨0, g, ?_⟩⟩
          · unfold f_X3_firstError
            rw [win2, X3_second hlen hT (by omega) (by omega) (by omega) (by omega), hr2]; rfl
          · rw [mdl2, X6_rd1 hlen hT (nI_m1 (by omega)) (by omega) (by omega) (by omega) (by omega), hr2]; rfl
        · have hC := rd1_s T len hr2
          have win3 : ∀ a b c d, f_X3_readWindow n (a, b, c, nI len, d) sg = some (true, (a, nI R, nI C, nI len, nI e2)) := fun a b c d => by
            rw [win2, X3_second hlen hT (by omega) (by omega) (by omega) (by omega), hr2]; rfl
          obtain ⟨t0, w1, w2⟩ := W_renew (t := w) (n := n) (by omega) (R := R) (C := C) (by omega) (by omega) (by omega) (by omega)
          obtain ⟨g0, m1, m2, -⟩ := M_clear g (n := n) (by omega) (R := R) (C := C) (by omega) (by omega)
          have B0 : RelW t0 g0 := ⟨_, WF_newS (by omega) (by omega) (by omega) (by omega) (by omega) 0, w2, m2⟩
          have mdl3 : ∀ rf ac rk sp ou, f_X6_readText n (rf, nI len, ac, rk, sp, ou) tx g = f_X6_readText_b71 n tx n (rf, nI len, ac, rk, nI e2, 0) g0 := fun rf ac rk sp ou => by
            rw [mdl2, X6_rd1 hlen hT (nI_m1 (by omega)) (by omega) (by omega) (by omega) (by omega), hr2, ob_some, if_neg (oI_some (d := C) (by omega))]
            show (f_X6_clear n g (nI R) (nI C)).bind _ = _
            rw [m1]; rfl
          have cls3 : ∀ a b c d, f_X3_firstError n (a, b, c, nI len, d) sg = f_X3_firstError_b14 n sg n (a, nI R, nI C, nI len, nI e2) (nI 0) := fun a b c d => by
            unfold f_X3_firstError
            rw [win3]; rfl
          rcases run_both hlen hT (n := n) (by omega) n e2 0 t0 g0 (by omega) (by omega) (by omega) (by omega) B0 with ⟨e3, k0, k1, k2⟩ | ⟨e3, K, t2, g2, B2, k1, k2, k3⟩
          · exact .inl ⟨e3, k0, fun a b c d => by rw [cls3]; exact k1 _ _ _, fun rf ac rk sp ou => by rw [mdl3]; exact k2 _ _ _ _⟩
          · refine .inr ⟨e3, K, t2, g2, B2, fun a b c d => by rw [cls3]; exact k1 _ _ _, fun rf ac rk sp ou => by rw [mdl3]; exact k2 _ _ _ _, fun a b c d => ⟨_, t0, win3 a b c d, w1, fun P b0 b1 => k3 _ _ _ P b0 b1 0⟩⟩
    · refine .inl (bad (fun a b c d => ?_) (fun rf ac rk sp ou => ?_))
      · unfold f_X3_readWindow
        show Option.bind (f_X3_sign (a, b, c, nI len, 0) sg) _ = _
        rw [sgn, if_pos l0, ob_some, if_neg (show ¬ nI (T 0) = 87 from fun z => c0 ((nI_eq (b := 87) (by omega) (by omega)).mp z))]; rfl
      · unfold f_X6_readText
        show (if nI len = 0 then _ else if tx 0 = 87 then _ else _) = _
        rw [if_neg ml, (hT 0 l0).2.2, if_neg (show ¬ nI (T 0) = 87 from fun z => c0 ((nI_eq (b := 87) (by omega) (by omega)).mp z))]; rfl
  · obtain rfl : len = 0 := by omega
    refine .inl (bad (fun a b c d => ?_) (fun rf ac rk sp ou => ?_))
    · unfold f_X3_readWindow
      show Option.bind (f_X3_sign (a, b, c, nI 0, 0) sg) _ = _
      rw [sgn, if_neg l0, ob_some, if_neg (by decide)]; rfl
    · unfold f_X6_readText
      rw [if_pos (show m_size (rf, nI 0, ac, rk, sp, ou) = 0 from rfl)]; rfl
end TXT5
theorem RelT_ex {ts : TT} {sg : Nat → Int32} {m : MT} {tx : Nat → Int32} (H : RelT ts sg m tx) : ∃ len, len ≤ 120 ∧ t_length ts = nI len ∧ m_size m = nI len ∧ ∀ i, i < len → (sg i).toBitVec.toNat < 256 ∧ sg i = nI (sg i).toBitVec.toNat ∧ tx i = nI (sg i).toBitVec.toNat := by
  obtain ⟨L, h1, h2, h3, h4⟩ := H
  refine ⟨L, h1, h2, h3, fun i hi => ?_⟩
  obtain ⟨c, hc, e1, e2⟩ := h4 i hi
  have : (sg i).toBitVec.toNat = c := by rw [e1]; exact pk_tn (by omega)
  rw [this]; exact ⟨hc, e1, e2⟩
theorem cs_errorPosition {ts : TT} {sg : Nat → Int32} {m : MT} {tx : Nat → Int32} (H : RelT ts sg m tx) {n : Nat} (hn : 1000 ≤ n) (w : WT) (tr : Nat → Int64) :
    Same (f_X5_errorPosition n ts sg) (f_X6_errorPosition n m tx tr) (fun r1 r2 => r1.1 = r2.1 ∧ RelT r1.2 sg r2.2.1 tx ∧ m_acts r2.2.1 = m_acts m) := by
  have H0 := H
  obtain ⟨len, hl, e1, e2, hT⟩ := RelT_ex H
  obtain ⟨L, k1, k2, k3, k4⟩ := H0
  obtain ⟨a, b, c, l, d⟩ := ts
  obtain ⟨rf, sz, ac, rk, sp, ou⟩ := m
  obtain rfl : l = nI len := e1
  obtain rfl : sz = nI len := e2
  have hL : nI len = nI L := k2
  rcases text_both hl hT hn w tr with ⟨e, he, h1, h2⟩ | ⟨e, K, t', g', B, h1, h2, -⟩
  · obtain ⟨a', b', c', h1⟩ := h1 a b c d
    obtain ⟨o', g', h2⟩ := h2 0 ac rk sp ou
    refine same_i _ _ (by unfold f_X5_errorPosition; rw [h1]; rfl) (by unfold f_X6_errorPosition; exact (show (f_X6_readText n (0, nI len, ac, rk, sp, ou) tx tr).bind _ = _ by rw [h2]; rfl)) ⟨rfl, ⟨L, k1, hL, hL, k4⟩, rfl⟩
  · obtain ⟨a', b', c', h1⟩ := h1 a b c d
    have h2 := h2 0 ac rk sp ou
    refine same_i _ _ (by unfold f_X5_errorPosition; rw [h1]; rfl) (by unfold f_X6_errorPosition; exact (show (f_X6_readText n (0, nI len, ac, rk, sp, ou) tx tr).bind _ = _ by rw [h2]; rfl)) ⟨rfl, ⟨L, k1, hL, hL, k4⟩, rfl⟩
theorem cs_load {ts : TT} {sg : Nat → Int32} {m : MT} {tx : Nat → Int32} (H : RelT ts sg m tx) {n : Nat} (hn : 1000 ≤ n) {w : WT} {g : Nat → Int64} (W : RelW w g) {p : PT} {sk : Nat → WT} {dia : Nat → Int64} (HP : RelP p sk m dia) {b0 b1 : Bool} {k0 k1 : WT} {kp : Nat → Int64} {ik : Nat → Int32} (S : RelS b0 k0 b1 k1 kp ik) (tr o : Nat → Int64) :
    Same (f_L_load n ts sg w p b0 b1 o) (f_X6_load n m tx g tr ik) (fun r1 r2 => f_X6_thrown r2.2.1 = r1.1 ∧ (r1.1 = 0 → r1.2.2.2.2.2.2 0 = r2.1.toInt64) ∧ RelT r1.2.1 sg r2.2.1 tx ∧ RelW r1.2.2.1 r2.2.2.1 ∧ RelP r1.2.2.2.1 sk r2.2.1 dia ∧ RelS r1.2.2.2.2.1 k0 r1.2.2.2.2.2.1 k1 kp r2.2.2.2.2) := by
  have H0 := H
  obtain ⟨len, hl, e1, e2, hT⟩ := RelT_ex H
  obtain ⟨L, k1_, k2, k3, k4⟩ := H0
  obtain ⟨a, b, c, l, d⟩ := ts
  obtain ⟨rf, sz, ac, rk, sp, ou⟩ := m
  obtain rfl : l = nI len := e1
  obtain rfl : sz = nI len := e2
  have hL : nI len = nI L := k2
  rcases text_both hl hT hn w tr with ⟨e, he, h1, h2⟩ | ⟨e, K, t', g', B, h1, h2, h3⟩
  · obtain ⟨a', b', c', h1⟩ := h1 a b c d
    obtain ⟨o', g', h2⟩ := h2 rf ac rk sp ou
    have hm : ¬ nI e = -1 := nI_m1 (by omega)
    refine same_i (1, (a', b', c', nI len, nI e), w, p, b0, b1, o) (0, mk (rf, nI len, ac, rk, nI e, o') 1, g, g', ik) ?_ ?_ ⟨rfl, no1, ⟨L, k1_, hL, hL, k4⟩, W, HP, S⟩
    · unfold f_L_load f_X5_load
      rw [h1, ob_some, if_neg hm]; rfl
    · unfold f_X6_load
      rw [h2, ob_some, if_neg hm]
      unfold f_X6_load_b18
      rw [ref1]; rfl
  · obtain ⟨a', b', c', h1⟩ := h1 a b c d
    have h2 := h2 rf ac rk sp ou
    obtain ⟨z, t0, z1, z2, z3⟩ := h3 a' b' c' (nI e)
    obtain ⟨a2, b2, c2, z3⟩ := z3 (f_X1_forget p) (f_X2_empty b0) (f_X2_empty b1)
    obtain ⟨cc, v, q1, q2, q3, q4, q5, q6⟩ := HP
    refine same_i (0, (a2, b2, c2, nI len, nI e), t', f_X1_forget p, f_X2_empty b0, f_X2_empty b1, vp_updL o 0 (0 + K).toInt64) (0 + K, (0, nI len, 0, rk, nI e, 0 + K), cpF g' g 0 0 11, g', upd (upd ik 0 (vp_nar .boolean 0)) 1 (vp_nar .boolean 0)) ?_ ?_ ⟨rfl, fun _ => rfl, ⟨L, k1_, hL, hL, k4⟩, ?_, ⟨0, v, by omega, q2, rfl, q4, rfl, fun i hi => absurd hi (Nat.not_lt_zero i)⟩, ⟨?_, ?_, fun q => ?_, fun q => ?_⟩⟩
    · unfold f_L_load f_X5_load
      rw [h1, ob_some, if_pos (show (-1 : Int32) = -1 from rfl)]
      show Option.bind (Option.bind (f_X3_readWindow n (a', b', c', nI len, nI e) sg) _) _ = _
      rw [z1, ob_some]
      show Option.bind (Option.bind (f_X4_renew n w (t_first z) (t_second z)) _) _ = _
      rw [z2, ob_some]
      show Option.bind (f_X5_load_b75 n sg n z t0 (f_X1_forget p) (f_X2_empty b0) (f_X2_empty b1) 0 0) _ = _
      rw [z3]; rfl
    · unfold f_X6_load
      rw [h2, ob_some, if_pos (show (-1 : Int32) = -1 from rfl)]
      unfold f_X6_load_b18
      rw [ref0]
      show Option.bind (f_X6_copyState n g' g 11 11 0 0) _ = _
      rw [M_cpT (by omega)]; rfl
    · obtain ⟨σ, h, E, M⟩ := B
      exact ⟨σ, h, E, EncM_tr M g⟩
    · exact (show upd (upd ik 0 (vp_nar .boolean 0)) 1 (vp_nar .boolean 0) 0 = bI false by rw [pk_un (by omega), pk_us]; decide)
    · exact (show upd (upd ik 0 (vp_nar .boolean 0)) 1 (vp_nar .boolean 0) 1 = bI false from pk_us.trans (by decide))
    · cases q
    · cases q
theorem cs_clearText {ts : TT} {sg : Nat → Int32} {m : MT} {tx : Nat → Int32} (H : RelT ts sg m tx) : (f_X5_clearText ts).1 = (f_X6_clearText m).1 ∧ RelT (f_X5_clearText ts).2 sg (f_X6_clearText m).2 tx ∧ m_acts (f_X6_clearText m).2 = m_acts m := by
  obtain ⟨L, k1, k2, k3, k4⟩ := H
  exact ⟨k2.trans k3.symm, ⟨0, by omega, rfl, rfl, fun i hi => absurd hi (Nat.not_lt_zero i)⟩, rfl⟩
