/-! what holds with each window: patches, sums -/
theorem grw_iff {σ : Sg} (h : WF σ) {w x : Int64} {j : Nat} : gb (grw σ w x) j = true ↔ gb x j = true ∨ (j < sN σ ∧ gb w j = true ∧ ∃ d i, d < 4 ∧ nxt σ j d = some i ∧ gb x i = true) := by
  unfold grw
  rw [gb_or, gb_and, gb_mkN _ _ h.n64, Bool.or_eq_true, Bool.and_eq_true, Bool.and_eq_true, decide_eq_true_eq, anyH_iff]
  constructor
  · rintro (a | ⟨⟨a, b⟩, c⟩)
    · exact Or.inl a
    · exact Or.inr ⟨a, c, b⟩
  · rintro (a | ⟨a, c, b⟩)
    · exact Or.inl a
    · exact Or.inr ⟨⟨a, b⟩, c⟩
theorem gIt_clo {σ : Sg} (h : WF σ) {w : Int64} (P : Nat → Prop) (hP : ∀ j d i, j < sN σ → gb w j = true → d < 4 → nxt σ j d = some i → P i → P j) : ∀ (m : Nat) {y : Int64}, (∀ i, gb y i = true → P i) → ∀ i, gb (gIt σ w m y) i = true → P i
  | 0, _, hy, i, hi => hy i hi
  | m + 1, y, hy, i, hi => by
    rw [gIt] at hi
    refine gIt_clo h P hP m (y := grw σ w y) (fun j hj => ?_) i hi
    rcases (grw_iff h).mp hj with a | ⟨a, b, d, z, hd, e, c⟩
    · exact hy j a
    · exact hP j d z a b hd e (hy z c)
theorem pch_fix {σ : Sg} (k : Nat) : grw σ (sF σ) (pch σ k) = pch σ k := by
  unfold pch
  rw [← gIt_comm, gIt64]
theorem pch_step {σ : Sg} (h : WF σ) {k j d i : Nat} (hj : j < sN σ) (hf : gb (sF σ) j = true) (hd : d < 4) (e : nxt σ j d = some i) (hi : gb (pch σ k) i = true) : gb (pch σ k) j = true := by
  rw [← pch_fix]
  exact (grw_iff h).mpr (Or.inr ⟨hj, hf, d, i, hd, e, hi⟩)
theorem pch_in {σ : Sg} (h : WF σ) {k : Nat} (hk : k < sN σ) (P : Nat → Prop) (h0 : P k) (hP : ∀ j d i, j < sN σ → gb (sF σ) j = true → d < 4 → nxt σ j d = some i → P i → P j) {i : Nat} (hi : gb (pch σ k) i = true) : P i := by
  have n64 := h.n64
  refine gIt_clo h P hP 64 (y := jsl 1 (nI k)) (fun z hz => ?_) i hi
  rw [gb_one (by omega)] at hz
  rw [of_decide_eq_true hz]; exact h0
theorem pch_adj {σ : Sg} (h : WF σ) {k j d : Nat} (hk : k < sN σ) (hd : d < 4) (e : nxt σ k d = some j) (fk : gb (sF σ) k = true) (fj : gb (sF σ) j = true) : pch σ j = pch σ k := by
  have n64 := h.n64
  have hj := nxt_lt h hk hd e
  have e2 := nxt_mut h hk hd e
  have a : gb (pch σ k) j = true := pch_step h hj fj (opp_lt d) e2 (pch_self (by omega))
  have b : gb (pch σ j) k = true := pch_step h hk fk hd e (pch_self (by omega))
  apply gb_ext
  intro i _
  cases p : gb (pch σ j) i
  · cases q : gb (pch σ k) i
    · rfl
    · have := pch_in h hk (fun z => gb (pch σ j) z = true) b (fun z d' i' hz fz hd' e' hi' => pch_step h hz fz hd' e' hi') q
      rw [p] at this; cases this
  · exact (pch_in h hj (fun z => gb (pch σ k) z = true) a (fun z d' i' hz fz hd' e' hi' => pch_step h hz fz hd' e' hi') p).symm
theorem pch_cls {σ : Sg} (h : WF σ) {k : Nat} (hk : k < sN σ) (fk : gb (sF σ) k = true) {i : Nat} (hi : gb (pch σ k) i = true) : i < sN σ ∧ gb (sF σ) i = true ∧ pch σ i = pch σ k := by
  refine pch_in h hk (fun z => z < sN σ ∧ gb (sF σ) z = true ∧ pch σ z = pch σ k) ⟨hk, fk, rfl⟩ (fun j d z hj fj hd e ⟨hz, fz, ez⟩ => ⟨hj, fj, ?_⟩) hi
  rw [← ez]
  exact (pch_adj h hj hd e fj fz).symm
theorem cntF {σ : Sg} (h : WF σ) : cnt (gb (sF σ)) 64 = cnt (gb (sF σ)) (sN σ) := cnt_out (fun i hi => inW_f h.2.2.2.2.2.2.2.2.1 hi) h.n64
theorem pch_le {σ : Sg} (h : WF σ) {k : Nat} (hk : k < sN σ) (fk : gb (sF σ) k = true) : cnt (gb (pch σ k)) 64 ≤ cnt (gb (sF σ)) 64 := cnt_mono (fun i _ hi => (pch_cls h hk fk hi).2.1)
theorem sub_le (x y : Int64) : cnt (gb (x &&& y)) 64 ≤ cnt (gb x) 64 := cnt_mono (fun i _ hi => by rw [gb_and, Bool.and_eq_true] at hi; exact hi.1)
theorem pN_le {σ : Sg} : ∀ (m : Nat) (y : Int64), m ≤ 64 → pN σ m y ≤ cnt (gb y) 64
  | 0, y, _ => Nat.zero_le _
  | m + 1, y, hm => by
    rw [pN]
    by_cases q : gb y (63 - m) = true
    · rw [if_pos q]
      have a := pN_le (σ := σ) m (y &&& (pch σ (63 - m) ^^^ (-1))) (by omega)
      have b : cnt (gb (y &&& (pch σ (63 - m) ^^^ (-1)))) 64 < cnt (gb y) 64 := cnt_lt (fun i _ hi => by rw [gb_and, Bool.and_eq_true] at hi; exact hi.1) ⟨63 - m, by omega, by rw [gb_and, gb_not (by omega), pch_self (by omega)]; simp, q⟩
      omega
    · rw [if_neg q]; exact pN_le m y (by omega)
theorem pN_pos {σ : Sg} : ∀ (m : Nat) (y : Int64), m ≤ 64 → (∃ i, 64 - m ≤ i ∧ i < 64 ∧ gb y i = true) → 1 ≤ pN σ m y
  | 0, y, _, ⟨i, h1, h2, _⟩ => by omega
  | m + 1, y, hm, ⟨i, h1, h2, h3⟩ => by
    rw [pN]
    by_cases q : gb y (63 - m) = true
    · rw [if_pos q]; omega
    · rw [if_neg q]
      refine pN_pos m y (by omega) ⟨i, ?_, h2, h3⟩
      have : ¬ i = 63 - m := fun e => q (by rw [← e]; exact h3)
      omega
theorem pN_0 {σ : Sg} : (pN σ 64 (sF σ) = 0) ↔ cnt (gb (sF σ)) 64 = 0 := by
  constructor
  · intro z
    refine cnt_zero (fun i hi => ?_)
    cases q : gb (sF σ) i
    · rfl
    · have := pN_pos (σ := σ) 64 (sF σ) (Nat.le_refl _) ⟨i, by omega, hi, q⟩
      omega
  · intro z
    have := pN_le (σ := σ) 64 (sF σ) (Nat.le_refl _)
    omega
theorem pL_up {σ : Sg} : ∀ (m : Nat) (y : Int64) (b : Nat), b ≤ pL σ m y b
  | 0, _, _ => Nat.le_refl _
  | m + 1, y, b => by
    rw [pL]
    by_cases q : gb y (63 - m) = true
    · rw [if_pos q]
      exact Nat.le_trans (Nat.le_max_left _ _) (pL_up m _ _)
    · rw [if_neg q]; exact pL_up m y b
theorem pL_le {σ : Sg} (h : WF σ) : ∀ (m : Nat) (y : Int64) (b : Nat), m ≤ 64 → (∀ i, gb y i = true → gb (sF σ) i = true) → b ≤ cnt (gb (sF σ)) 64 → pL σ m y b ≤ cnt (gb (sF σ)) 64
  | 0, _, _, _, _, hb => hb
  | m + 1, y, b, hm, hy, hb => by
    rw [pL]
    by_cases q : gb y (63 - m) = true
    · rw [if_pos q]
      have fk := hy _ q
      have := pch_le h (h.2.2.2.2.2.2.2.2.1 _ fk) fk
      exact pL_le h m _ _ (by omega) (fun i hi => by rw [gb_and, Bool.and_eq_true] at hi; exact hy i hi.1) (Nat.max_le.mpr ⟨hb, this⟩)
    · rw [if_neg q]; exact pL_le h m y b (by omega) hy hb
theorem pL_ge {σ : Sg} (h : WF σ) {k : Nat} (fk : gb (sF σ) k = true) : ∀ (m : Nat) (y : Int64) (b : Nat), m ≤ 64 → (∀ i, gb y i = true → gb (sF σ) i = true) → (gb y k = true ∧ 64 - m ≤ k) ∨ cnt (gb (pch σ k)) 64 ≤ b → cnt (gb (pch σ k)) 64 ≤ pL σ m y b
  | 0, y, b, _, _, hb => by
    rcases hb with ⟨_, hb⟩ | hb
    · have := gb_lt fk
      omega
    · exact hb
  | m + 1, y, b, hm, hy, hb => by
    have k64 := gb_lt fk
    have hk := h.2.2.2.2.2.2.2.2.1 _ fk
    rw [pL]
    by_cases q : gb y (63 - m) = true
    · rw [if_pos q]
      have fi := hy _ q
      have hi := h.2.2.2.2.2.2.2.2.1 _ fi
      refine pL_ge h fk m _ _ (by omega) (fun i hi => by rw [gb_and, Bool.and_eq_true] at hi; exact hy i hi.1) ?_
      rcases hb with ⟨g, hb⟩ | hb
      · by_cases z : gb (pch σ (63 - m)) k = true
        · right
          rw [(pch_cls h hi fi z).2.2]
          exact Nat.le_max_right _ _
        · left
          refine ⟨?_, ?_⟩
          · rw [gb_and, gb_not k64, g]
            cases w : gb (pch σ (63 - m)) k
            · rfl
            · exact absurd w z
          · have : ¬ k = 63 - m := fun e => z (by rw [e]; exact pch_self (by omega))
            omega
      · right
        exact Nat.le_trans hb (Nat.le_max_left _ _)
    · rw [if_neg q]
      refine pL_ge h fk m y b (by omega) hy ?_
      rcases hb with ⟨g, hb⟩ | hb
      · left
        refine ⟨g, ?_⟩
        have : ¬ k = 63 - m := fun e => q (by rw [← e]; exact g)
        omega
      · right; exact hb
theorem psz_le {σ : Sg} (h : WF σ) (k : Nat) : psz σ k ≤ pL σ 64 (sF σ) 0 := by
  unfold psz
  by_cases q : gb (sF σ) k = true
  · rw [if_pos q]
    exact pL_ge h q 64 (sF σ) 0 (Nat.le_refl _) (fun _ hi => hi) (Or.inl ⟨q, by omega⟩)
  · rw [if_neg q]; exact Nat.zero_le _
theorem psz_pos {σ : Sg} {k : Nat} (hk : k < 64) : (0 < psz σ k) ↔ gb (sF σ) k = true := by
  unfold psz
  by_cases q : gb (sF σ) k = true
  · rw [if_pos q]
    refine ⟨fun _ => q, fun _ => ?_⟩
    have : cnt (fun _ => false) 64 < cnt (gb (pch σ k)) 64 := cnt_lt (fun i _ hi => (by cases hi)) ⟨k, hk, rfl, pch_self hk⟩
    omega
  · rw [if_neg q]
    exact ⟨fun z => absurd z (Nat.lt_irrefl 0), fun z => absurd z q⟩
theorem psz_adj {σ : Sg} (h : WF σ) {k j d : Nat} (hk : k < sN σ) (hd : d < 4) (e : nxt σ k d = some j) (fk : gb (sF σ) k = true) (fj : gb (sF σ) j = true) : psz σ j = psz σ k := by
  unfold psz
  rw [if_pos fk, if_pos fj, pch_adj h hk hd e fk fj]
theorem psz_64 (σ : Sg) (k : Nat) : psz σ k ≤ 64 := by
  unfold psz
  split
  · exact cnt_le _ 64
  · omega
/-! sums over the cells -/
def sm (f : Nat → Nat) : Nat → Nat
  | 0 => 0
  | i + 1 => sm f i + f i
theorem sm_le {f : Nat → Nat} {b : Nat} (hf : ∀ i, f i ≤ b) : ∀ n, sm f n ≤ b * n
  | 0 => Nat.zero_le _
  | n + 1 => by
    have a := sm_le hf n
    have c := hf n
    rw [sm, Nat.mul_succ]; omega
/-- a one-to-one map from the cells of one kind to those of another -/
theorem cnt_inj : ∀ (n : Nat) {p q : Nat → Bool} {M : Nat} (f : Nat → Nat), (∀ i, i < n → p i = true → f i < M ∧ q (f i) = true) → (∀ i j, i < n → j < n → p i = true → p j = true → f i = f j → i = j) → cnt p n ≤ cnt q M
  | 0, _, _, _, _, _, _ => Nat.zero_le _
  | n + 1, p, q, M, f, h1, h2 => by
    rw [cnt]
    by_cases e : p n = true
    · rw [if_pos e]
      obtain ⟨a1, a2⟩ := h1 n (by omega) e
      have a := cnt_inj n (p := p) (q := fun i => q i && decide (i ≠ f n)) (M := M) f (fun i hi pi => ⟨(h1 i (by omega) pi).1, by
        show (q (f i) && decide (f i ≠ f n)) = true
        rw [(h1 i (by omega) pi).2, Bool.true_and]
        exact decide_eq_true (fun z => by have := h2 i n (by omega) (by omega) pi e z; omega)⟩) (fun i j hi hj pi pj z => h2 i j (by omega) (by omega) pi pj z)
      have b : cnt (fun i => q i && decide (i ≠ f n)) M < cnt q M := cnt_lt (fun i _ hi => by
        have hi : (q i && decide (i ≠ f n)) = true := hi
        rw [Bool.and_eq_true] at hi; exact hi.1) ⟨f n, a1, by
        show (q (f n) && decide (f n ≠ f n)) = false
        rw [decide_eq_false (fun z => z rfl), Bool.and_false], a2⟩
      omega
    · rw [if_neg e]
      exact cnt_inj n f (fun i hi => h1 i (by omega)) (fun i j hi hj => h2 i j (by omega) (by omega))
theorem scr_some {σ : Sg} {k d : Nat} (h : scr σ k d = true) : ∃ j, nbr σ k d = some j := by
  unfold scr at h
  cases e : nbr σ k d with
  | none => rw [e] at h; cases h
  | some j => exact ⟨j, rfl⟩
theorem cnt_opp {σ : Sg} (h : WF σ) {d : Nat} (hd : d < 4) : cnt (fun k => scr σ k d) (sN σ) ≤ cnt (fun k => scr σ k (opp d)) (sN σ) := by
  refine cnt_inj (sN σ) (fun k => (nbr σ k d).getD 0) (fun k hk s => ?_) (fun i j hi hj si sj z => ?_)
  · obtain ⟨j, e⟩ := scr_some s
    show (nbr σ k d).getD 0 < sN σ ∧ scr σ ((nbr σ k d).getD 0) (opp d) = true
    rw [e]
    exact ⟨nbr_lt h hk hd e, (scr_mut h hk hd e).trans s⟩
  · obtain ⟨a, ea⟩ := scr_some si
    obtain ⟨b, eb⟩ := scr_some sj
    have z : (nbr σ i d).getD 0 = (nbr σ j d).getD 0 := z
    rw [ea, eb] at z
    have z : a = b := z
    subst z
    have m1 := nbr_mut h hi hd ea
    have m2 := nbr_mut h hj hd eb
    exact Option.some.inj (m1.symm.trans m2)
def sc4 (σ : Sg) (k : Nat) : Nat := cnt (fun e => scr σ k e) 4
def en4 (σ : Sg) (k : Nat) : Nat := cnt (fun e => (nbr σ k e).isNone) 4
theorem sc4_sum (σ : Sg) : ∀ n, sm (sc4 σ) n = cnt (fun k => scr σ k 0) n + cnt (fun k => scr σ k 1) n + cnt (fun k => scr σ k 2) n + cnt (fun k => scr σ k 3) n
  | 0 => rfl
  | n + 1 => by
    rw [sm, sc4_sum σ n, cnt, cnt, cnt, cnt]
    have : sc4 σ n = 0 + (if scr σ n 0 = true then 1 else 0) + (if scr σ n 1 = true then 1 else 0) + (if scr σ n 2 = true then 1 else 0) + (if scr σ n 3 = true then 1 else 0) := rfl
    rw [this]; omega
theorem sc4_tot {σ : Sg} (h : WF σ) : sm (sc4 σ) (sN σ) = 2 * sB σ (sN σ) := by
  have a := cnt_opp h (d := 0) (by omega)
  have b := cnt_opp h (d := 2) (by omega)
  have c := cnt_opp h (d := 1) (by omega)
  have d := cnt_opp h (d := 3) (by omega)
  rw [show opp 0 = 2 from rfl] at a
  rw [show opp 2 = 0 from rfl] at b
  rw [show opp 1 = 3 from rfl] at c
  rw [show opp 3 = 1 from rfl] at d
  rw [sc4_sum]
  unfold sB
  omega
def edB (R C : Nat) : Bool := decide (cnt (fun k => onS R C k 0) (R * C) + cnt (fun k => onS R C k 1) (R * C) + cnt (fun k => onS R C k 2) (R * C) + cnt (fun k => onS R C k 3) (R * C) ≤ 2 * (R + C))
theorem edB_all : ∀ i, i < 49 → edB (2 + i / 7) (2 + i % 7) = true := by decide +kernel
theorem edB_ok {R C : Nat} (h1 : 2 ≤ R) (h2 : R ≤ 8) (h3 : 2 ≤ C) (h4 : C ≤ 8) : cnt (fun k => onS R C k 0) (R * C) + cnt (fun k => onS R C k 1) (R * C) + cnt (fun k => onS R C k 2) (R * C) + cnt (fun k => onS R C k 3) (R * C) ≤ 2 * (R + C) := by
  have := edB_all (7 * (R - 2) + (C - 2)) (by omega)
  rw [show 2 + (7 * (R - 2) + (C - 2)) / 7 = R by omega, show 2 + (7 * (R - 2) + (C - 2)) % 7 = C by omega] at this
  exact of_decide_eq_true this
theorem nbr_n {σ : Sg} {k d : Nat} : (nbr σ k d).isNone = (onS (sR σ) (sC σ) k d && !decide (sSd σ d = 2)) := by
  unfold nbr
  by_cases a : onS (sR σ) (sC σ) k d = true
  · rw [if_pos a, a]
    by_cases b : sSd σ d = 2
    · rw [if_pos b, decide_eq_true b]; rfl
    · rw [if_neg b, decide_eq_false b]; rfl
  · rw [if_neg a]
    cases z : onS (sR σ) (sC σ) k d
    · rfl
    · exact absurd z a
theorem en4_sum (σ : Sg) : ∀ n, sm (en4 σ) n ≤ cnt (fun k => onS (sR σ) (sC σ) k 0) n + cnt (fun k => onS (sR σ) (sC σ) k 1) n + cnt (fun k => onS (sR σ) (sC σ) k 2) n + cnt (fun k => onS (sR σ) (sC σ) k 3) n
  | 0 => Nat.le_refl _
  | n + 1 => by
    have a := en4_sum σ n
    have t : ∀ d, (if (nbr σ n d).isNone = true then 1 else 0) ≤ (if onS (sR σ) (sC σ) n d = true then 1 else 0) := fun d => by
      rw [nbr_n]
      cases onS (sR σ) (sC σ) n d
      · exact Nat.le_refl _
      · show (if (true && !decide (sSd σ d = 2)) = true then 1 else 0) ≤ 1
        split <;> omega
    have t0 := t 0
    have t1 := t 1
    have t2 := t 2
    have t3 := t 3
    have e : en4 σ n = 0 + (if (nbr σ n 0).isNone = true then 1 else 0) + (if (nbr σ n 1).isNone = true then 1 else 0) + (if (nbr σ n 2).isNone = true then 1 else 0) + (if (nbr σ n 3).isNone = true then 1 else 0) := rfl
    rw [sm, e, cnt, cnt, cnt, cnt]
    omega
theorem en4_tot {σ : Sg} (h : WF σ) : sm (en4 σ) (sN σ) ≤ 2 * (sR σ + sC σ) := Nat.le_trans (en4_sum σ (sN σ)) (edB_ok h.1 h.2.1 h.2.2.1 h.2.2.2.1)
