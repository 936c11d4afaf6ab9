/-! equations over two numbers: what an elimination keeps, and what its end tells -/
def par (f : Nat → Bool) : Nat → Bool
  | 0 => false
  | n + 1 => par f n ^^ f n
theorem par_cong {f g : Nat → Bool} : ∀ {n : Nat}, (∀ i, i < n → f i = g i) → par f n = par g n
  | 0, _ => rfl
  | n + 1, h => by rw [par, par, par_cong (fun i hi => h i (by omega)), h n (by omega)]
theorem par_zero {f : Nat → Bool} : ∀ {n : Nat}, (∀ i, i < n → f i = false) → par f n = false
  | 0, _ => rfl
  | n + 1, h => by rw [par, par_zero (fun i hi => h i (by omega)), h n (by omega)]; rfl
theorem par_xor (f g : Nat → Bool) : ∀ n, par (fun i => f i ^^ g i) n = (par f n ^^ par g n)
  | 0 => rfl
  | n + 1 => by
    rw [par, par, par, par_xor f g n]
    cases par f n <;> cases par g n <;> cases f n <;> cases g n <;> rfl
theorem par_one {f : Nat → Bool} {p : Nat} : ∀ {n : Nat}, p < n → (∀ i, i < n → i ≠ p → f i = false) → par f n = f p
  | 0, hp, _ => absurd hp (Nat.not_lt_zero _)
  | n + 1, hp, h => by
    rw [par]
    by_cases e : p = n
    · subst e
      rw [par_zero (fun i hi => h i (by omega) (by omega))]
      cases f p <;> rfl
    · rw [par_one (by omega) (fun i hi hne => h i (by omega) hne), h n (by omega) (fun q => e q.symm)]
      cases f p <;> rfl
theorem par_two {f : Nat → Bool} {p q n : Nat} (hp : p < n) (hq : q < n) (hpq : p ≠ q) (h : ∀ i, i < n → i ≠ p → i ≠ q → f i = false) : par f n = (f p ^^ f q) := by
  have e : par f n = par (fun i => (f i && decide (i = p)) ^^ (f i && decide (i = q))) n := par_cong (fun i hi => by
    by_cases a : i = p
    · subst a; rw [decide_eq_true rfl, decide_eq_false hpq]; cases f i <;> rfl
    · by_cases b : i = q
      · subst b; rw [decide_eq_true rfl, decide_eq_false a]; cases f i <;> rfl
      · rw [h i hi a b]; rfl)
  rw [e, par_xor, par_one (p := p) hp (fun i _ hne => by rw [decide_eq_false hne]; cases f i <;> rfl), par_one (p := q) hq (fun i _ hne => by rw [decide_eq_false hne]; cases f i <;> rfl), decide_eq_true rfl, decide_eq_true rfl]
  cases f p <;> cases f q <;> rfl
def Sat (N : Nat) (R : Nat → Int64) (b x : Nat → Bool) : Prop := ∀ i, i < N → par (fun k => gb (R i) k && x k) N = b i
abbrev nob : Nat → Bool := fun _ => false
def elR (R : Nat → Int64) (k i : Nat) : Nat → Int64 := fun j => if j ≠ i ∧ gb (R j) k = true then R j ^^^ R i else R j
def elB (R : Nat → Int64) (k i : Nat) (b : Nat → Bool) : Nat → Bool := fun j => if j ≠ i ∧ gb (R j) k = true then b j ^^ b i else b j
theorem par_add (x y : Int64) (f : Nat → Bool) (N : Nat) : par (fun k => gb (x ^^^ y) k && f k) N = (par (fun k => gb x k && f k) N ^^ par (fun k => gb y k && f k) N) := by
  rw [← par_xor]
  exact par_cong (fun i _ => by rw [gb_xor]; cases gb x i <;> cases gb y i <;> cases f i <;> rfl)
theorem Sat_el {N : Nat} {R : Nat → Int64} {k i : Nat} (hi : i < N) (b x : Nat → Bool) : Sat N (elR R k i) (elB R k i b) x ↔ Sat N R b x := by
  have ei : elR R k i i = R i := if_neg (fun q => q.1 rfl)
  have bi : elB R k i b i = b i := if_neg (fun q => q.1 rfl)
  constructor
  · intro s j hj
    have si := s i hi
    rw [ei, bi] at si
    by_cases c : j ≠ i ∧ gb (R j) k = true
    · have sj := s j hj
      rw [show elR R k i j = R j ^^^ R i from if_pos c, show elB R k i b j = (b j ^^ b i) from if_pos c, par_add, si] at sj
      revert sj
      cases par (fun k => gb (R j) k && x k) N <;> cases b j <;> cases b i <;> intro q <;> first | rfl | cases q
    · have sj := s j hj
      rw [show elR R k i j = R j from if_neg c, show elB R k i b j = b j from if_neg c] at sj
      exact sj
  · intro s j hj
    by_cases c : j ≠ i ∧ gb (R j) k = true
    · rw [show elR R k i j = R j ^^^ R i from if_pos c, show elB R k i b j = (b j ^^ b i) from if_pos c, par_add, s i hi, s j hj]
    · rw [show elR R k i j = R j from if_neg c, show elB R k i b j = b j from if_neg c]
      exact s j hj
theorem elB_nob (R : Nat → Int64) (k i : Nat) : elB R k i nob = nob := by
  funext j
  show (if _ then (false ^^ false) else false) = false
  split <;> rfl
def swp {α : Type} (f : Nat → α) (i j : Nat) : Nat → α := fun k => if k = j then f i else if k = i then f j else f k
theorem Sat_swp {N : Nat} {R : Nat → Int64} {i j : Nat} (hi : i < N) (hj : j < N) (b x : Nat → Bool) : Sat N (swp R i j) (swp b i j) x ↔ Sat N R b x := by
  constructor
  · intro s k hk
    by_cases c1 : k = j
    · subst c1
      by_cases c2 : i = k
      · subst c2; have := s i hi; rw [show swp R i i i = R i from if_pos rfl, show swp b i i i = b i from if_pos rfl] at this; exact this
      · have := s i hi
        rw [show swp R i k i = R k from (if_neg c2).trans (if_pos rfl), show swp b i k i = b k from (if_neg c2).trans (if_pos rfl)] at this
        exact this
    · by_cases c2 : k = i
      · subst c2
        have := s j hj
        rw [show swp R k j j = R k from if_pos rfl, show swp b k j j = b k from if_pos rfl] at this
        exact this
      · have := s k hk
        rw [show swp R i j k = R k from (if_neg c1).trans (if_neg c2), show swp b i j k = b k from (if_neg c1).trans (if_neg c2)] at this
        exact this
  · intro s k hk
    by_cases c1 : k = j
    · subst c1
      rw [show swp R i k k = R i from if_pos rfl, show swp b i k k = b i from if_pos rfl]
      exact s i hi
    · by_cases c2 : k = i
      · subst c2
        rw [show swp R k j k = R j from (if_neg c1).trans (if_pos rfl), show swp b k j k = b j from (if_neg c1).trans (if_pos rfl)]
        exact s j hj
      · rw [show swp R i j k = R k from (if_neg c1).trans (if_neg c2), show swp b i j k = b k from (if_neg c1).trans (if_neg c2)]
        exact s k hk
theorem swp_nob (i j : Nat) : swp nob i j = nob := by
  funext k
  show (if _ then false else if _ then false else false) = false
  split
  · rfl
  · split <;> rfl
def Piv (N : Nat) (R : Nat → Int64) (i p : Nat) : Prop := gb (R i) p = true ∧ (∀ q, q < p → gb (R i) q = false) ∧ ∀ j, j < N → j ≠ i → gb (R j) p = false
def Inv (N : Nat) (R0 : Nat → Int64) (b0 : Nat → Bool) (k : Nat) (R : Nat → Int64) (b U P : Nat → Bool) : Prop :=
  (∀ x, Sat N R0 b0 x ↔ Sat N R b x) ∧ (∀ x, Sat N R0 nob x ↔ Sat N R nob x) ∧ (∀ i, i < N → U i = true → ∃ p, p < k ∧ P p = true ∧ Piv N R i p) ∧ (∀ p, p < k → P p = true → ∃ i, i < N ∧ U i = true ∧ Piv N R i p) ∧ (∀ i, i < N → U i = false → ∀ q, q < k → gb (R i) q = false) ∧ cnt U N = cnt P k
theorem Inv_0 (N : Nat) (R0 : Nat → Int64) (b0 : Nat → Bool) {U : Nat → Bool} (hU : ∀ i, i < N → U i = false) : Inv N R0 b0 0 R0 b0 U nob :=
  ⟨fun _ => Iff.rfl, fun _ => Iff.rfl, fun i hi h => by rw [hU i hi] at h; (cases h), fun p hp => absurd hp (Nat.not_lt_zero _), fun _ _ _ q hq => absurd hq (Nat.not_lt_zero _), cnt_zero hU⟩
/-- no row is left for a column -/
theorem Inv_no {N k : Nat} {R0 R : Nat → Int64} {b0 b U P : Nat → Bool} (I : Inv N R0 b0 k R b U P) (h : ∀ i, i < N → U i = false → gb (R i) k = false) : Inv N R0 b0 (k + 1) R b U (fun q => P q && decide (q < k)) := by
  obtain ⟨h1, h2, h3, h4, h5, h6⟩ := I
  refine ⟨h1, h2, fun i hi hu => ?_, fun p hp hP => ?_, fun i hi hu q hq => ?_, ?_⟩
  · obtain ⟨p, q1, q2, q3⟩ := h3 i hi hu
    refine ⟨p, by omega, ?_, q3⟩
    show (P p && decide (p < k)) = true
    rw [q2, decide_eq_true q1]; rfl
  · have hP : (P p && decide (p < k)) = true := hP
    by_cases c : p < k
    · exact h4 p c (by rw [decide_eq_true c, Bool.and_true] at hP; exact hP)
    · rw [decide_eq_false c, Bool.and_false] at hP; cases hP
  · by_cases c : q = k
    · subst c; exact h i hi hu
    · exact h5 i hi hu q (by omega)
  · rw [cnt, if_neg (by rw [decide_eq_false (Nat.lt_irrefl k), Bool.and_false]; decide), h6]
    exact cnt_cong (fun i hi => by rw [decide_eq_true hi, Bool.and_true])
theorem cnt_put {U U' : Nat → Bool} {i N : Nat} (hi : i < N) (h0 : U i = false) (h1 : U' i = true) (h : ∀ j, j < N → j ≠ i → U' j = U j) : cnt U' N = cnt U N + 1 := by
  induction N with
  | zero => exact absurd hi (Nat.not_lt_zero _)
  | succ n ih =>
    rw [cnt, cnt]
    by_cases e : i = n
    · subst e
      rw [h1, h0, cnt_cong (fun j hj => h j (by omega) (by omega))]; rfl
    · rw [ih (by omega) (fun j hj hne => h j (by omega) hne), h n (by omega) (fun q => e q.symm)]
      omega
/-- a row is taken for a column -/
theorem Inv_el {N k i : Nat} {R0 R : Nat → Int64} {b0 b U U' P : Nat → Bool} (I : Inv N R0 b0 k R b U P) (hi : i < N) (hu : U i = false) (hk : gb (R i) k = true) (hU1 : U' i = true) (hU2 : ∀ j, j < N → j ≠ i → U' j = U j) : Inv N R0 b0 (k + 1) (elR R k i) (elB R k i b) U' (fun q => (P q && decide (q < k)) || decide (q = k)) := by
  obtain ⟨h1, h2, h3, h4, h5, h6⟩ := I
  have ei : elR R k i i = R i := if_neg (fun q => q.1 rfl)
  have low : ∀ q, q < k → gb (R i) q = false := h5 i hi hu
  have el_lo : ∀ j q, q < k → gb (elR R k i j) q = gb (R j) q := fun j q hq => by
    by_cases c : j ≠ i ∧ gb (R j) k = true
    · rw [show elR R k i j = R j ^^^ R i from if_pos c, gb_xor, low q hq]; cases gb (R j) q <;> rfl
    · rw [show elR R k i j = R j from if_neg c]
  have el_k : ∀ j, j ≠ i → gb (elR R k i j) k = false := fun j hj => by
    by_cases c : gb (R j) k = true
    · rw [show elR R k i j = R j ^^^ R i from if_pos ⟨hj, c⟩, gb_xor, c, hk]; rfl
    · rw [show elR R k i j = R j from if_neg (fun q => c q.2)]
      cases z : gb (R j) k
      · rfl
      · exact absurd z c
  have pivO : ∀ j p, p < k → Piv N R j p → Piv N (elR R k i) j p := fun j p hp q => ⟨by rw [el_lo j p hp]; exact q.1, fun z hz => by rw [el_lo j z (by omega)]; exact q.2.1 z hz, fun l hl hne => by rw [el_lo l p hp]; exact q.2.2 l hl hne⟩
  have pivN : Piv N (elR R k i) i k := ⟨by rw [ei]; exact hk, fun q hq => by rw [ei]; exact low q hq, fun j _ hne => el_k j hne⟩
  refine ⟨fun x => (h1 x).trans (Sat_el hi b x).symm, fun x => (h2 x).trans ?_, fun j hj hju => ?_, fun p hp hP => ?_, fun j hj hju q hq => ?_, ?_⟩
  · have := (Sat_el (k := k) (R := R) hi nob x).symm
    rw [elB_nob] at this
    exact this
  · by_cases c : j = i
    · subst c
      exact ⟨k, by omega, show ((P k && decide (k < k)) || decide (k = k)) = true by rw [decide_eq_true (rfl : k = k), Bool.or_true], pivN⟩
    · rw [hU2 j hj c] at hju
      obtain ⟨p, q1, q2, q3⟩ := h3 j hj hju
      exact ⟨p, by omega, show ((P p && decide (p < k)) || decide (p = k)) = true by rw [q2, decide_eq_true q1]; rfl, pivO j p q1 q3⟩
  · by_cases c : p = k
    · subst c; exact ⟨i, hi, hU1, pivN⟩
    · have hP : ((P p && decide (p < k)) || decide (p = k)) = true := hP
      rw [decide_eq_false c, Bool.or_false, decide_eq_true (show p < k by omega), Bool.and_true] at hP
      obtain ⟨j, q1, q2, q3⟩ := h4 p (by omega) hP
      have hne : j ≠ i := fun z => by rw [z, hu] at q2; cases q2
      exact ⟨j, q1, by rw [hU2 j q1 hne]; exact q2, pivO j p (by omega) q3⟩
  · have hne : j ≠ i := fun z => by rw [z, hU1] at hju; cases hju
    rw [hU2 j hj hne] at hju
    by_cases c : q = k
    · subst c; exact el_k j hne
    · rw [el_lo j q (by omega)]; exact h5 j hj hju q (by omega)
  · have e : cnt (fun q => (P q && decide (q < k)) || decide (q = k)) k = cnt P k := cnt_cong (fun q hq => by rw [decide_eq_true hq, decide_eq_false (show ¬ q = k by omega), Bool.and_true, Bool.or_false])
    rw [cnt_put hi hu hU1 hU2, cnt, if_pos (by rw [decide_eq_true (rfl : k = k), Bool.or_true]), h6, e]
/-- two rows not yet taken change places -/
theorem Inv_swp {N k i j : Nat} {R0 R : Nat → Int64} {b0 b U P : Nat → Bool} (I : Inv N R0 b0 k R b U P) (hi : i < N) (hj : j < N) (ui : U i = false) (uj : U j = false) : Inv N R0 b0 k (swp R i j) (swp b i j) U P := by
  obtain ⟨h1, h2, h3, h4, h5, h6⟩ := I
  have same : ∀ l, l ≠ i → l ≠ j → swp R i j l = R l := fun l a c => (if_neg c).trans (if_neg a)
  have lo : ∀ l, l < N → (l = i ∨ l = j) → ∀ q, q < k → gb (swp R i j l) q = false := fun l _ hc q hq => by
    by_cases c : l = j
    · subst c; rw [show swp R i l l = R i from if_pos rfl]; exact h5 i hi ui q hq
    · rcases hc with rfl | rfl
      · rw [show swp R l j l = R j from (if_neg c).trans (if_pos rfl)]; exact h5 j hj uj q hq
      · exact absurd rfl c
  have piv : ∀ l p, l ≠ i → l ≠ j → p < k → Piv N R l p → Piv N (swp R i j) l p := fun l p a c hp q =>
    ⟨by rw [same l a c]; exact q.1, fun z hz => by rw [same l a c]; exact q.2.1 z hz, fun m hm hne => by
      by_cases d : m = i ∨ m = j
      · exact lo m hm d p hp
      · rw [same m (fun z => d (.inl z)) (fun z => d (.inr z))]; exact q.2.2 m hm hne⟩
  refine ⟨fun x => (h1 x).trans (Sat_swp hi hj b x).symm, fun x => (h2 x).trans ?_, fun l hl hu => ?_, fun p hp hP => ?_, fun l hl hu q hq => ?_, h6⟩
  · have := (Sat_swp (R := R) hi hj nob x).symm
    rw [swp_nob] at this
    exact this
  · obtain ⟨p, q1, q2, q3⟩ := h3 l hl hu
    exact ⟨p, q1, q2, piv l p (fun z => by rw [z, ui] at hu; cases hu) (fun z => by rw [z, uj] at hu; cases hu) q1 q3⟩
  · obtain ⟨l, q1, q2, q3⟩ := h4 p hp hP
    exact ⟨l, q1, q2, piv l p (fun z => by rw [z, ui] at q2; cases q2) (fun z => by rw [z, uj] at q2; cases q2) hp q3⟩
  · by_cases d : l = i ∨ l = j
    · exact lo l hl d q hq
    · rw [same l (fun z => d (.inl z)) (fun z => d (.inr z))]; exact h5 l hl hu q hq
theorem Piv_u {N : Nat} {R : Nat → Int64} {i j p : Nat} (hj : j < N) (a : Piv N R i p) (h : gb (R j) p = true) : j = i := by
  by_cases c : j = i
  · exact c
  · rw [a.2.2 j hj c] at h; cases h
theorem Piv_low {N : Nat} {R : Nat → Int64} {i p q : Nat} (a : Piv N R i p) (c : Piv N R i q) : p = q := by
  rcases Nat.lt_or_ge p q with h | h
  · have := c.2.1 p h; rw [a.1] at this; cases this
  · rcases Nat.lt_or_ge q p with h2 | h2
    · have := a.2.1 q h2; rw [c.1] at this; cases this
    · omega
theorem Piv_c {N : Nat} {R : Nat → Int64} {i p : Nat} (hi : i < N) (a : Piv N R i p) (c : Nat → Bool) : par (fun j => gb (R j) p && c j) N = c i := by
  rw [par_one hi (fun j hj hne => by rw [a.2.2 j hj hne]; rfl), a.1]; rfl
/-- which columns are taken: those at which no solution of the equations without their parities ends -/
theorem Inv_P {N : Nat} {R0 R : Nat → Int64} {b0 b U P : Nat → Bool} (I : Inv N R0 b0 N R b U P) {f : Nat} (hf : f < N) : P f = true ↔ ¬ ∃ x : Nat → Bool, Sat N R0 nob x ∧ x f = true ∧ ∀ q, f < q → q < N → x q = false := by
  obtain ⟨h1, h2, h3, h4, h5, h6⟩ := I
  constructor
  · rintro hP ⟨x, hs, hx, hz⟩
    obtain ⟨i, q1, q2, q3⟩ := h4 f hf hP
    have s := (h2 x).mp hs i q1
    have e : par (fun k => gb (R i) k && x k) N = (gb (R i) f && x f) := par_one hf (fun k hk hne => by
      by_cases c : k < f
      · rw [q3.2.1 k c]; rfl
      · rw [hz k (by omega) hk, Bool.and_false])
    rw [e, q3.1, hx] at s
    cases s
  · intro hno
    cases hP : P f
    · refine absurd ⟨fun k => decide (k = f) || (P k && par (fun i => gb (R i) k && gb (R i) f) N), (h2 _).mpr (fun i hi => ?_), ?_, fun q hq hqN => ?_⟩ hno
      · cases hu : U i
        · exact par_zero (fun k hk => by rw [h5 i hi hu k hk]; rfl)
        · obtain ⟨p, q1, q2, q3⟩ := h3 i hi hu
          have hne : f ≠ p := fun z => by rw [z, q2] at hP; cases hP
          rw [par_two hf q1 hne (fun k hk k1 k2 => ?_)]
          · rw [decide_eq_true (rfl : f = f), decide_eq_false (show ¬ p = f from fun z => hne z.symm), q2, Piv_c hi q3 (fun i => gb (R i) f), q3.1]
            cases gb (R i) f <;> rfl
          · rw [decide_eq_false k1]
            cases hk2 : P k
            · cases gb (R i) k <;> rfl
            · cases hk3 : gb (R i) k
              · rfl
              · obtain ⟨j, w1, w2, w3⟩ := h4 k hk hk2
                have := Piv_u hi w3 hk3
                subst this
                exact absurd (Piv_low w3 q3) k2
      · show (decide (f = f) || _) = true
        rw [decide_eq_true rfl]; rfl
      · show (decide (q = f) || (P q && par (fun i => gb (R i) q && gb (R i) f) N)) = false
        rw [decide_eq_false (show ¬ q = f by omega)]
        cases hq2 : P q
        · rfl
        · obtain ⟨j, w1, w2, w3⟩ := h4 q hqN hq2
          rw [Piv_c w1 w3 (fun i => gb (R i) f), w3.2.1 f hq]; rfl
    · rfl
theorem Inv_PP {N : Nat} {R0 R1 R2 : Nat → Int64} {b0 b1 b2 U1 U2 P1 P2 : Nat → Bool} (I1 : Inv N R0 b0 N R1 b1 U1 P1) (I2 : Inv N R0 b0 N R2 b2 U2 P2) {f : Nat} (hf : f < N) : P1 f = P2 f := by
  have a := Inv_P I1 hf
  have c := Inv_P I2 hf
  cases e1 : P1 f <;> cases e2 : P2 f
  · rfl
  · exact absurd (a.mpr (c.mp e2)) (by rw [e1]; decide)
  · exact absurd (c.mpr (a.mp e1)) (by rw [e2]; decide)
  · rfl
theorem Inv_rank {N : Nat} {R0 R1 R2 : Nat → Int64} {b0 b1 b2 U1 U2 P1 P2 : Nat → Bool} (I1 : Inv N R0 b0 N R1 b1 U1 P1) (I2 : Inv N R0 b0 N R2 b2 U2 P2) : cnt U1 N = cnt U2 N := by
  rw [I1.2.2.2.2.2, I2.2.2.2.2.2]
  exact cnt_cong (fun f hf => Inv_PP I1 I2 hf)
def Slv (N : Nat) (b U : Nat → Bool) : Prop := ∀ i, i < N → U i = false → b i = false
theorem Slv_of {N : Nat} {R0 R : Nat → Int64} {b0 b U P : Nat → Bool} (I : Inv N R0 b0 N R b U P) {x : Nat → Bool} (s : Sat N R0 b0 x) : Slv N b U := fun i hi hu => by
  have := (I.1 x).mp s i hi
  rw [← this]
  exact par_zero (fun k hk => by rw [I.2.2.2.2.1 i hi hu k hk]; rfl)
def lsol (N : Nat) (R : Nat → Int64) (b P : Nat → Bool) : Nat → Bool := fun k => P k && par (fun i => gb (R i) k && b i) N
theorem lsol_sat {N : Nat} {R0 R : Nat → Int64} {b0 b U P : Nat → Bool} (I : Inv N R0 b0 N R b U P) (s : Slv N b U) : Sat N R0 b0 (lsol N R b P) := by
  obtain ⟨h1, h2, h3, h4, h5, h6⟩ := I
  refine (h1 _).mpr (fun i hi => ?_)
  cases hu : U i
  · rw [s i hi hu]
    exact par_zero (fun k hk => by rw [h5 i hi hu k hk]; rfl)
  · obtain ⟨p, q1, q2, q3⟩ := h3 i hi hu
    rw [par_one q1 (fun k hk hne => ?_)]
    · show (gb (R i) p && (P p && par (fun j => gb (R j) p && b j) N)) = b i
      rw [q3.1, q2, Piv_c hi q3 b]; rfl
    · show (gb (R i) k && (P k && par (fun j => gb (R j) k && b j) N)) = false
      cases hk2 : P k
      · cases gb (R i) k <;> rfl
      · cases hk3 : gb (R i) k
        · rfl
        · obtain ⟨j, w1, w2, w3⟩ := h4 k hk hk2
          have := Piv_u hi w3 hk3
          subst this
          exact absurd (Piv_low w3 q3) hne
theorem lsol_u {N : Nat} {R0 R : Nat → Int64} {b0 b U P : Nat → Bool} (I : Inv N R0 b0 N R b U P) {x : Nat → Bool} (s : Sat N R0 b0 x) (hx : ∀ k, k < N → P k = false → x k = false) {k : Nat} (hk : k < N) : x k = lsol N R b P k := by
  obtain ⟨h1, h2, h3, h4, h5, h6⟩ := I
  show x k = (P k && par (fun i => gb (R i) k && b i) N)
  cases hP : P k
  · exact hx k hk hP
  · obtain ⟨i, q1, q2, q3⟩ := h4 k hk hP
    have e := (h1 x).mp s i q1
    rw [Piv_c q1 q3 b, ← e, par_one hk (fun q hq hne => ?_), q3.1]
    · rfl
    · cases hq2 : P q
      · rw [hx q hq hq2, Bool.and_false]
      · cases hq3 : gb (R i) q
        · rfl
        · obtain ⟨j, w1, w2, w3⟩ := h4 q hq hq2
          have := Piv_u q1 w3 hq3
          subst this
          exact absurd (Piv_low w3 q3) hne
theorem Slv_iff {N : Nat} {R0 R1 R2 : Nat → Int64} {b0 b1 b2 U1 U2 P1 P2 : Nat → Bool} (I1 : Inv N R0 b0 N R1 b1 U1 P1) (I2 : Inv N R0 b0 N R2 b2 U2 P2) : Slv N b1 U1 ↔ Slv N b2 U2 := ⟨fun s => Slv_of I2 (lsol_sat I1 s), fun s => Slv_of I1 (lsol_sat I2 s)⟩
/-- what the least solution is, as a set -/
def Out (N : Nat) (R : Nat → Int64) (b U : Nat → Bool) (m : Nat) (acc : Int64) : Prop := ∀ k, gb acc k = true ↔ ∃ i, i < m ∧ U i = true ∧ b i = true ∧ k < N ∧ Piv N R i k
theorem Out_l {N : Nat} {R0 R : Nat → Int64} {b0 b U P : Nat → Bool} (I : Inv N R0 b0 N R b U P) {acc : Int64} (O : Out N R b U N acc) {k : Nat} (hk : k < N) : gb acc k = lsol N R b P k := by
  obtain ⟨h1, h2, h3, h4, h5, h6⟩ := I
  show gb acc k = (P k && par (fun i => gb (R i) k && b i) N)
  cases hP : P k
  · cases e : gb acc k
    · rfl
    · obtain ⟨i, q1, q2, q3, q4, q5⟩ := (O k).mp e
      obtain ⟨p, w1, w2, w3⟩ := h3 i q1 q2
      rw [← Piv_low q5 w3, hP] at w2; cases w2
  · obtain ⟨i, q1, q2, q3⟩ := h4 k hk hP
    rw [Piv_c q1 q3 b]
    cases e : gb acc k
    · cases hb : b i
      · rfl
      · have := (O k).mpr ⟨i, q1, q2, hb, hk, q3⟩
        rw [e] at this; cases this
    · obtain ⟨j, w1, w2, w3, w4, w5⟩ := (O k).mp e
      have := Piv_u q1 w5 q3.1
      subst this
      rw [w3]; rfl
theorem Out_u {N : Nat} {R0 R1 R2 : Nat → Int64} {b0 b1 b2 U1 U2 P1 P2 : Nat → Bool} (I1 : Inv N R0 b0 N R1 b1 U1 P1) (I2 : Inv N R0 b0 N R2 b2 U2 P2) (s : Slv N b1 U1) {a1 a2 : Int64} (O1 : Out N R1 b1 U1 N a1) (O2 : Out N R2 b2 U2 N a2) : a1 = a2 := by
  apply gb_ext
  intro k _
  by_cases hk : k < N
  · rw [Out_l I1 O1 hk, Out_l I2 O2 hk]
    exact lsol_u I2 (lsol_sat I1 s) (fun q hq h => by
      show (P1 q && _) = false
      rw [Inv_PP I1 I2 hq, h]; rfl) hk
  · have f : ∀ {R : Nat → Int64} {b U : Nat → Bool} {a : Int64}, Out N R b U N a → gb a k = false := fun {R b U a} O => by
      cases e : gb a k
      · rfl
      · obtain ⟨_, _, _, _, q, _⟩ := (O k).mp e
        exact absurd q hk
    rw [f O1, f O2]

