/-! the class's cold, nights and surroundings -/
theorem nI0 {a : Nat} (h : a < 2 ^ 31) : nI a = 0 ↔ a = 0 := nI_eq (b := 0) h (by omega)
theorem nI1 {a : Nat} (h : a < 2 ^ 31) : nI a = 1 ↔ a = 1 := nI_eq (b := 1) h (by omega)
theorem nI2 {a : Nat} (h : a < 2 ^ 31) : nI a = 2 ↔ a = 2 := nI_eq (b := 2) h (by omega)
theorem nI3 {a : Nat} (h : a < 2 ^ 31) : nI a = 3 ↔ a = 3 := nI_eq (b := 3) h (by omega)
theorem W_kind1 {t : WT} {σ : Sg} (E : EncW t σ) (h : WF σ) {d : Nat} (hd : d < 4) : (f_X4_kind t (nI d) = 1) ↔ sSd σ d = 1 := by
  rw [W_kind E h hd]
  have := h.2.2.2.2.2.1 d hd
  exact nI1 (by omega)
theorem W_coldFrom {t : WT} {σ : Sg} (E : EncW t σ) (h : WF σ) {x : Int64} (hx : inW x (sN σ)) {d : Nat} (hd : d < 4) {i : Nat} (hi : i < 64) : gb (f_X4_coldFrom t x (nI d)) i = (decide (i < sN σ) && cld σ x i d) := by
  unfold f_X4_coldFrom
  by_cases k1 : sSd σ d = 1
  · rw [if_pos ((W_kind1 E h hd).mpr k1), gb_or, W_reach E h hx hd hi, W_along E h hd]
    unfold cld ice
    rw [decide_eq_true k1, Bool.and_true]
    cases decide (i < sN σ) <;> cases hit σ x i d <;> cases onS (sR σ) (sC σ) i d <;> rfl
  · rw [if_neg (fun q => k1 ((W_kind1 E h hd).mp q)), W_reach E h hx hd hi]
    unfold cld ice
    rw [decide_eq_false k1, Bool.and_false, Bool.false_or]
theorem inW_0 (n : Nat) : inW 0 n := fun i g => by rw [gb_0] at g; cases g
theorem inW_mk (p : Nat → Bool) {n : Nat} (hn : n ≤ 64) : inW (mkN p n) n := fun i g => by rw [gb_mkN p n hn, Bool.and_eq_true] at g; exact of_decide_eq_true g.1
theorem inW_or {x y : Int64} {n : Nat} (h : inW x n) (h2 : inW y n) : inW (x ||| y) n := fun i g => by
  rw [gb_or, Bool.or_eq_true] at g
  exact g.elim (h i) (h2 i)
theorem inW_xor {x y : Int64} {n : Nat} (h : inW x n) (h2 : inW y n) : inW (x ^^^ y) n := fun i g => by
  rw [gb_xor] at g
  cases q : gb x i
  · rw [q] at g; cases q2 : gb y i
    · rw [q2] at g; cases g
    · exact h2 i q2
  · exact h i q
theorem inW_and2 {x y : Int64} {n : Nat} (h : inW y n) : inW (x &&& y) n := fun i g => by rw [gb_and, Bool.and_eq_true] at g; exact h i g.2
theorem inW_one {k n : Nat} (hk : k < n) (hn : n ≤ 64) : inW (jsl 1 (nI k)) n := fun i g => by
  rw [gb_one (by omega)] at g
  have := of_decide_eq_true g
  omega
theorem inW_f {x : Int64} {n : Nat} (h : inW x n) {i : Nat} (hi : n ≤ i) : gb x i = false := by
  cases q : gb x i
  · rfl
  · have := h i q; omega
theorem night_inW {σ : Sg} (h : WF σ) (x : Int64) : inW (night σ x) (sN σ) := inW_mk _ h.n64
theorem W_after {t : WT} {σ : Sg} (E : EncW t σ) (h : WF σ) {x : Int64} (hx : inW x (sN σ)) : f_X4_after t x = night σ x := by
  apply gb_ext; intro i hi
  unfold night
  rw [gb_mkN _ _ h.n64]
  have e0 : gb (f_X4_coldFrom t x 0) i = _ := W_coldFrom E h hx (d := 0) (by omega) hi
  have e1 : gb (f_X4_coldFrom t x 1) i = _ := W_coldFrom E h hx (d := 1) (by omega) hi
  have e2 : gb (f_X4_coldFrom t x 2) i = _ := W_coldFrom E h hx (d := 2) (by omega) hi
  have e3 : gb (f_X4_coldFrom t x 3) i = _ := W_coldFrom E h hx (d := 3) (by omega) hi
  have er := E.2.2.1
  have hr := h.2.2.2.2.1
  have xf : ¬ i < sN σ → gb x i = false := fun q => inW_f hx (by omega)
  have eo : gb ((((f_X4_coldFrom t x 0) ^^^ (f_X4_coldFrom t x 1)) ^^^ (f_X4_coldFrom t x 2)) ^^^ (f_X4_coldFrom t x 3)) i = (decide (i < sN σ) && oddB σ x i) := by
    rw [gb_xor, gb_xor, gb_xor, e0, e1, e2, e3]
    unfold oddB
    cases decide (i < sN σ) <;> rfl
  simp only [f_X4_after, lt_]
  rw [er]
  unfold will
  by_cases r0 : sRu σ = 0
  · rw [if_pos ((nI0 (by omega)).mpr r0), if_pos r0, gb_or, eo]
    by_cases q : i < sN σ
    · rw [decide_eq_true q]; rfl
    · rw [xf q, decide_eq_false q]; rfl
  · rw [if_neg (fun q => r0 ((nI0 (by omega)).mp q)), if_neg r0]
    by_cases r1 : sRu σ = 1
    · rw [if_pos ((nI1 (by omega)).mpr r1), if_pos r1, eo]
    · rw [if_neg (fun q => r1 ((nI1 (by omega)).mp q)), if_neg r1, gb_xor, eo]
      by_cases q : i < sN σ
      · rw [decide_eq_true q]; rfl
      · rw [xf q, decide_eq_false q]; rfl
def anyH (σ : Sg) (x : Int64) (i : Nat) : Bool := ((hit σ x i 0 || hit σ x i 1) || hit σ x i 2) || hit σ x i 3
theorem W_around {t : WT} {σ : Sg} (E : EncW t σ) (h : WF σ) {x : Int64} (hx : inW x (sN σ)) : f_X4_around t x = mkN (anyH σ x) (sN σ) := by
  apply gb_ext; intro i hi
  rw [gb_mkN _ _ h.n64]
  have e0 : gb (f_X4_reaching t x 0) i = _ := W_reach E h hx (d := 0) (by omega) hi
  have e1 : gb (f_X4_reaching t x 1) i = _ := W_reach E h hx (d := 1) (by omega) hi
  have e2 : gb (f_X4_reaching t x 2) i = _ := W_reach E h hx (d := 2) (by omega) hi
  have e3 : gb (f_X4_reaching t x 3) i = _ := W_reach E h hx (d := 3) (by omega) hi
  unfold f_X4_around
  rw [gb_or, gb_or, gb_or, e0, e1, e2, e3]
  unfold anyH
  cases decide (i < sN σ) <;> rfl
/-! ranges -/
def rng (x : Int32) (a b : Int) : Bool := decide (a ≤ x.toInt ∧ x.toInt ≤ b)
theorem i_lt (a b : Int32) : a < b ↔ a.toInt < b.toInt := Int32.lt_iff_toInt_lt
theorem i_le (a b : Int32) : a ≤ b ↔ a.toInt ≤ b.toInt := Int32.le_iff_toInt_le
theorem l_lt (a b : Int64) : a < b ↔ a.toInt < b.toInt := Int64.lt_iff_toInt_lt
theorem l_le (a b : Int64) : a ≤ b ↔ a.toInt ≤ b.toInt := Int64.le_iff_toInt_le
theorem C_within (x a b : Int32) : f_X5_isWithin x a b = rng x a.toInt b.toInt := by
  unfold f_X5_isWithin rng
  by_cases h : x < a
  · rw [if_pos h]; rw [i_lt] at h; exact (decide_eq_false (by omega)).symm
  · rw [if_neg h]; rw [i_lt] at h
    by_cases h2 : b < x
    · rw [if_pos h2]; rw [i_lt] at h2; exact (decide_eq_false (by omega)).symm
    · rw [if_neg h2]; rw [i_lt] at h2; exact (decide_eq_true (by omega)).symm
theorem rng_ex {x : Int32} {a b : Nat} (h : rng x (a : Int) (b : Int) = true) (hb : b < 2 ^ 31) : ∃ k, a ≤ k ∧ k ≤ b ∧ x = nI k := by
  have h := of_decide_eq_true h
  obtain ⟨j, h1, h2⟩ := nI_of (x := x) (by rw [i_lt]; show ¬ x.toInt < (0 : Int32).toInt; have : (0 : Int32).toInt = 0 := by decide
                                           omega)
  subst h2
  rw [nI_toInt h1] at h
  exact ⟨j, by omega, by omega, rfl⟩
theorem rng_nI {k : Nat} (a b : Nat) (hk : k < 2 ^ 31) : rng (nI k) (a : Int) (b : Int) = decide (a ≤ k ∧ k ≤ b) := by
  unfold rng; rw [nI_toInt hk]; apply decide_eq_decide.mpr; omega
theorem W_count {t : WT} {σ : Sg} (E : EncW t σ) : f_X4_count t = nI (sN σ) := by
  unfold f_X4_count; rw [E.1, E.2.1, pk_mul]
theorem W_hasCell {t : WT} {σ : Sg} (E : EncW t σ) (h : WF σ) (x : Int32) : f_X4_hasCell t x = rng x (0 : Nat) ((sN σ - 1 : Nat) : Int) := by
  have n := h.n64
  have n4 := h.n4
  unfold f_X4_hasCell
  rw [show w_rows t * w_cells t = nI (sN σ) from W_count E]
  have e : (nI (sN σ)).toInt = (sN σ : Int) := nI_toInt (by omega)
  have z : (0 : Int32).toInt = 0 := by decide
  unfold rng
  by_cases q : x < 0
  · rw [if_pos q]; rw [i_lt, z] at q; exact (decide_eq_false (by omega)).symm
  · rw [if_neg q]; rw [i_lt, z] at q
    by_cases q2 : nI (sN σ) ≤ x
    · rw [if_pos q2]; rw [i_le, e] at q2; exact (decide_eq_false (by omega)).symm
    · rw [if_neg q2]; rw [i_le, e] at q2; exact (decide_eq_true (by omega)).symm
theorem rc_ex {x : Int32} {n : Nat} (h : rng x (0 : Nat) ((n - 1 : Nat) : Int) = true) (h0 : 0 < n) (hn : n ≤ 64) : ∃ k, k < n ∧ x = nI k := by
  obtain ⟨k, _, h2, h3⟩ := rng_ex h (by omega)
  exact ⟨k, by omega, h3⟩

