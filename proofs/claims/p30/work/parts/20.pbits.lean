/-! bits of longs -/
def gb (x : Int64) (i : Nat) : Bool := x.toBitVec.getLsbD i
theorem gb_ext {x y : Int64} (h : ∀ i, i < 64 → gb x i = gb y i) : x = y := Int64.toBitVec_inj.mp (BitVec.eq_of_getLsbD_eq (fun i hi => h i hi))
theorem gb_and (x y : Int64) (i : Nat) : gb (x &&& y) i = (gb x i && gb y i) := by unfold gb; rw [Int64.toBitVec_and, BitVec.getLsbD_and]
theorem gb_or (x y : Int64) (i : Nat) : gb (x ||| y) i = (gb x i || gb y i) := by unfold gb; rw [Int64.toBitVec_or, BitVec.getLsbD_or]
theorem gb_xor (x y : Int64) (i : Nat) : gb (x ^^^ y) i = (gb x i ^^ gb y i) := by unfold gb; rw [Int64.toBitVec_xor, BitVec.getLsbD_xor]
theorem gb_big {x : Int64} {i : Nat} (h : 64 ≤ i) : gb x i = false := BitVec.getLsbD_of_ge _ _ h
theorem gb_lt {x : Int64} {i : Nat} (h : gb x i = true) : i < 64 := by
  rcases Nat.lt_or_ge i 64 with q | q
  · exact q
  · rw [gb_big q] at h; cases h
theorem gb_0 (i : Nat) : gb 0 i = false := BitVec.getLsbD_zero
theorem gb_m1 {i : Nat} (h : i < 64) : gb (-1) i = true := by
  have e : (-1 : Int64).toBitVec = BitVec.allOnes 64 := by decide
  unfold gb; rw [e, BitVec.getLsbD_allOnes]; exact decide_eq_true h
theorem gb_not {x : Int64} {i : Nat} (h : i < 64) : gb (x ^^^ (-1)) i = !gb x i := by rw [gb_xor, gb_m1 h]; cases gb x i <;> rfl
theorem wc_c : ∀ k, k < 64 → ((nI k).toInt64 &&& 63) = lN k := by decide +kernel
theorem wc_cu : ∀ k, k < 64 → ((nI k).toInt64.toUInt64 &&& Int64.toUInt64 63) = UInt64.ofNat k := by decide +kernel
theorem wc_sm : ∀ k, k < 64 → ((lN k).toBitVec.smod 64).toNat = k := by decide +kernel
theorem wc_um : ∀ k, k < 64 → ((UInt64.ofNat k).toBitVec % 64).toNat = k := by decide +kernel
theorem gb_jsl {k : Nat} (hk : k < 64) (x : Int64) {i : Nat} (hi : i < 64) : gb (jsl x (nI k)) i = (decide (k ≤ i) && gb x (i - k)) := by
  unfold gb jsl
  rw [wc_c k hk, Int64.toBitVec_shiftLeft]
  show (x.toBitVec <<< ((lN k).toBitVec.smod 64).toNat).getLsbD i = _
  rw [wc_sm k hk, BitVec.getLsbD_shiftLeft]
  rcases Nat.lt_or_ge i k with h | h
  · simp [h, Nat.not_le.mpr h]
  · simp [hi, h, Nat.not_lt.mpr h]
theorem gb_jus {k : Nat} (hk : k < 64) (x : Int64) (i : Nat) : gb (jus x (nI k)) i = gb x (k + i) := by
  unfold jus
  rw [wc_cu k hk]
  show (x.toUInt64 >>> UInt64.ofNat k).toBitVec.getLsbD i = x.toUInt64.toBitVec.getLsbD (k + i)
  rw [UInt64.toBitVec_shiftRight]
  show (x.toUInt64.toBitVec >>> ((UInt64.ofNat k).toBitVec % 64).toNat).getLsbD i = _
  rw [wc_um k hk, BitVec.getLsbD_ushiftRight]
theorem gb_jsr {k : Nat} (hk : k < 64) (x : Int64) {i : Nat} (hi : i < 64) : gb (jsr x (nI k)) i = if k + i < 64 then gb x (k + i) else gb x 63 := by
  unfold gb jsr
  rw [wc_c k hk, Int64.toBitVec_shiftRight]
  show (x.toBitVec.sshiftRight ((lN k).toBitVec.smod 64).toNat).getLsbD i = _
  rw [wc_sm k hk, BitVec.getLsbD_sshiftRight, BitVec.msb_eq_getLsbD_last]
  simp [hi]
theorem gb_1 (i : Nat) : gb 1 i = decide (i = 0) := by
  rcases Nat.lt_or_ge i 64 with h | h
  · exact (by decide +kernel : ∀ i, i < 64 → gb 1 i = decide (i = 0)) i h
  · rw [gb_big h, decide_eq_false (by omega)]
theorem gb_one {k : Nat} (hk : k < 64) (i : Nat) : gb (jsl 1 (nI k)) i = decide (i = k) := by
  rcases Nat.lt_or_ge i 64 with h | h
  · rw [gb_jsl hk 1 h, gb_1]
    by_cases e : i = k
    · subst e; simp
    · by_cases e2 : k ≤ i
      · have : ¬ i - k = 0 := by omega
        simp [e, this]
      · simp [e, e2]
  · rw [gb_big h, decide_eq_false (by omega)]
theorem gb_a1 (x : Int64) : (x &&& 1) = 0 ↔ gb x 0 = false := by
  constructor
  · intro h
    have t := congrArg (fun y => gb y 0) h
    simp only [gb_and, gb_1, gb_0] at t
    simpa using t
  · intro h
    apply gb_ext
    intro i hi
    rw [gb_and, gb_1, gb_0]
    by_cases e : i = 0
    · subst e; rw [h]; rfl
    · simp [e]
theorem gb_a1' (x : Int64) : (x &&& 1) = 1 ↔ gb x 0 = true := by
  constructor
  · intro h
    have t := congrArg (fun y => gb y 0) h
    simp only [gb_and, gb_1] at t
    simpa using t
  · intro h
    apply gb_ext
    intro i hi
    rw [gb_and, gb_1]
    by_cases e : i = 0
    · subst e; rw [h]; rfl
    · simp [e]
theorem holds_gb {x : Int64} {k : Nat} (hk : k < 64) : f_X5_holds x (nI k) = gb x k := by
  unfold f_X5_holds
  have e := gb_jus hk x 0
  rw [Nat.add_zero] at e
  by_cases h : (jus x (nI k) &&& 1) = 0
  · rw [if_pos h]; rw [gb_a1, e] at h; exact h.symm
  · rw [if_neg h]; rw [gb_a1, e] at h; cases q : gb x k
    · exact absurd q h
    · rfl
/-- a set out of a predicate -/
def mkN (p : Nat → Bool) : Nat → Int64
  | 0 => 0
  | n + 1 => mkN p n ||| (if p n = true then jsl 1 (nI n) else 0)
theorem gb_mkN (p : Nat → Bool) : ∀ n, n ≤ 64 → ∀ i, gb (mkN p n) i = (decide (i < n) && p i)
  | 0, _, i => by rw [mkN, gb_0]; simp
  | n + 1, hn, i => by
    rw [mkN, gb_or, gb_mkN p n (by omega) i]
    by_cases h : p n = true
    · rw [if_pos h, gb_one (by omega)]
      by_cases e : i = n
      · subst e; simp [h]
      · have a : decide (i < n + 1) = decide (i < n) := by apply decide_eq_decide.mpr; omega
        rw [a, decide_eq_false e, Bool.or_false]
    · rw [if_neg h, gb_0, Bool.or_false]
      by_cases e : i = n
      · subst e; simp at h; simp [h]
      · have a : decide (i < n + 1) = decide (i < n) := by apply decide_eq_decide.mpr; omega
        rw [a]
theorem mkN_cong {p q : Nat → Bool} : ∀ {n : Nat}, (∀ i, i < n → p i = q i) → mkN p n = mkN q n
  | 0, _ => rfl
  | n + 1, h => by rw [mkN, mkN, mkN_cong (fun i hi => h i (by omega)), h n (by omega)]
/-- how many -/
def cnt (p : Nat → Bool) : Nat → Nat
  | 0 => 0
  | n + 1 => cnt p n + (if p n = true then 1 else 0)
theorem cnt_le (p : Nat → Bool) : ∀ n, cnt p n ≤ n
  | 0 => Nat.le_refl 0
  | n + 1 => by have := cnt_le p n; rw [cnt]; split <;> omega
theorem cnt_cong {p q : Nat → Bool} : ∀ {n : Nat}, (∀ i, i < n → p i = q i) → cnt p n = cnt q n
  | 0, _ => rfl
  | n + 1, h => by rw [cnt, cnt, cnt_cong (fun i hi => h i (by omega)), h n (by omega)]
theorem cnt_mono {p q : Nat → Bool} : ∀ {n : Nat}, (∀ i, i < n → p i = true → q i = true) → cnt p n ≤ cnt q n
  | 0, _ => Nat.le_refl 0
  | n + 1, h => by
    have a := cnt_mono (n := n) (fun i hi => h i (by omega))
    rw [cnt, cnt]
    by_cases e : p n = true
    · rw [if_pos e, if_pos (h n (by omega) e)]; omega
    · rw [if_neg e]; omega
theorem cnt_lt {p q : Nat → Bool} : ∀ {n : Nat}, (∀ i, i < n → p i = true → q i = true) → (∃ i, i < n ∧ p i = false ∧ q i = true) → cnt p n < cnt q n
  | 0, _, h => by obtain ⟨i, hi, _⟩ := h; omega
  | n + 1, h, ⟨i, hi, h1, h2⟩ => by
    rw [cnt, cnt]
    by_cases e : i = n
    · subst e
      have a := cnt_mono (n := i) (fun j hj => h j (by omega))
      rw [h1, h2]; simp; omega
    · have a := cnt_lt (n := n) (fun j hj => h j (by omega)) ⟨i, by omega, h1, h2⟩
      by_cases e2 : p n = true
      · rw [if_pos e2, if_pos (h n (by omega) e2)]; omega
      · rw [if_neg e2]; omega
theorem cnt_zero {p : Nat → Bool} : ∀ {n : Nat}, (∀ i, i < n → p i = false) → cnt p n = 0
  | 0, _ => rfl
  | n + 1, h => by rw [cnt, cnt_zero (fun i hi => h i (by omega)), h n (by omega)]; rfl
theorem cnt_add (p : Nat → Bool) (m : Nat) : ∀ n, cnt p (m + n) = cnt p m + cnt (fun i => p (m + i)) n
  | 0 => rfl
  | n + 1 => by rw [← Nat.add_assoc, cnt, cnt_add p m n, cnt]; omega
theorem cnt_out {p : Nat → Bool} {m : Nat} : ∀ {n : Nat}, (∀ i, m ≤ i → p i = false) → m ≤ n → cnt p n = cnt p m
  | n, h, hm => by
    obtain ⟨d, rfl⟩ := Nat.le.dest hm
    have z : cnt (fun i => p (m + i)) d = 0 := cnt_zero (fun i _ => h (m + i) (by omega))
    rw [cnt_add, z, Nat.add_zero]

