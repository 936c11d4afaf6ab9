/-! the text -/
section TXT
variable (T : Nat → Nat) (len : Nat)
def dg (p : Nat) : Option Nat := if p < len ∧ 48 ≤ T p ∧ T p ≤ 57 then some (T p - 48) else none
def rd1 (p lo hi : Nat) : Option Nat × Nat := match dg T len p with
  | none => (none, p)
  | some d => if d ≤ hi ∧ lo ≤ d then (some d, p + 1) else (none, p)
def rd2 (p lo hi : Nat) : Option Nat × Nat := match dg T len p with
  | none => (none, p)
  | some a => if 10 * a ≤ hi ∧ lo ≤ 10 * a + 9 then (match dg T len (p + 1) with
    | none => (none, p + 1)
    | some b => if 10 * a + b ≤ hi ∧ lo ≤ 10 * a + b then (some (10 * a + b), p + 2) else (none, p + 1)) else (none, p)
theorem dg_lt {p d : Nat} (h : dg T len p = some d) : d < 10 ∧ p < len := by
  unfold dg at h; split at h
  · cases h; omega
  · cases h
theorem rd1_s {p lo hi d e : Nat} (h : rd1 T len p lo hi = (some d, e)) : d ≤ hi ∧ lo ≤ d ∧ d < 10 ∧ e = p + 1 ∧ p < len := by
  unfold rd1 at h
  cases q : dg T len p with
  | none => rw [q] at h; cases h
  | some a =>
    rw [q] at h
    have := dg_lt T len q
    by_cases c : a ≤ hi ∧ lo ≤ a
    · have h : (if a ≤ hi ∧ lo ≤ a then (some a, p + 1) else (none, p)) = (some d, e) := h
      rw [if_pos c] at h; cases h; omega
    · have h : (if a ≤ hi ∧ lo ≤ a then (some a, p + 1) else (none, p)) = (some d, e) := h
      rw [if_neg c] at h; cases h
theorem rd2_s {p lo hi d e : Nat} (h : rd2 T len p lo hi = (some d, e)) : d ≤ hi ∧ lo ≤ d ∧ e = p + 2 ∧ p + 1 < len := by
  unfold rd2 at h
  cases q : dg T len p with
  | none => rw [q] at h; cases h
  | some a =>
    rw [q] at h
    have h : (if 10 * a ≤ hi ∧ lo ≤ 10 * a + 9 then (match dg T len (p + 1) with | none => (none, p + 1) | some b => if 10 * a + b ≤ hi ∧ lo ≤ 10 * a + b then (some (10 * a + b), p + 2) else (none, p + 1)) else (none, p)) = (some d, e) := h
    by_cases c : 10 * a ≤ hi ∧ lo ≤ 10 * a + 9
    · rw [if_pos c] at h
      cases q2 : dg T len (p + 1) with
      | none => rw [q2] at h; cases h
      | some b =>
        rw [q2] at h
        have := dg_lt T len q2
        have h : (if 10 * a + b ≤ hi ∧ lo ≤ 10 * a + b then (some (10 * a + b), p + 2) else (none, p + 1)) = (some d, e) := h
        by_cases c2 : 10 * a + b ≤ hi ∧ lo ≤ 10 * a + b
        · rw [if_pos c2] at h; cases h; omega
        · rw [if_neg c2] at h; cases h
    · rw [if_neg c] at h; cases h
end TXT
section TXT2
variable {T : Nat → Nat} {len : Nat} {sg tx : Nat → Int32} (hlen : len ≤ 120) (hT : ∀ i, i < len → T i < 256 ∧ sg i = nI (T i) ∧ tx i = nI (T i))
theorem X3_sign {T : Nat → Nat} {len : Nat} {sg tx : Nat → Int32} (hlen : len ≤ 120) (hT : ∀ i, i < len → T i < 256 ∧ sg i = nI (T i) ∧ tx i = nI (T i)) {a b c : Int32} {p : Nat} (hp : p < 2 ^ 31) : f_X3_sign (a, b, c, nI len, nI p) sg = some (if p < len then nI (T p) else -1) := by
  show (if nI p < 0 then some (-1) else if nI len ≤ nI p then some (-1) else if 120 ≤ nI p then some (-1) else if nI p < 0 ∨ 120 ≤ (nI p).toNatClampNeg then none else some (sg (nI p).toNatClampNeg)) = _
  rw [if_neg (nI_pos hp)]
  by_cases q : p < len
  · rw [if_neg (nI_ge q (by omega)), if_neg (show ¬ (120 : Int32) ≤ nI p from nI_ge (b := 120) (by omega) (by omega)), if_neg (nI_in (show p < 120 by omega) (by omega)), nI_clamp hp, if_pos q, (hT p q).2.1]
  · rw [if_pos (nI_le (by omega) (by omega)), if_neg q]
/-- a class's figure -/
theorem X3_step {T : Nat → Nat} {len : Nat} {sg tx : Nat → Int32} (hlen : len ≤ 120) (hT : ∀ i, i < len → T i < 256 ∧ sg i = nI (T i) ∧ tx i = nI (T i)) {a b c y1 y5 y6 : Int32} {p low u lo hi : Nat} (n : Nat) (k : Nat) (hp : p < 2 ^ 31) (hy : ¬ y1 ≤ y6) (hu : y5 / 10 = nI u) (hu2 : u ≤ 10) (hu1 : 1 ≤ u) (hl : low ≤ 100) (hhi : hi < 1000) (hlo : lo < 1000) :
    f_X3_readNumber_b20 n sg y1 (nI lo) (nI hi) (k + 1) (a, b, c, nI len, nI p) (nI low) y5 y6 = (match dg T len p with
      | none => some (-1, (a, b, c, nI len, nI p))
      | some d => if low + d * u ≤ hi ∧ lo ≤ low + d * u + u - 1 then f_X3_readNumber_b20 n sg y1 (nI lo) (nI hi) k (a, b, c, nI len, nI (p + 1)) (nI (low + d * u)) (nI u) (y6 + 1) else some (-1, (a, b, c, nI len, nI p))) := by
  rw [f_X3_readNumber_b20_s, if_neg hy, X3_sign hlen hT hp, ob_some, hu]
  by_cases q : p < len
  · rw [if_pos q]
    have hc := (hT p q).1
    by_cases q1 : 48 ≤ T p
    · rw [if_neg (show ¬ nI (T p) < 48 from nI_nlt (b := 48) q1 (by omega))]
      by_cases q2 : T p ≤ 57
      · have e : dg T len p = some (T p - 48) := if_pos ⟨q, q1, q2⟩
        rw [if_pos (show nI (T p) ≤ 57 from nI_le (b := 57) q2 (by omega)), e]
        have hd : T p - 48 < 10 := by omega
        have e1 : nI (T p) - 48 = nI (T p - 48) := pk_sub (b := 48) q1
        rw [e1]
        generalize T p - 48 = d at hd
        have hm : d * u ≤ 9 * 10 := Nat.mul_le_mul (by omega) hu2
        have e2 : nI low + nI d * nI u = nI (low + d * u) := by rw [pk_mul, nI_add]
        have e3 : nI (low + d * u) + nI u - 1 = nI (low + d * u + u - 1) := by rw [nI_add]; exact pk_sub (b := 1) (by omega)
        rw [e2, e3]
        show _ = if low + d * u ≤ hi ∧ lo ≤ low + d * u + u - 1 then _ else _
        by_cases c1 : low + d * u ≤ hi
        · rw [if_neg (nI_nlt c1 (by omega))]
          by_cases c2 : lo ≤ low + d * u + u - 1
          · rw [if_pos (nI_le c2 (by omega)), if_pos ⟨c1, c2⟩, nI_1]
          · rw [if_neg (nI_ge (by omega) (by omega)), if_neg (fun z => c2 z.2)]
        · rw [if_pos (nI_lt (by omega) (by omega)), if_neg (fun z => c1 z.1)]
      · have e : dg T len p = none := if_neg (fun z => q2 z.2.2)
        rw [if_neg (show ¬ nI (T p) ≤ 57 from nI_ge (a := 57) (by omega) (by omega)), e]
    · have e : dg T len p = none := if_neg (fun z => q1 z.2.1)
      rw [if_pos (show nI (T p) < 48 from nI_lt (b := 48) (by omega) (by omega)), e]
  · have e : dg T len p = none := if_neg (fun z => q z.1)
    rw [if_neg q, if_pos (show (-1 : Int32) < 48 by decide), e]
theorem X3_rd1 {T : Nat → Nat} {len : Nat} {sg tx : Nat → Int32} (hlen : len ≤ 120) (hT : ∀ i, i < len → T i < 256 ∧ sg i = nI (T i) ∧ tx i = nI (T i)) {a b c : Int32} {p lo hi : Nat} {n : Nat} (hn : 100 ≤ n) (hp : p < 1000) (hhi : hi < 1000) (hlo : lo < 1000) : f_X3_readNumber n (a, b, c, nI len, nI p) sg 1 (nI lo) (nI hi) = some (optI (rd1 T len p lo hi).1, (a, b, c, nI len, nI (rd1 T len p lo hi).2)) := by
  obtain ⟨k, rfl⟩ : ∃ k, n = k + 2 := ⟨n - 2, by omega⟩
  unfold f_X3_readNumber
  rw [if_neg (by decide)]
  have s := X3_step hlen hT (a := a) (b := b) (c := c) (y1 := 1) (y5 := 10) (y6 := 0) (p := p) (low := 0) (u := 1) (lo := lo) (hi := hi) (k + 2) (k + 1) (by omega) (by decide) (by decide) (by omega) (by omega) (by omega) hhi hlo
  refine (show _ = f_X3_readNumber_b20 (k + 2) sg 1 (nI lo) (nI hi) (k + 1 + 1) (a, b, c, nI len, nI p) (nI 0) 10 0 from rfl).trans (s.trans ?_)
  unfold rd1
  cases dg T len p with
  | none => rfl
  | some d =>
    show (if 0 + d * 1 ≤ hi ∧ lo ≤ 0 + d * 1 + 1 - 1 then f_X3_readNumber_b20 (k + 2) sg 1 (nI lo) (nI hi) (k + 1) (a, b, c, nI len, nI (p + 1)) (nI (0 + d * 1)) (nI 1) (0 + 1) else _) = some (optI (if d ≤ hi ∧ lo ≤ d then (some d, p + 1) else (none, p)).1, (a, b, c, nI len, nI (if d ≤ hi ∧ lo ≤ d then (some d, p + 1) else (none, p)).2))
    rw [show 0 + d * 1 = d by omega, show d + 1 - 1 = d by omega]
    by_cases q : d ≤ hi ∧ lo ≤ d
    · rw [if_pos q, if_pos q, f_X3_readNumber_b20_s, if_pos (by decide)]; rfl
    · rw [if_neg q, if_neg q]; rfl
theorem X3_rd2 {T : Nat → Nat} {len : Nat} {sg tx : Nat → Int32} (hlen : len ≤ 120) (hT : ∀ i, i < len → T i < 256 ∧ sg i = nI (T i) ∧ tx i = nI (T i)) {a b c : Int32} {p lo hi : Nat} {n : Nat} (hn : 100 ≤ n) (hp : p < 1000) (hhi : hi < 100) (hlo : lo < 100) : f_X3_readNumber n (a, b, c, nI len, nI p) sg 2 (nI lo) (nI hi) = some (optI (rd2 T len p lo hi).1, (a, b, c, nI len, nI (rd2 T len p lo hi).2)) := by
  obtain ⟨k, rfl⟩ : ∃ k, n = k + 3 := ⟨n - 3, by omega⟩
  unfold f_X3_readNumber
  rw [if_pos rfl]
  have s := X3_step hlen hT (a := a) (b := b) (c := c) (y1 := 2) (y5 := 100) (y6 := 0) (p := p) (low := 0) (u := 10) (lo := lo) (hi := hi) (k + 3) (k + 2) (by omega) (by decide) (by decide) (by omega) (by omega) (by omega) (by omega) (by omega)
  refine (show _ = f_X3_readNumber_b20 (k + 3) sg 2 (nI lo) (nI hi) (k + 2 + 1) (a, b, c, nI len, nI p) (nI 0) 100 0 from rfl).trans (s.trans ?_)
  unfold rd2
  cases e1 : dg T len p with
  | none => rfl
  | some d =>
    have hd := dg_lt T len e1
    show (if 0 + d * 10 ≤ hi ∧ lo ≤ 0 + d * 10 + 10 - 1 then f_X3_readNumber_b20 (k + 3) sg 2 (nI lo) (nI hi) (k + 1 + 1) (a, b, c, nI len, nI (p + 1)) (nI (0 + d * 10)) (nI 10) (0 + 1) else _) = some (optI (if 10 * d ≤ hi ∧ lo ≤ 10 * d + 9 then _ else (none, p)).1, (a, b, c, nI len, nI (if 10 * d ≤ hi ∧ lo ≤ 10 * d + 9 then _ else (none, p)).2))
    rw [show 0 + d * 10 = 10 * d by omega, show 10 * d + 10 - 1 = 10 * d + 9 by omega]
    by_cases q : 10 * d ≤ hi ∧ lo ≤ 10 * d + 9
    · rw [if_pos q, if_pos q]
      have s := X3_step hlen hT (a := a) (b := b) (c := c) (y1 := 2) (y5 := nI 10) (y6 := 0 + 1) (p := p + 1) (low := 10 * d) (u := 1) (lo := lo) (hi := hi) (k + 3) (k + 1) (by omega) (by decide) (by decide) (by omega) (by omega) (by omega) (by omega) (by omega)
      refine s.trans ?_
      cases dg T len (p + 1) with
      | none => rfl
      | some e =>
        show (if 10 * d + e * 1 ≤ hi ∧ lo ≤ 10 * d + e * 1 + 1 - 1 then f_X3_readNumber_b20 (k + 3) sg 2 (nI lo) (nI hi) (k + 1) (a, b, c, nI len, nI (p + 1 + 1)) (nI (10 * d + e * 1)) (nI 1) (0 + 1 + 1) else _) = some (optI (if 10 * d + e ≤ hi ∧ lo ≤ 10 * d + e then (some (10 * d + e), p + 2) else (none, p + 1)).1, (a, b, c, nI len, nI (if 10 * d + e ≤ hi ∧ lo ≤ 10 * d + e then (some (10 * d + e), p + 2) else (none, p + 1)).2))
        rw [show 10 * d + e * 1 = 10 * d + e by omega, show 10 * d + e + 1 - 1 = 10 * d + e by omega]
        by_cases q : 10 * d + e ≤ hi ∧ lo ≤ 10 * d + e
        · rw [if_pos q, if_pos q, f_X3_readNumber_b20_s, if_pos (by decide)]; rfl
        · rw [if_neg q, if_neg q]; rfl
    · rw [if_neg q, if_neg q]; rfl
/-- the reference's figure -/
theorem X6_step {T : Nat → Nat} {len : Nat} {sg tx : Nat → Int32} (hlen : len ≤ 120) (hT : ∀ i, i < len → T i < 256 ∧ sg i = nI (T i) ∧ tx i = nI (T i)) {rf ac rk ou : Int32} {x : Int32} (hx : ¬ x = -1) {p low u lo hi : Nat} (n : Nat) (k : Nat) (hp : p < 2 ^ 31) (hu2 : u ≤ 10) (hu1 : 1 ≤ u) (hl : low ≤ 100) (hhi : hi < 1000) (hlo : lo < 1000) :
    f_X6_figures_b16 n tx x (nI lo) (nI hi) (k + 1) (rf, nI len, ac, rk, nI p, ou) (nI low) (nI u) = (match dg T len p with
      | none => some (-1, (rf, nI len, ac, rk, nI p, ou))
      | some d => if low + d * u ≤ hi ∧ lo ≤ low + d * u + u - 1 then f_X6_figures_b16 n tx x (nI lo) (nI hi) k (rf, nI len, ac, rk, nI (p + 1), ou) (nI (low + d * u)) (nI (u / 10)) else some (-1, (rf, nI len, ac, rk, nI p, ou))) := by
  rw [f_X6_figures_b16_s, if_neg (nI_nle (by omega) (by omega)), if_neg hx]
  by_cases q : p < len
  · rw [if_neg (nI_ge q (by omega)), if_neg (nI_in (show p < 120 by omega) (by omega)), nI_clamp hp, (hT p q).2.2]
    have hc := (hT p q).1
    unfold f_X6_figures_b53
    by_cases q1 : 48 ≤ T p
    · have e1 : nI (T p) - 48 = nI (T p - 48) := pk_sub (b := 48) q1
      have ei : f_X6_in (nI (T p - 48)).toInt64 0 9 = decide (0 ≤ T p - 48 ∧ T p - 48 ≤ 9) := (M_in _ _ _).trans (rng_nI 0 9 (by omega))
      rw [e1, ei]
      by_cases q2 : T p ≤ 57
      · have e : dg T len p = some (T p - 48) := if_pos ⟨q, q1, q2⟩
        have hd : T p - 48 < 10 := by omega
        rw [e]
        generalize T p - 48 = d at hd
        have hm : d * u ≤ 9 * 10 := Nat.mul_le_mul (by omega) hu2
        have e2 : nI low + nI d * nI u = nI (low + d * u) := by rw [pk_mul, nI_add]
        have e3 : nI (low + d * u) + nI u - 1 = nI (low + d * u + u - 1) := by rw [nI_add]; exact pk_sub (b := 1) (by omega)
        have e4 : nI u / 10 = nI (u / 10) := pk_div (d := 10) (by omega) (by omega) (by omega)
        rw [if_pos (decide_eq_true (by omega)), e2, e3, e4]
        show _ = if low + d * u ≤ hi ∧ lo ≤ low + d * u + u - 1 then _ else _
        by_cases c1 : low + d * u ≤ hi
        · rw [if_neg (nI_nlt c1 (by omega))]
          by_cases c2 : lo ≤ low + d * u + u - 1
          · rw [if_pos (nI_le c2 (by omega)), if_pos ⟨c1, c2⟩]
            show f_X6_figures_b16 n tx x (nI lo) (nI hi) k (rf, nI len, ac, rk, nI p + 1, ou) _ _ = _
            rw [nI_1]
          · rw [if_neg (nI_ge (by omega) (by omega)), if_neg (fun z => c2 z.2)]
        · rw [if_pos (nI_lt (by omega) (by omega)), if_neg (fun z => c1 z.1)]
      · have e : dg T len p = none := if_neg (fun z => q2 z.2.2)
        rw [if_neg (by rw [decide_eq_false (by omega)]; decide), e]
    · have e : dg T len p = none := if_neg (fun z => q1 z.2.1)
      have ei : f_X6_in (nI (T p) - 48).toInt64 0 9 = false := by
        rw [M_in]
        refine decide_eq_false (fun z => ?_)
        have := pk_sub_toInt (a := T p) (b := 48) (by omega) (by omega)
        have z1 : (0 : Int64).toInt = 0 := rfl
        have z2 := z.1
        rw [z1, show (nI (T p) - 48).toInt = _ from this] at z2
        omega
      rw [ei, if_neg (by decide), e]
  · have e : dg T len p = none := if_neg (fun z => q z.1)
    rw [if_pos (nI_le (by omega) (by omega)), e]
    unfold f_X6_figures_b53
    rw [if_neg (by decide)]
theorem X6_rd1 {T : Nat → Nat} {len : Nat} {sg tx : Nat → Int32} (hlen : len ≤ 120) (hT : ∀ i, i < len → T i < 256 ∧ sg i = nI (T i) ∧ tx i = nI (T i)) {rf ac rk ou : Int32} {x : Int32} (hx : ¬ x = -1) {p lo hi : Nat} {n : Nat} (hn : 100 ≤ n) (hp : p < 1000) (hhi : hi < 1000) (hlo : lo < 1000) : f_X6_figures n (rf, nI len, ac, rk, nI p, ou) tx x 1 (nI lo) (nI hi) = some (optI (rd1 T len p lo hi).1, (rf, nI len, ac, rk, nI (rd1 T len p lo hi).2, ou)) := by
  obtain ⟨k, rfl⟩ : ∃ k, n = k + 2 := ⟨n - 2, by omega⟩
  unfold f_X6_figures
  rw [if_neg (by decide)]
  have s := X6_step hlen hT (rf := rf) (ac := ac) (rk := rk) (ou := ou) hx (p := p) (low := 0) (u := 1) (lo := lo) (hi := hi) (k + 2) (k + 1) (by omega) (by omega) (by omega) (by omega) hhi hlo
  refine (show _ = f_X6_figures_b16 (k + 2) tx x (nI lo) (nI hi) (k + 1 + 1) (rf, nI len, ac, rk, nI p, ou) (nI 0) (nI 1) from rfl).trans (s.trans ?_)
  unfold rd1
  cases dg T len p with
  | none => rfl
  | some d =>
    show (if 0 + d * 1 ≤ hi ∧ lo ≤ 0 + d * 1 + 1 - 1 then f_X6_figures_b16 (k + 2) tx x (nI lo) (nI hi) (k + 1) (rf, nI len, ac, rk, nI (p + 1), ou) (nI (0 + d * 1)) (nI 0) else _) = some (optI (if d ≤ hi ∧ lo ≤ d then (some d, p + 1) else (none, p)).1, (rf, nI len, ac, rk, nI (if d ≤ hi ∧ lo ≤ d then (some d, p + 1) else (none, p)).2, ou))
    rw [show 0 + d * 1 = d by omega, show d + 1 - 1 = d by omega]
    by_cases q : d ≤ hi ∧ lo ≤ d
    · rw [if_pos q, if_pos q, f_X6_figures_b16_s, if_pos (by decide), if_neg hx]; rfl
    · rw [if_neg q, if_neg q]; rfl
theorem X6_rd2 {T : Nat → Nat} {len : Nat} {sg tx : Nat → Int32} (hlen : len ≤ 120) (hT : ∀ i, i < len → T i < 256 ∧ sg i = nI (T i) ∧ tx i = nI (T i)) {rf ac rk ou : Int32} {x : Int32} (hx : ¬ x = -1) {p lo hi : Nat} {n : Nat} (hn : 100 ≤ n) (hp : p < 1000) (hhi : hi < 100) (hlo : lo < 100) : f_X6_figures n (rf, nI len, ac, rk, nI p, ou) tx x 2 (nI lo) (nI hi) = some (optI (rd2 T len p lo hi).1, (rf, nI len, ac, rk, nI (rd2 T len p lo hi).2, ou)) := by
  obtain ⟨k, rfl⟩ : ∃ k, n = k + 3 := ⟨n - 3, by omega⟩
  unfold f_X6_figures
  rw [if_pos rfl]
  have s := X6_step hlen hT (rf := rf) (ac := ac) (rk := rk) (ou := ou) hx (p := p) (low := 0) (u := 10) (lo := lo) (hi := hi) (k + 3) (k + 2) (by omega) (by omega) (by omega) (by omega) (by omega) (by omega)
  refine (show _ = f_X6_figures_b16 (k + 3) tx x (nI lo) (nI hi) (k + 2 + 1) (rf, nI len, ac, rk, nI p, ou) (nI 0) (nI 10) from rfl).trans (s.trans ?_)
  unfold rd2
  cases e1 : dg T len p with
  | none => rfl
  | some d =>
    have hd := dg_lt T len e1
    show (if 0 + d * 10 ≤ hi ∧ lo ≤ 0 + d * 10 + 10 - 1 then f_X6_figures_b16 (k + 3) tx x (nI lo) (nI hi) (k + 1 + 1) (rf, nI len, ac, rk, nI (p + 1), ou) (nI (0 + d * 10)) (nI 1) else _) = some (optI (if 10 * d ≤ hi ∧ lo ≤ 10 * d + 9 then _ else (none, p)).1, (rf, nI len, ac, rk, nI (if 10 * d ≤ hi ∧ lo ≤ 10 * d + 9 then _ else (none, p)).2, ou))
    rw [show 0 + d * 10 = 10 * d by omega, show 10 * d + 10 - 1 = 10 * d + 9 by omega]
    by_cases q : 10 * d ≤ hi ∧ lo ≤ 10 * d + 9
    · rw [if_pos q, if_pos q]
      have s := X6_step hlen hT (rf := rf) (ac := ac) (rk := rk) (ou := ou) hx (p := p + 1) (low := 10 * d) (u := 1) (lo := lo) (hi := hi) (k + 3) (k + 1) (by omega) (by omega) (by omega) (by omega) (by omega) (by omega)
      refine s.trans ?_
      cases dg T len (p + 1) with
      | none => rfl
      | some e =>
        show (if 10 * d + e * 1 ≤ hi ∧ lo ≤ 10 * d + e * 1 + 1 - 1 then f_X6_figures_b16 (k + 3) tx x (nI lo) (nI hi) (k + 1) (rf, nI len, ac, rk, nI (p + 1 + 1), ou) (nI (10 * d + e * 1)) (nI 0) else _) = some (optI (if 10 * d + e ≤ hi ∧ lo ≤ 10 * d + e then (some (10 * d + e), p + 2) else (none, p + 1)).1, (rf, nI len, ac, rk, nI (if 10 * d + e ≤ hi ∧ lo ≤ 10 * d + e then (some (10 * d + e), p + 2) else (none, p + 1)).2, ou))
        rw [show 10 * d + e * 1 = 10 * d + e by omega, show 10 * d + e + 1 - 1 = 10 * d + e by omega]
        by_cases q : 10 * d + e ≤ hi ∧ lo ≤ 10 * d + e
        · rw [if_pos q, if_pos q, f_X6_figures_b16_s, if_pos (by decide), if_neg hx]; rfl
        · rw [if_neg q, if_neg q]; rfl
    · rw [if_neg q, if_neg q]; rfl
end TXT2
theorem X6_no (n : Nat) (m : MT) (tx : Nat → Int32) (lo hi : Int32) (hn : 100 ≤ n) : f_X6_figures n m tx (-1) 1 lo hi = some (-1, m) := by
  obtain ⟨k, rfl⟩ : ∃ k, n = k + 2 := ⟨n - 2, by omega⟩
  unfold f_X6_figures
  rw [if_neg (by decide), f_X6_figures_b16_s, if_neg (by decide), if_pos rfl, if_pos rfl]
