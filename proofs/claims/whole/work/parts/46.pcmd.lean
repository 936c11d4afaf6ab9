/-! commands: read alike, done alike -/
theorem oI_some {d : Nat} (h : d < 2 ^ 31) : ¬ optI (some d) = -1 := nI_m1 h
def CmdR (n : Nat) (sg tx : Nat → Int32) (len p : Nat) (t : WT) (g : Nat → Int64) : Prop :=
  (∃ e, e < 2 ^ 30 ∧ (∀ a b c, ∃ a' b' c', f_X3_readCommand n (a, b, c, nI len, nI p) sg = some (false, (a', b', c', nI len, nI e))) ∧ (∀ rf ac rk ou, f_X6_readCommand n (rf, nI len, ac, rk, nI p, ou) tx g = some (false, (rf, nI len, ac, rk, nI e, ou), g))) ∨
  (∃ e x t' g', p < e ∧ e ≤ len ∧ RelW t' g' ∧ (∀ a b c, ∃ a' b' c' r, f_X3_readCommand n (a, b, c, nI len, nI p) sg = some (true, (a', b', c', nI len, nI e)) ∧ f_X5_obey n t a' b' c' = some (r, t') ∧ (r = -1 ↔ x = true)) ∧ (∀ rf ac rk ou, f_X6_readCommand n (rf, nI len, ac, rk, nI p, ou) tx g = some (true, (rf, nI len, ac, rk, nI e, ou + bI x), g')))
theorem ob98 (n : Nat) (t : WT) (x y : Int32) : f_X5_obey n t (nI 98) x y = some (f_X4_putKind t x y) := by unfold f_X5_obey; rw [if_pos (show nI 98 = 98 from rfl)]; rfl
theorem ob102 (n : Nat) (t : WT) (x y : Int32) : f_X5_obey n t (nI 102) x y = some (f_X4_turn t x) := by unfold f_X5_obey; rw [if_neg (show ¬ nI 102 = 98 by decide), if_pos (show nI 102 = 102 from rfl)]; rfl
theorem ob110 {n : Nat} {t t' : WT} {x y r : Int32} (e : f_X4_pass n t x = some (r, t')) : f_X5_obey n t (nI 110) x y = some (r, t') := by unfold f_X5_obey; rw [if_neg (show ¬ nI 110 = 98 by decide), if_neg (show ¬ nI 110 = 102 by decide), if_pos (show nI 110 = 110 from rfl), e]; rfl
theorem ob114 (n : Nat) (t : WT) (x y : Int32) : f_X5_obey n t (nI 114) x y = some (f_X4_putRule t x) := by unfold f_X5_obey; rw [if_neg (show ¬ nI 114 = 98 by decide), if_neg (show ¬ nI 114 = 102 by decide), if_neg (show ¬ nI 114 = 110 by decide), if_pos (show nI 114 = 114 from rfl)]; rfl
theorem ob115 (n : Nat) (t : WT) (x y : Int32) : f_X5_obey n t (nI 115) x y = some (f_X4_scrape t x y) := by unfold f_X5_obey; rw [if_neg (show ¬ nI 115 = 98 by decide), if_neg (show ¬ nI 115 = 102 by decide), if_neg (show ¬ nI 115 = 110 by decide), if_neg (show ¬ nI 115 = 114 by decide), if_pos (show nI 115 = 115 from rfl)]; rfl
theorem ob116 {n : Nat} {t t' : WT} {x y r : Int32} (e : f_X4_thaw n t x y = some (r, t')) : f_X5_obey n t (nI 116) x y = some (r, t') := by unfold f_X5_obey; rw [if_neg (show ¬ nI 116 = 98 by decide), if_neg (show ¬ nI 116 = 102 by decide), if_neg (show ¬ nI 116 = 110 by decide), if_neg (show ¬ nI 116 = 114 by decide), if_neg (show ¬ nI 116 = 115 by decide), if_pos (show nI 116 = 116 from rfl), e]; rfl
theorem r_no {r : Int32} (h : ¬ r = -1) : r = -1 ↔ false = true := ⟨fun q => absurd q h, fun q => by cases q⟩
section TXT3
variable {T : Nat → Nat} {len : Nat} {sg tx : Nat → Int32} (hlen : len ≤ 120) (hT : ∀ i, i < len → T i < 256 ∧ sg i = nI (T i) ∧ tx i = nI (T i))
theorem X3_first1 {T : Nat → Nat} {len : Nat} {sg tx : Nat → Int32} (hlen : len ≤ 120) (hT : ∀ i, i < len → T i < 256 ∧ sg i = nI (T i) ∧ tx i = nI (T i)) {a b c : Int32} {p lo hi : Nat} {n : Nat} (hn : 100 ≤ n) (hp : p < 1000) (hhi : hi < 1000) (hlo : lo < 1000) : f_X3_readFirst n (a, b, c, nI len, nI p) sg 1 (nI lo) (nI hi) = some ((rd1 T len p lo hi).1.isSome, (a, optI (rd1 T len p lo hi).1, c, nI len, nI (rd1 T len p lo hi).2)) := by
  unfold f_X3_readFirst
  rw [X3_rd1 hlen hT hn hp hhi hlo, ob_some]
  rcases h : rd1 T len p lo hi with ⟨_ | d, e⟩
  · exact if_pos rfl
  · exact if_neg (oI_some (by have := rd1_s T len h; omega))
theorem X3_first2 {T : Nat → Nat} {len : Nat} {sg tx : Nat → Int32} (hlen : len ≤ 120) (hT : ∀ i, i < len → T i < 256 ∧ sg i = nI (T i) ∧ tx i = nI (T i)) {a b c : Int32} {p lo hi : Nat} {n : Nat} (hn : 100 ≤ n) (hp : p < 1000) (hhi : hi < 100) (hlo : lo < 100) : f_X3_readFirst n (a, b, c, nI len, nI p) sg 2 (nI lo) (nI hi) = some ((rd2 T len p lo hi).1.isSome, (a, optI (rd2 T len p lo hi).1, c, nI len, nI (rd2 T len p lo hi).2)) := by
  unfold f_X3_readFirst
  rw [X3_rd2 hlen hT hn hp hhi hlo, ob_some]
  rcases h : rd2 T len p lo hi with ⟨_ | d, e⟩
  · exact if_pos rfl
  · exact if_neg (oI_some (by have := rd2_s T len h; omega))
theorem X3_second {T : Nat → Nat} {len : Nat} {sg tx : Nat → Int32} (hlen : len ≤ 120) (hT : ∀ i, i < len → T i < 256 ∧ sg i = nI (T i) ∧ tx i = nI (T i)) {a b c : Int32} {p lo hi : Nat} {n : Nat} (hn : 100 ≤ n) (hp : p < 1000) (hhi : hi < 1000) (hlo : lo < 1000) : f_X3_readSecond n (a, b, c, nI len, nI p) sg (nI lo) (nI hi) = some ((rd1 T len p lo hi).1.isSome, (a, b, optI (rd1 T len p lo hi).1, nI len, nI (rd1 T len p lo hi).2)) := by
  unfold f_X3_readSecond
  rw [X3_rd1 hlen hT hn hp hhi hlo, ob_some]
  rcases h : rd1 T len p lo hi with ⟨_ | d, e⟩
  · exact if_pos rfl
  · exact if_neg (oI_some (by have := rd1_s T len h; omega))
theorem rd1_b {T : Nat → Nat} {len : Nat} {sg tx : Nat → Int32} (hlen : len ≤ 120) (hT : ∀ i, i < len → T i < 256 ∧ sg i = nI (T i) ∧ tx i = nI (T i)) {p lo hi e : Nat} {q : Option Nat} (h : rd1 T len p lo hi = (q, e)) : e ≤ p + 1 := by
  unfold rd1 at h
  cases q2 : dg T len p with
  | none => rw [q2] at h; cases h; omega
  | some a =>
    rw [q2] at h
    have h : (if a ≤ hi ∧ lo ≤ a then (some a, p + 1) else (none, p)) = (q, e) := h
    by_cases c : a ≤ hi ∧ lo ≤ a
    · rw [if_pos c] at h; cases h; omega
    · rw [if_neg c] at h; cases h; omega
theorem rd2_b {T : Nat → Nat} {len : Nat} {sg tx : Nat → Int32} (hlen : len ≤ 120) (hT : ∀ i, i < len → T i < 256 ∧ sg i = nI (T i) ∧ tx i = nI (T i)) {p lo hi e : Nat} {q : Option Nat} (h : rd2 T len p lo hi = (q, e)) : e ≤ p + 2 := by
  unfold rd2 at h
  cases q2 : dg T len p with
  | none => rw [q2] at h; cases h; omega
  | some a =>
    rw [q2] at h
    have h : (if 10 * a ≤ hi ∧ lo ≤ 10 * a + 9 then (match dg T len (p + 1) with | none => (none, p + 1) | some b => if 10 * a + b ≤ hi ∧ lo ≤ 10 * a + b then (some (10 * a + b), p + 2) else (none, p + 1)) else (none, p)) = (q, e) := h
    by_cases c : 10 * a ≤ hi ∧ lo ≤ 10 * a + 9
    · rw [if_pos c] at h
      cases q3 : dg T len (p + 1) with
      | none => rw [q3] at h; cases h; omega
      | some b =>
        rw [q3] at h
        have h : (if 10 * a + b ≤ hi ∧ lo ≤ 10 * a + b then (some (10 * a + b), p + 2) else (none, p + 1)) = (q, e) := h
        by_cases c2 : 10 * a + b ≤ hi ∧ lo ≤ 10 * a + b
        · rw [if_pos c2] at h; cases h; omega
        · rw [if_neg c2] at h; cases h; omega
    · rw [if_neg c] at h; cases h; omega
/-- the command's letter -/
theorem X3_let {T : Nat → Nat} {len : Nat} {sg tx : Nat → Int32} (hlen : len ≤ 120) (hT : ∀ i, i < len → T i < 256 ∧ sg i = nI (T i) ∧ tx i = nI (T i)) {a b c : Int32} {p : Nat} (n : Nat) (hp : p < len) (R : Option (Bool × TT)) (h : (if nI (T p) = 98 then (f_X3_readFirst n (nI (T p), b, 0, nI len, nI (p + 1)) sg 1 0 3).bind (fun r_4 => (if r_4.1 = true then (f_X3_readSecond n r_4.2 sg 0 2).bind (fun r_6 => (if r_6.1 = true then (some (true, r_6.2)) else (some (false, r_6.2)))) else (some (false, r_4.2)))) else (if nI (T p) = 102 then (f_X3_readFirst n (nI (T p), b, 0, nI len, nI (p + 1)) sg 2 0 63).bind (fun r_9 => (some (r_9.1, r_9.2))) else (if nI (T p) = 110 then (f_X3_readFirst n (nI (T p), b, 0, nI len, nI (p + 1)) sg 2 1 60).bind (fun r_11 => (some (r_11.1, r_11.2))) else (if nI (T p) = 114 then (f_X3_readFirst n (nI (T p), b, 0, nI len, nI (p + 1)) sg 1 0 2).bind (fun r_13 => (some (r_13.1, r_13.2))) else (if nI (T p) = 115 then (f_X3_readFirst n (nI (T p), b, 0, nI len, nI (p + 1)) sg 2 0 63).bind (fun r_15 => (if r_15.1 = true then (f_X3_readSecond n r_15.2 sg 0 3).bind (fun r_17 => (if r_17.1 = true then (some (true, r_17.2)) else (some (false, r_17.2)))) else (some (false, r_15.2)))) else (if nI (T p) = 116 then (f_X3_readFirst n (nI (T p), b, 0, nI len, nI (p + 1)) sg 2 0 63).bind (fun r_20 => (if r_20.1 = true then (f_X3_readSecond n r_20.2 sg 0 9).bind (fun r_22 => (if r_22.1 = true then (some (true, r_22.2)) else (some (false, r_22.2)))) else (some (false, r_20.2)))) else (some (false, (nI (T p), b, 0, nI len, nI p))))))))) = R) : f_X3_readCommand n (a, b, c, nI len, nI p) sg = R := by
  have hb : ∀ s : TT, (f_X3_readCell n s sg) = f_X3_readFirst n s sg 2 0 63 := fun s => by
    unfold f_X3_readCell
    cases f_X3_readFirst n s sg 2 0 63 <;> rfl
  unfold f_X3_readCommand
  rw [if_pos (show nI p < nI len from nI_lt hp (by omega)), X3_sign hlen hT (by omega), if_pos hp, ob_some, ich_nI (by have := (hT p hp).1; omega), hb, show t_place (a, b, c, nI len, nI p) + 1 = nI (p + 1) from nI_1 p]
  exact h
end TXT3
