/-! the reference's cells, neighbours, scratches -/
theorem ob_some {α β : Type} (a : α) (f : α → Option β) : Option.bind (some a) f = f a := rfl
theorem lp_run {ρ : Type} (F : Nat → Nat → ρ) (e : Nat) (r : ρ) (hs : ∀ k i, i < e → F (k + 1) i = F k (i + 1)) (he : ∀ k, F (k + 1) e = r) : ∀ n i, i ≤ e → e - i < n → F n i = r
  | 0, _, _, h => absurd h (Nat.not_lt_zero _)
  | n + 1, i, hi, h => by
    by_cases q : i = e
    · subst q; exact he n
    · rw [hs n i (by omega)]; exact lp_run F e r hs he n (i + 1) (by omega) (by omega)
theorem irm_nI {a d : Nat} (ha : a < 2 ^ 31) (h0 : 0 < d) (hd : d < 2 ^ 31) : irm (nI a) (nI d) = nI (a % d) := pk_rem ha h0 hd
theorem dT {α : Type} {b : Bool} (hb : b = true) (x y : α) : (if b = true then x else y) = x := if_pos hb
theorem dF {α : Type} {b : Bool} (hb : b = false) (x y : α) : (if b = true then x else y) = y := if_neg (by rw [hb]; decide)
theorem bsm (p : Prop) [Decidable p] : (if p then some true else some false) = some (decide p) := by
  by_cases h : p
  · rw [if_pos h, decide_eq_true h]
  · rw [if_neg h, decide_eq_false h]
theorem ix4 {d : Nat} (hd : d < 4) : (4 : Int32) + nI d = nI (4 + d) := nI_add 4 d
theorem negC {C : Nat} (h1 : 2 ≤ C) (h2 : C ≤ 8) : (0 ≤ -(nI C) ↔ (0 : Int) ≤ -(C : Int)) := by
  rcases rows7 h1 h2 with rfl | rfl | rfl | rfl | rfl | rfl | rfl <;> decide
def kOf (d : Nat) : Nat := if d % 2 = 0 then 10 else 9
theorem kOf_lt (d : Nat) : kOf d < 11 := by unfold kOf; split <;> omega
theorem own_lt {k j d N : Nat} (hk : k < N) (hj : j < N) : own k j d < N := by unfold own; split <;> assumption
theorem nxt_lt {σ : Sg} (h : WF σ) {k d j : Nat} (hk : k < sN σ) (hd : d < 4) (e : nxt σ k d = some j) : j < sN σ := by
  unfold nxt at e
  split at e
  · cases e
  · exact nbr_lt h hk hd e

