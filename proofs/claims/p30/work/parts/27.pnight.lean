/-! the reference's cold and nights -/
theorem lN0 {a : Nat} (h : a < 2 ^ 31) : lN a = 0 ↔ a = 0 := lN_eq (b := 0) h (by omega)
theorem lN1 {a : Nat} (h : a < 2 ^ 31) : lN a = 1 ↔ a = 1 := lN_eq (b := 1) h (by omega)
theorem lN2 {a : Nat} (h : a < 2 ^ 31) : lN a = 2 ↔ a = 2 := lN_eq (b := 2) h (by omega)
def setF (σ : Sg) (x : Int64) : Sg := (σ.1, x, σ.2.2.1, σ.2.2.2)
def setX (σ : Sg) (x : Int64) : Sg := (σ.1, σ.2.1, x, σ.2.2.2)
def setY (σ : Sg) (x : Int64) : Sg := (σ.1, σ.2.1, σ.2.2.1, x)
def setS (σ : Sg) (j v : Nat) : Sg := (fun i => if i = j then v else σ.1 i, σ.2)
theorem WF_setF {σ : Sg} (h : WF σ) {x : Int64} (hx : inW x (sN σ)) : WF (setF σ x) := by
  obtain ⟨h1, h2, h3, h4, h5, h6, h7, h8, h9, h10, h11⟩ := h
  exact ⟨h1, h2, h3, h4, h5, h6, h7, h8, hx, h10, h11⟩
theorem uL_same (g : Nat → Int64) (k : Nat) : vp_updL g k (g k) = g := by
  funext j; unfold vp_updL; split
  · next e => rw [e]
  · rfl
theorem uL_twice (g : Nat → Int64) (k : Nat) (x y : Int64) : vp_updL (vp_updL g k x) k y = vp_updL g k y := by
  funext j; unfold vp_updL; split <;> rfl
theorem optI_none {σ : Sg} (h : WF σ) {k d : Nat} (hk : k < sN σ) (hd : d < 4) : (optI (nxt σ k d) = -1) ↔ nxt σ k d = none := by
  have n := h.n64
  exact optI_m1 (fun j e => by have := nxt_lt h hk hd e; omega)
theorem odd_cold (σ : Sg) (x : Int64) (k : Nat) : oddB σ x k = decide (coldN σ x k % 2 = 1) := by
  unfold oddB coldN
  have w : ∀ a b c d : Bool, (((a ^^ b) ^^ c) ^^ d) = decide ((0 + (if a = true then 1 else 0) + (if b = true then 1 else 0) + (if c = true then 1 else 0) + (if d = true then 1 else 0)) % 2 = 1) := by decide
  exact w _ _ _ _
theorem cold_le (σ : Sg) (x : Int64) (k : Nat) : coldN σ x k ≤ 4 := cnt_le _ 4
/-- after some nights -/
def nightI (σ : Sg) (x : Int64) : Nat → Int64
  | 0 => x
  | i + 1 => night σ (nightI σ x i)
theorem nightI_inW {σ : Sg} (h : WF σ) {x : Int64} (hx : inW x (sN σ)) : ∀ i, inW (nightI σ x i) (sN σ)
  | 0 => hx
  | _ + 1 => night_inW h _
