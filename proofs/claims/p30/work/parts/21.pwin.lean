/-! the state as numbers and sets: smalls 0 rows, 1 cells of a row, 2 rule, 3 nights, 4 + d the sides; frozen, scratches on the right, below -/
abbrev Sg : Type := (Nat → Nat) × Int64 × Int64 × Int64
abbrev sR (σ : Sg) : Nat := σ.1 0
abbrev sC (σ : Sg) : Nat := σ.1 1
abbrev sRu (σ : Sg) : Nat := σ.1 2
abbrev sNi (σ : Sg) : Nat := σ.1 3
abbrev sSd (σ : Sg) (d : Nat) : Nat := σ.1 (4 + d)
abbrev sF (σ : Sg) : Int64 := σ.2.1
abbrev sX (σ : Sg) : Int64 := σ.2.2.1
abbrev sY (σ : Sg) : Int64 := σ.2.2.2
abbrev sN (σ : Sg) : Nat := sR σ * sC σ
def inW (x : Int64) (n : Nat) : Prop := ∀ i, gb x i = true → i < n
def WF (σ : Sg) : Prop := 2 ≤ sR σ ∧ sR σ ≤ 8 ∧ 2 ≤ sC σ ∧ sC σ ≤ 8 ∧ sRu σ ≤ 2 ∧ (∀ d, d < 4 → sSd σ d ≤ 2) ∧ (sSd σ 0 = 2 ↔ sSd σ 2 = 2) ∧ (sSd σ 1 = 2 ↔ sSd σ 3 = 2) ∧ inW (sF σ) (sN σ) ∧ inW (sX σ) (sN σ) ∧ inW (sY σ) (sN σ)
theorem WF.n64 {σ : Sg} (h : WF σ) : sN σ ≤ 64 := by
  obtain ⟨_, h2, _, h4, _⟩ := h
  have := Nat.mul_le_mul h2 h4
  exact this
theorem WF.n4 {σ : Sg} (h : WF σ) : 4 ≤ sN σ := by
  obtain ⟨h1, _, h3, _, _⟩ := h
  exact Nat.mul_le_mul h1 h3
/-- whether a cell lies on a side -/
def onS (R C k d : Nat) : Bool := match d with
  | 0 => decide (k < C)
  | 1 => decide (k % C = C - 1)
  | 2 => decide ((R - 1) * C ≤ k)
  | _ => decide (k % C = 0)
/-- the cell in a direction, from within -/
def stp (C k d : Nat) : Nat := match d with
  | 0 => k - C
  | 1 => k + 1
  | 2 => k + C
  | _ => k - 1
/-- .. and over a joined side -/
def acr (R C k d : Nat) : Nat := match d with
  | 0 => k + (R - 1) * C
  | 1 => k - (C - 1)
  | 2 => k - (R - 1) * C
  | _ => k + (C - 1)
def nbr (σ : Sg) (k d : Nat) : Option Nat := if onS (sR σ) (sC σ) k d = true then (if sSd σ d = 2 then some (acr (sR σ) (sC σ) k d) else none) else some (stp (sC σ) k d)
def own (k j d : Nat) : Nat := if d = 1 ∨ d = 2 then k else j
def sct (σ : Sg) (d : Nat) : Int64 := if d % 2 = 0 then sY σ else sX σ
def scr (σ : Sg) (k d : Nat) : Bool := match nbr σ k d with
  | none => false
  | some j => gb (sct σ d) (own k j d)
def nxt (σ : Sg) (k d : Nat) : Option Nat := if scr σ k d = true then none else nbr σ k d
def ice (σ : Sg) (k d : Nat) : Bool := onS (sR σ) (sC σ) k d && decide (sSd σ d = 1)
def hit (σ : Sg) (x : Int64) (k d : Nat) : Bool := match nxt σ k d with
  | none => false
  | some j => gb x j
def cld (σ : Sg) (x : Int64) (k d : Nat) : Bool := ice σ k d || hit σ x k d
def coldN (σ : Sg) (x : Int64) (k : Nat) : Nat := cnt (fun d => cld σ x k d) 4
def oddB (σ : Sg) (x : Int64) (k : Nat) : Bool := ((cld σ x k 0 ^^ cld σ x k 1) ^^ cld σ x k 2) ^^ cld σ x k 3
def will (σ : Sg) (x : Int64) (k : Nat) : Bool := if sRu σ = 0 then gb x k || oddB σ x k else if sRu σ = 1 then oddB σ x k else gb x k ^^ oddB σ x k
def night (σ : Sg) (x : Int64) : Int64 := mkN (will σ x) (sN σ)
def optI (o : Option Nat) : Int32 := match o with
  | none => -1
  | some j => nI j
-- the model's rows, the class's windows
def kindsN (σ : Sg) : Nat := sSd σ 0 + 4 * sSd σ 1 + 16 * sSd σ 2 + 64 * sSd σ 3
def EncW (t : WT) (σ : Sg) : Prop := w_rows t = nI (sR σ) ∧ w_cells t = nI (sC σ) ∧ w_rule t = nI (sRu σ) ∧ w_nights t = nI (sNi σ) ∧ w_frozen t = sF σ ∧ w_kinds t = nI (kindsN σ) ∧ w_rightScratches t = sX σ ∧ w_lowerScratches t = sY σ ∧
  w_topRow t = mkN (fun k => onS (sR σ) (sC σ) k 0) (sN σ) ∧ w_rightColumn t = mkN (fun k => onS (sR σ) (sC σ) k 1) (sN σ) ∧ w_bottomRow t = mkN (fun k => onS (sR σ) (sC σ) k 2) (sN σ) ∧ w_leftColumn t = mkN (fun k => onS (sR σ) (sC σ) k 3) (sN σ)
theorem three {x : Nat} (h : x ≤ 2) : x = 0 ∨ x = 1 ∨ x = 2 := by omega
theorem four {d : Nat} (h : d < 4) : d = 0 ∨ d = 1 ∨ d = 2 ∨ d = 3 := by omega
theorem rows7 {x : Nat} (h1 : 2 ≤ x) (h2 : x ≤ 8) : x = 2 ∨ x = 3 ∨ x = 4 ∨ x = 5 ∨ x = 6 ∨ x = 7 ∨ x = 8 := by omega
theorem qr (i : Nat) {C : Nat} (hC : 0 < C) : ∃ q r, i = r + C * q ∧ r < C ∧ i % C = r := ⟨i / C, i % C, by have := Nat.div_add_mod i C; omega, Nat.mod_lt i hC, rfl⟩
theorem qr_mod {C q r : Nat} (h : r < C) : (r + C * q) % C = r := by rw [Nat.add_mul_mod_self_left, Nat.mod_eq_of_lt h]
theorem qr_suc {C q r : Nat} (h : r < C) : ((r + C * q + 1) % C = 0) ↔ r = C - 1 := by
  have e : r + C * q + 1 = (r + 1) + C * q := by omega
  rw [e, Nat.add_mul_mod_self_left]
  by_cases g : r + 1 = C
  · rw [g, Nat.mod_self]; constructor <;> intro _ <;> omega
  · rw [Nat.mod_eq_of_lt (by omega)]; omega
theorem qr_lt {C q r R : Nat} (hr : r < C) : r + C * q < R * C ↔ q < R := by
  constructor
  · intro h
    rcases Nat.lt_or_ge q R with g | g
    · exact g
    · have := Nat.mul_le_mul_right C g
      rw [Nat.mul_comm q C] at this
      omega
  · intro h
    have := Nat.mul_le_mul_right C (show q + 1 ≤ R from h)
    rw [Nat.succ_mul, Nat.mul_comm q C] at this
    omega
theorem nbr_lt {σ : Sg} (h : WF σ) {k d j : Nat} (hk : k < sN σ) (hd : d < 4) (e : nbr σ k d = some j) : j < sN σ := by
  obtain ⟨h1, h2, h3, h4, -⟩ := h
  unfold nbr at e
  have hm : sN σ = (sR σ - 1) * sC σ + sC σ := by
    show sR σ * sC σ = _
    obtain ⟨r, hr⟩ : ∃ r, sR σ = r + 1 := ⟨sR σ - 1, by omega⟩
    rw [hr, Nat.succ_mul]; rfl
  obtain ⟨q, r, ek, hr, em⟩ := qr k (C := sC σ) (by omega)
  have hq : q < sR σ := by rw [ek] at hk; exact (qr_lt hr).mp hk
  split at e
  · next ho =>
    split at e
    · cases e
      rcases four hd with rfl | rfl | rfl | rfl <;> simp only [onS, acr, decide_eq_true_eq] at ho ⊢
      · omega
      · omega
      · omega
      · rw [em] at ho
        have : k + (sC σ - 1) = (sC σ - 1) + sC σ * q := by omega
        rw [this]; exact (qr_lt (by omega)).mpr hq
    · cases e
  · next ho =>
    cases e
    rcases four hd with rfl | rfl | rfl | rfl <;> simp only [onS, stp, decide_eq_true_eq] at ho ⊢
    · omega
    · rw [em] at ho
      have : k + 1 = (r + 1) + sC σ * q := by omega
      rw [this]; exact (qr_lt (by omega)).mpr hq
    · omega
    · omega

