/-! patches -/
def gIt (σ : Sg) (w : Int64) : Nat → Int64 → Int64
  | 0, y => y
  | m + 1, y => gIt σ w m (grw σ w y)
theorem gIt_inW {σ : Sg} (h : WF σ) {w : Int64} : ∀ (m : Nat) {y : Int64}, inW y (sN σ) → inW (gIt σ w m y) (sN σ)
  | 0, _, hy => hy
  | m + 1, _, hy => gIt_inW h m (grw_inW h hy w)
theorem gIt_fix {σ : Sg} {w y : Int64} (e : grw σ w y = y) : ∀ m, gIt σ w m y = y
  | 0 => rfl
  | m + 1 => by rw [gIt, e]; exact gIt_fix e m
theorem gIt_comm {σ : Sg} {w : Int64} : ∀ (m : Nat) (y : Int64), gIt σ w m (grw σ w y) = grw σ w (gIt σ w m y)
  | 0, _ => rfl
  | m + 1, y => by rw [gIt, gIt]; exact gIt_comm m _
theorem grw_sub {σ : Sg} {w y : Int64} {i : Nat} (h : gb y i = true) : gb (grw σ w y) i = true := by unfold grw; rw [gb_or, h]; rfl
theorem gIt_sub {σ : Sg} {w : Int64} {i : Nat} : ∀ (m : Nat) {y : Int64}, gb y i = true → gb (gIt σ w m y) i = true
  | 0, _, h => h
  | m + 1, _, h => gIt_sub m (grw_sub h)
theorem grw_cnt {σ : Sg} {w y : Int64} (h : ¬ grw σ w y = y) : cnt (gb y) 64 < cnt (gb (grw σ w y)) 64 := by
  apply cnt_lt (fun i _ q => grw_sub q)
  apply Classical.byContradiction
  intro hn
  apply h
  apply gb_ext
  intro i hi
  cases q : gb y i
  · cases q2 : gb (grw σ w y) i
    · rfl
    · exact absurd ⟨i, hi, q, q2⟩ hn
  · exact grw_sub q
theorem gIt_sat {σ : Sg} {w : Int64} : ∀ (m : Nat) (y : Int64), 64 ≤ cnt (gb y) 64 + m → grw σ w (gIt σ w m y) = gIt σ w m y
  | 0, y, h => by
    apply Classical.byContradiction
    intro q
    have a := grw_cnt q
    have b := cnt_le (gb (grw σ w (gIt σ w 0 y))) 64
    have c : gIt σ w 0 y = y := rfl
    rw [c] at a b
    omega
  | m + 1, y, h => by
    by_cases e : grw σ w y = y
    · rw [gIt_fix e]; exact e
    · rw [gIt]
      exact gIt_sat m _ (by have := grw_cnt e; omega)
theorem gIt64 {σ : Sg} {w : Int64} (y : Int64) : gIt σ w 64 (grw σ w y) = gIt σ w 64 y := by
  rw [gIt_comm, gIt_sat 64 y (by omega)]
/-- the patch of a cell -/
def pch (σ : Sg) (k : Nat) : Int64 := gIt σ (sF σ) 64 (jsl 1 (nI k))
theorem W_grow {t : WT} {σ : Sg} (E : EncW t σ) (h : WF σ) {x : Int64} (hx : inW x (sN σ)) : x ||| ((f_X4_around t x) &&& (w_frozen t)) = grw σ (sF σ) x := by
  rw [W_around E h hx, E.2.2.2.2.1]; rfl
theorem W_pFrom {t : WT} {σ : Sg} (E : EncW t σ) (h : WF σ) (n : Nat) : ∀ (m f : Nat) {y : Int64}, m ≤ 64 → m < f → inW y (sN σ) → f_X4_patchFrom_b5 n t f y (nI (64 - m)) = some (gIt σ (sF σ) m y)
  | _, 0, _, _, hf, _ => absurd hf (Nat.not_lt_zero _)
  | 0, f + 1, y, _, _, _ => by rw [f_X4_patchFrom_b5_s]; exact if_pos (by decide)
  | m + 1, f + 1, y, hm, hf, hy => by
    rw [f_X4_patchFrom_b5_s, if_neg (show ¬ (64 : Int32) ≤ nI (64 - (m + 1)) from nI_ge (b := 64) (by omega) (by omega)), W_grow E h hy, gIt]
    show (if grw σ (sF σ) y = y then some y else _) = _
    by_cases e : grw σ (sF σ) y = y
    · rw [if_pos e, e, gIt_fix e]
    · rw [if_neg e]
      have := W_pFrom E h n m f (y := grw σ (sF σ) y) (by omega) (by omega) (grw_inW h hy _)
      rw [← this, nI_1]
      congr 2; omega
theorem W_patchFrom {t : WT} {σ : Sg} (E : EncW t σ) (h : WF σ) {n : Nat} (hn : 100 ≤ n) {y : Int64} (hy : inW y (sN σ)) : f_X4_patchFrom n t y = some (gIt σ (sF σ) 64 y) :=
  W_pFrom E h n 64 n (Nat.le_refl _) (by omega) hy
theorem one_ne {k : Nat} (hk : k < 64) : ¬ jsl 1 (nI k) = 0 := fun q => by
  have := congrArg (fun x => gb x k) q
  simp only [gb_one hk, gb_0] at this
  simp at this
theorem pch_self {σ : Sg} {k : Nat} (hk : k < 64) : gb (pch σ k) k = true := gIt_sub 64 (by rw [gb_one hk]; exact decide_eq_true rfl)
theorem low_bit {x : Int64} {k : Nat} (hk : k < 64) (h1 : gb x k = true) (h2 : ∀ j, j < k → gb x j = false) : x &&& (-x) = jsl 1 (nI k) := by
  apply gb_ext; intro i hi
  rw [gb_and, gb_one hk]
  have e : gb (-x) i = (gb x i ^^ decide (∃ j, j < i ∧ gb x j = true)) := by
    unfold gb
    rw [Int64.toBitVec_neg, BitVec.getLsbD_neg]
    simp [hi]
  rw [e]
  by_cases q : i = k
  · subst q
    rw [h1, decide_eq_true rfl, decide_eq_false (fun ⟨j, a, b⟩ => by rw [h2 j a] at b; cases b)]; rfl
  · rw [decide_eq_false q]
    by_cases q2 : i < k
    · rw [h2 i q2]; rfl
    · rw [decide_eq_true (show ∃ j, j < i ∧ gb x j = true from ⟨k, by omega, h1⟩)]
      cases gb x i <;> rfl
/-- how many patches, from cell 64 - m on -/
def pN (σ : Sg) : Nat → Int64 → Nat
  | 0, _ => 0
  | m + 1, y => if gb y (63 - m) = true then pN σ m (y &&& (pch σ (63 - m) ^^^ (-1))) + 1 else pN σ m y
def pL (σ : Sg) : Nat → Int64 → Nat → Nat
  | 0, _, b => b
  | m + 1, y, b => if gb y (63 - m) = true then pL σ m (y &&& (pch σ (63 - m) ^^^ (-1))) (max b (cnt (gb (pch σ (63 - m))) 64)) else pL σ m y b
theorem not_lt0 (c : Nat) : ¬ c < 0 := Nat.not_lt_zero c
theorem W_pN {t : WT} {σ : Sg} (E : EncW t σ) (h : WF σ) {n : Nat} (hn : 100 ≤ n) : ∀ (m f : Nat) {y : Int64} {c i : Nat}, m ≤ 64 → i ≤ 64 - m → m < f → inW y (sN σ) → (∀ j, j < 64 - m → gb y j = false) → f_X4_patches_b10 n t f y (nI c) (nI i) = some (nI (c + pN σ m y))
  | _, 0, _, _, _, _, _, hf, _, _ => absurd hf (Nat.not_lt_zero _)
  | 0, f + 1, y, c, i, _, hi, _, _, hz => by
    have y0 : y = 0 := gb_ext (fun j hj => by rw [hz j hj, gb_0])
    rw [f_X4_patches_b10_s, if_pos y0]
    show (if _ then some (nI c) else some (nI c)) = _
    split <;> rfl
  | m + 1, f + 1, y, c, i, hm, hi, hf, hy, hz => by
    have n64 := h.n64
    rw [pN]
    by_cases q : gb y (63 - m) = true
    · have hk := hy _ q
      rw [if_pos q, f_X4_patches_b10_s, if_neg (show ¬ (64 : Int32) ≤ nI i from nI_ge (b := 64) (by omega) (by omega)), if_neg (fun z => by rw [z, gb_0] at q; cases q), low_bit (by omega) q (fun j hj => hz j (by omega)), W_patchFrom E h hn (inW_one hk n64), ob_some]
      show f_X4_patches_b10 n t f (y &&& (pch σ (63 - m) ^^^ (-1))) (nI c + 1) (nI i + 1) = _
      rw [nI_1, nI_1, W_pN E h hn m f (i := i + 1) (by omega) (by omega) (by omega) (inW_and hy) (fun j hj => by
        rw [gb_and, gb_not (by omega)]
        by_cases e : j = 63 - m
        · rw [e, pch_self (by omega)]; simp
        · rw [hz j (by omega)]; rfl)]
      congr 2; omega
    · rw [if_neg q]
      exact W_pN E h hn m (f + 1) (i := i) (by omega) (by omega) (by omega) hy (fun j hj => by
        by_cases e : j = 63 - m
        · rw [e]; cases z : gb y (63 - m); rfl; exact absurd z q
        · exact hz j (by omega))
theorem W_patches {t : WT} {σ : Sg} (E : EncW t σ) (h : WF σ) {n : Nat} (hn : 100 ≤ n) : f_X4_patches n t = some (nI (pN σ 64 (sF σ))) := by
  unfold f_X4_patches
  have := W_pN E h hn 64 n (y := sF σ) (c := 0) (i := 0) (Nat.le_refl _) (by omega) (by omega) h.2.2.2.2.2.2.2.2.1 (fun j hj => by omega)
  rw [Nat.zero_add] at this
  rw [E.2.2.2.2.1]
  exact this
theorem imx_nI {a b : Nat} (ha : a < 2 ^ 31) (hb : b < 2 ^ 31) : imx (nI a) (nI b) = nI (max a b) := by
  unfold imx
  by_cases z : a < b
  · rw [if_pos (nI_lt z hb), Nat.max_eq_right (by omega)]
  · rw [if_neg (nI_nlt (by omega) ha), Nat.max_eq_left (by omega)]
theorem imn_nI {a b : Nat} (ha : a < 2 ^ 31) (hb : b < 2 ^ 31) : imn (nI a) (nI b) = nI (min a b) := by
  unfold imn
  by_cases z : b < a
  · rw [if_pos (nI_lt z ha), Nat.min_eq_right (by omega)]
  · rw [if_neg (nI_nlt (by omega) hb), Nat.min_eq_left (by omega)]
theorem W_pL {t : WT} {σ : Sg} (E : EncW t σ) (h : WF σ) {n : Nat} (hn : 100 ≤ n) : ∀ (m f : Nat) {y : Int64} {c i : Nat}, m ≤ 64 → i ≤ 64 - m → m < f → c ≤ 64 → inW y (sN σ) → (∀ j, j < 64 - m → gb y j = false) → f_X4_largestPatch_b10 n t f y (nI c) (nI i) = some (nI (pL σ m y c))
  | _, 0, _, _, _, _, _, hf, _, _, _ => absurd hf (Nat.not_lt_zero _)
  | 0, f + 1, y, c, i, _, hi, _, _, _, hz => by
    have y0 : y = 0 := gb_ext (fun j hj => by rw [hz j hj, gb_0])
    rw [f_X4_largestPatch_b10_s, if_pos y0]
    show (if _ then some (nI c) else some (nI c)) = _
    split <;> rfl
  | m + 1, f + 1, y, c, i, hm, hi, hf, hc, hy, hz => by
    have n64 := h.n64
    rw [pL]
    by_cases q : gb y (63 - m) = true
    · have hk := hy _ q
      have hb := cnt_le (gb (pch σ (63 - m))) 64
      rw [if_pos q, f_X4_largestPatch_b10_s, if_neg (show ¬ (64 : Int32) ≤ nI i from nI_ge (b := 64) (by omega) (by omega)), if_neg (fun z => by rw [z, gb_0] at q; cases q), low_bit (by omega) q (fun j hj => hz j (by omega)), W_patchFrom E h hn (inW_one hk n64), ob_some]
      show f_X4_largestPatch_b10 n t f (y &&& (pch σ (63 - m) ^^^ (-1))) (imx (nI c) (f_J13_bitCount_95d88 (pch σ (63 - m)))) (nI i + 1) = _
      rw [nI_1, bc_eq, imx_nI (by omega) (by omega), W_pL E h hn m f (i := i + 1) (by omega) (by omega) (by omega) (by omega) (inW_and hy) (fun j hj => by
        rw [gb_and, gb_not (by omega)]
        by_cases e : j = 63 - m
        · rw [e, pch_self (by omega)]; simp
        · rw [hz j (by omega)]; rfl)]
    · rw [if_neg q]
      exact W_pL E h hn m (f + 1) (i := i) (by omega) (by omega) (by omega) hc hy (fun j hj => by
        by_cases e : j = 63 - m
        · rw [e]; cases z : gb y (63 - m); rfl; exact absurd z q
        · exact hz j (by omega))
theorem W_largest {t : WT} {σ : Sg} (E : EncW t σ) (h : WF σ) {n : Nat} (hn : 100 ≤ n) : f_X4_largestPatch n t = some (nI (pL σ 64 (sF σ) 0)) := by
  unfold f_X4_largestPatch
  rw [E.2.2.2.2.1]
  exact W_pL E h hn 64 n (y := sF σ) (c := 0) (i := 0) (Nat.le_refl _) (by omega) (by omega) (by omega) h.2.2.2.2.2.2.2.2.1 (fun j hj => by omega)
