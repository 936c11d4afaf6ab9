/-! the reference's cold and nights -/
theorem lN0 {a : Nat} (h : a < 2 ^ 31) : lN a = 0 ↔ a = 0 := lN_eq (b := 0) h (by omega)
theorem lN1 {a : Nat} (h : a < 2 ^ 31) : lN a = 1 ↔ a = 1 := lN_eq (b := 1) h (by omega)
theorem lN2 {a : Nat} (h : a < 2 ^ 31) : lN a = 2 ↔ a = 2 := lN_eq (b := 2) h (by omega)
def setF (σ : Sg) (x : Int64) : Sg := (σ.1, x, σ.2.2.1, σ.2.2.2)
def setX (σ : Sg) (x : Int64) : Sg := (σ.1, σ.2.1, x, σ.2.2.2)
def setY (σ : Sg) (x : Int64) : Sg := (σ.1, σ.2.1, σ.2.2.1, x)
def setS (σ : Sg) (j v : Nat) : Sg := (fun i => if i = j then v else σ.1 i, σ.2)
theorem WF_setF {σ : Sg} (h : WF σ) {x : Int64} (hx : inW x (sN σ)) : WF (setF σ x) := by
  obtain ⟨h1, h2, h3, h4, h5, h6, h7, h8, h9, h10, h11⟩ := h
  exact ⟨h1, h2, h3, h4, h5, h6, h7, h8, hx, h10, h11⟩
theorem EncM_setF {g : Nat → Int64} {σ : Sg} (E : EncM g σ) (x : Int64) : EncM (vp_updL g 8 x) (setF σ x) := by
  obtain ⟨h1, h2, h3, h4⟩ := E
  refine ⟨fun j hj => ?_, pk_uLs, ?_, ?_⟩
  · rw [pk_uLn (by omega)]; exact h1 j hj
  · rw [pk_uLn (by omega)]; exact h3
  · rw [pk_uLn (by omega)]; exact h4
theorem EncM_setX {g : Nat → Int64} {σ : Sg} (E : EncM g σ) (x : Int64) : EncM (vp_updL g 9 x) (setX σ x) := by
  obtain ⟨h1, h2, h3, h4⟩ := E
  refine ⟨fun j hj => ?_, ?_, pk_uLs, ?_⟩
  · rw [pk_uLn (by omega)]; exact h1 j hj
  · rw [pk_uLn (by omega)]; exact h2
  · rw [pk_uLn (by omega)]; exact h4
theorem EncM_setY {g : Nat → Int64} {σ : Sg} (E : EncM g σ) (x : Int64) : EncM (vp_updL g 10 x) (setY σ x) := by
  obtain ⟨h1, h2, h3, h4⟩ := E
  refine ⟨fun j hj => ?_, ?_, ?_, pk_uLs⟩
  · rw [pk_uLn (by omega)]; exact h1 j hj
  · rw [pk_uLn (by omega)]; exact h2
  · rw [pk_uLn (by omega)]; exact h3
theorem EncM_setS {g : Nat → Int64} {σ : Sg} (E : EncM g σ) {j : Nat} (hj : j < 8) (v : Nat) : EncM (vp_updL g j (lN v)) (setS σ j v) := by
  obtain ⟨h1, h2, h3, h4⟩ := E
  refine ⟨fun i hi => ?_, ?_, ?_, ?_⟩
  · show _ = lN (if i = j then v else σ.1 i)
    by_cases q : i = j
    · subst q; rw [if_pos rfl]; exact pk_uLs
    · rw [if_neg q, pk_uLn q]; exact h1 i hi
  · rw [pk_uLn (by omega)]; exact h2
  · rw [pk_uLn (by omega)]; exact h3
  · rw [pk_uLn (by omega)]; exact h4
theorem uL_same (g : Nat → Int64) (k : Nat) : vp_updL g k (g k) = g := by
  funext j; unfold vp_updL; split
  · next e => rw [e]
  · rfl
theorem uL_twice (g : Nat → Int64) (k : Nat) (x y : Int64) : vp_updL (vp_updL g k x) k y = vp_updL g k y := by
  funext j; unfold vp_updL; split <;> rfl
theorem optI_none {σ : Sg} (h : WF σ) {k d : Nat} (hk : k < sN σ) (hd : d < 4) : (optI (nxt σ k d) = -1) ↔ nxt σ k d = none := by
  have n := h.n64
  exact optI_m1 (fun j e => by have := nxt_lt h hk hd e; omega)
theorem M_cold_step {g : Nat → Int64} {σ : Sg} (E : EncM g σ) (h : WF σ) {k : Nat} (hk : k < sN σ) (n f : Nat) {d : Nat} (hd : d < 4) : f_X6_cold_b4 n g (nI k) (f + 1) (nI (cnt (fun d => cld σ (sF σ) k d) d)) (nI d) = f_X6_cold_b4 n g (nI k) f (nI (cnt (fun d => cld σ (sF σ) k d) (d + 1))) (nI (d + 1)) := by
  have n64 := h.n64
  rw [f_X6_cold_b4_s, if_neg (show ¬ (4 : Int32) ≤ nI d from nI_ge (b := 4) hd (by omega)), M_nxt E h hk hd, ob_some, M_ice E h hk hd, ob_some, cnt, nI_succ, ← nI_add, E.2.1]
  show (if ice σ k d = true then _ else _) = f_X6_cold_b4 n g (nI k) f (nI _ + nI (if (ice σ k d || hit σ (sF σ) k d) = true then 1 else 0)) _
  by_cases hi : ice σ k d = true
  · rw [if_pos hi, hi]; rfl
  · have hi2 : ice σ k d = false := by cases q : ice σ k d; rfl; exact absurd q hi
    rw [if_neg hi, hi2, Bool.false_or]
    unfold hit
    cases e : nxt σ k d with
    | none => rw [if_pos (show optI none = -1 from rfl)]; rfl
    | some j =>
      have hj := nxt_lt h hk hd e
      rw [if_neg (fun q => nomatch (optI_m1 (o := some j) (fun i q => by cases q; omega)).mp q)]
      show (if f_X6_has (sF σ) (nI j) = true then _ else _) = f_X6_cold_b4 n g (nI k) f (nI _ + nI (if gb (sF σ) j = true then 1 else 0)) _
      rw [has_gb (by omega)]
      by_cases hg : gb (sF σ) j = true
      · rw [if_pos hg, if_pos hg]; rfl
      · rw [if_neg hg, if_neg hg]; rfl
theorem M_cold {g : Nat → Int64} {σ : Sg} (E : EncM g σ) (h : WF σ) {k : Nat} (hk : k < sN σ) {n : Nat} (hn : 100 ≤ n) : f_X6_cold n g (nI k) = some (nI (coldN σ (sF σ) k)) := by
  unfold f_X6_cold coldN
  have := lp_run (fun f i => f_X6_cold_b4 n g (nI k) f (nI (cnt (fun d => cld σ (sF σ) k d) i)) (nI i)) 4 (some (nI (cnt (fun d => cld σ (sF σ) k d) 4)))
    (fun f i hi => M_cold_step E h hk n f hi) (fun f => by rw [f_X6_cold_b4_s]; exact if_pos (by decide)) n 0 (by omega) (by omega)
  exact this
theorem odd_cold (σ : Sg) (x : Int64) (k : Nat) : oddB σ x k = decide (coldN σ x k % 2 = 1) := by
  unfold oddB coldN
  have w : ∀ a b c d : Bool, (((a ^^ b) ^^ c) ^^ d) = decide ((0 + (if a = true then 1 else 0) + (if b = true then 1 else 0) + (if c = true then 1 else 0) + (if d = true then 1 else 0)) % 2 = 1) := by decide
  exact w _ _ _ _
theorem cold_le (σ : Sg) (x : Int64) (k : Nat) : coldN σ x k ≤ 4 := cnt_le _ 4
theorem M_night_step {g : Nat → Int64} {σ : Sg} (E : EncM g σ) (h : WF σ) {n : Nat} (hn : 100 ≤ n) (f : Nat) {i : Nat} (hi : i < sN σ) : f_X6_nightOn_b10 n (nI (sN σ)) (f + 1) g (mkN (will σ (sF σ)) i) (nI i) = f_X6_nightOn_b10 n (nI (sN σ)) f g (mkN (will σ (sF σ)) (i + 1)) (nI (i + 1)) := by
  have n64 := h.n64
  have hr := h.2.2.2.2.1
  have hc := cold_le σ (sF σ) i
  rw [f_X6_nightOn_b10_s, if_neg (nI_ge hi (by omega)), M_cold E h hi hn, ob_some, show (2 : Int32) = nI 2 from rfl, irm_nI (by omega) (by omega) (by omega), mkN, nI_succ]
  have h97 : ∀ b : Bool, f_X6_nightOn_b97 n (nI (sN σ)) (f_X6_nightOn_b10 n (nI (sN σ)) f) g (mkN (will σ (sF σ)) i) (nI i) (bI b) = f_X6_nightOn_b10 n (nI (sN σ)) f g (mkN (will σ (sF σ)) i ||| (if b = true then jsl 1 (nI i) else 0)) (nI i + 1) := by
    intro b; unfold f_X6_nightOn_b97
    cases b
    · exact if_pos rfl
    · exact if_neg (by decide)
  have h33 : ∀ b : Bool, b = oddB σ (sF σ) i → f_X6_nightOn_b33 n (nI (sN σ)) (f_X6_nightOn_b10 n (nI (sN σ)) f) g (mkN (will σ (sF σ)) i) (nI i) (bI b) = f_X6_nightOn_b10 n (nI (sN σ)) f g (mkN (will σ (sF σ)) i ||| (if will σ (sF σ) i = true then jsl 1 (nI i) else 0)) (nI i + 1) := by
    intro b hb
    unfold f_X6_nightOn_b33
    rw [M_Ru E, E.2.1, has_gb (by omega)]
    have hw : will σ (sF σ) i = (if sRu σ = 0 then gb (sF σ) i || oddB σ (sF σ) i else if sRu σ = 1 then oddB σ (sF σ) i else gb (sF σ) i ^^ oddB σ (sF σ) i) := rfl
    rw [hw, ← hb]
    by_cases r0 : sRu σ = 0
    · rw [if_pos ((lN0 (by omega)).mpr r0), if_pos r0]
      cases hg : gb (sF σ) i
      · cases b
        · exact h97 false
        · exact h97 true
      · exact h97 true
    · rw [if_neg (fun q => r0 ((lN0 (by omega)).mp q)), if_neg r0]
      by_cases r1 : sRu σ = 1
      · rw [if_pos ((lN1 (by omega)).mpr r1), if_pos r1]
        exact h97 b
      · rw [if_neg (fun q => r1 ((lN1 (by omega)).mp q)), if_neg r1]
        cases hg : gb (sF σ) i <;> cases b
        · exact h97 false
        · exact h97 true
        · exact h97 true
        · exact h97 false
  by_cases ho : coldN σ (sF σ) i % 2 = 1
  · rw [if_pos ((nI1 (by omega)).mpr ho)]
    exact h33 true (by rw [odd_cold, decide_eq_true ho])
  · rw [if_neg (fun q => ho ((nI1 (by omega)).mp q))]
    exact h33 false (by rw [odd_cold, decide_eq_false ho])
theorem M_night {g : Nat → Int64} {σ : Sg} (E : EncM g σ) (h : WF σ) {n : Nat} (hn : 100 ≤ n) : f_X6_nightOn n g = some (vp_updL g 8 (night σ (sF σ))) := by
  have n64 := h.n64
  unfold f_X6_nightOn night
  rw [M_many E]
  exact lp_run (fun f i => f_X6_nightOn_b10 n (nI (sN σ)) f g (mkN (will σ (sF σ)) i) (nI i)) (sN σ) _
    (fun f i hi => M_night_step E h hn f hi) (fun f => by rw [f_X6_nightOn_b10_s]; exact if_pos (nI_le (Nat.le_refl _) (by omega))) n 0 (by omega) (by omega)
theorem M_bits {n : Nat} (hn : 100 ≤ n) (x : Int64) : f_X6_bits n x = some (nI (cnt (gb x) 64)) := by
  unfold f_X6_bits
  exact lp_run (fun f i => f_X6_bits_b4 n x f (nI (cnt (gb x) i)) (nI i)) 64 _
    (fun f i hi => by
      rw [f_X6_bits_b4_s, if_neg (show ¬ (64 : Int32) ≤ nI i from nI_ge (b := 64) hi (by omega)), has_gb hi, cnt, nI_succ, ← nI_add]
      cases gb x i <;> rfl)
    (fun f => by rw [f_X6_bits_b4_s]; exact if_pos (by decide)) n 0 (by omega) (by omega)
/-- after some nights -/
def nightI (σ : Sg) (x : Int64) : Nat → Int64
  | 0 => x
  | i + 1 => night σ (nightI σ x i)
theorem nightI_inW {σ : Sg} (h : WF σ) {x : Int64} (hx : inW x (sN σ)) : ∀ i, inW (nightI σ x i) (sN σ)
  | 0 => hx
  | _ + 1 => night_inW h _
theorem M_night2 {g : Nat → Int64} {σ : Sg} (E : EncM g σ) (h : WF σ) {n : Nat} (hn : 100 ≤ n) {x : Int64} (hx : inW x (sN σ)) : f_X6_nightOn n (vp_updL g 8 x) = some (vp_updL g 8 (night σ x)) := by
  rw [M_night (EncM_setF E x) (WF_setF h hx) hn, uL_twice]
  rfl
theorem M_nights {g : Nat → Int64} {σ : Sg} (E : EncM g σ) (h : WF σ) {n : Nat} (hn : 100 ≤ n) {m : Nat} (hm : m < 100 ∨ m < n) (hm2 : m < 2 ^ 31) : f_X6_nightsOn n g (nI m) = some (nI (cnt (gb (nightI σ (sF σ) m)) 64), vp_updL (vp_updL g 8 (nightI σ (sF σ) m)) 3 (lN (sNi σ + m))) := by
  have hF := h.2.2.2.2.2.2.2.2.1
  unfold f_X6_nightsOn
  have := lp_run (fun f i => f_X6_nightsOn_b2 n (nI m) f (vp_updL g 8 (nightI σ (sF σ) i)) (nI i)) m (some (nI (cnt (gb (nightI σ (sF σ) m)) 64), vp_updL (vp_updL g 8 (nightI σ (sF σ) m)) 3 (lN (sNi σ + m))))
    (fun f i hi => by
      show f_X6_nightsOn_b2 n (nI m) (f + 1) (vp_updL g 8 (nightI σ (sF σ) i)) (nI i) = f_X6_nightsOn_b2 n (nI m) f (vp_updL g 8 (night σ (nightI σ (sF σ) i))) (nI (i + 1))
      rw [f_X6_nightsOn_b2_s, if_neg (nI_ge hi hm2), M_night2 E h hn (nightI_inW h hF i), ob_some, nI_succ])
    (fun f => by
      show f_X6_nightsOn_b2 n (nI m) (f + 1) (vp_updL g 8 (nightI σ (sF σ) m)) (nI m) = _
      rw [f_X6_nightsOn_b2_s, if_pos (nI_le (Nat.le_refl _) hm2), M_bits hn, ob_some, pk_uLn (show 8 ≠ 3 by omega), pk_uLs, pk_uLn (show 3 ≠ 8 by omega), M_Ni E, nI_l hm2, lN_add]) n 0 (by omega) (by omega)
  rw [show vp_updL g 8 (nightI σ (sF σ) 0) = g from by show vp_updL g 8 (sF σ) = g; rw [← E.2.1, uL_same]] at this
  exact this
