/-! the law's questions, over the state as numbers and sets -/
def psz (σ : Sg) (k : Nat) : Nat := if gb (sF σ) k = true then cnt (gb (pch σ k)) 64 else 0
theorem obx_i {α β : Type} (v : α) (k : α → Option (Nat ⊕ β)) : obx (some (.inr v)) k = k v := rfl
section CA
variable {o : OT} {σ : Sg} {n : Nat}
theorem ca_about (E : EncW (o_w o) σ) (h : WF σ) (hn : 1000 ≤ n) {d : Nat} (hd : d < 8) (b c : Int32) : f_L_call n o 2 (nI d) b c = some (nI (abA σ d), o) := by
  rw [fc_2]; unfold f_L_tryAbout
  rw [W_about E h (by omega) hd]; rfl
theorem cx_about {x : Int32} (hx : ¬ rng x 0 7 = true) (b c : Int32) : f_L_call n o 2 x b c = some (-9999002, o) := by
  have ne : ∀ d, d < 8 → ¬ x = nI d := fun d hd e => hx (by rw [e]; have := rng_nI (k := d) 0 7 (by omega); exact this.trans (decide_eq_true ⟨by omega, by omega⟩))
  rw [fc_2]; unfold f_L_tryAbout f_X5_about
  rw [if_neg (show ¬ x = 0 from ne 0 (by omega)), if_neg (show ¬ x = 1 from ne 1 (by omega)), if_neg (show ¬ x = 2 from ne 2 (by omega)), if_neg (show ¬ x = 3 from ne 3 (by omega)), if_neg (show ¬ x = 4 from ne 4 (by omega)), if_neg (show ¬ x = 5 from ne 5 (by omega)), if_neg (show ¬ x = 6 from ne 6 (by omega)), if_neg (show ¬ x = 7 from ne 7 (by omega))]; rfl
theorem cell_in {k : Nat} (h : WF σ) (hk : k < sN σ) : rng (nI k) (0 : Nat) ((sN σ - 1 : Nat) : Int) = true := by
  have := h.n64
  rw [rng_nI 0 (sN σ - 1) (by omega)]
  exact decide_eq_true ⟨by omega, by omega⟩
theorem dir_in {d : Nat} (hd : d < 4) : rng (nI d) 0 3 = true := by
  have := rng_nI (k := d) 0 3 (by omega)
  exact this.trans (decide_eq_true ⟨by omega, by omega⟩)
theorem ca_is (E : EncW (o_w o) σ) (h : WF σ) {k : Nat} (hk : k < sN σ) (c : Int32) : f_L_call n o 3 (nI k) 0 c = some (bI (gb (sF σ) k), o) := by
  have n64 := h.n64
  rw [fc_3]; unfold f_L_tryCell f_X5_cell f_X4_isFrozen
  rw [NC_t E h (cell_in h hk)]
  have e : obx (some (.inr ())) (fun _ : Unit => (if (0 : Int32) = 0 then (if f_X5_holds (w_frozen (o_w o)) (nI k) = true then (some (.inr 1) : Option (Nat ⊕ Int32)) else some (.inr 0)) else (if (0 : Int32) = 1 then (f_X4_cold n (o_w o) (nI k)).bind (fun r_5 => (some (.inr r_5))) else (if (0 : Int32) = 2 then (f_X4_patchAt n (o_w o) (nI k)).bind (fun r_7 => (some (.inr (f_J13_bitCount_95d88 r_7)))) else (if (0 : Int32) = 3 then (f_X4_scratchesAt n (o_w o) (nI k)).bind (fun r_9 => (some (.inr r_9))) else (some (.inl 2))))))) = some (.inr (bI (gb (sF σ) k))) := by
    rw [obx_i, if_pos rfl, E.2.2.2.2.1, holds_gb (by omega)]
    cases gb (sF σ) k <;> rfl
  rw [e]; rfl
theorem ca_cold (E : EncW (o_w o) σ) (h : WF σ) (hn : 1000 ≤ n) {k : Nat} (hk : k < sN σ) (c : Int32) : f_L_call n o 3 (nI k) 1 c = some (nI (coldN σ (sF σ) k), o) := by
  rw [fc_3]; unfold f_L_tryCell f_X5_cell
  rw [NC_t E h (cell_in h hk), W_cold E h (by omega) hk]; rfl
theorem ca_psz (E : EncW (o_w o) σ) (h : WF σ) (hn : 1000 ≤ n) {k : Nat} (hk : k < sN σ) (c : Int32) : f_L_call n o 3 (nI k) 2 c = some (nI (psz σ k), o) := by
  rw [fc_3]; unfold f_L_tryCell f_X5_cell
  rw [NC_t E h (cell_in h hk), W_patchAt E h (by omega) hk]
  show some (f_J13_bitCount_95d88 (if gb (sF σ) k = true then pch σ k else 0), o) = _
  rw [bc_eq]; unfold psz
  by_cases q : gb (sF σ) k = true
  · rw [if_pos q, if_pos q]
  · rw [if_neg q, if_neg q, cnt_zero (fun i _ => gb_0 i)]
theorem ca_sat (E : EncW (o_w o) σ) (h : WF σ) (hn : 1000 ≤ n) {k : Nat} (hk : k < sN σ) (c : Int32) : f_L_call n o 3 (nI k) 3 c = some (sAt σ k 4, o) := by
  rw [fc_3]; unfold f_L_tryCell f_X5_cell
  rw [NC_t E h (cell_in h hk), W_sAt E h (by omega) hk]; rfl
theorem cx_cell1 (E : EncW (o_w o) σ) (h : WF σ) {x : Int32} (hx : ¬ rng x (0 : Nat) ((sN σ - 1 : Nat) : Int) = true) (y c : Int32) : f_L_call n o 3 x y c = some (-9999001, o) := by
  rw [fc_3]; unfold f_L_tryCell f_X5_cell
  rw [NC_f E h hx]; rfl
theorem cx_cell2 (E : EncW (o_w o) σ) (h : WF σ) {x y : Int32} (hx : rng x (0 : Nat) ((sN σ - 1 : Nat) : Int) = true) (hy : ¬ rng y 0 3 = true) (c : Int32) : f_L_call n o 3 x y c = some (-9999002, o) := by
  have ne : ∀ d, d < 4 → ¬ y = nI d := fun d hd e => hy (by rw [e]; exact dir_in hd)
  rw [fc_3]; unfold f_L_tryCell f_X5_cell
  rw [NC_t E h hx]
  show ((if y = 0 then _ else if y = 1 then _ else if y = 2 then _ else if y = 3 then _ else some (Sum.inl 2) : Option (Nat ⊕ Int32)).bind _).bind _ = _
  rw [if_neg (show ¬ y = 0 from ne 0 (by omega)), if_neg (show ¬ y = 1 from ne 1 (by omega)), if_neg (show ¬ y = 2 from ne 2 (by omega)), if_neg (show ¬ y = 3 from ne 3 (by omega))]; rfl
theorem ca_next (E : EncW (o_w o) σ) (h : WF σ) {k d : Nat} (hk : k < sN σ) (hd : d < 4) (c : Int32) : f_L_call n o 4 (nI k) (nI d) c = some (optI (nbr σ k d), o) := by
  rw [fc_4]; unfold f_L_tryNext f_X5_neighbour
  rw [NC_t E h (cell_in h hk), NR_t (dir_in hd), W_beside E h hk hd]; rfl
theorem cx_next1 (E : EncW (o_w o) σ) (h : WF σ) {x : Int32} (hx : ¬ rng x (0 : Nat) ((sN σ - 1 : Nat) : Int) = true) (y c : Int32) : f_L_call n o 4 x y c = some (-9999001, o) := by
  rw [fc_4]; unfold f_L_tryNext f_X5_neighbour
  rw [NC_f E h hx]; rfl
theorem cx_next2 (E : EncW (o_w o) σ) (h : WF σ) {x y : Int32} (hx : rng x (0 : Nat) ((sN σ - 1 : Nat) : Int) = true) (hy : ¬ rng y 0 3 = true) (c : Int32) : f_L_call n o 4 x y c = some (-9999002, o) := by
  rw [fc_4]; unfold f_L_tryNext f_X5_neighbour
  rw [NC_t E h hx, NR_f hy]; rfl
theorem ca_side (E : EncW (o_w o) σ) (h : WF σ) {d : Nat} (hd : d < 4) (b c : Int32) : f_L_call n o 5 (nI d) b c = some (nI (sSd σ d), o) := by
  rw [fc_5]; unfold f_L_trySide f_X5_side
  rw [NR_t (dir_in hd)]
  show some (f_X4_kind (o_w o) (nI d), o) = _
  rw [W_kind E h hd]
theorem cx_side {x : Int32} (hx : ¬ rng x 0 3 = true) (b c : Int32) : f_L_call n o 5 x b c = some (-9999002, o) := by
  rw [fc_5]; unfold f_L_trySide f_X5_side
  rw [NR_f hx]; rfl
/-! refused -/
theorem cx_append {x : Int32} (hx : ¬ rng x 0 255 = true) (b c : Int32) : f_L_call n o 0 x b c = some (-9999002, o) := by
  rw [fc_0]; unfold f_L_tryAppend f_X5_append
  rw [NR_f hx]; rfl
theorem cx_size1 {x : Int32} (hx : ¬ rng x 2 8 = true) (y c : Int32) : f_L_call n o 6 x y c = some (-9999002, o) := by
  rw [fc_6]; unfold f_L_trySize f_X5_size
  rw [NR_f hx]; rfl
theorem cx_size2 {x y : Int32} (hx : rng x 2 8 = true) (hy : ¬ rng y 2 8 = true) (c : Int32) : f_L_call n o 6 x y c = some (-9999002, o) := by
  rw [fc_6]; unfold f_L_trySize f_X5_size
  rw [NR_t hx, NR_f hy]; rfl
theorem cx_flip (E : EncW (o_w o) σ) (h : WF σ) {x : Int32} (hx : ¬ rng x (0 : Nat) ((sN σ - 1 : Nat) : Int) = true) (b c : Int32) : f_L_call n o 7 x b c = some (-9999001, o) := by
  rw [fc_7]; unfold f_L_tryFlip f_X5_flip
  rw [NC_f E h hx]; rfl
theorem cx_scr1 (E : EncW (o_w o) σ) (h : WF σ) {x : Int32} (hx : ¬ rng x (0 : Nat) ((sN σ - 1 : Nat) : Int) = true) (y c : Int32) : f_L_call n o 8 x y c = some (-9999001, o) := by
  rw [fc_8]; unfold f_L_tryScratch f_X5_scratch
  rw [NC_f E h hx]; rfl
theorem cx_scr2 (E : EncW (o_w o) σ) (h : WF σ) {x y : Int32} (hx : rng x (0 : Nat) ((sN σ - 1 : Nat) : Int) = true) (hy : ¬ rng y 0 3 = true) (c : Int32) : f_L_call n o 8 x y c = some (-9999002, o) := by
  rw [fc_8]; unfold f_L_tryScratch f_X5_scratch
  rw [NC_t E h hx, NR_f hy]; rfl
theorem cx_scr3 (E : EncW (o_w o) σ) (h : WF σ) {k d : Nat} (hk : k < sN σ) (hd : d < 4) (e : nbr σ k d = none) (c : Int32) : f_L_call n o 8 (nI k) (nI d) c = some (-9999003, o) := by
  rw [fc_8]; unfold f_L_tryScratch f_X5_scratch
  rw [NC_t E h (cell_in h hk), NR_t (dir_in hd), W_beside E h hk hd, e]; rfl
theorem cx_brd1 {x : Int32} (hx : ¬ rng x 0 3 = true) (y c : Int32) : f_L_call n o 9 x y c = some (-9999002, o) := by
  rw [fc_9]; unfold f_L_tryBorder f_X5_border
  rw [NR_f hx]; rfl
theorem cx_brd2 {x y : Int32} (hx : rng x 0 3 = true) (hy : ¬ rng y 0 2 = true) (c : Int32) : f_L_call n o 9 x y c = some (-9999002, o) := by
  rw [fc_9]; unfold f_L_tryBorder f_X5_border
  rw [NR_t hx, NR_f hy]; rfl
theorem cx_rule {x : Int32} (hx : ¬ rng x 0 2 = true) (b c : Int32) : f_L_call n o 10 x b c = some (-9999002, o) := by
  rw [fc_10]; unfold f_L_tryRule f_X5_rule
  rw [NR_f hx]; rfl
theorem cx_thw1 (E : EncW (o_w o) σ) (h : WF σ) {x : Int32} (hx : ¬ rng x (0 : Nat) ((sN σ - 1 : Nat) : Int) = true) (y c : Int32) : f_L_call n o 11 x y c = some (-9999001, o) := by
  rw [fc_11]; unfold f_L_tryBreathe f_X5_breathe
  rw [NC_f E h hx]; rfl
theorem cx_thw2 (E : EncW (o_w o) σ) (h : WF σ) {x y : Int32} (hx : rng x (0 : Nat) ((sN σ - 1 : Nat) : Int) = true) (hy : ¬ rng y 0 9 = true) (c : Int32) : f_L_call n o 11 x y c = some (-9999002, o) := by
  rw [fc_11]; unfold f_L_tryBreathe f_X5_breathe
  rw [NC_t E h hx, NR_f hy]; rfl
theorem cx_nights {x : Int32} (hx : ¬ rng x 1 60 = true) (b c : Int32) : f_L_call n o 12 x b c = some (-9999002, o) := by
  rw [fc_12]; unfold f_L_tryNights f_X5_nights
  rw [NR_f hx]; rfl
theorem cx_again {x : Int32} (hx : ¬ rng x 0 1 = true) (b c : Int32) : f_L_call n o 14 x b c = some (-9999002, o) := by
  rw [fc_14]; unfold f_L_tryAgain f_X5_again
  rw [NR_f hx]; rfl
theorem cx_freezes (E : EncW (o_w o) σ) (h : WF σ) {x : Int32} (hx : ¬ rng x (0 : Nat) ((sN σ - 1 : Nat) : Int) = true) (b c : Int32) : f_L_call n o 16 x b c = some (-9999001, o) := by
  rw [fc_16]; unfold f_L_tryFreezes f_X5_freezesIn
  rw [NC_f E h hx]; rfl
theorem cx_keeps1 (E : EncW (o_w o) σ) (h : WF σ) {x : Int32} (hx : ¬ rng x (0 : Nat) ((sN σ - 1 : Nat) : Int) = true) (y c : Int32) : f_L_call n o 17 x y c = some (-9999001, o) := by
  rw [fc_17]; unfold f_L_tryKeeps f_X5_keeps
  rw [NC_f E h hx]; rfl
theorem cx_keeps2 (E : EncW (o_w o) σ) (h : WF σ) {x y : Int32} (hx : rng x (0 : Nat) ((sN σ - 1 : Nat) : Int) = true) (hy : ¬ rng y 1 20 = true) (c : Int32) : f_L_call n o 17 x y c = some (-9999002, o) := by
  rw [fc_17]; unfold f_L_tryKeeps f_X5_keeps
  rw [NC_t E h hx, NR_f hy]; rfl
theorem cx_save {x : Int32} (hx : ¬ rng x 0 1 = true) (b c : Int32) : f_L_call n o 18 x b c = some (-9999001, o) := by
  rw [fc_18]; unfold f_L_tryKeep f_X5_save
  rw [C_slot, if_neg hx]; rfl
theorem cx_back {x : Int32} (hx : ¬ rng x 0 1 = true) (b c : Int32) : f_L_call n o 19 x b c = some (-9999001, o) := by
  rw [fc_19]; unfold f_L_tryBack f_X5_restore
  rw [C_slot, if_neg hx]; rfl
theorem cx_looks {x : Int32} (hx : ¬ rng x 1 200 = true) : g_L_looks n o x = some (-9999002) := by
  unfold g_L_looks f_L_looks f_X5_coming
  rw [NR_f hx]; rfl
theorem cx_sim {x : Int64} {y : Int32} (hy : ¬ rng y 1 60 = true) : g_L_doSimulate n o x y = some (-9999002, o_tr o) := by
  unfold g_L_doSimulate f_L_doSimulate f_X5_simulate
  rw [NR_f hy]; rfl
theorem cx_scp0 {y : Int64} : g_L_doScript n o 0 y = some (-9999002, o_tr o) := by
  unfold g_L_doScript f_L_doScript f_X5_runScript
  rw [NR_f (x := 0) (a := 1) (b := 3) (by decide)]; rfl
theorem oTr_self (o : OT) : oTr o (o_tr o) = o := rfl
end CA
