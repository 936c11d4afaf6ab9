set_option maxHeartbeats 4000000 in
set_option maxRecDepth 100000 in
theorem c_L_clear {l : Launch} (hfl : l.stackTraces = false) (G : va_G) (cy : Nat → ClassId) (b_0 bk_0 : Nat → Nat) (b_1 bk_1 : Nat → Nat) (sz : Nat) (o_0 : OT) (o_1 : OT) (x2 : Int32) (x3 : Int32) (x4 : Int32) (n : Nat) (R : Bool × OT × OT) (hf : f_L_clear n o_0 o_1 x2 x3 x4 = some R) : Met l yL_clear wB_clear ({ frames := 11, cells := 26, slots := 156, locals := 218 } : Room) (va_Pc [.ref (b_0 0), .ref (b_1 0), .int x2, .int x3, .int x4] (pcN G cy (oW cy b_0 bk_0 o_0 ++ oW cy b_1 bk_1 o_1) sz)) (va_Qi (fun r (_ : Unit) => r = bI R.1) (fun _ t => Wd G cy (va_A (oW cy b_0 bk_0 o_0 ++ oW cy b_1 bk_1 o_1) sz) (oW cy b_0 bk_0 R.2.1 ++ oW cy b_1 bk_1 R.2.2) t) (va_A (oW cy b_0 bk_0 o_0 ++ oW cy b_1 bk_1 o_1) sz)) 26 156 (va_A (oW cy b_0 bk_0 o_0 ++ oW cy b_1 bk_1 o_1) sz) := by
  refine Met.ofW (cc := cL_clear) (maxL := 7) (ret := (some .boolean)) (by decide) rfl ?_
  intro p e s m args below meth c s₁ B hml hv
  obtain ⟨rfl, ⟨⟨hsz, hP, hK, hD0, hN⟩, hE⟩, hXN⟩ := hv
  have hx := B.exec
  have hb := B.bytes
  have hr := B.returns
  have hts := atoms_spec (ws := wB_clear) B.pre
  have hown : s.vm.findClass RL = some m.cls := findClass_of_methodNamed B.named
  have hlocks := B.notSynchronized
  subst hsz
  have hD := hD0.self (sz := s.heap.size)
  generalize hAe : va_A (oW cy b_0 bk_0 o_0 ++ oW cy b_1 bk_1 o_1) s.heap.size = A at hD hE ⊢
  have hA : ∀ q : Nat, s.heap.size ≤ q → A q := fun q h => by rw [← hAe]; exact Or.inr h
  have hS : va_S A s.heap s.heap [] := va_S.rf
  have hP : va_P G vwCl (oW cy b_0 bk_0 o_0 ++ oW cy b_1 bk_1 o_1) s.heap := hP
  have bl_129 : ∀ (c_o_0 : OT) (c_o_1 : OT) (y5 : Int32) (H : Heap) (locs : List Loc) (cc : Nat), cc + (6) ≤ 26 → f_L_clear_b129 n c_o_0 c_o_1 y5 = some R → va_P G vwCl (oW cy b_0 bk_0 c_o_0 ++ oW cy b_1 bk_1 c_o_1) H → va_D A (oW cy b_0 bk_0 c_o_0 ++ oW cy b_1 bk_1 c_o_1) → va_S A s.heap H locs → ∀ (ls : Array Slot), lv_has ls 7 [(0, .ref (b_0 0)), (1, .ref (b_1 0)), (5, .int y5)] → W p l e ({ frames := 11, cells := 26, slots := 156, locals := 218 } : Room) s m [.ref (b_0 0), .ref (b_1 0), .int x2, .int x3, .int x4].toArray below meth c H locs cc (6 * cc) (MQ below (va_Qi (fun r (_ : Unit) => r = bI R.1) (fun _ t => Wd G cy A (oW cy b_0 bk_0 R.2.1 ++ oW cy b_1 bk_1 R.2.2) t) A) [.ref (b_0 0), .ref (b_1 0), .int x2, .int x3, .int x4].toArray s 26 156 A) (F0 m 129 ls []) := by
    intro c_o_0 c_o_1 y5 H locs cc hcc hf hP hD hS ls hl
    unfold f_L_clear_b129 at hf
    refine lv_aload_n hx hb dL_clear_129 rfl (lv_at hl 0 rfl) ?_
    refine lv_bipush (v := 13) hx hb dL_clear_130 (by decide) ?_
    refine lv_iconst (v := 0) hx hb dL_clear_132 (by decide) ?_
    refine lv_iconst (v := 0) hx hb dL_clear_133 (by decide) ?_
    refine lv_iconst (v := 0) hx hb dL_clear_134 (by decide) ?_
    obtain ⟨r_1, hh_r_1, hf⟩ := obd_some hf
    refine kb_i6 (V := r_1.1) (w1 := oW cy b_0 bk_0 r_1.2) hS (Nat.le_of_ble_eq_true rfl) (Jn_l hP hD hS hA) (va_runS (As := [.ref (b_0 0), .int 13, .int 0, .int 0, .int 0]) (rest := []) ⟨hx, hb, hml, hown, hts⟩ (c_L_call (l := l) hfl G cy b_0 bk_0 H.size c_o_0 13 0 0 0 n r_1 hh_r_1) (va_cwS 5 hts gB_clear_L_call rfl rfl rfl ddN_L_call ⟨(Nat.le_of_ble_eq_true rfl), (Nat.le_of_ble_eq_true rfl)⟩) (preSN hXN (hE.kept hS.2.1) (Jn_l hP hD hS hA).1 (P_l hP) hK (D_l hD) hN) rfl rfl hl.1 rfl (lv_room (Nat.le_of_ble_eq_true rfl)) dL_clear_135 ⟨by show cc + 3 ≤ 26; omega, by show 6 * cc + 18 ≤ 156; omega⟩) (fun H locs hP hD hS => ?_)
    have hP : va_P G vwCl (oW cy b_0 bk_0 r_1.2 ++ oW cy b_1 bk_1 c_o_1) H := hP
    have hD : va_D A (oW cy b_0 bk_0 r_1.2 ++ oW cy b_1 bk_1 c_o_1) := hD
    refine kb_i (V := bI (f_L_thrown r_1.1)) (w1 := []) hS (Jn_0 hP hD hS hA) (va_runS (As := [.int r_1.1]) (rest := []) ⟨hx, hb, hml, hown, hts⟩ (c_L_thrown (l := l) G cy H.size r_1.1 _ rfl) (va_cwS 1 hts gB_clear_L_thrown rfl rfl rfl ddN_L_thrown ⟨(Nat.le_of_ble_eq_true rfl), (Nat.le_of_ble_eq_true rfl)⟩) (preS_ P_0 hK (D_0 (A := A)) hN) rfl rfl hl.1 rfl (lv_room (Nat.le_of_ble_eq_true rfl)) dL_clear_138 ⟨by show cc + 3 + 0 ≤ 26; omega, by show 6 * (cc + 3) + 0 ≤ 156; omega⟩) (fun H locs hP hD hS => ?_)
    have hP : va_P G vwCl (oW cy b_0 bk_0 r_1.2 ++ oW cy b_1 bk_1 c_o_1) H := hP
    have hD : va_D A (oW cy b_0 bk_0 r_1.2 ++ oW cy b_1 bk_1 c_o_1) := hD
    refine lv_if_ne (tgt := 168) hx hb dL_clear_141 (by decide) (fun h_2 => ?_) (fun h_2 => ?_)
    · have hf := ip_ (bI_n0 h_2) hf
      refine lv_iconst (v := 0) hx hb dL_clear_168 (by decide) ?_
      refine W.widen (k := 26) (n := 156) (by omega) (by omega) ?_
      obtain rfl := Option.some.inj hf
      exact kr_z (V := bI false) hx hb hr hlocks (bI_nar _) rfl hP hK hD hN hS hS.2.2 dL_clear_169
    · have hf := in_ (bI_0 h_2) hf
      refine lv_aload_n hx hb dL_clear_144 rfl (lv_at hl 1 rfl) ?_
      refine lv_bipush (v := 13) hx hb dL_clear_145 (by decide) ?_
      refine lv_iconst (v := 0) hx hb dL_clear_147 (by decide) ?_
      refine lv_iconst (v := 0) hx hb dL_clear_148 (by decide) ?_
      refine lv_iconst (v := 0) hx hb dL_clear_149 (by decide) ?_
      obtain ⟨r_3, hh_r_3, hf⟩ := obd_some hf
      refine kb_i6 (V := r_3.1) (w1 := oW cy b_1 bk_1 r_3.2) hS (Nat.le_of_ble_eq_true rfl) (Jn_r hP hD hS hA) (va_runS (As := [.ref (b_1 0), .int 13, .int 0, .int 0, .int 0]) (rest := []) ⟨hx, hb, hml, hown, hts⟩ (c_L_call (l := l) hfl G cy b_1 bk_1 H.size c_o_1 13 0 0 0 n r_3 hh_r_3) (va_cwS 5 hts gB_clear_L_call rfl rfl rfl ddN_L_call ⟨(Nat.le_of_ble_eq_true rfl), (Nat.le_of_ble_eq_true rfl)⟩) (preSN hXN (hE.kept hS.2.1) (Jn_r hP hD hS hA).1 (P_r hP) hK (D_r hD) hN) rfl rfl hl.1 rfl (lv_room (Nat.le_of_ble_eq_true rfl)) dL_clear_150 ⟨by show cc + 3 + 3 ≤ 26; omega, by show 6 * (cc + 3) + 18 ≤ 156; omega⟩) (fun H locs hP hD hS => ?_)
      have hP : va_P G vwCl (oW cy b_0 bk_0 r_1.2 ++ oW cy b_1 bk_1 r_3.2) H := hP
      have hD : va_D A (oW cy b_0 bk_0 r_1.2 ++ oW cy b_1 bk_1 r_3.2) := hD
      refine kb_i (V := bI (f_L_thrown r_3.1)) (w1 := []) hS (Jn_0 hP hD hS hA) (va_runS (As := [.int r_3.1]) (rest := []) ⟨hx, hb, hml, hown, hts⟩ (c_L_thrown (l := l) G cy H.size r_3.1 _ rfl) (va_cwS 1 hts gB_clear_L_thrown rfl rfl rfl ddN_L_thrown ⟨(Nat.le_of_ble_eq_true rfl), (Nat.le_of_ble_eq_true rfl)⟩) (preS_ P_0 hK (D_0 (A := A)) hN) rfl rfl hl.1 rfl (lv_room (Nat.le_of_ble_eq_true rfl)) dL_clear_153 ⟨by show cc + 6 + 0 ≤ 26; omega, by show 6 * (cc + 6) + 0 ≤ 156; omega⟩) (fun H locs hP hD hS => ?_)
      have hP : va_P G vwCl (oW cy b_0 bk_0 r_1.2 ++ oW cy b_1 bk_1 r_3.2) H := hP
      have hD : va_D A (oW cy b_0 bk_0 r_1.2 ++ oW cy b_1 bk_1 r_3.2) := hD
      refine lv_if_ne (tgt := 168) hx hb dL_clear_156 (by decide) (fun h_4 => ?_) (fun h_4 => ?_)
      · have hf := ip_ (bI_n0 h_4) hf
        refine lv_iconst (v := 0) hx hb dL_clear_168 (by decide) ?_
        refine W.widen (k := 26) (n := 156) (by omega) (by omega) ?_
        obtain rfl := Option.some.inj hf
        exact kr_z (V := bI false) hx hb hr hlocks (bI_nar _) rfl hP hK hD hN hS hS.2.2 dL_clear_169
      · have hf := in_ (bI_0 h_4) hf
        refine lv_iload hx hb dL_clear_159 (lv_at hl 2 rfl) ?_
        refine lv_if_eq (tgt := 168) hx hb dL_clear_161 (by decide) (fun h_5 => ?_) (fun h_5 => ?_)
        · have hf := ip_ h_5 hf
          refine lv_iconst (v := 0) hx hb dL_clear_168 (by decide) ?_
          refine W.widen (k := 26) (n := 156) (by omega) (by omega) ?_
          obtain rfl := Option.some.inj hf
          exact kr_z (V := bI false) hx hb hr hlocks (bI_nar _) rfl hP hK hD hN hS hS.2.2 dL_clear_169
        · have hf := in_ h_5 hf
          refine lv_iconst (v := 1) hx hb dL_clear_164 (by decide) ?_
          refine lv_goto (tgt := 169) hx hb dL_clear_165 (by decide) ?_
          refine W.widen (k := 26) (n := 156) (by omega) (by omega) ?_
          obtain rfl := Option.some.inj hf
          exact kr_z (V := bI true) hx hb hr hlocks (bI_nar _) rfl hP hK hD hN hS hS.2.2 dL_clear_169
  have bl_90 : ∀ (y2 : Int32), ∀ (y3 : Int32), ∀ (k : Nat), ∀ (c_o_0 : OT) (c_o_1 : OT) (y5 : Int32) (y6 : Int32) (H : Heap) (locs : List Loc) (cc : Nat), cc + (k * 1 + (6)) ≤ 26 → f_L_clear_b90 n y2 y3 k c_o_0 c_o_1 y5 y6 = some R → va_P G vwCl (oW cy b_0 bk_0 c_o_0 ++ oW cy b_1 bk_1 c_o_1) H → va_D A (oW cy b_0 bk_0 c_o_0 ++ oW cy b_1 bk_1 c_o_1) → va_S A s.heap H locs → ∀ (ls : Array Slot), lv_has ls 7 [(0, .ref (b_0 0)), (1, .ref (b_1 0)), (2, .int y2), (3, .int y3), (5, .int y5), (6, .int y6)] → W p l e ({ frames := 11, cells := 26, slots := 156, locals := 218 } : Room) s m [.ref (b_0 0), .ref (b_1 0), .int x2, .int x3, .int x4].toArray below meth c H locs cc (6 * cc) (MQ below (va_Qi (fun r (_ : Unit) => r = bI R.1) (fun _ t => Wd G cy A (oW cy b_0 bk_0 R.2.1 ++ oW cy b_1 bk_1 R.2.2) t) A) [.ref (b_0 0), .ref (b_1 0), .int x2, .int x3, .int x4].toArray s 26 156 A) (F0 m 90 ls []) := by
    intro y2
    intro y3
    intro k
    induction k with
    | zero =>
      intro c_o_0 c_o_1 y5 y6 H locs cc hcc hf; cases hf
    | succ k ih =>
      intro c_o_0 c_o_1 y5 y6 H locs cc hcc hf hP hD hS ls hl
      have hf := (f_L_clear_b90_s n y2 y3 k c_o_0 c_o_1 y5 y6).symm.trans hf
      refine lv_iload hx hb dL_clear_90 (lv_at hl 5 rfl) ?_
      refine lv_iload_n hx hb dL_clear_92 rfl (lv_at hl 3 rfl) ?_
      refine lv_icmp_gt (tgt := 129) hx hb dL_clear_93 (by decide) (fun h_6 => ?_) (fun h_6 => ?_)
      · have hf := ip_ h_6 hf
        exact bl_129  c_o_0 c_o_1 y5 _ _ _ (by omega) hf hP hD hS ls (lv_sub hl [0, 1, 4] rfl)
      · have hf := in_ h_6 hf
        refine lv_iload hx hb dL_clear_96 (lv_at hl 4 rfl) ?_
        refine lv_if_eq (tgt := 129) hx hb dL_clear_98 (by decide) (fun h_7 => ?_) (fun h_7 => ?_)
        · have hf := ip_ h_7 hf
          exact bl_129  c_o_0 c_o_1 y5 _ _ _ (by omega) hf hP hD hS ls (lv_sub hl [0, 1, 4] rfl)
        · have hf := in_ h_7 hf
          refine lv_aload_n hx hb dL_clear_101 rfl (lv_at hl 0 rfl) ?_
          refine lv_iload hx hb dL_clear_102 (lv_at hl 5 rfl) ?_
          obtain ⟨r_8, hh_r_8, hf⟩ := obd_some hf
          refine kbx_l (R0 := r_8) (w1 := fun (u : Int64) => oW cy b_0 bk_0 c_o_0) (V := fun (u : Int64) => u) hS (Nat.le_of_ble_eq_true rfl) (Jn_l hP hD hS hA) (vx_runSX (As := [.ref (b_0 0), .int y6]) (rest := []) ⟨hx, hb, hml, hown, hts⟩ (c_L_looks (l := l) hfl G cy (b_0 0) (b_0 1) (b_0 2) (b_0 3) (b_0 4) (b_0 5) (b_0 6) (b_0 7) (b_0 8) (b_0 9) (b_0 10) (b_0 11) (b_0 12) (b_0 13) bk_0 H.size c_o_0.1 c_o_0.2.1 c_o_0.2.2.1 c_o_0.2.2.2.1 c_o_0.2.2.2.2.1 c_o_0.2.2.2.2.2.1 c_o_0.2.2.2.2.2.2.1 c_o_0.2.2.2.2.2.2.2.1 c_o_0.2.2.2.2.2.2.2.2.1 c_o_0.2.2.2.2.2.2.2.2.2.1 c_o_0.2.2.2.2.2.2.2.2.2.2.1 c_o_0.2.2.2.2.2.2.2.2.2.2.2.1 c_o_0.2.2.2.2.2.2.2.2.2.2.2.2 y6 n r_8 hh_r_8) (vx_cwSW 2 hts gB_clear_L_looks rfl rfl rfl ddN_L_looks ⟨(Nat.le_of_ble_eq_true rfl), (Nat.le_of_ble_eq_true rfl)⟩) (preSN hXN (hE.kept hS.2.1) (Jn_l hP hD hS hA).1 (P_l hP) hK (D_l hD) hN) rfl rfl hl.1 rfl (lv_room (Nat.le_of_ble_eq_true rfl)) dL_clear_104 ⟨by show cc + 1 ≤ 26; omega, by show 6 * cc + 6 ≤ 156; omega⟩) (fun H locs hP hD hS => ?_)
          have hP : va_P G vwCl (oW cy b_0 bk_0 c_o_0 ++ oW cy b_1 bk_1 c_o_1) H := hP
          have hD : va_D A (oW cy b_0 bk_0 c_o_0 ++ oW cy b_1 bk_1 c_o_1) := hD
          refine lv_iload_n hx hb dL_clear_107 rfl (lv_at hl 2 rfl) ?_
          refine lv_lshr (v := (jsr r_8 y2)) hx hb dL_clear_108 rfl ?_
          refine lv_lconst (v := 1) hx hb dL_clear_109 rfl ?_
          refine lv_land hx hb dL_clear_110 ?_
          refine lv_lconst (v := 0) hx hb dL_clear_111 rfl ?_
          refine W.lcmp hx hb dL_clear_112 ?_
          refine lv_if_ne (tgt := 120) hx hb dL_clear_113 (by decide) (fun h_9 => ?_) (fun h_9 => ?_)
          · have hf := in_ (fun q => h_9 (lgc_eq.mpr q)) hf
            refine lv_iconst (v := 0) hx hb dL_clear_120 (by decide) ?_
            refine lv_istore (lv' := [(5, .int 0), (0, .ref (b_0 0)), (1, .ref (b_1 0)), (2, .int y2), (3, .int y3), (6, .int y6)]) hx hb dL_clear_121 hl (by decide) rfl (fun ls hl => ?_)
            refine lv_iinc (v := (y6 + 1)) (lv' := [(6, .int (y6 + 1)), (5, .int 0), (0, .ref (b_0 0)), (1, .ref (b_1 0)), (2, .int y2), (3, .int y3)]) hx hb dL_clear_123 hl (k := 5) rfl rfl (by decide) rfl (fun ls hl => ?_)
            refine lv_goto (tgt := 90) hx hb dL_clear_126 (by decide) ?_
            exact ih c_o_0 c_o_1 0 (y6 + 1) _ _ _ (by omega) hf hP hD hS ls (lv_sub hl [2, 3, 4, 5, 1, 0] rfl)
          · have hf := ip_ (lgc_eq.mp h_9) hf
            refine lv_iconst (v := 1) hx hb dL_clear_116 (by decide) ?_
            refine lv_goto (tgt := 121) hx hb dL_clear_117 (by decide) ?_
            refine lv_istore (lv' := [(5, .int 1), (0, .ref (b_0 0)), (1, .ref (b_1 0)), (2, .int y2), (3, .int y3), (6, .int y6)]) hx hb dL_clear_121 hl (by decide) rfl (fun ls hl => ?_)
            refine lv_iinc (v := (y6 + 1)) (lv' := [(6, .int (y6 + 1)), (5, .int 1), (0, .ref (b_0 0)), (1, .ref (b_1 0)), (2, .int y2), (3, .int y3)]) hx hb dL_clear_123 hl (k := 5) rfl rfl (by decide) rfl (fun ls hl => ?_)
            refine lv_goto (tgt := 90) hx hb dL_clear_126 (by decide) ?_
            exact ih c_o_0 c_o_1 1 (y6 + 1) _ _ _ (by omega) hf hP hD hS ls (lv_sub hl [2, 3, 4, 5, 1, 0] rfl)
  have hl := lv_entry [.ref (b_0 0), .ref (b_1 0), .int x2, .int x3, .int x4] (n := 7) (Nat.le_of_ble_eq_true rfl)
  rw [lg_entry_eq]
  generalize (lg_sl [.ref (b_0 0), .ref (b_1 0), .int x2, .int x3, .int x4] ++ List.replicate (7 - (lg_sl [.ref (b_0 0), .ref (b_1 0), .int x2, .int x3, .int x4]).length) Slot.unset).toArray = ls at hl ⊢
  have hl : lv_has ls 7 [(0, .ref (b_0 0)), (1, .ref (b_1 0)), (2, .int x2), (3, .int x3), (4, .int x4)] := hl
  unfold f_L_clear at hf
  refine W.widen (k := 0) (n := 6 * 0) (Nat.le_refl _) (Nat.le_refl _) ?_
  refine lv_aload_n hx hb dL_clear_0 rfl (lv_at hl 0 rfl) ?_
  refine lv_iconst (v := 4) hx hb dL_clear_1 (by decide) ?_
  refine lv_iload hx hb dL_clear_2 (lv_at hl 4 rfl) ?_
  refine lv_iconst (v := 4) hx hb dL_clear_4 (by decide) ?_
  refine lv_idiv hx hb dL_clear_5 (by decide) ?_
  refine lv_iload hx hb dL_clear_6 (lv_at hl 4 rfl) ?_
  refine lv_iconst (v := 4) hx hb dL_clear_8 (by decide) ?_
  refine lv_irem hx hb dL_clear_9 (by decide) ?_
  refine lv_iconst (v := 0) hx hb dL_clear_10 (by decide) ?_
  obtain ⟨r_10, hh_r_10, hf⟩ := obd_some hf
  refine kb_i6 (V := r_10.1) (w1 := oW cy b_0 bk_0 r_10.2) hS (Nat.le_of_ble_eq_true rfl) (Jn_l hP hD hS hA) (va_runS (As := [.ref (b_0 0), .int 4, .int (x4 / 4), .int (irm x4 4), .int 0]) (rest := []) ⟨hx, hb, hml, hown, hts⟩ (c_L_call (l := l) hfl G cy b_0 bk_0 s.heap.size o_0 4 (x4 / 4) (irm x4 4) 0 n r_10 hh_r_10) (va_cwS 5 hts gB_clear_L_call rfl rfl rfl ddN_L_call ⟨(Nat.le_of_ble_eq_true rfl), (Nat.le_of_ble_eq_true rfl)⟩) (preSN hXN (hE.kept hS.2.1) (Jn_l hP hD hS hA).1 (P_l hP) hK (D_l hD) hN) rfl rfl hl.1 rfl (lv_room (Nat.le_of_ble_eq_true rfl)) dL_clear_11 ⟨by show 0 + 3 ≤ 26; omega, by show 6 * 0 + 18 ≤ 156; omega⟩) (fun H locs hP hD hS => ?_)
  have hP : va_P G vwCl (oW cy b_0 bk_0 r_10.2 ++ oW cy b_1 bk_1 o_1) H := hP
  have hD : va_D A (oW cy b_0 bk_0 r_10.2 ++ oW cy b_1 bk_1 o_1) := hD
  refine lv_iconst (v := (-1)) hx hb dL_clear_14 (by decide) ?_
  refine lv_icmp_eq (tgt := 40) hx hb dL_clear_15 (by decide) (fun h_11 => ?_) (fun h_11 => ?_)
  · have hf := ip_ h_11 hf
    refine lv_iconst (v := 0) hx hb dL_clear_40 (by decide) ?_
    refine W.widen (k := 26) (n := 156) (by omega) (by omega) ?_
    obtain rfl := Option.some.inj hf
    exact kr_z (V := bI false) hx hb hr hlocks (bI_nar _) rfl hP hK hD hN hS hS.2.2 dL_clear_41
  · have hf := in_ h_11 hf
    refine lv_aload_n hx hb dL_clear_18 rfl (lv_at hl 0 rfl) ?_
    refine lv_iconst (v := 3) hx hb dL_clear_19 (by decide) ?_
    refine lv_iload hx hb dL_clear_20 (lv_at hl 4 rfl) ?_
    refine lv_iconst (v := 4) hx hb dL_clear_22 (by decide) ?_
    refine lv_idiv hx hb dL_clear_23 (by decide) ?_
    refine lv_iconst (v := 3) hx hb dL_clear_24 (by decide) ?_
    refine lv_iconst (v := 0) hx hb dL_clear_25 (by decide) ?_
    obtain ⟨r_12, hh_r_12, hf⟩ := obd_some hf
    refine kb_i6 (V := r_12.1) (w1 := oW cy b_0 bk_0 r_12.2) hS (Nat.le_of_ble_eq_true rfl) (Jn_l hP hD hS hA) (va_runS (As := [.ref (b_0 0), .int 3, .int (x4 / 4), .int 3, .int 0]) (rest := []) ⟨hx, hb, hml, hown, hts⟩ (c_L_call (l := l) hfl G cy b_0 bk_0 H.size r_10.2 3 (x4 / 4) 3 0 n r_12 hh_r_12) (va_cwS 5 hts gB_clear_L_call rfl rfl rfl ddN_L_call ⟨(Nat.le_of_ble_eq_true rfl), (Nat.le_of_ble_eq_true rfl)⟩) (preSN hXN (hE.kept hS.2.1) (Jn_l hP hD hS hA).1 (P_l hP) hK (D_l hD) hN) rfl rfl hl.1 rfl (lv_room (Nat.le_of_ble_eq_true rfl)) dL_clear_26 ⟨by show 0 + 3 + 3 ≤ 26; omega, by show 6 * (0 + 3) + 18 ≤ 156; omega⟩) (fun H locs hP hD hS => ?_)
    have hP : va_P G vwCl (oW cy b_0 bk_0 r_12.2 ++ oW cy b_1 bk_1 o_1) H := hP
    have hD : va_D A (oW cy b_0 bk_0 r_12.2 ++ oW cy b_1 bk_1 o_1) := hD
    refine lv_iload hx hb dL_clear_29 (lv_at hl 4 rfl) ?_
    refine lv_iconst (v := 4) hx hb dL_clear_31 (by decide) ?_
    refine lv_irem hx hb dL_clear_32 (by decide) ?_
    refine lv_ishr hx hb dL_clear_33 ?_
    refine lv_iconst (v := 1) hx hb dL_clear_34 (by decide) ?_
    refine lv_iand hx hb dL_clear_35 ?_
    refine lv_iconst (v := 1) hx hb dL_clear_36 (by decide) ?_
    refine lv_icmp_ne (tgt := 42) hx hb dL_clear_37 (by decide) (fun h_13 => ?_) (fun h_13 => ?_)
    · have hf := in_ h_13 hf
      refine lv_aload_n hx hb dL_clear_42 rfl (lv_at hl 0 rfl) ?_
      refine lv_bipush (v := 8) hx hb dL_clear_43 (by decide) ?_
      refine lv_iload hx hb dL_clear_45 (lv_at hl 4 rfl) ?_
      refine lv_iconst (v := 4) hx hb dL_clear_47 (by decide) ?_
      refine lv_idiv hx hb dL_clear_48 (by decide) ?_
      refine lv_iload hx hb dL_clear_49 (lv_at hl 4 rfl) ?_
      refine lv_iconst (v := 4) hx hb dL_clear_51 (by decide) ?_
      refine lv_irem hx hb dL_clear_52 (by decide) ?_
      refine lv_iconst (v := 0) hx hb dL_clear_53 (by decide) ?_
      obtain ⟨r_14, hh_r_14, hf⟩ := obd_some hf
      refine kb_i6 (V := r_14.1) (w1 := oW cy b_0 bk_0 r_14.2) hS (Nat.le_of_ble_eq_true rfl) (Jn_l hP hD hS hA) (va_runS (As := [.ref (b_0 0), .int 8, .int (x4 / 4), .int (irm x4 4), .int 0]) (rest := []) ⟨hx, hb, hml, hown, hts⟩ (c_L_call (l := l) hfl G cy b_0 bk_0 H.size r_12.2 8 (x4 / 4) (irm x4 4) 0 n r_14 hh_r_14) (va_cwS 5 hts gB_clear_L_call rfl rfl rfl ddN_L_call ⟨(Nat.le_of_ble_eq_true rfl), (Nat.le_of_ble_eq_true rfl)⟩) (preSN hXN (hE.kept hS.2.1) (Jn_l hP hD hS hA).1 (P_l hP) hK (D_l hD) hN) rfl rfl hl.1 rfl (lv_room (Nat.le_of_ble_eq_true rfl)) dL_clear_54 ⟨by show 0 + 6 + 3 ≤ 26; omega, by show 6 * (0 + 6) + 18 ≤ 156; omega⟩) (fun H locs hP hD hS => ?_)
      have hP : va_P G vwCl (oW cy b_0 bk_0 r_14.2 ++ oW cy b_1 bk_1 o_1) H := hP
      have hD : va_D A (oW cy b_0 bk_0 r_14.2 ++ oW cy b_1 bk_1 o_1) := hD
      refine lv_iconst (v := 1) hx hb dL_clear_57 (by decide) ?_
      refine lv_icmp_ne (tgt := 84) hx hb dL_clear_58 (by decide) (fun h_15 => ?_) (fun h_15 => ?_)
      · have hf := in_ h_15 hf
        refine lv_iconst (v := 0) hx hb dL_clear_84 (by decide) ?_
        refine lv_istore (lv' := [(5, .int 0), (0, .ref (b_0 0)), (1, .ref (b_1 0)), (2, .int x2), (3, .int x3), (4, .int x4)]) hx hb dL_clear_85 hl (by decide) rfl (fun ls hl => ?_)
        refine lv_iconst (v := 1) hx hb dL_clear_87 (by decide) ?_
        refine lv_istore (lv' := [(6, .int 1), (5, .int 0), (0, .ref (b_0 0)), (1, .ref (b_1 0)), (2, .int x2), (3, .int x3), (4, .int x4)]) hx hb dL_clear_88 hl (by decide) rfl (fun ls hl => ?_)
        exact bl_90 x2 x3 8 r_14.2 o_1 0 1 _ _ _ (by omega) hf hP hD hS ls (lv_sub hl [2, 3, 4, 5, 1, 0] rfl)
      · have hf := ip_ h_15 hf
        refine lv_aload_n hx hb dL_clear_61 rfl (lv_at hl 1 rfl) ?_
        refine lv_bipush (v := 8) hx hb dL_clear_62 (by decide) ?_
        refine lv_iload hx hb dL_clear_64 (lv_at hl 4 rfl) ?_
        refine lv_iconst (v := 4) hx hb dL_clear_66 (by decide) ?_
        refine lv_idiv hx hb dL_clear_67 (by decide) ?_
        refine lv_iload hx hb dL_clear_68 (lv_at hl 4 rfl) ?_
        refine lv_iconst (v := 4) hx hb dL_clear_70 (by decide) ?_
        refine lv_irem hx hb dL_clear_71 (by decide) ?_
        refine lv_iconst (v := 0) hx hb dL_clear_72 (by decide) ?_
        obtain ⟨r_16, hh_r_16, hf⟩ := obd_some hf
        refine kb_i6 (V := r_16.1) (w1 := oW cy b_1 bk_1 r_16.2) hS (Nat.le_of_ble_eq_true rfl) (Jn_r hP hD hS hA) (va_runS (As := [.ref (b_1 0), .int 8, .int (x4 / 4), .int (irm x4 4), .int 0]) (rest := []) ⟨hx, hb, hml, hown, hts⟩ (c_L_call (l := l) hfl G cy b_1 bk_1 H.size o_1 8 (x4 / 4) (irm x4 4) 0 n r_16 hh_r_16) (va_cwS 5 hts gB_clear_L_call rfl rfl rfl ddN_L_call ⟨(Nat.le_of_ble_eq_true rfl), (Nat.le_of_ble_eq_true rfl)⟩) (preSN hXN (hE.kept hS.2.1) (Jn_r hP hD hS hA).1 (P_r hP) hK (D_r hD) hN) rfl rfl hl.1 rfl (lv_room (Nat.le_of_ble_eq_true rfl)) dL_clear_73 ⟨by show 0 + 9 + 3 ≤ 26; omega, by show 6 * (0 + 9) + 18 ≤ 156; omega⟩) (fun H locs hP hD hS => ?_)
        have hP : va_P G vwCl (oW cy b_0 bk_0 r_14.2 ++ oW cy b_1 bk_1 r_16.2) H := hP
        have hD : va_D A (oW cy b_0 bk_0 r_14.2 ++ oW cy b_1 bk_1 r_16.2) := hD
        refine lv_iconst (v := 1) hx hb dL_clear_76 (by decide) ?_
        refine lv_icmp_ne (tgt := 84) hx hb dL_clear_77 (by decide) (fun h_17 => ?_) (fun h_17 => ?_)
        · have hf := in_ h_17 hf
          refine lv_iconst (v := 0) hx hb dL_clear_84 (by decide) ?_
          refine lv_istore (lv' := [(5, .int 0), (0, .ref (b_0 0)), (1, .ref (b_1 0)), (2, .int x2), (3, .int x3), (4, .int x4)]) hx hb dL_clear_85 hl (by decide) rfl (fun ls hl => ?_)
          refine lv_iconst (v := 1) hx hb dL_clear_87 (by decide) ?_
          refine lv_istore (lv' := [(6, .int 1), (5, .int 0), (0, .ref (b_0 0)), (1, .ref (b_1 0)), (2, .int x2), (3, .int x3), (4, .int x4)]) hx hb dL_clear_88 hl (by decide) rfl (fun ls hl => ?_)
          exact bl_90 x2 x3 8 r_14.2 r_16.2 0 1 _ _ _ (by omega) hf hP hD hS ls (lv_sub hl [2, 3, 4, 5, 1, 0] rfl)
        · have hf := ip_ h_17 hf
          refine lv_iconst (v := 1) hx hb dL_clear_80 (by decide) ?_
          refine lv_goto (tgt := 85) hx hb dL_clear_81 (by decide) ?_
          refine lv_istore (lv' := [(5, .int 1), (0, .ref (b_0 0)), (1, .ref (b_1 0)), (2, .int x2), (3, .int x3), (4, .int x4)]) hx hb dL_clear_85 hl (by decide) rfl (fun ls hl => ?_)
          refine lv_iconst (v := 1) hx hb dL_clear_87 (by decide) ?_
          refine lv_istore (lv' := [(6, .int 1), (5, .int 1), (0, .ref (b_0 0)), (1, .ref (b_1 0)), (2, .int x2), (3, .int x3), (4, .int x4)]) hx hb dL_clear_88 hl (by decide) rfl (fun ls hl => ?_)
          exact bl_90 x2 x3 8 r_14.2 r_16.2 1 1 _ _ _ (by omega) hf hP hD hS ls (lv_sub hl [2, 3, 4, 5, 1, 0] rfl)
    · have hf := ip_ h_13 hf
      refine lv_iconst (v := 0) hx hb dL_clear_40 (by decide) ?_
      refine W.widen (k := 26) (n := 156) (by omega) (by omega) ?_
      obtain rfl := Option.some.inj hf
      exact kr_z (V := bI false) hx hb hr hlocks (bI_nar _) rfl hP hK hD hN hS hS.2.2 dL_clear_41
set_option maxHeartbeats 4000000 in
set_option maxRecDepth 100000 in
theorem c_L_scratches {l : Launch} (hfl : l.stackTraces = false) (G : va_G) (cy : Nat → ClassId) (b_0 bk_0 : Nat → Nat) (b_1 bk_1 : Nat → Nat) (sz : Nat) (o_0 : OT) (o_1 : OT) (x2 : Int32) (n : Nat) (R : Bool × OT × OT) (hf : f_L_scratches n o_0 o_1 x2 = some R) : Met l yL_scratches wB_scratches ({ frames := 12, cells := 61, slots := 366, locals := 244 } : Room) (va_Pc [.ref (b_0 0), .ref (b_1 0), .int x2] (pcN G cy (oW cy b_0 bk_0 o_0 ++ oW cy b_1 bk_1 o_1) sz)) (va_Qi (fun r (_ : Unit) => r = bI R.1) (fun _ t => Wd G cy (va_A (oW cy b_0 bk_0 o_0 ++ oW cy b_1 bk_1 o_1) sz) (oW cy b_0 bk_0 R.2.1 ++ oW cy b_1 bk_1 R.2.2) t) (va_A (oW cy b_0 bk_0 o_0 ++ oW cy b_1 bk_1 o_1) sz)) 61 366 (va_A (oW cy b_0 bk_0 o_0 ++ oW cy b_1 bk_1 o_1) sz) := by
  refine Met.ofW (cc := cL_scratches) (maxL := 11) (ret := (some .boolean)) (by decide) rfl ?_
  intro p e s m args below meth c s₁ B hml hv
  obtain ⟨rfl, ⟨⟨hsz, hP, hK, hD0, hN⟩, hE⟩, hXN⟩ := hv
  have hx := B.exec
  have hb := B.bytes
  have hr := B.returns
  have hts := atoms_spec (ws := wB_scratches) B.pre
  have hown : s.vm.findClass RL = some m.cls := findClass_of_methodNamed B.named
  have hlocks := B.notSynchronized
  subst hsz
  have hD := hD0.self (sz := s.heap.size)
  generalize hAe : va_A (oW cy b_0 bk_0 o_0 ++ oW cy b_1 bk_1 o_1) s.heap.size = A at hD hE ⊢
  have hA : ∀ q : Nat, s.heap.size ≤ q → A q := fun q h => by rw [← hAe]; exact Or.inr h
  have hS : va_S A s.heap s.heap [] := va_S.rf
  have hP : va_P G vwCl (oW cy b_0 bk_0 o_0 ++ oW cy b_1 bk_1 o_1) s.heap := hP
  have bl_91 : ∀ (c_o_0 : OT) (c_o_1 : OT) (y4 : Int32) (y5 : Int32) (y6 : Int32) (y7 : Int32) (y8 : Int32) (z0 : Int32) (H : Heap) (locs : List Loc) (cc : Nat), cc + (52) ≤ 61 → f_L_scratches_b91 n c_o_0 c_o_1 y4 y5 y6 y7 y8 z0 = some R → va_P G vwCl (oW cy b_0 bk_0 c_o_0 ++ oW cy b_1 bk_1 c_o_1) H → va_D A (oW cy b_0 bk_0 c_o_0 ++ oW cy b_1 bk_1 c_o_1) → va_S A s.heap H locs → ∀ (ls : Array Slot), lv_has ls 11 [(0, .ref (b_0 0)), (1, .ref (b_1 0)), (4, .int y4), (5, .int y5), (6, .int y6), (7, .int y7), (8, .int y8)] → W p l e ({ frames := 12, cells := 61, slots := 366, locals := 244 } : Room) s m [.ref (b_0 0), .ref (b_1 0), .int x2].toArray below meth c H locs cc (6 * cc) (MQ below (va_Qi (fun r (_ : Unit) => r = bI R.1) (fun _ t => Wd G cy A (oW cy b_0 bk_0 R.2.1 ++ oW cy b_1 bk_1 R.2.2) t) A) [.ref (b_0 0), .ref (b_1 0), .int x2].toArray s 61 366 A) (F0 m 91 ls [.int z0]) := by
    intro c_o_0 c_o_1 y4 y5 y6 y7 y8 z0 H locs cc hcc hf hP hD hS ls hl
    unfold f_L_scratches_b91 at hf
    refine lv_istore (lv' := [(9, .int z0), (0, .ref (b_0 0)), (1, .ref (b_1 0)), (4, .int y4), (5, .int y5), (6, .int y6), (7, .int y7), (8, .int y8)]) hx hb dL_scratches_91 hl (by decide) rfl (fun ls hl => ?_)
    refine lv_iload hx hb dL_scratches_93 (lv_at hl 5 rfl) ?_
    refine lv_iconst (v := (-1)) hx hb dL_scratches_95 (by decide) ?_
    refine lv_icmp_eq (tgt := 113) hx hb dL_scratches_96 (by decide) (fun h_1 => ?_) (fun h_1 => ?_)
    · have hf := ip_ h_1 hf
      refine lv_iconst (v := 1) hx hb dL_scratches_113 (by decide) ?_
      refine lv_goto (tgt := 118) hx hb dL_scratches_114 (by decide) ?_
      refine lv_istore (lv' := [(10, .int 1), (9, .int z0), (0, .ref (b_0 0)), (1, .ref (b_1 0)), (4, .int y4), (5, .int y5), (6, .int y6), (7, .int y7), (8, .int y8)]) hx hb dL_scratches_118 hl (by decide) rfl (fun ls hl => ?_)
      refine lv_iload hx hb dL_scratches_120 (lv_at hl 0 rfl) ?_
      refine lv_if_eq (tgt := 148) hx hb dL_scratches_122 (by decide) (fun h_2 => ?_) (fun h_2 => ?_)
      · exact absurd h_2 (by decide)
      refine lv_iload hx hb dL_scratches_125 (lv_at hl 1 rfl) ?_
      refine lv_if_eq (tgt := 144) hx hb dL_scratches_127 (by decide) (fun h_3 => ?_) (fun h_3 => ?_)
      · have hf := ip_ h_3 hf
        refine lv_iconst (v := 1) hx hb dL_scratches_144 (by decide) ?_
        refine lv_goto (tgt := 149) hx hb dL_scratches_145 (by decide) ?_
        refine W.widen (k := 61) (n := 366) (by omega) (by omega) ?_
        obtain rfl := Option.some.inj hf
        exact kr_z (V := bI true) hx hb hr hlocks (bI_nar _) rfl hP hK hD hN hS hS.2.2 dL_scratches_149
      · have hf := in_ h_3 hf
        refine lv_aload_n hx hb dL_scratches_130 rfl (lv_at hl 2 rfl) ?_
        refine lv_aload_n hx hb dL_scratches_131 rfl (lv_at hl 3 rfl) ?_
        refine lv_iload hx hb dL_scratches_132 (lv_at hl 4 rfl) ?_
        refine lv_iload hx hb dL_scratches_134 (lv_at hl 5 rfl) ?_
        refine lv_iload hx hb dL_scratches_136 (lv_at hl 7 rfl) ?_
        obtain ⟨r_4, hh_r_4, hf⟩ := obd_some hf
        refine kb_i6 (V := bI r_4.1) (w1 := oW cy b_0 bk_0 r_4.2.1 ++ oW cy b_1 bk_1 r_4.2.2) hS (Nat.le_of_ble_eq_true rfl) (Jn_1 hP hD hS hA) (va_runS (As := [.ref (b_0 0), .ref (b_1 0), .int y4, .int y5, .int y7]) (rest := []) ⟨hx, hb, hml, hown, hts⟩ (c_L_clear (l := l) hfl G cy b_0 bk_0 b_1 bk_1 H.size c_o_0 c_o_1 y4 y5 y7 n r_4 hh_r_4) (va_cwS 5 hts gB_scratches_L_clear rfl rfl rfl ddN_L_clear ⟨(Nat.le_of_ble_eq_true rfl), (Nat.le_of_ble_eq_true rfl)⟩) (preSN hXN (hE.kept hS.2.1) (Jn_1 hP hD hS hA).1 hP hK hD hN) rfl rfl hl.1 rfl (lv_room (Nat.le_of_ble_eq_true rfl)) dL_scratches_138 ⟨by show cc + 26 ≤ 61; omega, by show 6 * cc + 156 ≤ 366; omega⟩) (fun H locs hP hD hS => ?_)
        have hP : va_P G vwCl (oW cy b_0 bk_0 r_4.2.1 ++ oW cy b_1 bk_1 r_4.2.2) H := hP
        have hD : va_D A (oW cy b_0 bk_0 r_4.2.1 ++ oW cy b_1 bk_1 r_4.2.2) := hD
        refine lv_if_ne (tgt := 148) hx hb dL_scratches_141 (by decide) (fun h_5 => ?_) (fun h_5 => ?_)
        · have hf := ip_ (bI_n0 h_5) hf
          refine lv_iconst (v := 0) hx hb dL_scratches_148 (by decide) ?_
          refine W.widen (k := 61) (n := 366) (by omega) (by omega) ?_
          obtain rfl := Option.some.inj hf
          exact kr_z (V := bI false) hx hb hr hlocks (bI_nar _) rfl hP hK hD hN hS hS.2.2 dL_scratches_149
        · have hf := in_ (bI_0 h_5) hf
          refine lv_iconst (v := 1) hx hb dL_scratches_144 (by decide) ?_
          refine lv_goto (tgt := 149) hx hb dL_scratches_145 (by decide) ?_
          refine W.widen (k := 61) (n := 366) (by omega) (by omega) ?_
          obtain rfl := Option.some.inj hf
          exact kr_z (V := bI true) hx hb hr hlocks (bI_nar _) rfl hP hK hD hN hS hS.2.2 dL_scratches_149
    · have hf := in_ h_1 hf
      refine lv_aload_n hx hb dL_scratches_99 rfl (lv_at hl 1 rfl) ?_
      refine lv_aload_n hx hb dL_scratches_100 rfl (lv_at hl 2 rfl) ?_
      refine lv_iload hx hb dL_scratches_101 (lv_at hl 3 rfl) ?_
      refine lv_iload hx hb dL_scratches_103 (lv_at hl 4 rfl) ?_
      refine lv_iload hx hb dL_scratches_105 (lv_at hl 7 rfl) ?_
      obtain ⟨r_6, hh_r_6, hf⟩ := obd_some hf
      refine kb_i6 (V := bI r_6.1) (w1 := oW cy b_0 bk_0 r_6.2.1 ++ oW cy b_1 bk_1 r_6.2.2) hS (Nat.le_of_ble_eq_true rfl) (Jn_1 hP hD hS hA) (va_runS (As := [.ref (b_0 0), .ref (b_1 0), .int y4, .int y5, .int y8]) (rest := []) ⟨hx, hb, hml, hown, hts⟩ (c_L_clear (l := l) hfl G cy b_0 bk_0 b_1 bk_1 H.size c_o_0 c_o_1 y4 y5 y8 n r_6 hh_r_6) (va_cwS 5 hts gB_scratches_L_clear rfl rfl rfl ddN_L_clear ⟨(Nat.le_of_ble_eq_true rfl), (Nat.le_of_ble_eq_true rfl)⟩) (preSN hXN (hE.kept hS.2.1) (Jn_1 hP hD hS hA).1 hP hK hD hN) rfl rfl hl.1 rfl (lv_room (Nat.le_of_ble_eq_true rfl)) dL_scratches_107 ⟨by show cc + 26 ≤ 61; omega, by show 6 * cc + 156 ≤ 366; omega⟩) (fun H locs hP hD hS => ?_)
      have hP : va_P G vwCl (oW cy b_0 bk_0 r_6.2.1 ++ oW cy b_1 bk_1 r_6.2.2) H := hP
      have hD : va_D A (oW cy b_0 bk_0 r_6.2.1 ++ oW cy b_1 bk_1 r_6.2.2) := hD
      refine lv_if_eq (tgt := 117) hx hb dL_scratches_110 (by decide) (fun h_7 => ?_) (fun h_7 => ?_)
      · have hf := in_ (bI_0 h_7) hf
        refine lv_iconst (v := 0) hx hb dL_scratches_117 (by decide) ?_
        refine lv_istore (lv' := [(10, .int 0), (9, .int z0), (0, .ref (b_0 0)), (1, .ref (b_1 0)), (4, .int y4), (5, .int y5), (6, .int y6), (7, .int y7), (8, .int y8)]) hx hb dL_scratches_118 hl (by decide) rfl (fun ls hl => ?_)
        refine lv_iload hx hb dL_scratches_120 (lv_at hl 0 rfl) ?_
        refine lv_if_eq (tgt := 148) hx hb dL_scratches_122 (by decide) (fun h_8 => ?_) (fun h_8 => ?_)
        rotate_left
        · exact absurd rfl h_8
        refine lv_iconst (v := 0) hx hb dL_scratches_148 (by decide) ?_
        refine W.widen (k := 61) (n := 366) (by omega) (by omega) ?_
        obtain rfl := Option.some.inj hf
        exact kr_z (V := bI false) hx hb hr hlocks (bI_nar _) rfl hP hK hD hN hS hS.2.2 dL_scratches_149
      · have hf := ip_ (bI_n0 h_7) hf
        refine lv_iconst (v := 1) hx hb dL_scratches_113 (by decide) ?_
        refine lv_goto (tgt := 118) hx hb dL_scratches_114 (by decide) ?_
        refine lv_istore (lv' := [(10, .int 1), (9, .int z0), (0, .ref (b_0 0)), (1, .ref (b_1 0)), (4, .int y4), (5, .int y5), (6, .int y6), (7, .int y7), (8, .int y8)]) hx hb dL_scratches_118 hl (by decide) rfl (fun ls hl => ?_)
        refine lv_iload hx hb dL_scratches_120 (lv_at hl 0 rfl) ?_
        refine lv_if_eq (tgt := 148) hx hb dL_scratches_122 (by decide) (fun h_9 => ?_) (fun h_9 => ?_)
        · exact absurd h_9 (by decide)
        refine lv_iload hx hb dL_scratches_125 (lv_at hl 1 rfl) ?_
        refine lv_if_eq (tgt := 144) hx hb dL_scratches_127 (by decide) (fun h_10 => ?_) (fun h_10 => ?_)
        · have hf := ip_ h_10 hf
          refine lv_iconst (v := 1) hx hb dL_scratches_144 (by decide) ?_
          refine lv_goto (tgt := 149) hx hb dL_scratches_145 (by decide) ?_
          refine W.widen (k := 61) (n := 366) (by omega) (by omega) ?_
          obtain rfl := Option.some.inj hf
          exact kr_z (V := bI true) hx hb hr hlocks (bI_nar _) rfl hP hK hD hN hS hS.2.2 dL_scratches_149
        · have hf := in_ h_10 hf
          refine lv_aload_n hx hb dL_scratches_130 rfl (lv_at hl 2 rfl) ?_
          refine lv_aload_n hx hb dL_scratches_131 rfl (lv_at hl 3 rfl) ?_
          refine lv_iload hx hb dL_scratches_132 (lv_at hl 4 rfl) ?_
          refine lv_iload hx hb dL_scratches_134 (lv_at hl 5 rfl) ?_
          refine lv_iload hx hb dL_scratches_136 (lv_at hl 7 rfl) ?_
          obtain ⟨r_11, hh_r_11, hf⟩ := obd_some hf
          refine kb_i6 (V := bI r_11.1) (w1 := oW cy b_0 bk_0 r_11.2.1 ++ oW cy b_1 bk_1 r_11.2.2) hS (Nat.le_of_ble_eq_true rfl) (Jn_1 hP hD hS hA) (va_runS (As := [.ref (b_0 0), .ref (b_1 0), .int y4, .int y5, .int y7]) (rest := []) ⟨hx, hb, hml, hown, hts⟩ (c_L_clear (l := l) hfl G cy b_0 bk_0 b_1 bk_1 H.size r_6.2.1 r_6.2.2 y4 y5 y7 n r_11 hh_r_11) (va_cwS 5 hts gB_scratches_L_clear rfl rfl rfl ddN_L_clear ⟨(Nat.le_of_ble_eq_true rfl), (Nat.le_of_ble_eq_true rfl)⟩) (preSN hXN (hE.kept hS.2.1) (Jn_1 hP hD hS hA).1 hP hK hD hN) rfl rfl hl.1 rfl (lv_room (Nat.le_of_ble_eq_true rfl)) dL_scratches_138 ⟨by show cc + 26 + 26 ≤ 61; omega, by show 6 * (cc + 26) + 156 ≤ 366; omega⟩) (fun H locs hP hD hS => ?_)
          have hP : va_P G vwCl (oW cy b_0 bk_0 r_11.2.1 ++ oW cy b_1 bk_1 r_11.2.2) H := hP
          have hD : va_D A (oW cy b_0 bk_0 r_11.2.1 ++ oW cy b_1 bk_1 r_11.2.2) := hD
          refine lv_if_ne (tgt := 148) hx hb dL_scratches_141 (by decide) (fun h_12 => ?_) (fun h_12 => ?_)
          · have hf := ip_ (bI_n0 h_12) hf
            refine lv_iconst (v := 0) hx hb dL_scratches_148 (by decide) ?_
            refine W.widen (k := 61) (n := 366) (by omega) (by omega) ?_
            obtain rfl := Option.some.inj hf
            exact kr_z (V := bI false) hx hb hr hlocks (bI_nar _) rfl hP hK hD hN hS hS.2.2 dL_scratches_149
          · have hf := in_ (bI_0 h_12) hf
            refine lv_iconst (v := 1) hx hb dL_scratches_144 (by decide) ?_
            refine lv_goto (tgt := 149) hx hb dL_scratches_145 (by decide) ?_
            refine W.widen (k := 61) (n := 366) (by omega) (by omega) ?_
            obtain rfl := Option.some.inj hf
            exact kr_z (V := bI true) hx hb hr hlocks (bI_nar _) rfl hP hK hD hN hS hS.2.2 dL_scratches_149
  have hl := lv_entry [.ref (b_0 0), .ref (b_1 0), .int x2] (n := 11) (Nat.le_of_ble_eq_true rfl)
  rw [lg_entry_eq]
  generalize (lg_sl [.ref (b_0 0), .ref (b_1 0), .int x2] ++ List.replicate (11 - (lg_sl [.ref (b_0 0), .ref (b_1 0), .int x2]).length) Slot.unset).toArray = ls at hl ⊢
  have hl : lv_has ls 11 [(0, .ref (b_0 0)), (1, .ref (b_1 0)), (2, .int x2)] := hl
  unfold f_L_scratches at hf
  refine W.widen (k := 0) (n := 6 * 0) (Nat.le_refl _) (Nat.le_refl _) ?_
  refine lv_aload_n hx hb dL_scratches_0 rfl (lv_at hl 0 rfl) ?_
  refine lv_iconst (v := 2) hx hb dL_scratches_1 (by decide) ?_
  refine lv_iconst (v := 0) hx hb dL_scratches_2 (by decide) ?_
  refine lv_iconst (v := 0) hx hb dL_scratches_3 (by decide) ?_
  refine lv_iconst (v := 0) hx hb dL_scratches_4 (by decide) ?_
  obtain ⟨r_13, hh_r_13, hf⟩ := obd_some hf
  refine kb_i6 (V := r_13.1) (w1 := oW cy b_0 bk_0 r_13.2) hS (Nat.le_of_ble_eq_true rfl) (Jn_l hP hD hS hA) (va_runS (As := [.ref (b_0 0), .int 2, .int 0, .int 0, .int 0]) (rest := []) ⟨hx, hb, hml, hown, hts⟩ (c_L_call (l := l) hfl G cy b_0 bk_0 s.heap.size o_0 2 0 0 0 n r_13 hh_r_13) (va_cwS 5 hts gB_scratches_L_call rfl rfl rfl ddN_L_call ⟨(Nat.le_of_ble_eq_true rfl), (Nat.le_of_ble_eq_true rfl)⟩) (preSN hXN (hE.kept hS.2.1) (Jn_l hP hD hS hA).1 (P_l hP) hK (D_l hD) hN) rfl rfl hl.1 rfl (lv_room (Nat.le_of_ble_eq_true rfl)) dL_scratches_5 ⟨by show 0 + 3 ≤ 61; omega, by show 6 * 0 + 18 ≤ 366; omega⟩) (fun H locs hP hD hS => ?_)
  have hP : va_P G vwCl (oW cy b_0 bk_0 r_13.2 ++ oW cy b_1 bk_1 o_1) H := hP
  have hD : va_D A (oW cy b_0 bk_0 r_13.2 ++ oW cy b_1 bk_1 o_1) := hD
  refine lv_aload_n hx hb dL_scratches_8 rfl (lv_at hl 0 rfl) ?_
  refine lv_iconst (v := 2) hx hb dL_scratches_9 (by decide) ?_
  refine lv_iconst (v := 1) hx hb dL_scratches_10 (by decide) ?_
  refine lv_iconst (v := 0) hx hb dL_scratches_11 (by decide) ?_
  refine lv_iconst (v := 0) hx hb dL_scratches_12 (by decide) ?_
  obtain ⟨r_14, hh_r_14, hf⟩ := obd_some hf
  refine kb_i6 (V := r_14.1) (w1 := oW cy b_0 bk_0 r_14.2) hS (Nat.le_of_ble_eq_true rfl) (Jn_l hP hD hS hA) (va_runS (As := [.ref (b_0 0), .int 2, .int 1, .int 0, .int 0]) (rest := [.int r_13.1]) ⟨hx, hb, hml, hown, hts⟩ (c_L_call (l := l) hfl G cy b_0 bk_0 H.size r_13.2 2 1 0 0 n r_14 hh_r_14) (va_cwS 5 hts gB_scratches_L_call rfl rfl rfl ddN_L_call ⟨(Nat.le_of_ble_eq_true rfl), (Nat.le_of_ble_eq_true rfl)⟩) (preSN hXN (hE.kept hS.2.1) (Jn_l hP hD hS hA).1 (P_l hP) hK (D_l hD) hN) rfl rfl hl.1 rfl (lv_room (Nat.le_of_ble_eq_true rfl)) dL_scratches_13 ⟨by show 0 + 3 + 3 ≤ 61; omega, by show 6 * (0 + 3) + 18 ≤ 366; omega⟩) (fun H locs hP hD hS => ?_)
  have hP : va_P G vwCl (oW cy b_0 bk_0 r_14.2 ++ oW cy b_1 bk_1 o_1) H := hP
  have hD : va_D A (oW cy b_0 bk_0 r_14.2 ++ oW cy b_1 bk_1 o_1) := hD
  refine lv_imul hx hb dL_scratches_16 ?_
  refine lv_istore_n (lv' := [(3, .int (r_13.1 * r_14.1)), (0, .ref (b_0 0)), (1, .ref (b_1 0)), (2, .int x2)]) hx hb dL_scratches_17 rfl hl (by decide) rfl (fun ls hl => ?_)
  refine lv_iload_n hx hb dL_scratches_18 rfl (lv_at hl 3 rfl) ?_
  refine lv_iload_n hx hb dL_scratches_19 rfl (lv_at hl 0 rfl) ?_
  by_cases q_15 : (r_13.1 * r_14.1) = 0
  · have hf := ip_ q_15 hf; cases hf
  have hf := in_ q_15 hf
  refine lv_irem hx hb dL_scratches_20 q_15 ?_
  refine lv_istore (lv' := [(4, .int (irm x2 (r_13.1 * r_14.1))), (3, .int (r_13.1 * r_14.1)), (0, .ref (b_0 0)), (1, .ref (b_1 0)), (2, .int x2)]) hx hb dL_scratches_21 hl (by decide) rfl (fun ls hl => ?_)
  refine lv_iconst (v := 1) hx hb dL_scratches_23 (by decide) ?_
  refine lv_iload_n hx hb dL_scratches_24 rfl (lv_at hl 4 rfl) ?_
  refine lv_bipush (v := 64) hx hb dL_scratches_25 (by decide) ?_
  refine lv_idiv hx hb dL_scratches_27 (by decide) ?_
  refine lv_bipush (v := 6) hx hb dL_scratches_28 (by decide) ?_
  refine lv_irem hx hb dL_scratches_30 (by decide) ?_
  refine lv_iadd hx hb dL_scratches_31 ?_
  refine lv_istore (lv' := [(5, .int (1 + (irm (x2 / 64) 6))), (4, .int (irm x2 (r_13.1 * r_14.1))), (3, .int (r_13.1 * r_14.1)), (0, .ref (b_0 0)), (1, .ref (b_1 0)), (2, .int x2)]) hx hb dL_scratches_32 hl (by decide) rfl (fun ls hl => ?_)
  refine lv_aload_n hx hb dL_scratches_34 rfl (lv_at hl 3 rfl) ?_
  refine lv_bipush (v := 17) hx hb dL_scratches_35 (by decide) ?_
  refine lv_iload hx hb dL_scratches_37 (lv_at hl 1 rfl) ?_
  refine lv_iload hx hb dL_scratches_39 (lv_at hl 0 rfl) ?_
  refine lv_iconst (v := 0) hx hb dL_scratches_41 (by decide) ?_
  obtain ⟨r_16, hh_r_16, hf⟩ := obd_some hf
  refine kb_i6 (V := r_16.1) (w1 := oW cy b_0 bk_0 r_16.2) hS (Nat.le_of_ble_eq_true rfl) (Jn_l hP hD hS hA) (va_runS (As := [.ref (b_0 0), .int 17, .int (irm x2 (r_13.1 * r_14.1)), .int (1 + (irm (x2 / 64) 6)), .int 0]) (rest := []) ⟨hx, hb, hml, hown, hts⟩ (c_L_call (l := l) hfl G cy b_0 bk_0 H.size r_14.2 17 (irm x2 (r_13.1 * r_14.1)) (1 + (irm (x2 / 64) 6)) 0 n r_16 hh_r_16) (va_cwS 5 hts gB_scratches_L_call rfl rfl rfl ddN_L_call ⟨(Nat.le_of_ble_eq_true rfl), (Nat.le_of_ble_eq_true rfl)⟩) (preSN hXN (hE.kept hS.2.1) (Jn_l hP hD hS hA).1 (P_l hP) hK (D_l hD) hN) rfl rfl hl.1 rfl (lv_room (Nat.le_of_ble_eq_true rfl)) dL_scratches_42 ⟨by show 0 + 6 + 3 ≤ 61; omega, by show 6 * (0 + 6) + 18 ≤ 366; omega⟩) (fun H locs hP hD hS => ?_)
  have hP : va_P G vwCl (oW cy b_0 bk_0 r_16.2 ++ oW cy b_1 bk_1 o_1) H := hP
  have hD : va_D A (oW cy b_0 bk_0 r_16.2 ++ oW cy b_1 bk_1 o_1) := hD
  refine lv_istore (lv' := [(6, .int r_16.1), (5, .int (1 + (irm (x2 / 64) 6))), (4, .int (irm x2 (r_13.1 * r_14.1))), (3, .int (r_13.1 * r_14.1)), (0, .ref (b_0 0)), (1, .ref (b_1 0)), (2, .int x2)]) hx hb dL_scratches_45 hl (by decide) rfl (fun ls hl => ?_)
  refine lv_iload_n hx hb dL_scratches_47 rfl (lv_at hl 6 rfl) ?_
  refine lv_sipush (v := 400) hx hb dL_scratches_48 (by decide) ?_
  refine lv_idiv hx hb dL_scratches_51 (by decide) ?_
  refine lv_iconst (v := 4) hx hb dL_scratches_52 (by decide) ?_
  refine lv_iload_n hx hb dL_scratches_53 rfl (lv_at hl 3 rfl) ?_
  refine lv_imul hx hb dL_scratches_54 ?_
  by_cases q_17 : (4 * (r_13.1 * r_14.1)) = 0
  · have hf := ip_ q_17 hf; cases hf
  have hf := in_ q_17 hf
  refine lv_irem hx hb dL_scratches_55 q_17 ?_
  refine lv_istore (lv' := [(7, .int (irm (x2 / 400) (4 * (r_13.1 * r_14.1)))), (6, .int r_16.1), (5, .int (1 + (irm (x2 / 64) 6))), (4, .int (irm x2 (r_13.1 * r_14.1))), (3, .int (r_13.1 * r_14.1)), (0, .ref (b_0 0)), (1, .ref (b_1 0)), (2, .int x2)]) hx hb dL_scratches_56 hl (by decide) rfl (fun ls hl => ?_)
  refine lv_iload hx hb dL_scratches_58 (lv_at hl 1 rfl) ?_
  refine lv_iconst (v := (-1)) hx hb dL_scratches_60 (by decide) ?_
  refine lv_icmp_ne (tgt := 69) hx hb dL_scratches_61 (by decide) (fun h_18 => ?_) (fun h_18 => ?_)
  · have hf := in_ h_18 hf
    refine lv_iload hx hb dL_scratches_69 (lv_at hl 1 rfl) ?_
    refine lv_istore (lv' := [(8, .int r_16.1), (7, .int (irm (x2 / 400) (4 * (r_13.1 * r_14.1)))), (6, .int r_16.1), (5, .int (1 + (irm (x2 / 64) 6))), (4, .int (irm x2 (r_13.1 * r_14.1))), (3, .int (r_13.1 * r_14.1)), (0, .ref (b_0 0)), (1, .ref (b_1 0)), (2, .int x2)]) hx hb dL_scratches_71 hl (by decide) rfl (fun ls hl => ?_)
    refine lv_iload hx hb dL_scratches_73 (lv_at hl 2 rfl) ?_
    refine lv_iconst (v := (-1)) hx hb dL_scratches_75 (by decide) ?_
    refine lv_icmp_eq (tgt := 86) hx hb dL_scratches_76 (by decide) (fun h_19 => ?_) (fun h_19 => ?_)
    · have hf := ip_ h_19 hf
      refine lv_iconst (v := 1) hx hb dL_scratches_86 (by decide) ?_
      refine lv_goto (tgt := 91) hx hb dL_scratches_87 (by decide) ?_
      exact bl_91  r_16.2 o_1 (irm x2 (r_13.1 * r_14.1)) (1 + (irm (x2 / 64) 6)) r_16.1 (irm (x2 / 400) (4 * (r_13.1 * r_14.1))) r_16.1 1 _ _ _ (by omega) hf hP hD hS ls (lv_sub hl [6, 7, 4, 3, 2, 1, 0] rfl)
    · have hf := in_ h_19 hf
      refine lv_iload hx hb dL_scratches_79 (lv_at hl 1 rfl) ?_
      refine lv_iload hx hb dL_scratches_81 (lv_at hl 2 rfl) ?_
      refine lv_icmp_ge (tgt := 90) hx hb dL_scratches_83 (by decide) (fun h_20 => ?_) (fun h_20 => ?_)
      · have hf := ip_ h_20 hf
        refine lv_iconst (v := 0) hx hb dL_scratches_90 (by decide) ?_
        exact bl_91  r_16.2 o_1 (irm x2 (r_13.1 * r_14.1)) (1 + (irm (x2 / 64) 6)) r_16.1 (irm (x2 / 400) (4 * (r_13.1 * r_14.1))) r_16.1 0 _ _ _ (by omega) hf hP hD hS ls (lv_sub hl [6, 7, 4, 3, 2, 1, 0] rfl)
      · have hf := in_ h_20 hf
        refine lv_iconst (v := 1) hx hb dL_scratches_86 (by decide) ?_
        refine lv_goto (tgt := 91) hx hb dL_scratches_87 (by decide) ?_
        exact bl_91  r_16.2 o_1 (irm x2 (r_13.1 * r_14.1)) (1 + (irm (x2 / 64) 6)) r_16.1 (irm (x2 / 400) (4 * (r_13.1 * r_14.1))) r_16.1 1 _ _ _ (by omega) hf hP hD hS ls (lv_sub hl [6, 7, 4, 3, 2, 1, 0] rfl)
  · have hf := ip_ h_18 hf
    refine lv_iload hx hb dL_scratches_64 (lv_at hl 0 rfl) ?_
    refine lv_goto (tgt := 71) hx hb dL_scratches_66 (by decide) ?_
    refine lv_istore (lv' := [(8, .int (irm (x2 / 400) (4 * (r_13.1 * r_14.1)))), (7, .int (irm (x2 / 400) (4 * (r_13.1 * r_14.1)))), (6, .int r_16.1), (5, .int (1 + (irm (x2 / 64) 6))), (4, .int (irm x2 (r_13.1 * r_14.1))), (3, .int (r_13.1 * r_14.1)), (0, .ref (b_0 0)), (1, .ref (b_1 0)), (2, .int x2)]) hx hb dL_scratches_71 hl (by decide) rfl (fun ls hl => ?_)
    refine lv_iload hx hb dL_scratches_73 (lv_at hl 2 rfl) ?_
    refine lv_iconst (v := (-1)) hx hb dL_scratches_75 (by decide) ?_
    refine lv_icmp_eq (tgt := 86) hx hb dL_scratches_76 (by decide) (fun h_21 => ?_) (fun h_21 => ?_)
    · have hf := ip_ h_21 hf
      refine lv_iconst (v := 1) hx hb dL_scratches_86 (by decide) ?_
      refine lv_goto (tgt := 91) hx hb dL_scratches_87 (by decide) ?_
      exact bl_91  r_16.2 o_1 (irm x2 (r_13.1 * r_14.1)) (1 + (irm (x2 / 64) 6)) r_16.1 (irm (x2 / 400) (4 * (r_13.1 * r_14.1))) (irm (x2 / 400) (4 * (r_13.1 * r_14.1))) 1 _ _ _ (by omega) hf hP hD hS ls (lv_sub hl [6, 7, 4, 3, 2, 1, 0] rfl)
    · have hf := in_ h_21 hf
      refine lv_iload hx hb dL_scratches_79 (lv_at hl 1 rfl) ?_
      refine lv_iload hx hb dL_scratches_81 (lv_at hl 2 rfl) ?_
      refine lv_icmp_ge (tgt := 90) hx hb dL_scratches_83 (by decide) (fun h_22 => ?_) (fun h_22 => ?_)
      · have hf := ip_ h_22 hf
        refine lv_iconst (v := 0) hx hb dL_scratches_90 (by decide) ?_
        exact bl_91  r_16.2 o_1 (irm x2 (r_13.1 * r_14.1)) (1 + (irm (x2 / 64) 6)) r_16.1 (irm (x2 / 400) (4 * (r_13.1 * r_14.1))) (irm (x2 / 400) (4 * (r_13.1 * r_14.1))) 0 _ _ _ (by omega) hf hP hD hS ls (lv_sub hl [6, 7, 4, 3, 2, 1, 0] rfl)
      · have hf := in_ h_22 hf
        refine lv_iconst (v := 1) hx hb dL_scratches_86 (by decide) ?_
        refine lv_goto (tgt := 91) hx hb dL_scratches_87 (by decide) ?_
        exact bl_91  r_16.2 o_1 (irm x2 (r_13.1 * r_14.1)) (1 + (irm (x2 / 64) 6)) r_16.1 (irm (x2 / 400) (4 * (r_13.1 * r_14.1))) (irm (x2 / 400) (4 * (r_13.1 * r_14.1))) 1 _ _ _ (by omega) hf hP hD hS ls (lv_sub hl [6, 7, 4, 3, 2, 1, 0] rfl)
