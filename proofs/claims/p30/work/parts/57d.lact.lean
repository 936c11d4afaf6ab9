set_option maxHeartbeats 4000000 in
set_option maxRecDepth 100000 in
theorem c_L_act {l : Launch} (hfl : l.stackTraces = false) (G : va_G) (cy : Nat → ClassId) (b_0 bk_0 : Nat → Nat) (sz : Nat) (o_0 : OT) (x1 : Int32) (n : Nat) (R : Int32 × OT) (hf : f_L_act n o_0 x1 = some R) : Met l yL_act wB_act ({ frames := 11, cells := 12, slots := 72, locals := 218 } : Room) (va_Pc [.ref (b_0 0), .int x1] (pcN G cy (oW cy b_0 bk_0 o_0) sz)) (va_Qi (fun r (_ : Unit) => r = R.1) (fun _ t => Wd G cy (va_A (oW cy b_0 bk_0 o_0) sz) (oW cy b_0 bk_0 R.2) t) (va_A (oW cy b_0 bk_0 o_0) sz)) 12 72 (va_A (oW cy b_0 bk_0 o_0) sz) := by
  refine Met.ofW (cc := cL_act) (maxL := 5) (ret := (some .int)) (by decide) rfl ?_
  intro p e s m args below meth c s₁ B hml hv
  obtain ⟨rfl, ⟨⟨hsz, hP, hK, hD0, hN⟩, hE⟩, hXN⟩ := hv
  have hx := B.exec
  have hb := B.bytes
  have hr := B.returns
  have hts := atoms_spec (ws := wB_act) B.pre
  have hown : s.vm.findClass RL = some m.cls := findClass_of_methodNamed B.named
  have hlocks := B.notSynchronized
  subst hsz
  have hD := hD0.self (sz := s.heap.size)
  generalize hAe : va_A (oW cy b_0 bk_0 o_0) s.heap.size = A at hD hE ⊢
  have hA : ∀ q : Nat, s.heap.size ≤ q → A q := fun q h => by rw [← hAe]; exact Or.inr h
  have hS : va_S A s.heap s.heap [] := va_S.rf
  have hP : va_P G vwCl (oW cy b_0 bk_0 o_0) s.heap := hP
  have hl := lv_entry [.ref (b_0 0), .int x1] (n := 5) (Nat.le_of_ble_eq_true rfl)
  rw [lg_entry_eq]
  generalize (lg_sl [.ref (b_0 0), .int x1] ++ List.replicate (5 - (lg_sl [.ref (b_0 0), .int x1]).length) Slot.unset).toArray = ls at hl ⊢
  have hl : lv_has ls 5 [(0, .ref (b_0 0)), (1, .int x1)] := hl
  unfold f_L_act at hf
  refine W.widen (k := 0) (n := 6 * 0) (Nat.le_refl _) (Nat.le_refl _) ?_
  refine lv_iload_n hx hb dL_act_0 rfl (lv_at hl 1 rfl) ?_
  refine lv_bipush (v := 16) hx hb dL_act_1 (by decide) ?_
  refine lv_idiv hx hb dL_act_3 (by decide) ?_
  refine lv_istore_n (lv' := [(2, .int (x1 / 16)), (0, .ref (b_0 0)), (1, .int x1)]) hx hb dL_act_4 rfl hl (by decide) rfl (fun ls hl => ?_)
  refine lv_aload_n hx hb dL_act_5 rfl (lv_at hl 1 rfl) ?_
  refine lv_iconst (v := 2) hx hb dL_act_6 (by decide) ?_
  refine lv_iconst (v := 0) hx hb dL_act_7 (by decide) ?_
  refine lv_iconst (v := 0) hx hb dL_act_8 (by decide) ?_
  refine lv_iconst (v := 0) hx hb dL_act_9 (by decide) ?_
  obtain ⟨r_1, hh_r_1, hf⟩ := obd_some hf
  refine kb_i6 (V := r_1.1) (w1 := oW cy b_0 bk_0 r_1.2) hS (Nat.le_of_ble_eq_true rfl) (Jn_1 hP hD hS hA) (va_runS (As := [.ref (b_0 0), .int 2, .int 0, .int 0, .int 0]) (rest := []) ⟨hx, hb, hml, hown, hts⟩ (c_L_call (l := l) hfl G cy b_0 bk_0 s.heap.size o_0 2 0 0 0 n r_1 hh_r_1) (va_cwS 5 hts gB_act_L_call rfl rfl rfl ddN_L_call ⟨(Nat.le_of_ble_eq_true rfl), (Nat.le_of_ble_eq_true rfl)⟩) (preSN hXN (hE.kept hS.2.1) (Jn_1 hP hD hS hA).1 hP hK hD hN) rfl rfl hl.1 rfl (lv_room (Nat.le_of_ble_eq_true rfl)) dL_act_10 ⟨by show 0 + 3 ≤ 12; omega, by show 6 * 0 + 18 ≤ 72; omega⟩) (fun H locs hP hD hS => ?_)
  have hP : va_P G vwCl (oW cy b_0 bk_0 r_1.2) H := hP
  have hD : va_D A (oW cy b_0 bk_0 r_1.2) := hD
  refine lv_aload_n hx hb dL_act_13 rfl (lv_at hl 1 rfl) ?_
  refine lv_iconst (v := 2) hx hb dL_act_14 (by decide) ?_
  refine lv_iconst (v := 1) hx hb dL_act_15 (by decide) ?_
  refine lv_iconst (v := 0) hx hb dL_act_16 (by decide) ?_
  refine lv_iconst (v := 0) hx hb dL_act_17 (by decide) ?_
  obtain ⟨r_2, hh_r_2, hf⟩ := obd_some hf
  refine kb_i6 (V := r_2.1) (w1 := oW cy b_0 bk_0 r_2.2) hS (Nat.le_of_ble_eq_true rfl) (Jn_1 hP hD hS hA) (va_runS (As := [.ref (b_0 0), .int 2, .int 1, .int 0, .int 0]) (rest := [.int r_1.1]) ⟨hx, hb, hml, hown, hts⟩ (c_L_call (l := l) hfl G cy b_0 bk_0 H.size r_1.2 2 1 0 0 n r_2 hh_r_2) (va_cwS 5 hts gB_act_L_call rfl rfl rfl ddN_L_call ⟨(Nat.le_of_ble_eq_true rfl), (Nat.le_of_ble_eq_true rfl)⟩) (preSN hXN (hE.kept hS.2.1) (Jn_1 hP hD hS hA).1 hP hK hD hN) rfl rfl hl.1 rfl (lv_room (Nat.le_of_ble_eq_true rfl)) dL_act_18 ⟨by show 0 + 3 + 3 ≤ 12; omega, by show 6 * (0 + 3) + 18 ≤ 72; omega⟩) (fun H locs hP hD hS => ?_)
  have hP : va_P G vwCl (oW cy b_0 bk_0 r_2.2) H := hP
  have hD : va_D A (oW cy b_0 bk_0 r_2.2) := hD
  refine lv_imul hx hb dL_act_21 ?_
  refine lv_istore_n (lv' := [(3, .int (r_1.1 * r_2.1)), (2, .int (x1 / 16)), (0, .ref (b_0 0)), (1, .int x1)]) hx hb dL_act_22 rfl hl (by decide) rfl (fun ls hl => ?_)
  refine lv_iload_n hx hb dL_act_23 rfl (lv_at hl 1 rfl) ?_
  refine lv_iload_n hx hb dL_act_24 rfl (lv_at hl 0 rfl) ?_
  by_cases q_3 : (r_1.1 * r_2.1) = 0
  · have hf := ip_ q_3 hf; cases hf
  have hf := in_ q_3 hf
  refine lv_irem hx hb dL_act_25 q_3 ?_
  refine lv_istore (lv' := [(4, .int (irm (x1 / 16) (r_1.1 * r_2.1))), (3, .int (r_1.1 * r_2.1)), (2, .int (x1 / 16)), (0, .ref (b_0 0)), (1, .int x1)]) hx hb dL_act_26 hl (by decide) rfl (fun ls hl => ?_)
  refine lv_iload_n hx hb dL_act_28 rfl (lv_at hl 4 rfl) ?_
  refine lv_bipush (v := 16) hx hb dL_act_29 (by decide) ?_
  refine lv_irem hx hb dL_act_31 (by decide) ?_
  by_cases h_4 : (irm x1 16) = 0
  · have hf := ip_ h_4 hf
    refine lv_tableIn (tgt := 100) (off := 68) hx hb dL_act_32 (by show ¬ (irm x1 16).toInt < 0; rw [h_4]; decide) (by show ¬ 12 < (irm x1 16).toInt; rw [h_4]; decide) (by show (#[68, 112, 112, 112, 123, 123, 123, 139, 139, 155, 167, 183, 209] : Array Int)[((irm x1 16).toInt - 0).toNat]? = some 68; rw [h_4]; rfl) (by decide) ?_
    refine lv_iload_n hx hb dL_act_100 rfl (lv_at hl 2 rfl) ?_
    refine lv_iconst (v := 4) hx hb dL_act_101 (by decide) ?_
    refine lv_irem hx hb dL_act_102 (by decide) ?_
    refine lv_if_ne (tgt := 133) hx hb dL_act_103 (by decide) (fun h_5 => ?_) (fun h_5 => ?_)
    · have hf := in_ h_5 hf
      refine lv_aload_n hx hb dL_act_133 rfl (lv_at hl 3 rfl) ?_
      refine lv_bipush (v := 7) hx hb dL_act_134 (by decide) ?_
      refine lv_iload hx hb dL_act_136 (lv_at hl 0 rfl) ?_
      refine lv_iconst (v := 0) hx hb dL_act_138 (by decide) ?_
      refine lv_iconst (v := 0) hx hb dL_act_139 (by decide) ?_
      obtain ⟨r_6, hh_r_6, hf⟩ := obd_some hf
      refine kb_i6 (V := r_6.1) (w1 := oW cy b_0 bk_0 r_6.2) hS (Nat.le_of_ble_eq_true rfl) (Jn_1 hP hD hS hA) (va_runS (As := [.ref (b_0 0), .int 7, .int (irm (x1 / 16) (r_1.1 * r_2.1)), .int 0, .int 0]) (rest := []) ⟨hx, hb, hml, hown, hts⟩ (c_L_call (l := l) hfl G cy b_0 bk_0 H.size r_2.2 7 (irm (x1 / 16) (r_1.1 * r_2.1)) 0 0 n r_6 hh_r_6) (va_cwS 5 hts gB_act_L_call rfl rfl rfl ddN_L_call ⟨(Nat.le_of_ble_eq_true rfl), (Nat.le_of_ble_eq_true rfl)⟩) (preSN hXN (hE.kept hS.2.1) (Jn_1 hP hD hS hA).1 hP hK hD hN) rfl rfl hl.1 rfl (lv_room (Nat.le_of_ble_eq_true rfl)) dL_act_140 ⟨by show 0 + 6 + 3 ≤ 12; omega, by show 6 * (0 + 6) + 18 ≤ 72; omega⟩) (fun H locs hP hD hS => ?_)
      have hP : va_P G vwCl (oW cy b_0 bk_0 r_6.2) H := hP
      have hD : va_D A (oW cy b_0 bk_0 r_6.2) := hD
      refine W.widen (k := 12) (n := 72) (by omega) (by omega) ?_
      obtain rfl := Option.some.inj hf
      exact kr_i hx hb hr hlocks rfl hP hK hD hN hS hS.2.2 dL_act_143
    · have hf := ip_ h_5 hf
      refine lv_aload_n hx hb dL_act_106 rfl (lv_at hl 3 rfl) ?_
      refine lv_bipush (v := 6) hx hb dL_act_107 (by decide) ?_
      refine lv_iconst (v := 2) hx hb dL_act_109 (by decide) ?_
      refine lv_iload_n hx hb dL_act_110 rfl (lv_at hl 2 rfl) ?_
      refine lv_iconst (v := 4) hx hb dL_act_111 (by decide) ?_
      refine lv_idiv hx hb dL_act_112 (by decide) ?_
      refine lv_bipush (v := 7) hx hb dL_act_113 (by decide) ?_
      refine lv_irem hx hb dL_act_115 (by decide) ?_
      refine lv_iadd hx hb dL_act_116 ?_
      refine lv_iconst (v := 2) hx hb dL_act_117 (by decide) ?_
      refine lv_iload_n hx hb dL_act_118 rfl (lv_at hl 2 rfl) ?_
      refine lv_bipush (v := 32) hx hb dL_act_119 (by decide) ?_
      refine lv_idiv hx hb dL_act_121 (by decide) ?_
      refine lv_bipush (v := 7) hx hb dL_act_122 (by decide) ?_
      refine lv_irem hx hb dL_act_124 (by decide) ?_
      refine lv_iadd hx hb dL_act_125 ?_
      refine lv_iconst (v := 0) hx hb dL_act_126 (by decide) ?_
      obtain ⟨r_7, hh_r_7, hf⟩ := obd_some hf
      refine kb_i6 (V := r_7.1) (w1 := oW cy b_0 bk_0 r_7.2) hS (Nat.le_of_ble_eq_true rfl) (Jn_1 hP hD hS hA) (va_runS (As := [.ref (b_0 0), .int 6, .int (2 + (irm ((x1 / 16) / 4) 7)), .int (2 + (irm ((x1 / 16) / 32) 7)), .int 0]) (rest := []) ⟨hx, hb, hml, hown, hts⟩ (c_L_call (l := l) hfl G cy b_0 bk_0 H.size r_2.2 6 (2 + (irm ((x1 / 16) / 4) 7)) (2 + (irm ((x1 / 16) / 32) 7)) 0 n r_7 hh_r_7) (va_cwS 5 hts gB_act_L_call rfl rfl rfl ddN_L_call ⟨(Nat.le_of_ble_eq_true rfl), (Nat.le_of_ble_eq_true rfl)⟩) (preSN hXN (hE.kept hS.2.1) (Jn_1 hP hD hS hA).1 hP hK hD hN) rfl rfl hl.1 rfl (lv_room (Nat.le_of_ble_eq_true rfl)) dL_act_127 ⟨by show 0 + 6 + 3 ≤ 12; omega, by show 6 * (0 + 6) + 18 ≤ 72; omega⟩) (fun H locs hP hD hS => ?_)
      have hP : va_P G vwCl (oW cy b_0 bk_0 r_7.2) H := hP
      have hD : va_D A (oW cy b_0 bk_0 r_7.2) := hD
      refine lv_goto (tgt := 143) hx hb dL_act_130 (by decide) ?_
      refine W.widen (k := 12) (n := 72) (by omega) (by omega) ?_
      obtain rfl := Option.some.inj hf
      exact kr_i hx hb hr hlocks rfl hP hK hD hN hS hS.2.2 dL_act_143
  have hf := in_ h_4 hf
  by_cases h_8 : (irm x1 16) = 1
  · have hf := ip_ h_8 hf
    refine lv_tableIn (tgt := 144) (off := 112) hx hb dL_act_32 (by show ¬ (irm x1 16).toInt < 0; rw [h_8]; decide) (by show ¬ 12 < (irm x1 16).toInt; rw [h_8]; decide) (by show (#[68, 112, 112, 112, 123, 123, 123, 139, 139, 155, 167, 183, 209] : Array Int)[((irm x1 16).toInt - 0).toNat]? = some 112; rw [h_8]; rfl) (by decide) ?_
    refine lv_aload_n hx hb dL_act_144 rfl (lv_at hl 3 rfl) ?_
    refine lv_bipush (v := 7) hx hb dL_act_145 (by decide) ?_
    refine lv_iload hx hb dL_act_147 (lv_at hl 0 rfl) ?_
    refine lv_iconst (v := 0) hx hb dL_act_149 (by decide) ?_
    refine lv_iconst (v := 0) hx hb dL_act_150 (by decide) ?_
    obtain ⟨r_9, hh_r_9, hf⟩ := obd_some hf
    refine kb_i6 (V := r_9.1) (w1 := oW cy b_0 bk_0 r_9.2) hS (Nat.le_of_ble_eq_true rfl) (Jn_1 hP hD hS hA) (va_runS (As := [.ref (b_0 0), .int 7, .int (irm (x1 / 16) (r_1.1 * r_2.1)), .int 0, .int 0]) (rest := []) ⟨hx, hb, hml, hown, hts⟩ (c_L_call (l := l) hfl G cy b_0 bk_0 H.size r_2.2 7 (irm (x1 / 16) (r_1.1 * r_2.1)) 0 0 n r_9 hh_r_9) (va_cwS 5 hts gB_act_L_call rfl rfl rfl ddN_L_call ⟨(Nat.le_of_ble_eq_true rfl), (Nat.le_of_ble_eq_true rfl)⟩) (preSN hXN (hE.kept hS.2.1) (Jn_1 hP hD hS hA).1 hP hK hD hN) rfl rfl hl.1 rfl (lv_room (Nat.le_of_ble_eq_true rfl)) dL_act_151 ⟨by show 0 + 6 + 3 ≤ 12; omega, by show 6 * (0 + 6) + 18 ≤ 72; omega⟩) (fun H locs hP hD hS => ?_)
    have hP : va_P G vwCl (oW cy b_0 bk_0 r_9.2) H := hP
    have hD : va_D A (oW cy b_0 bk_0 r_9.2) := hD
    refine W.widen (k := 12) (n := 72) (by omega) (by omega) ?_
    obtain rfl := Option.some.inj hf
    exact kr_i hx hb hr hlocks rfl hP hK hD hN hS hS.2.2 dL_act_154
  have hf := in_ h_8 hf
  by_cases h_10 : (irm x1 16) = 2
  · have hf := ip_ h_10 hf
    refine lv_tableIn (tgt := 144) (off := 112) hx hb dL_act_32 (by show ¬ (irm x1 16).toInt < 0; rw [h_10]; decide) (by show ¬ 12 < (irm x1 16).toInt; rw [h_10]; decide) (by show (#[68, 112, 112, 112, 123, 123, 123, 139, 139, 155, 167, 183, 209] : Array Int)[((irm x1 16).toInt - 0).toNat]? = some 112; rw [h_10]; rfl) (by decide) ?_
    refine lv_aload_n hx hb dL_act_144 rfl (lv_at hl 3 rfl) ?_
    refine lv_bipush (v := 7) hx hb dL_act_145 (by decide) ?_
    refine lv_iload hx hb dL_act_147 (lv_at hl 0 rfl) ?_
    refine lv_iconst (v := 0) hx hb dL_act_149 (by decide) ?_
    refine lv_iconst (v := 0) hx hb dL_act_150 (by decide) ?_
    obtain ⟨r_11, hh_r_11, hf⟩ := obd_some hf
    refine kb_i6 (V := r_11.1) (w1 := oW cy b_0 bk_0 r_11.2) hS (Nat.le_of_ble_eq_true rfl) (Jn_1 hP hD hS hA) (va_runS (As := [.ref (b_0 0), .int 7, .int (irm (x1 / 16) (r_1.1 * r_2.1)), .int 0, .int 0]) (rest := []) ⟨hx, hb, hml, hown, hts⟩ (c_L_call (l := l) hfl G cy b_0 bk_0 H.size r_2.2 7 (irm (x1 / 16) (r_1.1 * r_2.1)) 0 0 n r_11 hh_r_11) (va_cwS 5 hts gB_act_L_call rfl rfl rfl ddN_L_call ⟨(Nat.le_of_ble_eq_true rfl), (Nat.le_of_ble_eq_true rfl)⟩) (preSN hXN (hE.kept hS.2.1) (Jn_1 hP hD hS hA).1 hP hK hD hN) rfl rfl hl.1 rfl (lv_room (Nat.le_of_ble_eq_true rfl)) dL_act_151 ⟨by show 0 + 6 + 3 ≤ 12; omega, by show 6 * (0 + 6) + 18 ≤ 72; omega⟩) (fun H locs hP hD hS => ?_)
    have hP : va_P G vwCl (oW cy b_0 bk_0 r_11.2) H := hP
    have hD : va_D A (oW cy b_0 bk_0 r_11.2) := hD
    refine W.widen (k := 12) (n := 72) (by omega) (by omega) ?_
    obtain rfl := Option.some.inj hf
    exact kr_i hx hb hr hlocks rfl hP hK hD hN hS hS.2.2 dL_act_154
  have hf := in_ h_10 hf
  by_cases h_12 : (irm x1 16) = 3
  · have hf := ip_ h_12 hf
    refine lv_tableIn (tgt := 144) (off := 112) hx hb dL_act_32 (by show ¬ (irm x1 16).toInt < 0; rw [h_12]; decide) (by show ¬ 12 < (irm x1 16).toInt; rw [h_12]; decide) (by show (#[68, 112, 112, 112, 123, 123, 123, 139, 139, 155, 167, 183, 209] : Array Int)[((irm x1 16).toInt - 0).toNat]? = some 112; rw [h_12]; rfl) (by decide) ?_
    refine lv_aload_n hx hb dL_act_144 rfl (lv_at hl 3 rfl) ?_
    refine lv_bipush (v := 7) hx hb dL_act_145 (by decide) ?_
    refine lv_iload hx hb dL_act_147 (lv_at hl 0 rfl) ?_
    refine lv_iconst (v := 0) hx hb dL_act_149 (by decide) ?_
    refine lv_iconst (v := 0) hx hb dL_act_150 (by decide) ?_
    obtain ⟨r_13, hh_r_13, hf⟩ := obd_some hf
    refine kb_i6 (V := r_13.1) (w1 := oW cy b_0 bk_0 r_13.2) hS (Nat.le_of_ble_eq_true rfl) (Jn_1 hP hD hS hA) (va_runS (As := [.ref (b_0 0), .int 7, .int (irm (x1 / 16) (r_1.1 * r_2.1)), .int 0, .int 0]) (rest := []) ⟨hx, hb, hml, hown, hts⟩ (c_L_call (l := l) hfl G cy b_0 bk_0 H.size r_2.2 7 (irm (x1 / 16) (r_1.1 * r_2.1)) 0 0 n r_13 hh_r_13) (va_cwS 5 hts gB_act_L_call rfl rfl rfl ddN_L_call ⟨(Nat.le_of_ble_eq_true rfl), (Nat.le_of_ble_eq_true rfl)⟩) (preSN hXN (hE.kept hS.2.1) (Jn_1 hP hD hS hA).1 hP hK hD hN) rfl rfl hl.1 rfl (lv_room (Nat.le_of_ble_eq_true rfl)) dL_act_151 ⟨by show 0 + 6 + 3 ≤ 12; omega, by show 6 * (0 + 6) + 18 ≤ 72; omega⟩) (fun H locs hP hD hS => ?_)
    have hP : va_P G vwCl (oW cy b_0 bk_0 r_13.2) H := hP
    have hD : va_D A (oW cy b_0 bk_0 r_13.2) := hD
    refine W.widen (k := 12) (n := 72) (by omega) (by omega) ?_
    obtain rfl := Option.some.inj hf
    exact kr_i hx hb hr hlocks rfl hP hK hD hN hS hS.2.2 dL_act_154
  have hf := in_ h_12 hf
  by_cases h_14 : (irm x1 16) = 4
  · have hf := ip_ h_14 hf
    refine lv_tableIn (tgt := 155) (off := 123) hx hb dL_act_32 (by show ¬ (irm x1 16).toInt < 0; rw [h_14]; decide) (by show ¬ 12 < (irm x1 16).toInt; rw [h_14]; decide) (by show (#[68, 112, 112, 112, 123, 123, 123, 139, 139, 155, 167, 183, 209] : Array Int)[((irm x1 16).toInt - 0).toNat]? = some 123; rw [h_14]; rfl) (by decide) ?_
    refine lv_aload_n hx hb dL_act_155 rfl (lv_at hl 3 rfl) ?_
    refine lv_bipush (v := 8) hx hb dL_act_156 (by decide) ?_
    refine lv_iload hx hb dL_act_158 (lv_at hl 0 rfl) ?_
    refine lv_iload_n hx hb dL_act_160 rfl (lv_at hl 2 rfl) ?_
    refine lv_bipush (v := 64) hx hb dL_act_161 (by decide) ?_
    refine lv_idiv hx hb dL_act_163 (by decide) ?_
    refine lv_iconst (v := 4) hx hb dL_act_164 (by decide) ?_
    refine lv_irem hx hb dL_act_165 (by decide) ?_
    refine lv_iconst (v := 0) hx hb dL_act_166 (by decide) ?_
    obtain ⟨r_15, hh_r_15, hf⟩ := obd_some hf
    refine kb_i6 (V := r_15.1) (w1 := oW cy b_0 bk_0 r_15.2) hS (Nat.le_of_ble_eq_true rfl) (Jn_1 hP hD hS hA) (va_runS (As := [.ref (b_0 0), .int 8, .int (irm (x1 / 16) (r_1.1 * r_2.1)), .int (irm ((x1 / 16) / 64) 4), .int 0]) (rest := []) ⟨hx, hb, hml, hown, hts⟩ (c_L_call (l := l) hfl G cy b_0 bk_0 H.size r_2.2 8 (irm (x1 / 16) (r_1.1 * r_2.1)) (irm ((x1 / 16) / 64) 4) 0 n r_15 hh_r_15) (va_cwS 5 hts gB_act_L_call rfl rfl rfl ddN_L_call ⟨(Nat.le_of_ble_eq_true rfl), (Nat.le_of_ble_eq_true rfl)⟩) (preSN hXN (hE.kept hS.2.1) (Jn_1 hP hD hS hA).1 hP hK hD hN) rfl rfl hl.1 rfl (lv_room (Nat.le_of_ble_eq_true rfl)) dL_act_167 ⟨by show 0 + 6 + 3 ≤ 12; omega, by show 6 * (0 + 6) + 18 ≤ 72; omega⟩) (fun H locs hP hD hS => ?_)
    have hP : va_P G vwCl (oW cy b_0 bk_0 r_15.2) H := hP
    have hD : va_D A (oW cy b_0 bk_0 r_15.2) := hD
    refine W.widen (k := 12) (n := 72) (by omega) (by omega) ?_
    obtain rfl := Option.some.inj hf
    exact kr_i hx hb hr hlocks rfl hP hK hD hN hS hS.2.2 dL_act_170
  have hf := in_ h_14 hf
  by_cases h_16 : (irm x1 16) = 5
  · have hf := ip_ h_16 hf
    refine lv_tableIn (tgt := 155) (off := 123) hx hb dL_act_32 (by show ¬ (irm x1 16).toInt < 0; rw [h_16]; decide) (by show ¬ 12 < (irm x1 16).toInt; rw [h_16]; decide) (by show (#[68, 112, 112, 112, 123, 123, 123, 139, 139, 155, 167, 183, 209] : Array Int)[((irm x1 16).toInt - 0).toNat]? = some 123; rw [h_16]; rfl) (by decide) ?_
    refine lv_aload_n hx hb dL_act_155 rfl (lv_at hl 3 rfl) ?_
    refine lv_bipush (v := 8) hx hb dL_act_156 (by decide) ?_
    refine lv_iload hx hb dL_act_158 (lv_at hl 0 rfl) ?_
    refine lv_iload_n hx hb dL_act_160 rfl (lv_at hl 2 rfl) ?_
    refine lv_bipush (v := 64) hx hb dL_act_161 (by decide) ?_
    refine lv_idiv hx hb dL_act_163 (by decide) ?_
    refine lv_iconst (v := 4) hx hb dL_act_164 (by decide) ?_
    refine lv_irem hx hb dL_act_165 (by decide) ?_
    refine lv_iconst (v := 0) hx hb dL_act_166 (by decide) ?_
    obtain ⟨r_17, hh_r_17, hf⟩ := obd_some hf
    refine kb_i6 (V := r_17.1) (w1 := oW cy b_0 bk_0 r_17.2) hS (Nat.le_of_ble_eq_true rfl) (Jn_1 hP hD hS hA) (va_runS (As := [.ref (b_0 0), .int 8, .int (irm (x1 / 16) (r_1.1 * r_2.1)), .int (irm ((x1 / 16) / 64) 4), .int 0]) (rest := []) ⟨hx, hb, hml, hown, hts⟩ (c_L_call (l := l) hfl G cy b_0 bk_0 H.size r_2.2 8 (irm (x1 / 16) (r_1.1 * r_2.1)) (irm ((x1 / 16) / 64) 4) 0 n r_17 hh_r_17) (va_cwS 5 hts gB_act_L_call rfl rfl rfl ddN_L_call ⟨(Nat.le_of_ble_eq_true rfl), (Nat.le_of_ble_eq_true rfl)⟩) (preSN hXN (hE.kept hS.2.1) (Jn_1 hP hD hS hA).1 hP hK hD hN) rfl rfl hl.1 rfl (lv_room (Nat.le_of_ble_eq_true rfl)) dL_act_167 ⟨by show 0 + 6 + 3 ≤ 12; omega, by show 6 * (0 + 6) + 18 ≤ 72; omega⟩) (fun H locs hP hD hS => ?_)
    have hP : va_P G vwCl (oW cy b_0 bk_0 r_17.2) H := hP
    have hD : va_D A (oW cy b_0 bk_0 r_17.2) := hD
    refine W.widen (k := 12) (n := 72) (by omega) (by omega) ?_
    obtain rfl := Option.some.inj hf
    exact kr_i hx hb hr hlocks rfl hP hK hD hN hS hS.2.2 dL_act_170
  have hf := in_ h_16 hf
  by_cases h_18 : (irm x1 16) = 6
  · have hf := ip_ h_18 hf
    refine lv_tableIn (tgt := 155) (off := 123) hx hb dL_act_32 (by show ¬ (irm x1 16).toInt < 0; rw [h_18]; decide) (by show ¬ 12 < (irm x1 16).toInt; rw [h_18]; decide) (by show (#[68, 112, 112, 112, 123, 123, 123, 139, 139, 155, 167, 183, 209] : Array Int)[((irm x1 16).toInt - 0).toNat]? = some 123; rw [h_18]; rfl) (by decide) ?_
    refine lv_aload_n hx hb dL_act_155 rfl (lv_at hl 3 rfl) ?_
    refine lv_bipush (v := 8) hx hb dL_act_156 (by decide) ?_
    refine lv_iload hx hb dL_act_158 (lv_at hl 0 rfl) ?_
    refine lv_iload_n hx hb dL_act_160 rfl (lv_at hl 2 rfl) ?_
    refine lv_bipush (v := 64) hx hb dL_act_161 (by decide) ?_
    refine lv_idiv hx hb dL_act_163 (by decide) ?_
    refine lv_iconst (v := 4) hx hb dL_act_164 (by decide) ?_
    refine lv_irem hx hb dL_act_165 (by decide) ?_
    refine lv_iconst (v := 0) hx hb dL_act_166 (by decide) ?_
    obtain ⟨r_19, hh_r_19, hf⟩ := obd_some hf
    refine kb_i6 (V := r_19.1) (w1 := oW cy b_0 bk_0 r_19.2) hS (Nat.le_of_ble_eq_true rfl) (Jn_1 hP hD hS hA) (va_runS (As := [.ref (b_0 0), .int 8, .int (irm (x1 / 16) (r_1.1 * r_2.1)), .int (irm ((x1 / 16) / 64) 4), .int 0]) (rest := []) ⟨hx, hb, hml, hown, hts⟩ (c_L_call (l := l) hfl G cy b_0 bk_0 H.size r_2.2 8 (irm (x1 / 16) (r_1.1 * r_2.1)) (irm ((x1 / 16) / 64) 4) 0 n r_19 hh_r_19) (va_cwS 5 hts gB_act_L_call rfl rfl rfl ddN_L_call ⟨(Nat.le_of_ble_eq_true rfl), (Nat.le_of_ble_eq_true rfl)⟩) (preSN hXN (hE.kept hS.2.1) (Jn_1 hP hD hS hA).1 hP hK hD hN) rfl rfl hl.1 rfl (lv_room (Nat.le_of_ble_eq_true rfl)) dL_act_167 ⟨by show 0 + 6 + 3 ≤ 12; omega, by show 6 * (0 + 6) + 18 ≤ 72; omega⟩) (fun H locs hP hD hS => ?_)
    have hP : va_P G vwCl (oW cy b_0 bk_0 r_19.2) H := hP
    have hD : va_D A (oW cy b_0 bk_0 r_19.2) := hD
    refine W.widen (k := 12) (n := 72) (by omega) (by omega) ?_
    obtain rfl := Option.some.inj hf
    exact kr_i hx hb hr hlocks rfl hP hK hD hN hS hS.2.2 dL_act_170
  have hf := in_ h_18 hf
  by_cases h_20 : (irm x1 16) = 7
  · have hf := ip_ h_20 hf
    refine lv_tableIn (tgt := 171) (off := 139) hx hb dL_act_32 (by show ¬ (irm x1 16).toInt < 0; rw [h_20]; decide) (by show ¬ 12 < (irm x1 16).toInt; rw [h_20]; decide) (by show (#[68, 112, 112, 112, 123, 123, 123, 139, 139, 155, 167, 183, 209] : Array Int)[((irm x1 16).toInt - 0).toNat]? = some 139; rw [h_20]; rfl) (by decide) ?_
    refine lv_aload_n hx hb dL_act_171 rfl (lv_at hl 3 rfl) ?_
    refine lv_bipush (v := 9) hx hb dL_act_172 (by decide) ?_
    refine lv_iload_n hx hb dL_act_174 rfl (lv_at hl 2 rfl) ?_
    refine lv_iconst (v := 4) hx hb dL_act_175 (by decide) ?_
    refine lv_irem hx hb dL_act_176 (by decide) ?_
    refine lv_iload_n hx hb dL_act_177 rfl (lv_at hl 2 rfl) ?_
    refine lv_iconst (v := 4) hx hb dL_act_178 (by decide) ?_
    refine lv_idiv hx hb dL_act_179 (by decide) ?_
    refine lv_iconst (v := 3) hx hb dL_act_180 (by decide) ?_
    refine lv_irem hx hb dL_act_181 (by decide) ?_
    refine lv_iconst (v := 0) hx hb dL_act_182 (by decide) ?_
    obtain ⟨r_21, hh_r_21, hf⟩ := obd_some hf
    refine kb_i6 (V := r_21.1) (w1 := oW cy b_0 bk_0 r_21.2) hS (Nat.le_of_ble_eq_true rfl) (Jn_1 hP hD hS hA) (va_runS (As := [.ref (b_0 0), .int 9, .int (irm (x1 / 16) 4), .int (irm ((x1 / 16) / 4) 3), .int 0]) (rest := []) ⟨hx, hb, hml, hown, hts⟩ (c_L_call (l := l) hfl G cy b_0 bk_0 H.size r_2.2 9 (irm (x1 / 16) 4) (irm ((x1 / 16) / 4) 3) 0 n r_21 hh_r_21) (va_cwS 5 hts gB_act_L_call rfl rfl rfl ddN_L_call ⟨(Nat.le_of_ble_eq_true rfl), (Nat.le_of_ble_eq_true rfl)⟩) (preSN hXN (hE.kept hS.2.1) (Jn_1 hP hD hS hA).1 hP hK hD hN) rfl rfl hl.1 rfl (lv_room (Nat.le_of_ble_eq_true rfl)) dL_act_183 ⟨by show 0 + 6 + 3 ≤ 12; omega, by show 6 * (0 + 6) + 18 ≤ 72; omega⟩) (fun H locs hP hD hS => ?_)
    have hP : va_P G vwCl (oW cy b_0 bk_0 r_21.2) H := hP
    have hD : va_D A (oW cy b_0 bk_0 r_21.2) := hD
    refine W.widen (k := 12) (n := 72) (by omega) (by omega) ?_
    obtain rfl := Option.some.inj hf
    exact kr_i hx hb hr hlocks rfl hP hK hD hN hS hS.2.2 dL_act_186
  have hf := in_ h_20 hf
  by_cases h_22 : (irm x1 16) = 8
  · have hf := ip_ h_22 hf
    refine lv_tableIn (tgt := 171) (off := 139) hx hb dL_act_32 (by show ¬ (irm x1 16).toInt < 0; rw [h_22]; decide) (by show ¬ 12 < (irm x1 16).toInt; rw [h_22]; decide) (by show (#[68, 112, 112, 112, 123, 123, 123, 139, 139, 155, 167, 183, 209] : Array Int)[((irm x1 16).toInt - 0).toNat]? = some 139; rw [h_22]; rfl) (by decide) ?_
    refine lv_aload_n hx hb dL_act_171 rfl (lv_at hl 3 rfl) ?_
    refine lv_bipush (v := 9) hx hb dL_act_172 (by decide) ?_
    refine lv_iload_n hx hb dL_act_174 rfl (lv_at hl 2 rfl) ?_
    refine lv_iconst (v := 4) hx hb dL_act_175 (by decide) ?_
    refine lv_irem hx hb dL_act_176 (by decide) ?_
    refine lv_iload_n hx hb dL_act_177 rfl (lv_at hl 2 rfl) ?_
    refine lv_iconst (v := 4) hx hb dL_act_178 (by decide) ?_
    refine lv_idiv hx hb dL_act_179 (by decide) ?_
    refine lv_iconst (v := 3) hx hb dL_act_180 (by decide) ?_
    refine lv_irem hx hb dL_act_181 (by decide) ?_
    refine lv_iconst (v := 0) hx hb dL_act_182 (by decide) ?_
    obtain ⟨r_23, hh_r_23, hf⟩ := obd_some hf
    refine kb_i6 (V := r_23.1) (w1 := oW cy b_0 bk_0 r_23.2) hS (Nat.le_of_ble_eq_true rfl) (Jn_1 hP hD hS hA) (va_runS (As := [.ref (b_0 0), .int 9, .int (irm (x1 / 16) 4), .int (irm ((x1 / 16) / 4) 3), .int 0]) (rest := []) ⟨hx, hb, hml, hown, hts⟩ (c_L_call (l := l) hfl G cy b_0 bk_0 H.size r_2.2 9 (irm (x1 / 16) 4) (irm ((x1 / 16) / 4) 3) 0 n r_23 hh_r_23) (va_cwS 5 hts gB_act_L_call rfl rfl rfl ddN_L_call ⟨(Nat.le_of_ble_eq_true rfl), (Nat.le_of_ble_eq_true rfl)⟩) (preSN hXN (hE.kept hS.2.1) (Jn_1 hP hD hS hA).1 hP hK hD hN) rfl rfl hl.1 rfl (lv_room (Nat.le_of_ble_eq_true rfl)) dL_act_183 ⟨by show 0 + 6 + 3 ≤ 12; omega, by show 6 * (0 + 6) + 18 ≤ 72; omega⟩) (fun H locs hP hD hS => ?_)
    have hP : va_P G vwCl (oW cy b_0 bk_0 r_23.2) H := hP
    have hD : va_D A (oW cy b_0 bk_0 r_23.2) := hD
    refine W.widen (k := 12) (n := 72) (by omega) (by omega) ?_
    obtain rfl := Option.some.inj hf
    exact kr_i hx hb hr hlocks rfl hP hK hD hN hS hS.2.2 dL_act_186
  have hf := in_ h_22 hf
  by_cases h_24 : (irm x1 16) = 9
  · have hf := ip_ h_24 hf
    refine lv_tableIn (tgt := 187) (off := 155) hx hb dL_act_32 (by show ¬ (irm x1 16).toInt < 0; rw [h_24]; decide) (by show ¬ 12 < (irm x1 16).toInt; rw [h_24]; decide) (by show (#[68, 112, 112, 112, 123, 123, 123, 139, 139, 155, 167, 183, 209] : Array Int)[((irm x1 16).toInt - 0).toNat]? = some 155; rw [h_24]; rfl) (by decide) ?_
    refine lv_aload_n hx hb dL_act_187 rfl (lv_at hl 3 rfl) ?_
    refine lv_bipush (v := 10) hx hb dL_act_188 (by decide) ?_
    refine lv_iload_n hx hb dL_act_190 rfl (lv_at hl 2 rfl) ?_
    refine lv_iconst (v := 3) hx hb dL_act_191 (by decide) ?_
    refine lv_irem hx hb dL_act_192 (by decide) ?_
    refine lv_iconst (v := 0) hx hb dL_act_193 (by decide) ?_
    refine lv_iconst (v := 0) hx hb dL_act_194 (by decide) ?_
    obtain ⟨r_25, hh_r_25, hf⟩ := obd_some hf
    refine kb_i6 (V := r_25.1) (w1 := oW cy b_0 bk_0 r_25.2) hS (Nat.le_of_ble_eq_true rfl) (Jn_1 hP hD hS hA) (va_runS (As := [.ref (b_0 0), .int 10, .int (irm (x1 / 16) 3), .int 0, .int 0]) (rest := []) ⟨hx, hb, hml, hown, hts⟩ (c_L_call (l := l) hfl G cy b_0 bk_0 H.size r_2.2 10 (irm (x1 / 16) 3) 0 0 n r_25 hh_r_25) (va_cwS 5 hts gB_act_L_call rfl rfl rfl ddN_L_call ⟨(Nat.le_of_ble_eq_true rfl), (Nat.le_of_ble_eq_true rfl)⟩) (preSN hXN (hE.kept hS.2.1) (Jn_1 hP hD hS hA).1 hP hK hD hN) rfl rfl hl.1 rfl (lv_room (Nat.le_of_ble_eq_true rfl)) dL_act_195 ⟨by show 0 + 6 + 3 ≤ 12; omega, by show 6 * (0 + 6) + 18 ≤ 72; omega⟩) (fun H locs hP hD hS => ?_)
    have hP : va_P G vwCl (oW cy b_0 bk_0 r_25.2) H := hP
    have hD : va_D A (oW cy b_0 bk_0 r_25.2) := hD
    refine W.widen (k := 12) (n := 72) (by omega) (by omega) ?_
    obtain rfl := Option.some.inj hf
    exact kr_i hx hb hr hlocks rfl hP hK hD hN hS hS.2.2 dL_act_198
  have hf := in_ h_24 hf
  by_cases h_26 : (irm x1 16) = 10
  · have hf := ip_ h_26 hf
    refine lv_tableIn (tgt := 199) (off := 167) hx hb dL_act_32 (by show ¬ (irm x1 16).toInt < 0; rw [h_26]; decide) (by show ¬ 12 < (irm x1 16).toInt; rw [h_26]; decide) (by show (#[68, 112, 112, 112, 123, 123, 123, 139, 139, 155, 167, 183, 209] : Array Int)[((irm x1 16).toInt - 0).toNat]? = some 167; rw [h_26]; rfl) (by decide) ?_
    refine lv_aload_n hx hb dL_act_199 rfl (lv_at hl 3 rfl) ?_
    refine lv_bipush (v := 11) hx hb dL_act_200 (by decide) ?_
    refine lv_iload hx hb dL_act_202 (lv_at hl 0 rfl) ?_
    refine lv_iload_n hx hb dL_act_204 rfl (lv_at hl 2 rfl) ?_
    refine lv_bipush (v := 64) hx hb dL_act_205 (by decide) ?_
    refine lv_idiv hx hb dL_act_207 (by decide) ?_
    refine lv_iconst (v := 5) hx hb dL_act_208 (by decide) ?_
    refine lv_irem hx hb dL_act_209 (by decide) ?_
    refine lv_iconst (v := 0) hx hb dL_act_210 (by decide) ?_
    obtain ⟨r_27, hh_r_27, hf⟩ := obd_some hf
    refine kb_i6 (V := r_27.1) (w1 := oW cy b_0 bk_0 r_27.2) hS (Nat.le_of_ble_eq_true rfl) (Jn_1 hP hD hS hA) (va_runS (As := [.ref (b_0 0), .int 11, .int (irm (x1 / 16) (r_1.1 * r_2.1)), .int (irm ((x1 / 16) / 64) 5), .int 0]) (rest := []) ⟨hx, hb, hml, hown, hts⟩ (c_L_call (l := l) hfl G cy b_0 bk_0 H.size r_2.2 11 (irm (x1 / 16) (r_1.1 * r_2.1)) (irm ((x1 / 16) / 64) 5) 0 n r_27 hh_r_27) (va_cwS 5 hts gB_act_L_call rfl rfl rfl ddN_L_call ⟨(Nat.le_of_ble_eq_true rfl), (Nat.le_of_ble_eq_true rfl)⟩) (preSN hXN (hE.kept hS.2.1) (Jn_1 hP hD hS hA).1 hP hK hD hN) rfl rfl hl.1 rfl (lv_room (Nat.le_of_ble_eq_true rfl)) dL_act_211 ⟨by show 0 + 6 + 3 ≤ 12; omega, by show 6 * (0 + 6) + 18 ≤ 72; omega⟩) (fun H locs hP hD hS => ?_)
    have hP : va_P G vwCl (oW cy b_0 bk_0 r_27.2) H := hP
    have hD : va_D A (oW cy b_0 bk_0 r_27.2) := hD
    refine W.widen (k := 12) (n := 72) (by omega) (by omega) ?_
    obtain rfl := Option.some.inj hf
    exact kr_i hx hb hr hlocks rfl hP hK hD hN hS hS.2.2 dL_act_214
  have hf := in_ h_26 hf
  by_cases h_28 : (irm x1 16) = 11
  · have hf := ip_ h_28 hf
    refine lv_tableIn (tgt := 215) (off := 183) hx hb dL_act_32 (by show ¬ (irm x1 16).toInt < 0; rw [h_28]; decide) (by show ¬ 12 < (irm x1 16).toInt; rw [h_28]; decide) (by show (#[68, 112, 112, 112, 123, 123, 123, 139, 139, 155, 167, 183, 209] : Array Int)[((irm x1 16).toInt - 0).toNat]? = some 183; rw [h_28]; rfl) (by decide) ?_
    refine lv_aload_n hx hb dL_act_215 rfl (lv_at hl 3 rfl) ?_
    refine lv_iconst (v := 2) hx hb dL_act_216 (by decide) ?_
    refine lv_iconst (v := 5) hx hb dL_act_217 (by decide) ?_
    refine lv_iconst (v := 0) hx hb dL_act_218 (by decide) ?_
    refine lv_iconst (v := 0) hx hb dL_act_219 (by decide) ?_
    obtain ⟨r_29, hh_r_29, hf⟩ := obd_some hf
    refine kb_i6 (V := r_29.1) (w1 := oW cy b_0 bk_0 r_29.2) hS (Nat.le_of_ble_eq_true rfl) (Jn_1 hP hD hS hA) (va_runS (As := [.ref (b_0 0), .int 2, .int 5, .int 0, .int 0]) (rest := []) ⟨hx, hb, hml, hown, hts⟩ (c_L_call (l := l) hfl G cy b_0 bk_0 H.size r_2.2 2 5 0 0 n r_29 hh_r_29) (va_cwS 5 hts gB_act_L_call rfl rfl rfl ddN_L_call ⟨(Nat.le_of_ble_eq_true rfl), (Nat.le_of_ble_eq_true rfl)⟩) (preSN hXN (hE.kept hS.2.1) (Jn_1 hP hD hS hA).1 hP hK hD hN) rfl rfl hl.1 rfl (lv_room (Nat.le_of_ble_eq_true rfl)) dL_act_220 ⟨by show 0 + 6 + 3 ≤ 12; omega, by show 6 * (0 + 6) + 18 ≤ 72; omega⟩) (fun H locs hP hD hS => ?_)
    have hP : va_P G vwCl (oW cy b_0 bk_0 r_29.2) H := hP
    have hD : va_D A (oW cy b_0 bk_0 r_29.2) := hD
    refine lv_iconst (v := 3) hx hb dL_act_223 (by decide) ?_
    refine lv_icmp_ge (tgt := 231) hx hb dL_act_224 (by decide) (fun h_30 => ?_) (fun h_30 => ?_)
    · have hf := ip_ h_30 hf
      refine lv_aload_n hx hb dL_act_231 rfl (lv_at hl 3 rfl) ?_
      refine lv_bipush (v := 13) hx hb dL_act_232 (by decide) ?_
      refine lv_iconst (v := 0) hx hb dL_act_234 (by decide) ?_
      refine lv_iconst (v := 0) hx hb dL_act_235 (by decide) ?_
      refine lv_iconst (v := 0) hx hb dL_act_236 (by decide) ?_
      obtain ⟨r_31, hh_r_31, hf⟩ := obd_some hf
      refine kb_i6 (V := r_31.1) (w1 := oW cy b_0 bk_0 r_31.2) hS (Nat.le_of_ble_eq_true rfl) (Jn_1 hP hD hS hA) (va_runS (As := [.ref (b_0 0), .int 13, .int 0, .int 0, .int 0]) (rest := []) ⟨hx, hb, hml, hown, hts⟩ (c_L_call (l := l) hfl G cy b_0 bk_0 H.size r_29.2 13 0 0 0 n r_31 hh_r_31) (va_cwS 5 hts gB_act_L_call rfl rfl rfl ddN_L_call ⟨(Nat.le_of_ble_eq_true rfl), (Nat.le_of_ble_eq_true rfl)⟩) (preSN hXN (hE.kept hS.2.1) (Jn_1 hP hD hS hA).1 hP hK hD hN) rfl rfl hl.1 rfl (lv_room (Nat.le_of_ble_eq_true rfl)) dL_act_237 ⟨by show 0 + 9 + 3 ≤ 12; omega, by show 6 * (0 + 9) + 18 ≤ 72; omega⟩) (fun H locs hP hD hS => ?_)
      have hP : va_P G vwCl (oW cy b_0 bk_0 r_31.2) H := hP
      have hD : va_D A (oW cy b_0 bk_0 r_31.2) := hD
      refine W.widen (k := 12) (n := 72) (by omega) (by omega) ?_
      obtain rfl := Option.some.inj hf
      exact kr_i hx hb hr hlocks rfl hP hK hD hN hS hS.2.2 dL_act_240
    · have hf := in_ h_30 hf
      refine lv_iconst (v := (-1)) hx hb dL_act_227 (by decide) ?_
      refine lv_goto (tgt := 240) hx hb dL_act_228 (by decide) ?_
      refine W.widen (k := 12) (n := 72) (by omega) (by omega) ?_
      obtain rfl := Option.some.inj hf
      exact kr_i hx hb hr hlocks rfl hP hK hD hN hS hS.2.2 dL_act_240
  have hf := in_ h_28 hf
  by_cases h_32 : (irm x1 16) = 12
  · have hf := ip_ h_32 hf
    refine lv_tableIn (tgt := 241) (off := 209) hx hb dL_act_32 (by show ¬ (irm x1 16).toInt < 0; rw [h_32]; decide) (by show ¬ 12 < (irm x1 16).toInt; rw [h_32]; decide) (by show (#[68, 112, 112, 112, 123, 123, 123, 139, 139, 155, 167, 183, 209] : Array Int)[((irm x1 16).toInt - 0).toNat]? = some 209; rw [h_32]; rfl) (by decide) ?_
    refine lv_iload_n hx hb dL_act_241 rfl (lv_at hl 2 rfl) ?_
    refine lv_iconst (v := 2) hx hb dL_act_242 (by decide) ?_
    refine lv_irem hx hb dL_act_243 (by decide) ?_
    refine lv_if_ne (tgt := 263) hx hb dL_act_244 (by decide) (fun h_33 => ?_) (fun h_33 => ?_)
    · have hf := in_ h_33 hf
      refine lv_aload_n hx hb dL_act_263 rfl (lv_at hl 3 rfl) ?_
      refine lv_bipush (v := 19) hx hb dL_act_264 (by decide) ?_
      refine lv_iload_n hx hb dL_act_266 rfl (lv_at hl 2 rfl) ?_
      refine lv_iconst (v := 2) hx hb dL_act_267 (by decide) ?_
      refine lv_idiv hx hb dL_act_268 (by decide) ?_
      refine lv_iconst (v := 2) hx hb dL_act_269 (by decide) ?_
      refine lv_irem hx hb dL_act_270 (by decide) ?_
      refine lv_iconst (v := 0) hx hb dL_act_271 (by decide) ?_
      refine lv_iconst (v := 0) hx hb dL_act_272 (by decide) ?_
      obtain ⟨r_34, hh_r_34, hf⟩ := obd_some hf
      refine kb_i6 (V := r_34.1) (w1 := oW cy b_0 bk_0 r_34.2) hS (Nat.le_of_ble_eq_true rfl) (Jn_1 hP hD hS hA) (va_runS (As := [.ref (b_0 0), .int 19, .int (irm ((x1 / 16) / 2) 2), .int 0, .int 0]) (rest := []) ⟨hx, hb, hml, hown, hts⟩ (c_L_call (l := l) hfl G cy b_0 bk_0 H.size r_2.2 19 (irm ((x1 / 16) / 2) 2) 0 0 n r_34 hh_r_34) (va_cwS 5 hts gB_act_L_call rfl rfl rfl ddN_L_call ⟨(Nat.le_of_ble_eq_true rfl), (Nat.le_of_ble_eq_true rfl)⟩) (preSN hXN (hE.kept hS.2.1) (Jn_1 hP hD hS hA).1 hP hK hD hN) rfl rfl hl.1 rfl (lv_room (Nat.le_of_ble_eq_true rfl)) dL_act_273 ⟨by show 0 + 6 + 3 ≤ 12; omega, by show 6 * (0 + 6) + 18 ≤ 72; omega⟩) (fun H locs hP hD hS => ?_)
      have hP : va_P G vwCl (oW cy b_0 bk_0 r_34.2) H := hP
      have hD : va_D A (oW cy b_0 bk_0 r_34.2) := hD
      refine W.widen (k := 12) (n := 72) (by omega) (by omega) ?_
      obtain rfl := Option.some.inj hf
      exact kr_i hx hb hr hlocks rfl hP hK hD hN hS hS.2.2 dL_act_276
    · have hf := ip_ h_33 hf
      refine lv_aload_n hx hb dL_act_247 rfl (lv_at hl 3 rfl) ?_
      refine lv_bipush (v := 18) hx hb dL_act_248 (by decide) ?_
      refine lv_iload_n hx hb dL_act_250 rfl (lv_at hl 2 rfl) ?_
      refine lv_iconst (v := 2) hx hb dL_act_251 (by decide) ?_
      refine lv_idiv hx hb dL_act_252 (by decide) ?_
      refine lv_iconst (v := 2) hx hb dL_act_253 (by decide) ?_
      refine lv_irem hx hb dL_act_254 (by decide) ?_
      refine lv_iconst (v := 0) hx hb dL_act_255 (by decide) ?_
      refine lv_iconst (v := 0) hx hb dL_act_256 (by decide) ?_
      obtain ⟨r_35, hh_r_35, hf⟩ := obd_some hf
      refine kb_i6 (V := r_35.1) (w1 := oW cy b_0 bk_0 r_35.2) hS (Nat.le_of_ble_eq_true rfl) (Jn_1 hP hD hS hA) (va_runS (As := [.ref (b_0 0), .int 18, .int (irm ((x1 / 16) / 2) 2), .int 0, .int 0]) (rest := []) ⟨hx, hb, hml, hown, hts⟩ (c_L_call (l := l) hfl G cy b_0 bk_0 H.size r_2.2 18 (irm ((x1 / 16) / 2) 2) 0 0 n r_35 hh_r_35) (va_cwS 5 hts gB_act_L_call rfl rfl rfl ddN_L_call ⟨(Nat.le_of_ble_eq_true rfl), (Nat.le_of_ble_eq_true rfl)⟩) (preSN hXN (hE.kept hS.2.1) (Jn_1 hP hD hS hA).1 hP hK hD hN) rfl rfl hl.1 rfl (lv_room (Nat.le_of_ble_eq_true rfl)) dL_act_257 ⟨by show 0 + 6 + 3 ≤ 12; omega, by show 6 * (0 + 6) + 18 ≤ 72; omega⟩) (fun H locs hP hD hS => ?_)
      have hP : va_P G vwCl (oW cy b_0 bk_0 r_35.2) H := hP
      have hD : va_D A (oW cy b_0 bk_0 r_35.2) := hD
      refine lv_goto (tgt := 276) hx hb dL_act_260 (by decide) ?_
      refine W.widen (k := 12) (n := 72) (by omega) (by omega) ?_
      obtain rfl := Option.some.inj hf
      exact kr_i hx hb hr hlocks rfl hP hK hD hN hS hS.2.2 dL_act_276
  have hf := in_ h_32 hf
  have th_4 : ¬ (irm x1 16).toInt = 0 := fun q => h_4 (Int32.toInt_inj.mp (q.trans (by decide)))
  have th_8 : ¬ (irm x1 16).toInt = 1 := fun q => h_8 (Int32.toInt_inj.mp (q.trans (by decide)))
  have th_10 : ¬ (irm x1 16).toInt = 2 := fun q => h_10 (Int32.toInt_inj.mp (q.trans (by decide)))
  have th_12 : ¬ (irm x1 16).toInt = 3 := fun q => h_12 (Int32.toInt_inj.mp (q.trans (by decide)))
  have th_14 : ¬ (irm x1 16).toInt = 4 := fun q => h_14 (Int32.toInt_inj.mp (q.trans (by decide)))
  have th_16 : ¬ (irm x1 16).toInt = 5 := fun q => h_16 (Int32.toInt_inj.mp (q.trans (by decide)))
  have th_18 : ¬ (irm x1 16).toInt = 6 := fun q => h_18 (Int32.toInt_inj.mp (q.trans (by decide)))
  have th_20 : ¬ (irm x1 16).toInt = 7 := fun q => h_20 (Int32.toInt_inj.mp (q.trans (by decide)))
  have th_22 : ¬ (irm x1 16).toInt = 8 := fun q => h_22 (Int32.toInt_inj.mp (q.trans (by decide)))
  have th_24 : ¬ (irm x1 16).toInt = 9 := fun q => h_24 (Int32.toInt_inj.mp (q.trans (by decide)))
  have th_26 : ¬ (irm x1 16).toInt = 10 := fun q => h_26 (Int32.toInt_inj.mp (q.trans (by decide)))
  have th_28 : ¬ (irm x1 16).toInt = 11 := fun q => h_28 (Int32.toInt_inj.mp (q.trans (by decide)))
  have th_32 : ¬ (irm x1 16).toInt = 12 := fun q => h_32 (Int32.toInt_inj.mp (q.trans (by decide)))
  have hdf : ((irm x1 16).toInt < 0 ∨ 12 < (irm x1 16).toInt) := by omega
  refine lv_tableOut (tgt := 277) hx hb dL_act_32 hdf (by decide) ?_
  refine lv_aload_n hx hb dL_act_277 rfl (lv_at hl 3 rfl) ?_
  refine lv_bipush (v := 12) hx hb dL_act_278 (by decide) ?_
  refine lv_iconst (v := 1) hx hb dL_act_280 (by decide) ?_
  refine lv_iload_n hx hb dL_act_281 rfl (lv_at hl 2 rfl) ?_
  refine lv_bipush (v := 9) hx hb dL_act_282 (by decide) ?_
  refine lv_irem hx hb dL_act_284 (by decide) ?_
  refine lv_iadd hx hb dL_act_285 ?_
  refine lv_iconst (v := 0) hx hb dL_act_286 (by decide) ?_
  refine lv_iconst (v := 0) hx hb dL_act_287 (by decide) ?_
  obtain ⟨r_36, hh_r_36, hf⟩ := obd_some hf
  refine kb_i6 (V := r_36.1) (w1 := oW cy b_0 bk_0 r_36.2) hS (Nat.le_of_ble_eq_true rfl) (Jn_1 hP hD hS hA) (va_runS (As := [.ref (b_0 0), .int 12, .int (1 + (irm (x1 / 16) 9)), .int 0, .int 0]) (rest := []) ⟨hx, hb, hml, hown, hts⟩ (c_L_call (l := l) hfl G cy b_0 bk_0 H.size r_2.2 12 (1 + (irm (x1 / 16) 9)) 0 0 n r_36 hh_r_36) (va_cwS 5 hts gB_act_L_call rfl rfl rfl ddN_L_call ⟨(Nat.le_of_ble_eq_true rfl), (Nat.le_of_ble_eq_true rfl)⟩) (preSN hXN (hE.kept hS.2.1) (Jn_1 hP hD hS hA).1 hP hK hD hN) rfl rfl hl.1 rfl (lv_room (Nat.le_of_ble_eq_true rfl)) dL_act_288 ⟨by show 0 + 6 + 3 ≤ 12; omega, by show 6 * (0 + 6) + 18 ≤ 72; omega⟩) (fun H locs hP hD hS => ?_)
  have hP : va_P G vwCl (oW cy b_0 bk_0 r_36.2) H := hP
  have hD : va_D A (oW cy b_0 bk_0 r_36.2) := hD
  refine W.widen (k := 12) (n := 72) (by omega) (by omega) ?_
  obtain rfl := Option.some.inj hf
  exact kr_i hx hb hr hlocks rfl hP hK hD hN hS hS.2.2 dL_act_291
set_option maxHeartbeats 4000000 in
set_option maxRecDepth 100000 in
theorem c_L_alike {l : Launch} (hfl : l.stackTraces = false) (G : va_G) (cy : Nat → ClassId) (b_0 bk_0 : Nat → Nat) (b_1 bk_1 : Nat → Nat) (sz : Nat) (o_0 : OT) (o_1 : OT) (x2 : Int32) (n : Nat) (R : Bool × OT × OT) (hf : f_L_alike n o_0 o_1 x2 = some R) : Met l yL_alike wB_alike ({ frames := 11, cells := 898, slots := 5388, locals := 218 } : Room) (va_Pc [.ref (b_0 0), .ref (b_1 0), .int x2] (pcN G cy (oW cy b_0 bk_0 o_0 ++ oW cy b_1 bk_1 o_1) sz)) (va_Qi (fun r (_ : Unit) => r = bI R.1) (fun _ t => Wd G cy (va_A (oW cy b_0 bk_0 o_0 ++ oW cy b_1 bk_1 o_1) sz) (oW cy b_0 bk_0 R.2.1 ++ oW cy b_1 bk_1 R.2.2) t) (va_A (oW cy b_0 bk_0 o_0 ++ oW cy b_1 bk_1 o_1) sz)) 898 5388 (va_A (oW cy b_0 bk_0 o_0 ++ oW cy b_1 bk_1 o_1) sz) := by
  refine Met.ofW (cc := cL_alike) (maxL := 6) (ret := (some .boolean)) (by decide) rfl ?_
  intro p e s m args below meth c s₁ B hml hv
  obtain ⟨rfl, ⟨⟨hsz, hP, hK, hD0, hN⟩, hE⟩, hXN⟩ := hv
  have hx := B.exec
  have hb := B.bytes
  have hr := B.returns
  have hts := atoms_spec (ws := wB_alike) B.pre
  have hown : s.vm.findClass RL = some m.cls := findClass_of_methodNamed B.named
  have hlocks := B.notSynchronized
  subst hsz
  have hD := hD0.self (sz := s.heap.size)
  generalize hAe : va_A (oW cy b_0 bk_0 o_0 ++ oW cy b_1 bk_1 o_1) s.heap.size = A at hD hE ⊢
  have hA : ∀ q : Nat, s.heap.size ≤ q → A q := fun q h => by rw [← hAe]; exact Or.inr h
  have hS : va_S A s.heap s.heap [] := va_S.rf
  have hP : va_P G vwCl (oW cy b_0 bk_0 o_0 ++ oW cy b_1 bk_1 o_1) s.heap := hP
  have bl_161 : ∀ (y3 : Int32), ∀ (k : Nat), ∀ (c_o_0 : OT) (c_o_1 : OT) (y4 : Int32) (y5 : Int32) (H : Heap) (locs : List Loc) (cc : Nat), cc + (k * 12 + (0)) ≤ 898 → f_L_alike_b161 n y3 k c_o_0 c_o_1 y4 y5 = some R → va_P G vwCl (oW cy b_0 bk_0 c_o_0 ++ oW cy b_1 bk_1 c_o_1) H → va_D A (oW cy b_0 bk_0 c_o_0 ++ oW cy b_1 bk_1 c_o_1) → va_S A s.heap H locs → ∀ (ls : Array Slot), lv_has ls 6 [(0, .ref (b_0 0)), (1, .ref (b_1 0)), (3, .int y3), (4, .int y4), (5, .int y5)] → W p l e ({ frames := 11, cells := 898, slots := 5388, locals := 218 } : Room) s m [.ref (b_0 0), .ref (b_1 0), .int x2].toArray below meth c H locs cc (6 * cc) (MQ below (va_Qi (fun r (_ : Unit) => r = bI R.1) (fun _ t => Wd G cy A (oW cy b_0 bk_0 R.2.1 ++ oW cy b_1 bk_1 R.2.2) t) A) [.ref (b_0 0), .ref (b_1 0), .int x2].toArray s 898 5388 A) (F0 m 161 ls []) := by
    intro y3
    intro k
    induction k with
    | zero =>
      intro c_o_0 c_o_1 y4 y5 H locs cc hcc hf; cases hf
    | succ k ih =>
      intro c_o_0 c_o_1 y4 y5 H locs cc hcc hf hP hD hS ls hl
      have hf := (f_L_alike_b161_s n y3 k c_o_0 c_o_1 y4 y5).symm.trans hf
      refine lv_iload hx hb dL_alike_161 (lv_at hl 4 rfl) ?_
      refine lv_iload_n hx hb dL_alike_163 rfl (lv_at hl 2 rfl) ?_
      refine lv_icmp_ge (tgt := 227) hx hb dL_alike_164 (by decide) (fun h_1 => ?_) (fun h_1 => ?_)
      · have hf := ip_ h_1 hf
        refine lv_iload hx hb dL_alike_227 (lv_at hl 3 rfl) ?_
        by_cases h_2 : y4 = 0
        · have hf := ip_ h_2 hf
          rw [show y4 = bI false from h_2]
          refine W.widen (k := 898) (n := 5388) (by omega) (by omega) ?_
          obtain rfl := Option.some.inj hf
          exact kr_z (V := bI false) hx hb hr hlocks (bI_nar _) rfl hP hK hD hN hS hS.2.2 dL_alike_229
        have hf := in_ h_2 hf
        by_cases h_3 : y4 = 1
        · have hf := ip_ h_3 hf
          rw [show y4 = bI true from h_3]
          refine W.widen (k := 898) (n := 5388) (by omega) (by omega) ?_
          obtain rfl := Option.some.inj hf
          exact kr_z (V := bI true) hx hb hr hlocks (bI_nar _) rfl hP hK hD hN hS hS.2.2 dL_alike_229
        have hf := in_ h_3 hf
        cases hf
      · have hf := in_ h_1 hf
        refine lv_iload hx hb dL_alike_167 (lv_at hl 3 rfl) ?_
        refine lv_if_eq (tgt := 227) hx hb dL_alike_169 (by decide) (fun h_4 => ?_) (fun h_4 => ?_)
        · have hf := ip_ h_4 hf
          refine lv_iload hx hb dL_alike_227 (lv_at hl 3 rfl) ?_
          by_cases h_5 : y4 = 0
          · have hf := ip_ h_5 hf
            rw [show y4 = bI false from h_5]
            refine W.widen (k := 898) (n := 5388) (by omega) (by omega) ?_
            obtain rfl := Option.some.inj hf
            exact kr_z (V := bI false) hx hb hr hlocks (bI_nar _) rfl hP hK hD hN hS hS.2.2 dL_alike_229
          have hf := in_ h_5 hf
          by_cases h_6 : y4 = 1
          · have hf := ip_ h_6 hf
            rw [show y4 = bI true from h_6]
            refine W.widen (k := 898) (n := 5388) (by omega) (by omega) ?_
            obtain rfl := Option.some.inj hf
            exact kr_z (V := bI true) hx hb hr hlocks (bI_nar _) rfl hP hK hD hN hS hS.2.2 dL_alike_229
          have hf := in_ h_6 hf
          cases hf
        · have hf := in_ h_4 hf
          refine lv_aload_n hx hb dL_alike_172 rfl (lv_at hl 0 rfl) ?_
          refine lv_iconst (v := 3) hx hb dL_alike_173 (by decide) ?_
          refine lv_iload hx hb dL_alike_174 (lv_at hl 4 rfl) ?_
          refine lv_iconst (v := 1) hx hb dL_alike_176 (by decide) ?_
          refine lv_iconst (v := 0) hx hb dL_alike_177 (by decide) ?_
          obtain ⟨r_7, hh_r_7, hf⟩ := obd_some hf
          refine kb_i6 (V := r_7.1) (w1 := oW cy b_0 bk_0 r_7.2) hS (Nat.le_of_ble_eq_true rfl) (Jn_l hP hD hS hA) (va_runS (As := [.ref (b_0 0), .int 3, .int y5, .int 1, .int 0]) (rest := []) ⟨hx, hb, hml, hown, hts⟩ (c_L_call (l := l) hfl G cy b_0 bk_0 H.size c_o_0 3 y5 1 0 n r_7 hh_r_7) (va_cwS 5 hts gB_alike_L_call rfl rfl rfl ddN_L_call ⟨(Nat.le_of_ble_eq_true rfl), (Nat.le_of_ble_eq_true rfl)⟩) (preSN hXN (hE.kept hS.2.1) (Jn_l hP hD hS hA).1 (P_l hP) hK (D_l hD) hN) rfl rfl hl.1 rfl (lv_room (Nat.le_of_ble_eq_true rfl)) dL_alike_178 ⟨by show cc + 3 ≤ 898; omega, by show 6 * cc + 18 ≤ 5388; omega⟩) (fun H locs hP hD hS => ?_)
          have hP : va_P G vwCl (oW cy b_0 bk_0 r_7.2 ++ oW cy b_1 bk_1 c_o_1) H := hP
          have hD : va_D A (oW cy b_0 bk_0 r_7.2 ++ oW cy b_1 bk_1 c_o_1) := hD
          refine lv_aload_n hx hb dL_alike_181 rfl (lv_at hl 1 rfl) ?_
          refine lv_iconst (v := 3) hx hb dL_alike_182 (by decide) ?_
          refine lv_iload hx hb dL_alike_183 (lv_at hl 4 rfl) ?_
          refine lv_iconst (v := 1) hx hb dL_alike_185 (by decide) ?_
          refine lv_iconst (v := 0) hx hb dL_alike_186 (by decide) ?_
          obtain ⟨r_8, hh_r_8, hf⟩ := obd_some hf
          refine kb_i6 (V := r_8.1) (w1 := oW cy b_1 bk_1 r_8.2) hS (Nat.le_of_ble_eq_true rfl) (Jn_r hP hD hS hA) (va_runS (As := [.ref (b_1 0), .int 3, .int y5, .int 1, .int 0]) (rest := [.int r_7.1]) ⟨hx, hb, hml, hown, hts⟩ (c_L_call (l := l) hfl G cy b_1 bk_1 H.size c_o_1 3 y5 1 0 n r_8 hh_r_8) (va_cwS 5 hts gB_alike_L_call rfl rfl rfl ddN_L_call ⟨(Nat.le_of_ble_eq_true rfl), (Nat.le_of_ble_eq_true rfl)⟩) (preSN hXN (hE.kept hS.2.1) (Jn_r hP hD hS hA).1 (P_r hP) hK (D_r hD) hN) rfl rfl hl.1 rfl (lv_room (Nat.le_of_ble_eq_true rfl)) dL_alike_187 ⟨by show cc + 3 + 3 ≤ 898; omega, by show 6 * (cc + 3) + 18 ≤ 5388; omega⟩) (fun H locs hP hD hS => ?_)
          have hP : va_P G vwCl (oW cy b_0 bk_0 r_7.2 ++ oW cy b_1 bk_1 r_8.2) H := hP
          have hD : va_D A (oW cy b_0 bk_0 r_7.2 ++ oW cy b_1 bk_1 r_8.2) := hD
          refine lv_icmp_ne (tgt := 218) hx hb dL_alike_190 (by decide) (fun h_9 => ?_) (fun h_9 => ?_)
          · have hf := in_ h_9 hf
            refine lv_iconst (v := 0) hx hb dL_alike_218 (by decide) ?_
            refine lv_istore (lv' := [(4, .int 0), (0, .ref (b_0 0)), (1, .ref (b_1 0)), (3, .int y3), (5, .int y5)]) hx hb dL_alike_219 hl (by decide) rfl (fun ls hl => ?_)
            refine lv_iinc (v := (y5 + 1)) (lv' := [(5, .int (y5 + 1)), (4, .int 0), (0, .ref (b_0 0)), (1, .ref (b_1 0)), (3, .int y3)]) hx hb dL_alike_221 hl (k := 4) rfl rfl (by decide) rfl (fun ls hl => ?_)
            refine lv_goto (tgt := 161) hx hb dL_alike_224 (by decide) ?_
            exact ih r_7.2 r_8.2 0 (y5 + 1) _ _ _ (by omega) hf hP hD hS ls (lv_sub hl [2, 3, 4, 1, 0] rfl)
          · have hf := ip_ h_9 hf
            refine lv_aload_n hx hb dL_alike_193 rfl (lv_at hl 0 rfl) ?_
            refine lv_iconst (v := 3) hx hb dL_alike_194 (by decide) ?_
            refine lv_iload hx hb dL_alike_195 (lv_at hl 4 rfl) ?_
            refine lv_iconst (v := 3) hx hb dL_alike_197 (by decide) ?_
            refine lv_iconst (v := 0) hx hb dL_alike_198 (by decide) ?_
            obtain ⟨r_10, hh_r_10, hf⟩ := obd_some hf
            refine kb_i6 (V := r_10.1) (w1 := oW cy b_0 bk_0 r_10.2) hS (Nat.le_of_ble_eq_true rfl) (Jn_l hP hD hS hA) (va_runS (As := [.ref (b_0 0), .int 3, .int y5, .int 3, .int 0]) (rest := []) ⟨hx, hb, hml, hown, hts⟩ (c_L_call (l := l) hfl G cy b_0 bk_0 H.size r_7.2 3 y5 3 0 n r_10 hh_r_10) (va_cwS 5 hts gB_alike_L_call rfl rfl rfl ddN_L_call ⟨(Nat.le_of_ble_eq_true rfl), (Nat.le_of_ble_eq_true rfl)⟩) (preSN hXN (hE.kept hS.2.1) (Jn_l hP hD hS hA).1 (P_l hP) hK (D_l hD) hN) rfl rfl hl.1 rfl (lv_room (Nat.le_of_ble_eq_true rfl)) dL_alike_199 ⟨by show cc + 6 + 3 ≤ 898; omega, by show 6 * (cc + 6) + 18 ≤ 5388; omega⟩) (fun H locs hP hD hS => ?_)
            have hP : va_P G vwCl (oW cy b_0 bk_0 r_10.2 ++ oW cy b_1 bk_1 r_8.2) H := hP
            have hD : va_D A (oW cy b_0 bk_0 r_10.2 ++ oW cy b_1 bk_1 r_8.2) := hD
            refine lv_aload_n hx hb dL_alike_202 rfl (lv_at hl 1 rfl) ?_
            refine lv_iconst (v := 3) hx hb dL_alike_203 (by decide) ?_
            refine lv_iload hx hb dL_alike_204 (lv_at hl 4 rfl) ?_
            refine lv_iconst (v := 3) hx hb dL_alike_206 (by decide) ?_
            refine lv_iconst (v := 0) hx hb dL_alike_207 (by decide) ?_
            obtain ⟨r_11, hh_r_11, hf⟩ := obd_some hf
            refine kb_i6 (V := r_11.1) (w1 := oW cy b_1 bk_1 r_11.2) hS (Nat.le_of_ble_eq_true rfl) (Jn_r hP hD hS hA) (va_runS (As := [.ref (b_1 0), .int 3, .int y5, .int 3, .int 0]) (rest := [.int r_10.1]) ⟨hx, hb, hml, hown, hts⟩ (c_L_call (l := l) hfl G cy b_1 bk_1 H.size r_8.2 3 y5 3 0 n r_11 hh_r_11) (va_cwS 5 hts gB_alike_L_call rfl rfl rfl ddN_L_call ⟨(Nat.le_of_ble_eq_true rfl), (Nat.le_of_ble_eq_true rfl)⟩) (preSN hXN (hE.kept hS.2.1) (Jn_r hP hD hS hA).1 (P_r hP) hK (D_r hD) hN) rfl rfl hl.1 rfl (lv_room (Nat.le_of_ble_eq_true rfl)) dL_alike_208 ⟨by show cc + 9 + 3 ≤ 898; omega, by show 6 * (cc + 9) + 18 ≤ 5388; omega⟩) (fun H locs hP hD hS => ?_)
            have hP : va_P G vwCl (oW cy b_0 bk_0 r_10.2 ++ oW cy b_1 bk_1 r_11.2) H := hP
            have hD : va_D A (oW cy b_0 bk_0 r_10.2 ++ oW cy b_1 bk_1 r_11.2) := hD
            refine lv_icmp_ne (tgt := 218) hx hb dL_alike_211 (by decide) (fun h_12 => ?_) (fun h_12 => ?_)
            · have hf := in_ h_12 hf
              refine lv_iconst (v := 0) hx hb dL_alike_218 (by decide) ?_
              refine lv_istore (lv' := [(4, .int 0), (0, .ref (b_0 0)), (1, .ref (b_1 0)), (3, .int y3), (5, .int y5)]) hx hb dL_alike_219 hl (by decide) rfl (fun ls hl => ?_)
              refine lv_iinc (v := (y5 + 1)) (lv' := [(5, .int (y5 + 1)), (4, .int 0), (0, .ref (b_0 0)), (1, .ref (b_1 0)), (3, .int y3)]) hx hb dL_alike_221 hl (k := 4) rfl rfl (by decide) rfl (fun ls hl => ?_)
              refine lv_goto (tgt := 161) hx hb dL_alike_224 (by decide) ?_
              exact ih r_10.2 r_11.2 0 (y5 + 1) _ _ _ (by omega) hf hP hD hS ls (lv_sub hl [2, 3, 4, 1, 0] rfl)
            · have hf := ip_ h_12 hf
              refine lv_iconst (v := 1) hx hb dL_alike_214 (by decide) ?_
              refine lv_goto (tgt := 219) hx hb dL_alike_215 (by decide) ?_
              refine lv_istore (lv' := [(4, .int 1), (0, .ref (b_0 0)), (1, .ref (b_1 0)), (3, .int y3), (5, .int y5)]) hx hb dL_alike_219 hl (by decide) rfl (fun ls hl => ?_)
              refine lv_iinc (v := (y5 + 1)) (lv' := [(5, .int (y5 + 1)), (4, .int 1), (0, .ref (b_0 0)), (1, .ref (b_1 0)), (3, .int y3)]) hx hb dL_alike_221 hl (k := 4) rfl rfl (by decide) rfl (fun ls hl => ?_)
              refine lv_goto (tgt := 161) hx hb dL_alike_224 (by decide) ?_
              exact ih r_10.2 r_11.2 1 (y5 + 1) _ _ _ (by omega) hf hP hD hS ls (lv_sub hl [2, 3, 4, 1, 0] rfl)
  have bl_91 : ∀ (y3 : Int32), ∀ (k : Nat), ∀ (c_o_0 : OT) (c_o_1 : OT) (y4 : Int32) (y5 : Int32) (H : Heap) (locs : List Loc) (cc : Nat), cc + (k * 12 + (780)) ≤ 898 → f_L_alike_b91 n y3 k c_o_0 c_o_1 y4 y5 = some R → va_P G vwCl (oW cy b_0 bk_0 c_o_0 ++ oW cy b_1 bk_1 c_o_1) H → va_D A (oW cy b_0 bk_0 c_o_0 ++ oW cy b_1 bk_1 c_o_1) → va_S A s.heap H locs → ∀ (ls : Array Slot), lv_has ls 6 [(0, .ref (b_0 0)), (1, .ref (b_1 0)), (3, .int y3), (4, .int y4), (5, .int y5)] → W p l e ({ frames := 11, cells := 898, slots := 5388, locals := 218 } : Room) s m [.ref (b_0 0), .ref (b_1 0), .int x2].toArray below meth c H locs cc (6 * cc) (MQ below (va_Qi (fun r (_ : Unit) => r = bI R.1) (fun _ t => Wd G cy A (oW cy b_0 bk_0 R.2.1 ++ oW cy b_1 bk_1 R.2.2) t) A) [.ref (b_0 0), .ref (b_1 0), .int x2].toArray s 898 5388 A) (F0 m 91 ls []) := by
    intro y3
    intro k
    induction k with
    | zero =>
      intro c_o_0 c_o_1 y4 y5 H locs cc hcc hf; cases hf
    | succ k ih =>
      intro c_o_0 c_o_1 y4 y5 H locs cc hcc hf hP hD hS ls hl
      have hf := (f_L_alike_b91_s n y3 k c_o_0 c_o_1 y4 y5).symm.trans hf
      refine lv_iload hx hb dL_alike_91 (lv_at hl 4 rfl) ?_
      refine lv_bipush (v := 8) hx hb dL_alike_93 (by decide) ?_
      refine lv_icmp_ge (tgt := 158) hx hb dL_alike_95 (by decide) (fun h_13 => ?_) (fun h_13 => ?_)
      · have hf := ip_ h_13 hf
        refine lv_iconst (v := 0) hx hb dL_alike_158 (by decide) ?_
        refine lv_istore (lv' := [(5, .int 0), (0, .ref (b_0 0)), (1, .ref (b_1 0)), (3, .int y3), (4, .int y4)]) hx hb dL_alike_159 hl (by decide) rfl (fun ls hl => ?_)
        exact bl_161 y3 65 c_o_0 c_o_1 y4 0 _ _ _ (by omega) hf hP hD hS ls (lv_sub hl [1, 2, 3, 4, 0] rfl)
      · have hf := in_ h_13 hf
        refine lv_iload hx hb dL_alike_98 (lv_at hl 3 rfl) ?_
        refine lv_if_eq (tgt := 158) hx hb dL_alike_100 (by decide) (fun h_14 => ?_) (fun h_14 => ?_)
        · have hf := ip_ h_14 hf
          refine lv_iconst (v := 0) hx hb dL_alike_158 (by decide) ?_
          refine lv_istore (lv' := [(5, .int 0), (0, .ref (b_0 0)), (1, .ref (b_1 0)), (3, .int y3), (4, .int y4)]) hx hb dL_alike_159 hl (by decide) rfl (fun ls hl => ?_)
          exact bl_161 y3 65 c_o_0 c_o_1 y4 0 _ _ _ (by omega) hf hP hD hS ls (lv_sub hl [1, 2, 3, 4, 0] rfl)
        · have hf := in_ h_14 hf
          refine lv_aload_n hx hb dL_alike_103 rfl (lv_at hl 0 rfl) ?_
          refine lv_iconst (v := 2) hx hb dL_alike_104 (by decide) ?_
          refine lv_iload hx hb dL_alike_105 (lv_at hl 4 rfl) ?_
          refine lv_iconst (v := 0) hx hb dL_alike_107 (by decide) ?_
          refine lv_iconst (v := 0) hx hb dL_alike_108 (by decide) ?_
          obtain ⟨r_15, hh_r_15, hf⟩ := obd_some hf
          refine kb_i6 (V := r_15.1) (w1 := oW cy b_0 bk_0 r_15.2) hS (Nat.le_of_ble_eq_true rfl) (Jn_l hP hD hS hA) (va_runS (As := [.ref (b_0 0), .int 2, .int y5, .int 0, .int 0]) (rest := []) ⟨hx, hb, hml, hown, hts⟩ (c_L_call (l := l) hfl G cy b_0 bk_0 H.size c_o_0 2 y5 0 0 n r_15 hh_r_15) (va_cwS 5 hts gB_alike_L_call rfl rfl rfl ddN_L_call ⟨(Nat.le_of_ble_eq_true rfl), (Nat.le_of_ble_eq_true rfl)⟩) (preSN hXN (hE.kept hS.2.1) (Jn_l hP hD hS hA).1 (P_l hP) hK (D_l hD) hN) rfl rfl hl.1 rfl (lv_room (Nat.le_of_ble_eq_true rfl)) dL_alike_109 ⟨by show cc + 3 ≤ 898; omega, by show 6 * cc + 18 ≤ 5388; omega⟩) (fun H locs hP hD hS => ?_)
          have hP : va_P G vwCl (oW cy b_0 bk_0 r_15.2 ++ oW cy b_1 bk_1 c_o_1) H := hP
          have hD : va_D A (oW cy b_0 bk_0 r_15.2 ++ oW cy b_1 bk_1 c_o_1) := hD
          refine lv_aload_n hx hb dL_alike_112 rfl (lv_at hl 1 rfl) ?_
          refine lv_iconst (v := 2) hx hb dL_alike_113 (by decide) ?_
          refine lv_iload hx hb dL_alike_114 (lv_at hl 4 rfl) ?_
          refine lv_iconst (v := 0) hx hb dL_alike_116 (by decide) ?_
          refine lv_iconst (v := 0) hx hb dL_alike_117 (by decide) ?_
          obtain ⟨r_16, hh_r_16, hf⟩ := obd_some hf
          refine kb_i6 (V := r_16.1) (w1 := oW cy b_1 bk_1 r_16.2) hS (Nat.le_of_ble_eq_true rfl) (Jn_r hP hD hS hA) (va_runS (As := [.ref (b_1 0), .int 2, .int y5, .int 0, .int 0]) (rest := [.int r_15.1]) ⟨hx, hb, hml, hown, hts⟩ (c_L_call (l := l) hfl G cy b_1 bk_1 H.size c_o_1 2 y5 0 0 n r_16 hh_r_16) (va_cwS 5 hts gB_alike_L_call rfl rfl rfl ddN_L_call ⟨(Nat.le_of_ble_eq_true rfl), (Nat.le_of_ble_eq_true rfl)⟩) (preSN hXN (hE.kept hS.2.1) (Jn_r hP hD hS hA).1 (P_r hP) hK (D_r hD) hN) rfl rfl hl.1 rfl (lv_room (Nat.le_of_ble_eq_true rfl)) dL_alike_118 ⟨by show cc + 3 + 3 ≤ 898; omega, by show 6 * (cc + 3) + 18 ≤ 5388; omega⟩) (fun H locs hP hD hS => ?_)
          have hP : va_P G vwCl (oW cy b_0 bk_0 r_15.2 ++ oW cy b_1 bk_1 r_16.2) H := hP
          have hD : va_D A (oW cy b_0 bk_0 r_15.2 ++ oW cy b_1 bk_1 r_16.2) := hD
          refine lv_icmp_ne (tgt := 149) hx hb dL_alike_121 (by decide) (fun h_17 => ?_) (fun h_17 => ?_)
          · have hf := in_ h_17 hf
            refine lv_iconst (v := 0) hx hb dL_alike_149 (by decide) ?_
            refine lv_istore (lv' := [(4, .int 0), (0, .ref (b_0 0)), (1, .ref (b_1 0)), (3, .int y3), (5, .int y5)]) hx hb dL_alike_150 hl (by decide) rfl (fun ls hl => ?_)
            refine lv_iinc (v := (y5 + 1)) (lv' := [(5, .int (y5 + 1)), (4, .int 0), (0, .ref (b_0 0)), (1, .ref (b_1 0)), (3, .int y3)]) hx hb dL_alike_152 hl (k := 4) rfl rfl (by decide) rfl (fun ls hl => ?_)
            refine lv_goto (tgt := 91) hx hb dL_alike_155 (by decide) ?_
            exact ih r_15.2 r_16.2 0 (y5 + 1) _ _ _ (by omega) hf hP hD hS ls (lv_sub hl [2, 3, 4, 1, 0] rfl)
          · have hf := ip_ h_17 hf
            refine lv_aload_n hx hb dL_alike_124 rfl (lv_at hl 0 rfl) ?_
            refine lv_iconst (v := 5) hx hb dL_alike_125 (by decide) ?_
            refine lv_iload hx hb dL_alike_126 (lv_at hl 4 rfl) ?_
            refine lv_iconst (v := 0) hx hb dL_alike_128 (by decide) ?_
            refine lv_iconst (v := 0) hx hb dL_alike_129 (by decide) ?_
            obtain ⟨r_18, hh_r_18, hf⟩ := obd_some hf
            refine kb_i6 (V := r_18.1) (w1 := oW cy b_0 bk_0 r_18.2) hS (Nat.le_of_ble_eq_true rfl) (Jn_l hP hD hS hA) (va_runS (As := [.ref (b_0 0), .int 5, .int y5, .int 0, .int 0]) (rest := []) ⟨hx, hb, hml, hown, hts⟩ (c_L_call (l := l) hfl G cy b_0 bk_0 H.size r_15.2 5 y5 0 0 n r_18 hh_r_18) (va_cwS 5 hts gB_alike_L_call rfl rfl rfl ddN_L_call ⟨(Nat.le_of_ble_eq_true rfl), (Nat.le_of_ble_eq_true rfl)⟩) (preSN hXN (hE.kept hS.2.1) (Jn_l hP hD hS hA).1 (P_l hP) hK (D_l hD) hN) rfl rfl hl.1 rfl (lv_room (Nat.le_of_ble_eq_true rfl)) dL_alike_130 ⟨by show cc + 6 + 3 ≤ 898; omega, by show 6 * (cc + 6) + 18 ≤ 5388; omega⟩) (fun H locs hP hD hS => ?_)
            have hP : va_P G vwCl (oW cy b_0 bk_0 r_18.2 ++ oW cy b_1 bk_1 r_16.2) H := hP
            have hD : va_D A (oW cy b_0 bk_0 r_18.2 ++ oW cy b_1 bk_1 r_16.2) := hD
            refine lv_aload_n hx hb dL_alike_133 rfl (lv_at hl 1 rfl) ?_
            refine lv_iconst (v := 5) hx hb dL_alike_134 (by decide) ?_
            refine lv_iload hx hb dL_alike_135 (lv_at hl 4 rfl) ?_
            refine lv_iconst (v := 0) hx hb dL_alike_137 (by decide) ?_
            refine lv_iconst (v := 0) hx hb dL_alike_138 (by decide) ?_
            obtain ⟨r_19, hh_r_19, hf⟩ := obd_some hf
            refine kb_i6 (V := r_19.1) (w1 := oW cy b_1 bk_1 r_19.2) hS (Nat.le_of_ble_eq_true rfl) (Jn_r hP hD hS hA) (va_runS (As := [.ref (b_1 0), .int 5, .int y5, .int 0, .int 0]) (rest := [.int r_18.1]) ⟨hx, hb, hml, hown, hts⟩ (c_L_call (l := l) hfl G cy b_1 bk_1 H.size r_16.2 5 y5 0 0 n r_19 hh_r_19) (va_cwS 5 hts gB_alike_L_call rfl rfl rfl ddN_L_call ⟨(Nat.le_of_ble_eq_true rfl), (Nat.le_of_ble_eq_true rfl)⟩) (preSN hXN (hE.kept hS.2.1) (Jn_r hP hD hS hA).1 (P_r hP) hK (D_r hD) hN) rfl rfl hl.1 rfl (lv_room (Nat.le_of_ble_eq_true rfl)) dL_alike_139 ⟨by show cc + 9 + 3 ≤ 898; omega, by show 6 * (cc + 9) + 18 ≤ 5388; omega⟩) (fun H locs hP hD hS => ?_)
            have hP : va_P G vwCl (oW cy b_0 bk_0 r_18.2 ++ oW cy b_1 bk_1 r_19.2) H := hP
            have hD : va_D A (oW cy b_0 bk_0 r_18.2 ++ oW cy b_1 bk_1 r_19.2) := hD
            refine lv_icmp_ne (tgt := 149) hx hb dL_alike_142 (by decide) (fun h_20 => ?_) (fun h_20 => ?_)
            · have hf := in_ h_20 hf
              refine lv_iconst (v := 0) hx hb dL_alike_149 (by decide) ?_
              refine lv_istore (lv' := [(4, .int 0), (0, .ref (b_0 0)), (1, .ref (b_1 0)), (3, .int y3), (5, .int y5)]) hx hb dL_alike_150 hl (by decide) rfl (fun ls hl => ?_)
              refine lv_iinc (v := (y5 + 1)) (lv' := [(5, .int (y5 + 1)), (4, .int 0), (0, .ref (b_0 0)), (1, .ref (b_1 0)), (3, .int y3)]) hx hb dL_alike_152 hl (k := 4) rfl rfl (by decide) rfl (fun ls hl => ?_)
              refine lv_goto (tgt := 91) hx hb dL_alike_155 (by decide) ?_
              exact ih r_18.2 r_19.2 0 (y5 + 1) _ _ _ (by omega) hf hP hD hS ls (lv_sub hl [2, 3, 4, 1, 0] rfl)
            · have hf := ip_ h_20 hf
              refine lv_iconst (v := 1) hx hb dL_alike_145 (by decide) ?_
              refine lv_goto (tgt := 150) hx hb dL_alike_146 (by decide) ?_
              refine lv_istore (lv' := [(4, .int 1), (0, .ref (b_0 0)), (1, .ref (b_1 0)), (3, .int y3), (5, .int y5)]) hx hb dL_alike_150 hl (by decide) rfl (fun ls hl => ?_)
              refine lv_iinc (v := (y5 + 1)) (lv' := [(5, .int (y5 + 1)), (4, .int 1), (0, .ref (b_0 0)), (1, .ref (b_1 0)), (3, .int y3)]) hx hb dL_alike_152 hl (k := 4) rfl rfl (by decide) rfl (fun ls hl => ?_)
              refine lv_goto (tgt := 91) hx hb dL_alike_155 (by decide) ?_
              exact ih r_18.2 r_19.2 1 (y5 + 1) _ _ _ (by omega) hf hP hD hS ls (lv_sub hl [2, 3, 4, 1, 0] rfl)
  have hl := lv_entry [.ref (b_0 0), .ref (b_1 0), .int x2] (n := 6) (Nat.le_of_ble_eq_true rfl)
  rw [lg_entry_eq]
  generalize (lg_sl [.ref (b_0 0), .ref (b_1 0), .int x2] ++ List.replicate (6 - (lg_sl [.ref (b_0 0), .ref (b_1 0), .int x2]).length) Slot.unset).toArray = ls at hl ⊢
  have hl : lv_has ls 6 [(0, .ref (b_0 0)), (1, .ref (b_1 0)), (2, .int x2)] := hl
  unfold f_L_alike at hf
  refine W.widen (k := 0) (n := 6 * 0) (Nat.le_refl _) (Nat.le_refl _) ?_
  refine lv_aload_n hx hb dL_alike_0 rfl (lv_at hl 0 rfl) ?_
  refine lv_iconst (v := 2) hx hb dL_alike_1 (by decide) ?_
  refine lv_iconst (v := 0) hx hb dL_alike_2 (by decide) ?_
  refine lv_iconst (v := 0) hx hb dL_alike_3 (by decide) ?_
  refine lv_iconst (v := 0) hx hb dL_alike_4 (by decide) ?_
  obtain ⟨r_21, hh_r_21, hf⟩ := obd_some hf
  refine kb_i6 (V := r_21.1) (w1 := oW cy b_0 bk_0 r_21.2) hS (Nat.le_of_ble_eq_true rfl) (Jn_l hP hD hS hA) (va_runS (As := [.ref (b_0 0), .int 2, .int 0, .int 0, .int 0]) (rest := []) ⟨hx, hb, hml, hown, hts⟩ (c_L_call (l := l) hfl G cy b_0 bk_0 s.heap.size o_0 2 0 0 0 n r_21 hh_r_21) (va_cwS 5 hts gB_alike_L_call rfl rfl rfl ddN_L_call ⟨(Nat.le_of_ble_eq_true rfl), (Nat.le_of_ble_eq_true rfl)⟩) (preSN hXN (hE.kept hS.2.1) (Jn_l hP hD hS hA).1 (P_l hP) hK (D_l hD) hN) rfl rfl hl.1 rfl (lv_room (Nat.le_of_ble_eq_true rfl)) dL_alike_5 ⟨by show 0 + 3 ≤ 898; omega, by show 6 * 0 + 18 ≤ 5388; omega⟩) (fun H locs hP hD hS => ?_)
  have hP : va_P G vwCl (oW cy b_0 bk_0 r_21.2 ++ oW cy b_1 bk_1 o_1) H := hP
  have hD : va_D A (oW cy b_0 bk_0 r_21.2 ++ oW cy b_1 bk_1 o_1) := hD
  refine lv_aload_n hx hb dL_alike_8 rfl (lv_at hl 0 rfl) ?_
  refine lv_iconst (v := 2) hx hb dL_alike_9 (by decide) ?_
  refine lv_iconst (v := 1) hx hb dL_alike_10 (by decide) ?_
  refine lv_iconst (v := 0) hx hb dL_alike_11 (by decide) ?_
  refine lv_iconst (v := 0) hx hb dL_alike_12 (by decide) ?_
  obtain ⟨r_22, hh_r_22, hf⟩ := obd_some hf
  refine kb_i6 (V := r_22.1) (w1 := oW cy b_0 bk_0 r_22.2) hS (Nat.le_of_ble_eq_true rfl) (Jn_l hP hD hS hA) (va_runS (As := [.ref (b_0 0), .int 2, .int 1, .int 0, .int 0]) (rest := [.int r_21.1]) ⟨hx, hb, hml, hown, hts⟩ (c_L_call (l := l) hfl G cy b_0 bk_0 H.size r_21.2 2 1 0 0 n r_22 hh_r_22) (va_cwS 5 hts gB_alike_L_call rfl rfl rfl ddN_L_call ⟨(Nat.le_of_ble_eq_true rfl), (Nat.le_of_ble_eq_true rfl)⟩) (preSN hXN (hE.kept hS.2.1) (Jn_l hP hD hS hA).1 (P_l hP) hK (D_l hD) hN) rfl rfl hl.1 rfl (lv_room (Nat.le_of_ble_eq_true rfl)) dL_alike_13 ⟨by show 0 + 3 + 3 ≤ 898; omega, by show 6 * (0 + 3) + 18 ≤ 5388; omega⟩) (fun H locs hP hD hS => ?_)
  have hP : va_P G vwCl (oW cy b_0 bk_0 r_22.2 ++ oW cy b_1 bk_1 o_1) H := hP
  have hD : va_D A (oW cy b_0 bk_0 r_22.2 ++ oW cy b_1 bk_1 o_1) := hD
  refine lv_imul hx hb dL_alike_16 ?_
  refine lv_istore_n (lv' := [(3, .int (r_21.1 * r_22.1)), (0, .ref (b_0 0)), (1, .ref (b_1 0)), (2, .int x2)]) hx hb dL_alike_17 rfl hl (by decide) rfl (fun ls hl => ?_)
  refine lv_aload_n hx hb dL_alike_18 rfl (lv_at hl 1 rfl) ?_
  refine lv_iload_n hx hb dL_alike_19 rfl (lv_at hl 3 rfl) ?_
  refine lv_i2l (v := x2.toInt64) hx hb dL_alike_20 rfl ?_
  refine lv_iconst (v := 1) hx hb dL_alike_21 (by decide) ?_
  refine lv_iload_n hx hb dL_alike_22 rfl (lv_at hl 3 rfl) ?_
  refine lv_bipush (v := 20) hx hb dL_alike_23 (by decide) ?_
  refine lv_irem hx hb dL_alike_25 (by decide) ?_
  refine lv_iadd hx hb dL_alike_26 ?_
  obtain ⟨r_23, hh_r_23, hf⟩ := obd_some hf
  refine kbx_i (R0 := r_23) (w1 := fun (u : Int32 × WT) => oW cy b_0 bk_0 (oTr r_22.2 u.2)) (V := fun (u : Int32 × WT) => u.1) hS (Nat.le_of_ble_eq_true rfl) (Jn_l hP hD hS hA) (vx_runSX (As := [.ref (b_0 0), .long x2.toInt64, .int (1 + (irm x2 20))]) (rest := []) ⟨hx, hb, hml, hown, hts⟩ (c_L_doSimulate (l := l) hfl G cy (b_0 0) (b_0 1) (b_0 2) (b_0 3) (b_0 4) (b_0 5) (b_0 6) (b_0 7) (b_0 8) (b_0 9) (b_0 10) (b_0 11) (b_0 12) (b_0 13) bk_0 H.size r_22.2.1 r_22.2.2.1 r_22.2.2.2.1 r_22.2.2.2.2.1 r_22.2.2.2.2.2.1 r_22.2.2.2.2.2.2.1 r_22.2.2.2.2.2.2.2.1 r_22.2.2.2.2.2.2.2.2.1 r_22.2.2.2.2.2.2.2.2.2.1 r_22.2.2.2.2.2.2.2.2.2.2.1 r_22.2.2.2.2.2.2.2.2.2.2.2.1 r_22.2.2.2.2.2.2.2.2.2.2.2.2.1 r_22.2.2.2.2.2.2.2.2.2.2.2.2.2 x2.toInt64 (1 + (irm x2 20)) n r_23 hh_r_23) (vx_cwSW 3 hts gB_alike_L_doSimulate rfl rfl rfl ddN_L_doSimulate ⟨(Nat.le_of_ble_eq_true rfl), (Nat.le_of_ble_eq_true rfl)⟩) (preSN hXN (hE.kept hS.2.1) (Jn_l hP hD hS hA).1 (P_l hP) hK (D_l hD) hN) rfl rfl hl.1 rfl (lv_room (Nat.le_of_ble_eq_true rfl)) dL_alike_27 ⟨by show 0 + 6 + 1 ≤ 898; omega, by show 6 * (0 + 6) + 6 ≤ 5388; omega⟩) (fun H locs hP hD hS => ?_)
  have hP : va_P G vwCl (oW cy b_0 bk_0 (oTr r_22.2 r_23.2) ++ oW cy b_1 bk_1 o_1) H := hP
  have hD : va_D A (oW cy b_0 bk_0 (oTr r_22.2 r_23.2) ++ oW cy b_1 bk_1 o_1) := hD
  refine lv_aload_n hx hb dL_alike_30 rfl (lv_at hl 2 rfl) ?_
  refine lv_iload_n hx hb dL_alike_31 rfl (lv_at hl 3 rfl) ?_
  refine lv_i2l (v := x2.toInt64) hx hb dL_alike_32 rfl ?_
  refine lv_iconst (v := 1) hx hb dL_alike_33 (by decide) ?_
  refine lv_iload_n hx hb dL_alike_34 rfl (lv_at hl 3 rfl) ?_
  refine lv_bipush (v := 20) hx hb dL_alike_35 (by decide) ?_
  refine lv_irem hx hb dL_alike_37 (by decide) ?_
  refine lv_iadd hx hb dL_alike_38 ?_
  obtain ⟨r_24, hh_r_24, hf⟩ := obd_some hf
  refine kbx_i (R0 := r_24) (w1 := fun (u : Int32 × WT) => oW cy b_1 bk_1 (oTr o_1 u.2)) (V := fun (u : Int32 × WT) => u.1) hS (Nat.le_of_ble_eq_true rfl) (Jn_r hP hD hS hA) (vx_runSX (As := [.ref (b_1 0), .long x2.toInt64, .int (1 + (irm x2 20))]) (rest := [.int r_23.1]) ⟨hx, hb, hml, hown, hts⟩ (c_L_doSimulate (l := l) hfl G cy (b_1 0) (b_1 1) (b_1 2) (b_1 3) (b_1 4) (b_1 5) (b_1 6) (b_1 7) (b_1 8) (b_1 9) (b_1 10) (b_1 11) (b_1 12) (b_1 13) bk_1 H.size o_1.1 o_1.2.1 o_1.2.2.1 o_1.2.2.2.1 o_1.2.2.2.2.1 o_1.2.2.2.2.2.1 o_1.2.2.2.2.2.2.1 o_1.2.2.2.2.2.2.2.1 o_1.2.2.2.2.2.2.2.2.1 o_1.2.2.2.2.2.2.2.2.2.1 o_1.2.2.2.2.2.2.2.2.2.2.1 o_1.2.2.2.2.2.2.2.2.2.2.2.1 o_1.2.2.2.2.2.2.2.2.2.2.2.2 x2.toInt64 (1 + (irm x2 20)) n r_24 hh_r_24) (vx_cwSW 3 hts gB_alike_L_doSimulate rfl rfl rfl ddN_L_doSimulate ⟨(Nat.le_of_ble_eq_true rfl), (Nat.le_of_ble_eq_true rfl)⟩) (preSN hXN (hE.kept hS.2.1) (Jn_r hP hD hS hA).1 (P_r hP) hK (D_r hD) hN) rfl rfl hl.1 rfl (lv_room (Nat.le_of_ble_eq_true rfl)) dL_alike_39 ⟨by show 0 + 7 + 1 ≤ 898; omega, by show 6 * (0 + 7) + 6 ≤ 5388; omega⟩) (fun H locs hP hD hS => ?_)
  have hP : va_P G vwCl (oW cy b_0 bk_0 (oTr r_22.2 r_23.2) ++ oW cy b_1 bk_1 (oTr o_1 r_24.2)) H := hP
  have hD : va_D A (oW cy b_0 bk_0 (oTr r_22.2 r_23.2) ++ oW cy b_1 bk_1 (oTr o_1 r_24.2)) := hD
  refine lv_icmp_ne (tgt := 85) hx hb dL_alike_42 (by decide) (fun h_25 => ?_) (fun h_25 => ?_)
  · have hf := in_ h_25 hf
    refine lv_iconst (v := 0) hx hb dL_alike_85 (by decide) ?_
    refine lv_istore (lv' := [(4, .int 0), (3, .int (r_21.1 * r_22.1)), (0, .ref (b_0 0)), (1, .ref (b_1 0)), (2, .int x2)]) hx hb dL_alike_86 hl (by decide) rfl (fun ls hl => ?_)
    refine lv_iconst (v := 0) hx hb dL_alike_88 (by decide) ?_
    refine lv_istore (lv' := [(5, .int 0), (4, .int 0), (3, .int (r_21.1 * r_22.1)), (0, .ref (b_0 0)), (1, .ref (b_1 0)), (2, .int x2)]) hx hb dL_alike_89 hl (by decide) rfl (fun ls hl => ?_)
    exact bl_91 (r_21.1 * r_22.1) 9 (oTr r_22.2 r_23.2) (oTr o_1 r_24.2) 0 0 _ _ _ (by omega) hf hP hD hS ls (lv_sub hl [3, 4, 2, 1, 0] rfl)
  · have hf := ip_ h_25 hf
    refine lv_aload_n hx hb dL_alike_45 rfl (lv_at hl 1 rfl) ?_
    refine kb_l (V := (w_frozen (o_w (oTr r_22.2 r_23.2)))) (w1 := oW cy b_0 bk_0 (oTr r_22.2 r_23.2)) hS (Jn_l hP hD hS hA) (va_runV (As := []) (rest := []) ⟨hx, hb, hml, hown, hts⟩ (c_X5_frozen (l := l) G cy (b_0 0) (b_0 1) (b_0 2) (b_0 3) (b_0 4) (b_0 5) (b_0 6) (b_0 7) (b_0 8) (b_0 9) (b_0 10) (b_0 11) (b_0 12) (b_0 13) bk_0 H.size (o_tx (oTr r_22.2 r_23.2)) (o_sg (oTr r_22.2 r_23.2)) (o_w (oTr r_22.2 r_23.2)) (o_tr (oTr r_22.2 r_23.2)) (o_p (oTr r_22.2 r_23.2)) (o_sk (oTr r_22.2 r_23.2)) (o_b0 (oTr r_22.2 r_23.2)) (o_k0 (oTr r_22.2 r_23.2)) (o_b1 (oTr r_22.2 r_23.2)) (o_k1 (oTr r_22.2 r_23.2)) (o_e (oTr r_22.2 r_23.2)) (o_g (oTr r_22.2 r_23.2)) (o_l (oTr r_22.2 r_23.2)) _ rfl) (cwV 0 hts gB_alike_X5_frozen rfl rfl rfl ddV_X5_frozen ⟨(Nat.le_of_ble_eq_true rfl), (Nat.le_of_ble_eq_true rfl)⟩) (preV_ (ci := 5) (q0 := 0) rfl rfl (P_l hP) hK (D_l hD) hN) rfl rfl hl.1 rfl (lv_room (Nat.le_of_ble_eq_true rfl)) dL_alike_46 ⟨by show 0 + 8 + 0 ≤ 898; omega, by show 6 * (0 + 8) + 0 ≤ 5388; omega⟩) (fun H locs hP hD hS => ?_)
    have hP : va_P G vwCl (oW cy b_0 bk_0 (oTr r_22.2 r_23.2) ++ oW cy b_1 bk_1 (oTr o_1 r_24.2)) H := hP
    have hD : va_D A (oW cy b_0 bk_0 (oTr r_22.2 r_23.2) ++ oW cy b_1 bk_1 (oTr o_1 r_24.2)) := hD
    refine lv_aload_n hx hb dL_alike_49 rfl (lv_at hl 2 rfl) ?_
    refine kb_l (V := (w_frozen (o_w (oTr o_1 r_24.2)))) (w1 := oW cy b_1 bk_1 (oTr o_1 r_24.2)) hS (Jn_r hP hD hS hA) (va_runV (As := []) (rest := [.long (w_frozen (o_w (oTr r_22.2 r_23.2)))]) ⟨hx, hb, hml, hown, hts⟩ (c_X5_frozen (l := l) G cy (b_1 0) (b_1 1) (b_1 2) (b_1 3) (b_1 4) (b_1 5) (b_1 6) (b_1 7) (b_1 8) (b_1 9) (b_1 10) (b_1 11) (b_1 12) (b_1 13) bk_1 H.size (o_tx (oTr o_1 r_24.2)) (o_sg (oTr o_1 r_24.2)) (o_w (oTr o_1 r_24.2)) (o_tr (oTr o_1 r_24.2)) (o_p (oTr o_1 r_24.2)) (o_sk (oTr o_1 r_24.2)) (o_b0 (oTr o_1 r_24.2)) (o_k0 (oTr o_1 r_24.2)) (o_b1 (oTr o_1 r_24.2)) (o_k1 (oTr o_1 r_24.2)) (o_e (oTr o_1 r_24.2)) (o_g (oTr o_1 r_24.2)) (o_l (oTr o_1 r_24.2)) _ rfl) (cwV 0 hts gB_alike_X5_frozen rfl rfl rfl ddV_X5_frozen ⟨(Nat.le_of_ble_eq_true rfl), (Nat.le_of_ble_eq_true rfl)⟩) (preV_ (ci := 5) (q0 := 0) rfl rfl (P_r hP) hK (D_r hD) hN) rfl rfl hl.1 rfl (lv_room (Nat.le_of_ble_eq_true rfl)) dL_alike_50 ⟨by show 0 + 8 + 0 ≤ 898; omega, by show 6 * (0 + 8) + 0 ≤ 5388; omega⟩) (fun H locs hP hD hS => ?_)
    have hP : va_P G vwCl (oW cy b_0 bk_0 (oTr r_22.2 r_23.2) ++ oW cy b_1 bk_1 (oTr o_1 r_24.2)) H := hP
    have hD : va_D A (oW cy b_0 bk_0 (oTr r_22.2 r_23.2) ++ oW cy b_1 bk_1 (oTr o_1 r_24.2)) := hD
    refine W.lcmp hx hb dL_alike_53 ?_
    refine lv_if_ne (tgt := 85) hx hb dL_alike_54 (by decide) (fun h_26 => ?_) (fun h_26 => ?_)
    · have hf := in_ (fun q => h_26 (lgc_eq.mpr q)) hf
      refine lv_iconst (v := 0) hx hb dL_alike_85 (by decide) ?_
      refine lv_istore (lv' := [(4, .int 0), (3, .int (r_21.1 * r_22.1)), (0, .ref (b_0 0)), (1, .ref (b_1 0)), (2, .int x2)]) hx hb dL_alike_86 hl (by decide) rfl (fun ls hl => ?_)
      refine lv_iconst (v := 0) hx hb dL_alike_88 (by decide) ?_
      refine lv_istore (lv' := [(5, .int 0), (4, .int 0), (3, .int (r_21.1 * r_22.1)), (0, .ref (b_0 0)), (1, .ref (b_1 0)), (2, .int x2)]) hx hb dL_alike_89 hl (by decide) rfl (fun ls hl => ?_)
      exact bl_91 (r_21.1 * r_22.1) 9 (oTr r_22.2 r_23.2) (oTr o_1 r_24.2) 0 0 _ _ _ (by omega) hf hP hD hS ls (lv_sub hl [3, 4, 2, 1, 0] rfl)
    · have hf := ip_ (lgc_eq.mp h_26) hf
      refine lv_aload_n hx hb dL_alike_57 rfl (lv_at hl 1 rfl) ?_
      refine lv_iconst (v := 1) hx hb dL_alike_58 (by decide) ?_
      refine lv_iload_n hx hb dL_alike_59 rfl (lv_at hl 3 rfl) ?_
      refine lv_bipush (v := 40) hx hb dL_alike_60 (by decide) ?_
      refine lv_irem hx hb dL_alike_62 (by decide) ?_
      refine lv_iadd hx hb dL_alike_63 ?_
      obtain ⟨r_27, hh_r_27, hf⟩ := obd_some hf
      refine kbx_l (R0 := r_27) (w1 := fun (u : Int64) => oW cy b_0 bk_0 (oTr r_22.2 r_23.2)) (V := fun (u : Int64) => u) hS (Nat.le_of_ble_eq_true rfl) (Jn_l hP hD hS hA) (vx_runSX (As := [.ref (b_0 0), .int (1 + (irm x2 40))]) (rest := []) ⟨hx, hb, hml, hown, hts⟩ (c_L_looks (l := l) hfl G cy (b_0 0) (b_0 1) (b_0 2) (b_0 3) (b_0 4) (b_0 5) (b_0 6) (b_0 7) (b_0 8) (b_0 9) (b_0 10) (b_0 11) (b_0 12) (b_0 13) bk_0 H.size (oTr r_22.2 r_23.2).1 (oTr r_22.2 r_23.2).2.1 (oTr r_22.2 r_23.2).2.2.1 (oTr r_22.2 r_23.2).2.2.2.1 (oTr r_22.2 r_23.2).2.2.2.2.1 (oTr r_22.2 r_23.2).2.2.2.2.2.1 (oTr r_22.2 r_23.2).2.2.2.2.2.2.1 (oTr r_22.2 r_23.2).2.2.2.2.2.2.2.1 (oTr r_22.2 r_23.2).2.2.2.2.2.2.2.2.1 (oTr r_22.2 r_23.2).2.2.2.2.2.2.2.2.2.1 (oTr r_22.2 r_23.2).2.2.2.2.2.2.2.2.2.2.1 (oTr r_22.2 r_23.2).2.2.2.2.2.2.2.2.2.2.2.1 (oTr r_22.2 r_23.2).2.2.2.2.2.2.2.2.2.2.2.2 (1 + (irm x2 40)) n r_27 hh_r_27) (vx_cwSW 2 hts gB_alike_L_looks rfl rfl rfl ddN_L_looks ⟨(Nat.le_of_ble_eq_true rfl), (Nat.le_of_ble_eq_true rfl)⟩) (preSN hXN (hE.kept hS.2.1) (Jn_l hP hD hS hA).1 (P_l hP) hK (D_l hD) hN) rfl rfl hl.1 rfl (lv_room (Nat.le_of_ble_eq_true rfl)) dL_alike_64 ⟨by show 0 + 8 + 1 ≤ 898; omega, by show 6 * (0 + 8) + 6 ≤ 5388; omega⟩) (fun H locs hP hD hS => ?_)
      have hP : va_P G vwCl (oW cy b_0 bk_0 (oTr r_22.2 r_23.2) ++ oW cy b_1 bk_1 (oTr o_1 r_24.2)) H := hP
      have hD : va_D A (oW cy b_0 bk_0 (oTr r_22.2 r_23.2) ++ oW cy b_1 bk_1 (oTr o_1 r_24.2)) := hD
      refine lv_aload_n hx hb dL_alike_67 rfl (lv_at hl 2 rfl) ?_
      refine lv_iconst (v := 1) hx hb dL_alike_68 (by decide) ?_
      refine lv_iload_n hx hb dL_alike_69 rfl (lv_at hl 3 rfl) ?_
      refine lv_bipush (v := 40) hx hb dL_alike_70 (by decide) ?_
      refine lv_irem hx hb dL_alike_72 (by decide) ?_
      refine lv_iadd hx hb dL_alike_73 ?_
      obtain ⟨r_28, hh_r_28, hf⟩ := obd_some hf
      refine kbx_l (R0 := r_28) (w1 := fun (u : Int64) => oW cy b_1 bk_1 (oTr o_1 r_24.2)) (V := fun (u : Int64) => u) hS (Nat.le_of_ble_eq_true rfl) (Jn_r hP hD hS hA) (vx_runSX (As := [.ref (b_1 0), .int (1 + (irm x2 40))]) (rest := [.long r_27]) ⟨hx, hb, hml, hown, hts⟩ (c_L_looks (l := l) hfl G cy (b_1 0) (b_1 1) (b_1 2) (b_1 3) (b_1 4) (b_1 5) (b_1 6) (b_1 7) (b_1 8) (b_1 9) (b_1 10) (b_1 11) (b_1 12) (b_1 13) bk_1 H.size (oTr o_1 r_24.2).1 (oTr o_1 r_24.2).2.1 (oTr o_1 r_24.2).2.2.1 (oTr o_1 r_24.2).2.2.2.1 (oTr o_1 r_24.2).2.2.2.2.1 (oTr o_1 r_24.2).2.2.2.2.2.1 (oTr o_1 r_24.2).2.2.2.2.2.2.1 (oTr o_1 r_24.2).2.2.2.2.2.2.2.1 (oTr o_1 r_24.2).2.2.2.2.2.2.2.2.1 (oTr o_1 r_24.2).2.2.2.2.2.2.2.2.2.1 (oTr o_1 r_24.2).2.2.2.2.2.2.2.2.2.2.1 (oTr o_1 r_24.2).2.2.2.2.2.2.2.2.2.2.2.1 (oTr o_1 r_24.2).2.2.2.2.2.2.2.2.2.2.2.2 (1 + (irm x2 40)) n r_28 hh_r_28) (vx_cwSW 2 hts gB_alike_L_looks rfl rfl rfl ddN_L_looks ⟨(Nat.le_of_ble_eq_true rfl), (Nat.le_of_ble_eq_true rfl)⟩) (preSN hXN (hE.kept hS.2.1) (Jn_r hP hD hS hA).1 (P_r hP) hK (D_r hD) hN) rfl rfl hl.1 rfl (lv_room (Nat.le_of_ble_eq_true rfl)) dL_alike_74 ⟨by show 0 + 9 + 1 ≤ 898; omega, by show 6 * (0 + 9) + 6 ≤ 5388; omega⟩) (fun H locs hP hD hS => ?_)
      have hP : va_P G vwCl (oW cy b_0 bk_0 (oTr r_22.2 r_23.2) ++ oW cy b_1 bk_1 (oTr o_1 r_24.2)) H := hP
      have hD : va_D A (oW cy b_0 bk_0 (oTr r_22.2 r_23.2) ++ oW cy b_1 bk_1 (oTr o_1 r_24.2)) := hD
      refine W.lcmp hx hb dL_alike_77 ?_
      refine lv_if_ne (tgt := 85) hx hb dL_alike_78 (by decide) (fun h_29 => ?_) (fun h_29 => ?_)
      · have hf := in_ (fun q => h_29 (lgc_eq.mpr q)) hf
        refine lv_iconst (v := 0) hx hb dL_alike_85 (by decide) ?_
        refine lv_istore (lv' := [(4, .int 0), (3, .int (r_21.1 * r_22.1)), (0, .ref (b_0 0)), (1, .ref (b_1 0)), (2, .int x2)]) hx hb dL_alike_86 hl (by decide) rfl (fun ls hl => ?_)
        refine lv_iconst (v := 0) hx hb dL_alike_88 (by decide) ?_
        refine lv_istore (lv' := [(5, .int 0), (4, .int 0), (3, .int (r_21.1 * r_22.1)), (0, .ref (b_0 0)), (1, .ref (b_1 0)), (2, .int x2)]) hx hb dL_alike_89 hl (by decide) rfl (fun ls hl => ?_)
        exact bl_91 (r_21.1 * r_22.1) 9 (oTr r_22.2 r_23.2) (oTr o_1 r_24.2) 0 0 _ _ _ (by omega) hf hP hD hS ls (lv_sub hl [3, 4, 2, 1, 0] rfl)
      · have hf := ip_ (lgc_eq.mp h_29) hf
        refine lv_iconst (v := 1) hx hb dL_alike_81 (by decide) ?_
        refine lv_goto (tgt := 86) hx hb dL_alike_82 (by decide) ?_
        refine lv_istore (lv' := [(4, .int 1), (3, .int (r_21.1 * r_22.1)), (0, .ref (b_0 0)), (1, .ref (b_1 0)), (2, .int x2)]) hx hb dL_alike_86 hl (by decide) rfl (fun ls hl => ?_)
        refine lv_iconst (v := 0) hx hb dL_alike_88 (by decide) ?_
        refine lv_istore (lv' := [(5, .int 0), (4, .int 1), (3, .int (r_21.1 * r_22.1)), (0, .ref (b_0 0)), (1, .ref (b_1 0)), (2, .int x2)]) hx hb dL_alike_89 hl (by decide) rfl (fun ls hl => ?_)
        exact bl_91 (r_21.1 * r_22.1) 9 (oTr r_22.2 r_23.2) (oTr o_1 r_24.2) 1 0 _ _ _ (by omega) hf hP hD hS ls (lv_sub hl [3, 4, 2, 1, 0] rfl)
