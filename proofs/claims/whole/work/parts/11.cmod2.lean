theorem ddN_X6_borderOn : yX6_borderOn.cls ≠ "java/lang/invoke/MethodHandle" ∧ yX6_borderOn.cls ≠ "java/lang/invoke/VarHandle" ∧ (parseMethodDescriptor yX6_borderOn.desc).map (fun d => d.parameters.length) = some 3 := by decide +kernel
theorem ddV_X6_borderOn : yX6_borderOn.cls = RX6 ∧ yX6_borderOn.cls ≠ "java/lang/invoke/MethodHandle" ∧ yX6_borderOn.cls ≠ "java/lang/invoke/VarHandle" ∧ (parseMethodDescriptor yX6_borderOn.desc).map (fun d => d.parameters.length) = some 3 := by decide +kernel
theorem ddN_X6_breatheOn : yX6_breatheOn.cls ≠ "java/lang/invoke/MethodHandle" ∧ yX6_breatheOn.cls ≠ "java/lang/invoke/VarHandle" ∧ (parseMethodDescriptor yX6_breatheOn.desc).map (fun d => d.parameters.length) = some 3 := by decide +kernel
theorem ddV_X6_breatheOn : yX6_breatheOn.cls = RX6 ∧ yX6_breatheOn.cls ≠ "java/lang/invoke/MethodHandle" ∧ yX6_breatheOn.cls ≠ "java/lang/invoke/VarHandle" ∧ (parseMethodDescriptor yX6_breatheOn.desc).map (fun d => d.parameters.length) = some 3 := by decide +kernel
theorem ddN_X6_canScratch : yX6_canScratch.cls ≠ "java/lang/invoke/MethodHandle" ∧ yX6_canScratch.cls ≠ "java/lang/invoke/VarHandle" ∧ (parseMethodDescriptor yX6_canScratch.desc).map (fun d => d.parameters.length) = some 3 := by decide +kernel
theorem ddV_X6_canScratch : yX6_canScratch.cls = RX6 ∧ yX6_canScratch.cls ≠ "java/lang/invoke/MethodHandle" ∧ yX6_canScratch.cls ≠ "java/lang/invoke/VarHandle" ∧ (parseMethodDescriptor yX6_canScratch.desc).map (fun d => d.parameters.length) = some 3 := by decide +kernel
theorem ddN_X6_clear : yX6_clear.cls ≠ "java/lang/invoke/MethodHandle" ∧ yX6_clear.cls ≠ "java/lang/invoke/VarHandle" ∧ (parseMethodDescriptor yX6_clear.desc).map (fun d => d.parameters.length) = some 3 := by decide +kernel
theorem ddV_X6_clear : yX6_clear.cls = RX6 ∧ yX6_clear.cls ≠ "java/lang/invoke/MethodHandle" ∧ yX6_clear.cls ≠ "java/lang/invoke/VarHandle" ∧ (parseMethodDescriptor yX6_clear.desc).map (fun d => d.parameters.length) = some 3 := by decide +kernel
theorem ddN_X6_copyState : yX6_copyState.cls ≠ "java/lang/invoke/MethodHandle" ∧ yX6_copyState.cls ≠ "java/lang/invoke/VarHandle" ∧ (parseMethodDescriptor yX6_copyState.desc).map (fun d => d.parameters.length) = some 4 := by decide +kernel
theorem ddV_X6_copyState : yX6_copyState.cls = RX6 ∧ yX6_copyState.cls ≠ "java/lang/invoke/MethodHandle" ∧ yX6_copyState.cls ≠ "java/lang/invoke/VarHandle" ∧ (parseMethodDescriptor yX6_copyState.desc).map (fun d => d.parameters.length) = some 4 := by decide +kernel
theorem ddN_X6_done : yX6_done.cls ≠ "java/lang/invoke/MethodHandle" ∧ yX6_done.cls ≠ "java/lang/invoke/VarHandle" ∧ (parseMethodDescriptor yX6_done.desc).map (fun d => d.parameters.length) = some 1 := by decide +kernel
theorem ddV_X6_done : yX6_done.cls = RX6 ∧ yX6_done.cls ≠ "java/lang/invoke/MethodHandle" ∧ yX6_done.cls ≠ "java/lang/invoke/VarHandle" ∧ (parseMethodDescriptor yX6_done.desc).map (fun d => d.parameters.length) = some 1 := by decide +kernel
theorem ddN_X6_figures : yX6_figures.cls ≠ "java/lang/invoke/MethodHandle" ∧ yX6_figures.cls ≠ "java/lang/invoke/VarHandle" ∧ (parseMethodDescriptor yX6_figures.desc).map (fun d => d.parameters.length) = some 4 := by decide +kernel
theorem ddV_X6_figures : yX6_figures.cls = RX6 ∧ yX6_figures.cls ≠ "java/lang/invoke/MethodHandle" ∧ yX6_figures.cls ≠ "java/lang/invoke/VarHandle" ∧ (parseMethodDescriptor yX6_figures.desc).map (fun d => d.parameters.length) = some 4 := by decide +kernel
theorem ddN_X6_flipOn : yX6_flipOn.cls ≠ "java/lang/invoke/MethodHandle" ∧ yX6_flipOn.cls ≠ "java/lang/invoke/VarHandle" ∧ (parseMethodDescriptor yX6_flipOn.desc).map (fun d => d.parameters.length) = some 2 := by decide +kernel
theorem ddV_X6_flipOn : yX6_flipOn.cls = RX6 ∧ yX6_flipOn.cls ≠ "java/lang/invoke/MethodHandle" ∧ yX6_flipOn.cls ≠ "java/lang/invoke/VarHandle" ∧ (parseMethodDescriptor yX6_flipOn.desc).map (fun d => d.parameters.length) = some 2 := by decide +kernel
theorem ddN_X6_largest : yX6_largest.cls ≠ "java/lang/invoke/MethodHandle" ∧ yX6_largest.cls ≠ "java/lang/invoke/VarHandle" ∧ (parseMethodDescriptor yX6_largest.desc).map (fun d => d.parameters.length) = some 1 := by decide +kernel
theorem ddV_X6_largest : yX6_largest.cls = RX6 ∧ yX6_largest.cls ≠ "java/lang/invoke/MethodHandle" ∧ yX6_largest.cls ≠ "java/lang/invoke/VarHandle" ∧ (parseMethodDescriptor yX6_largest.desc).map (fun d => d.parameters.length) = some 1 := by decide +kernel
theorem ddN_X6_nightsOn : yX6_nightsOn.cls ≠ "java/lang/invoke/MethodHandle" ∧ yX6_nightsOn.cls ≠ "java/lang/invoke/VarHandle" ∧ (parseMethodDescriptor yX6_nightsOn.desc).map (fun d => d.parameters.length) = some 2 := by decide +kernel
theorem ddV_X6_nightsOn : yX6_nightsOn.cls = RX6 ∧ yX6_nightsOn.cls ≠ "java/lang/invoke/MethodHandle" ∧ yX6_nightsOn.cls ≠ "java/lang/invoke/VarHandle" ∧ (parseMethodDescriptor yX6_nightsOn.desc).map (fun d => d.parameters.length) = some 2 := by decide +kernel
theorem ddN_X6_patches : yX6_patches.cls ≠ "java/lang/invoke/MethodHandle" ∧ yX6_patches.cls ≠ "java/lang/invoke/VarHandle" ∧ (parseMethodDescriptor yX6_patches.desc).map (fun d => d.parameters.length) = some 1 := by decide +kernel
theorem ddV_X6_patches : yX6_patches.cls = RX6 ∧ yX6_patches.cls ≠ "java/lang/invoke/MethodHandle" ∧ yX6_patches.cls ≠ "java/lang/invoke/VarHandle" ∧ (parseMethodDescriptor yX6_patches.desc).map (fun d => d.parameters.length) = some 1 := by decide +kernel
theorem ddN_X6_readCommand : yX6_readCommand.cls ≠ "java/lang/invoke/MethodHandle" ∧ yX6_readCommand.cls ≠ "java/lang/invoke/VarHandle" ∧ (parseMethodDescriptor yX6_readCommand.desc).map (fun d => d.parameters.length) = some 1 := by decide +kernel
theorem ddV_X6_readCommand : yX6_readCommand.cls = RX6 ∧ yX6_readCommand.cls ≠ "java/lang/invoke/MethodHandle" ∧ yX6_readCommand.cls ≠ "java/lang/invoke/VarHandle" ∧ (parseMethodDescriptor yX6_readCommand.desc).map (fun d => d.parameters.length) = some 1 := by decide +kernel
theorem ddN_X6_readText : yX6_readText.cls ≠ "java/lang/invoke/MethodHandle" ∧ yX6_readText.cls ≠ "java/lang/invoke/VarHandle" ∧ (parseMethodDescriptor yX6_readText.desc).map (fun d => d.parameters.length) = some 1 := by decide +kernel
theorem ddV_X6_readText : yX6_readText.cls = RX6 ∧ yX6_readText.cls ≠ "java/lang/invoke/MethodHandle" ∧ yX6_readText.cls ≠ "java/lang/invoke/VarHandle" ∧ (parseMethodDescriptor yX6_readText.desc).map (fun d => d.parameters.length) = some 1 := by decide +kernel
theorem ddN_X6_refused : yX6_refused.cls ≠ "java/lang/invoke/MethodHandle" ∧ yX6_refused.cls ≠ "java/lang/invoke/VarHandle" ∧ (parseMethodDescriptor yX6_refused.desc).map (fun d => d.parameters.length) = some 1 := by decide +kernel
theorem ddV_X6_refused : yX6_refused.cls = RX6 ∧ yX6_refused.cls ≠ "java/lang/invoke/MethodHandle" ∧ yX6_refused.cls ≠ "java/lang/invoke/VarHandle" ∧ (parseMethodDescriptor yX6_refused.desc).map (fun d => d.parameters.length) = some 1 := by decide +kernel
theorem ddN_X6_ruleOn : yX6_ruleOn.cls ≠ "java/lang/invoke/MethodHandle" ∧ yX6_ruleOn.cls ≠ "java/lang/invoke/VarHandle" ∧ (parseMethodDescriptor yX6_ruleOn.desc).map (fun d => d.parameters.length) = some 2 := by decide +kernel
theorem ddV_X6_ruleOn : yX6_ruleOn.cls = RX6 ∧ yX6_ruleOn.cls ≠ "java/lang/invoke/MethodHandle" ∧ yX6_ruleOn.cls ≠ "java/lang/invoke/VarHandle" ∧ (parseMethodDescriptor yX6_ruleOn.desc).map (fun d => d.parameters.length) = some 2 := by decide +kernel
theorem ddN_X6_scratchOn : yX6_scratchOn.cls ≠ "java/lang/invoke/MethodHandle" ∧ yX6_scratchOn.cls ≠ "java/lang/invoke/VarHandle" ∧ (parseMethodDescriptor yX6_scratchOn.desc).map (fun d => d.parameters.length) = some 3 := by decide +kernel
theorem ddV_X6_scratchOn : yX6_scratchOn.cls = RX6 ∧ yX6_scratchOn.cls ≠ "java/lang/invoke/MethodHandle" ∧ yX6_scratchOn.cls ≠ "java/lang/invoke/VarHandle" ∧ (parseMethodDescriptor yX6_scratchOn.desc).map (fun d => d.parameters.length) = some 3 := by decide +kernel
theorem iw_X6_about_X6 : ∀ w ∈ u_ws RX6 TX6 15, w ∈ wsX6_about := by decide +kernel
theorem iw_X6_append_X6 : ∀ w ∈ u_ws RX6 TX6 15, w ∈ wsX6_append := by decide +kernel
theorem iw_X6_cell_X6 : ∀ w ∈ u_ws RX6 TX6 15, w ∈ wsX6_cell := by decide +kernel
theorem iw_X6_clearText_X6 : ∀ w ∈ u_ws RX6 TX6 15, w ∈ wsX6_clearText := by decide +kernel
theorem iw_X6_done_X6 : ∀ w ∈ u_ws RX6 TX6 15, w ∈ wsX6_done := by decide +kernel
theorem iw_X6_errorPosition_X6 : ∀ w ∈ u_ws RX6 TX6 15, w ∈ wsX6_errorPosition := by decide +kernel
theorem iw_X6_figures_X6 : ∀ w ∈ u_ws RX6 TX6 15, w ∈ wsX6_figures := by decide +kernel
theorem iw_X6_frozen_X6 : ∀ w ∈ u_ws RX6 TX6 15, w ∈ wsX6_frozen := by decide +kernel
theorem iw_X6_layEquations_X6 : ∀ w ∈ u_ws RX6 TX6 15, w ∈ wsX6_layEquations := by decide +kernel
theorem iw_X6_load_X6 : ∀ w ∈ u_ws RX6 TX6 15, w ∈ wsX6_load := by decide +kernel
theorem iw_X6_neighbour_X6 : ∀ w ∈ u_ws RX6 TX6 15, w ∈ wsX6_neighbour := by decide +kernel
theorem iw_X6_readCommand_X6 : ∀ w ∈ u_ws RX6 TX6 15, w ∈ wsX6_readCommand := by decide +kernel
theorem iw_X6_readText_X6 : ∀ w ∈ u_ws RX6 TX6 15, w ∈ wsX6_readText := by decide +kernel
theorem iw_X6_remember_X6 : ∀ w ∈ u_ws RX6 TX6 15, w ∈ wsX6_remember := by decide +kernel
theorem iw_X6_side_X6 : ∀ w ∈ u_ws RX6 TX6 15, w ∈ wsX6_side := by decide +kernel
theorem iw_X6_solve_X6 : ∀ w ∈ u_ws RX6 TX6 15, w ∈ wsX6_solve := by decide +kernel
theorem vn_0_120 : vp_in 0 120 := vin (by decide +kernel)
theorem vn_0_2 : vp_in 0 2 := vin (by decide +kernel)
theorem vn_1_2 : vp_in 1 2 := vin (by decide +kernel)
set_option maxHeartbeats 4000000 in
set_option maxRecDepth 100000 in
theorem c_X6_scratchOn {l : Launch} (G : va_G) (cy : Nat → ClassId) (a_r0 : Nat) (sz : Nat) (g_r0 : Nat → Int64) (x1 : Int32) (x2 : Int32)  (R : Int32 × (Nat → Int64)) (hf : f_X6_scratchOn g_r0 x1 x2 = some R) : Met l yX6_scratchOn wsX6_scratchOn ({ frames := 4, cells := 0, slots := 0, locals := 93 } : Room) (va_Pc [.ref a_r0, .int x1, .int x2] (pcW G cy [(a_r0, av_J cy 11 g_r0)] sz)) (va_Qi (fun r (_ : Unit) => r = R.1) (fun _ t => Wd G cy (va_A [(a_r0, av_J cy 11 g_r0)] sz) [(a_r0, av_J cy 11 R.2)] t) (va_A [(a_r0, av_J cy 11 g_r0)] sz)) 0 0 (va_A [(a_r0, av_J cy 11 g_r0)] sz) := by
  refine Met.ofW (cc := cX6_scratchOn) (maxL := 3) (ret := (some .int)) (by decide) rfl ?_
  intro p e s m args below meth c s₁ B hml hv
  obtain ⟨rfl, hsz, hP, hK, hD0, hN⟩ := hv
  have hx := B.exec
  have hb := B.bytes
  have hr := B.returns
  have hts := atoms_spec (ws := wsX6_scratchOn) B.pre
  have hown : s.vm.findClass RX6 = some m.cls := findClass_of_methodNamed B.named
  have hlocks := B.notSynchronized
  subst hsz
  have hD := hD0.self (sz := s.heap.size)
  generalize hAe : va_A [(a_r0, av_J cy 11 g_r0)] s.heap.size = A at hD ⊢
  have hA : ∀ q : Nat, s.heap.size ≤ q → A q := fun q h => by rw [← hAe]; exact Or.inr h
  have hS : va_S A s.heap s.heap [] := va_S.rf
  have hP : va_P G vwCl [(a_r0, av_J cy 11 g_r0)] s.heap := hP
  have hl := lv_entry [.ref a_r0, .int x1, .int x2] (n := 3) (Nat.le_of_ble_eq_true rfl)
  rw [lg_entry_eq]
  generalize (lg_sl [.ref a_r0, .int x1, .int x2] ++ List.replicate (3 - (lg_sl [.ref a_r0, .int x1, .int x2]).length) Slot.unset).toArray = ls at hl ⊢
  have hl : lv_has ls 3 [(0, .ref a_r0), (1, .int x1), (2, .int x2)] := hl
  unfold f_X6_scratchOn at hf
  refine lv_aload_n hx hb dX6_scratchOn_0 rfl (lv_at hl 0 rfl) ?_
  refine lv_iload_n hx hb dX6_scratchOn_1 rfl (lv_at hl 2 rfl) ?_
  refine kc_i (w1 := []) (wr := [(a_r0, av_J cy 11 g_r0)]) hP hD hS hA [] [0] rfl rfl rfl (by decide) (va_runS (As := [.int x2]) (rest := [.ref a_r0]) ⟨hx, hb, hml, hown, hts⟩ (c_X6_kindOf (l := l) G cy  s.heap.size x2  (f_X6_kindOf x2) rfl) (va_cwS 1 hts gX6_scratchOn_X6_kindOf rfl rfl rfl ddN_X6_kindOf ⟨Nat.le_of_ble_eq_true rfl, Nat.le_of_ble_eq_true rfl⟩) (preS_ (hP.sub (ws' := []) [] rfl) hK (hD.sub (ws' := []) [] rfl rfl) hN) rfl rfl hl.1 rfl (lv_room (Nat.le_of_ble_eq_true rfl)) dX6_scratchOn_2 ⟨Nat.le_of_ble_eq_true rfl, Nat.le_of_ble_eq_true rfl⟩) (fun H locs hP hD hS => ?_)
  have hP : va_P G vwCl [(a_r0, av_J cy 11 g_r0)] H := hP
  have hD : va_D A [(a_r0, av_J cy 11 g_r0)] := hD
  refine lv_dup2_11 hx hb dX6_scratchOn_5 rfl rfl ?_
  by_cases q_1 : (f_X6_kindOf x2) < 0 ∨ 11 ≤ (f_X6_kindOf x2).toNatClampNeg
  · have hf := ip_ q_1 hf; cases hf
  have hf := in_ q_1 hf
  refine vz_lald rfl hx hb hK hP 0 2 rfl rfl (vin q_1) dX6_scratchOn_6 ?_
  refine lv_lconst (v := 1) hx hb dX6_scratchOn_7 rfl ?_
  refine lv_aload_n hx hb dX6_scratchOn_8 rfl (lv_at hl 0 rfl) ?_
  refine lv_iload_n hx hb dX6_scratchOn_9 rfl (lv_at hl 1 rfl) ?_
  refine lv_iload_n hx hb dX6_scratchOn_10 rfl (lv_at hl 2 rfl) ?_
  obtain ⟨r_2, hh_r_2, hf⟩ := obd_some hf
  refine kc_i (w1 := [(a_r0, av_J cy 11 g_r0)]) (wr := []) hP hD hS hA [0] [] rfl rfl rfl (by decide) (va_runS (As := [.ref a_r0, .int x1, .int x2]) (rest := [.long 1, .long (g_r0 (f_X6_kindOf x2).toNatClampNeg), .int (f_X6_kindOf x2), .ref a_r0]) ⟨hx, hb, hml, hown, hts⟩ (c_X6_ownerOf (l := l) G cy a_r0 H.size g_r0 x1 x2  r_2 hh_r_2) (va_cwS 3 hts gX6_scratchOn_X6_ownerOf rfl rfl rfl ddN_X6_ownerOf ⟨Nat.le_of_ble_eq_true rfl, Nat.le_of_ble_eq_true rfl⟩) (preS_ hP hK hD hN) rfl rfl hl.1 rfl (lv_room (Nat.le_of_ble_eq_true rfl)) dX6_scratchOn_11 ⟨Nat.le_of_ble_eq_true rfl, Nat.le_of_ble_eq_true rfl⟩) (fun H locs hP hD hS => ?_)
  have hP : va_P G vwCl [(a_r0, av_J cy 11 g_r0)] H := hP
  have hD : va_D A [(a_r0, av_J cy 11 g_r0)] := hD
  refine lv_lshl (v := (jsl 1 r_2)) hx hb dX6_scratchOn_14 rfl ?_
  refine lv_lxor hx hb dX6_scratchOn_15 ?_
  by_cases q_3 : (f_X6_kindOf x2) < 0 ∨ 11 ≤ (f_X6_kindOf x2).toNatClampNeg
  · have hf := ip_ q_3 hf; cases hf
  have hf := in_ q_3 hf
  refine vz_last rfl hx hb hK hP hD hS 0 2 rfl rfl (vin q_3) dX6_scratchOn_16 (fun H locs hP hD hS => ?_)
  have hP : va_P G vwCl [(a_r0, av_J cy 11 (vp_updL g_r0 (f_X6_kindOf x2).toNatClampNeg ((g_r0 (f_X6_kindOf x2).toNatClampNeg) ^^^ (jsl 1 r_2))))] H := hP
  have hD : va_D A [(a_r0, av_J cy 11 (vp_updL g_r0 (f_X6_kindOf x2).toNatClampNeg ((g_r0 (f_X6_kindOf x2).toNatClampNeg) ^^^ (jsl 1 r_2))))] := hD
  refine lv_aload_n hx hb dX6_scratchOn_17 rfl (lv_at hl 0 rfl) ?_
  refine lv_iload_n hx hb dX6_scratchOn_18 rfl (lv_at hl 1 rfl) ?_
  refine lv_iload_n hx hb dX6_scratchOn_19 rfl (lv_at hl 2 rfl) ?_
  obtain ⟨r_4, hh_r_4, hf⟩ := obd_some hf
  refine kc_i (w1 := [(a_r0, av_J cy 11 (vp_updL g_r0 (f_X6_kindOf x2).toNatClampNeg ((g_r0 (f_X6_kindOf x2).toNatClampNeg) ^^^ (jsl 1 r_2))))]) (wr := []) hP hD hS hA [0] [] rfl rfl rfl (by decide) (va_runS (As := [.ref a_r0, .int x1, .int x2]) (rest := []) ⟨hx, hb, hml, hown, hts⟩ (c_X6_isScratched (l := l) G cy a_r0 H.size (vp_updL g_r0 (f_X6_kindOf x2).toNatClampNeg ((g_r0 (f_X6_kindOf x2).toNatClampNeg) ^^^ (jsl 1 r_2))) x1 x2  r_4 hh_r_4) (va_cwS 3 hts gX6_scratchOn_X6_isScratched rfl rfl rfl ddN_X6_isScratched ⟨Nat.le_of_ble_eq_true rfl, Nat.le_of_ble_eq_true rfl⟩) (preS_ hP hK hD hN) rfl rfl hl.1 rfl (lv_room (Nat.le_of_ble_eq_true rfl)) dX6_scratchOn_20 ⟨Nat.le_of_ble_eq_true rfl, Nat.le_of_ble_eq_true rfl⟩) (fun H locs hP hD hS => ?_)
  have hP : va_P G vwCl [(a_r0, av_J cy 11 (vp_updL g_r0 (f_X6_kindOf x2).toNatClampNeg ((g_r0 (f_X6_kindOf x2).toNatClampNeg) ^^^ (jsl 1 r_2))))] H := hP
  have hD : va_D A [(a_r0, av_J cy 11 (vp_updL g_r0 (f_X6_kindOf x2).toNatClampNeg ((g_r0 (f_X6_kindOf x2).toNatClampNeg) ^^^ (jsl 1 r_2))))] := hD
  refine lv_if_eq (tgt := 30) hx hb dX6_scratchOn_23 (by decide) (fun h_5 => ?_) (fun h_5 => ?_)
  · have hf := in_ (bI_0 h_5) hf
    refine lv_iconst (v := 0) hx hb dX6_scratchOn_30 (by decide) ?_
    obtain rfl := Option.some.inj hf
    exact kr_i hx hb hr hlocks rfl hP hK hD hN hS hS.2.2 dX6_scratchOn_31
  · have hf := ip_ (bI_n0 h_5) hf
    refine lv_iconst (v := 1) hx hb dX6_scratchOn_26 (by decide) ?_
    refine lv_goto (tgt := 31) hx hb dX6_scratchOn_27 (by decide) ?_
    obtain rfl := Option.some.inj hf
    exact kr_i hx hb hr hlocks rfl hP hK hD hN hS hS.2.2 dX6_scratchOn_31
set_option maxHeartbeats 4000000 in
set_option maxRecDepth 100000 in
theorem c_X6_borderOn {l : Launch} (G : va_G) (cy : Nat → ClassId) (a_r0 : Nat) (sz : Nat) (g_r0 : Nat → Int64) (x1 : Int32) (x2 : Int32)  (R : Int32 × (Nat → Int64)) (hf : f_X6_borderOn g_r0 x1 x2 = some R) : Met l yX6_borderOn wsX6_borderOn ({ frames := 0, cells := 0, slots := 0, locals := 0 } : Room) (va_Pc [.ref a_r0, .int x1, .int x2] (pcW G cy [(a_r0, av_J cy 11 g_r0)] sz)) (va_Qi (fun r (_ : Unit) => r = R.1) (fun _ t => Wd G cy (va_A [(a_r0, av_J cy 11 g_r0)] sz) [(a_r0, av_J cy 11 R.2)] t) (va_A [(a_r0, av_J cy 11 g_r0)] sz)) 0 0 (va_A [(a_r0, av_J cy 11 g_r0)] sz) := by
  refine Met.ofW (cc := cX6_borderOn) (maxL := 5) (ret := (some .int)) (by decide) rfl ?_
  intro p e s m args below meth c s₁ B hml hv
  obtain ⟨rfl, hsz, hP, hK, hD0, hN⟩ := hv
  have hx := B.exec
  have hb := B.bytes
  have hr := B.returns
  have hts := atoms_spec (ws := wsX6_borderOn) B.pre
  have hown : s.vm.findClass RX6 = some m.cls := findClass_of_methodNamed B.named
  have hlocks := B.notSynchronized
  subst hsz
  have hD := hD0.self (sz := s.heap.size)
  generalize hAe : va_A [(a_r0, av_J cy 11 g_r0)] s.heap.size = A at hD ⊢
  have hA : ∀ q : Nat, s.heap.size ≤ q → A q := fun q h => by rw [← hAe]; exact Or.inr h
  have hS : va_S A s.heap s.heap [] := va_S.rf
  have hP : va_P G vwCl [(a_r0, av_J cy 11 g_r0)] s.heap := hP
  have hl := lv_entry [.ref a_r0, .int x1, .int x2] (n := 5) (Nat.le_of_ble_eq_true rfl)
  rw [lg_entry_eq]
  generalize (lg_sl [.ref a_r0, .int x1, .int x2] ++ List.replicate (5 - (lg_sl [.ref a_r0, .int x1, .int x2]).length) Slot.unset).toArray = ls at hl ⊢
  have hl : lv_has ls 5 [(0, .ref a_r0), (1, .int x1), (2, .int x2)] := hl
  unfold f_X6_borderOn at hf
  refine lv_aload_n hx hb dX6_borderOn_0 rfl (lv_at hl 0 rfl) ?_
  refine lv_iconst (v := 4) hx hb dX6_borderOn_1 (by decide) ?_
  refine lv_iload_n hx hb dX6_borderOn_2 rfl (lv_at hl 1 rfl) ?_
  refine lv_iadd hx hb dX6_borderOn_3 ?_
  by_cases q_1 : (4 + x1) < 0 ∨ 11 ≤ (4 + x1).toNatClampNeg
  · have hf := ip_ q_1 hf; cases hf
  have hf := in_ q_1 hf
  refine vz_lald rfl hx hb hK hP 0 2 rfl rfl (vin q_1) dX6_borderOn_4 ?_
  refine lv_l2i (v := (g_r0 (4 + x1).toNatClampNeg).toInt32) hx hb dX6_borderOn_5 rfl ?_
  refine lv_istore_n (lv' := [(3, .int ((g_r0 (4 + x1).toNatClampNeg).toInt32)), (0, .ref a_r0), (1, .int x1), (2, .int x2)]) hx hb dX6_borderOn_6 rfl hl (by decide) rfl (fun ls hl => ?_)
  refine lv_iconst (v := 4) hx hb dX6_borderOn_7 (by decide) ?_
  refine lv_iload_n hx hb dX6_borderOn_8 rfl (lv_at hl 2 rfl) ?_
  refine lv_iconst (v := 2) hx hb dX6_borderOn_9 (by decide) ?_
  refine lv_iadd hx hb dX6_borderOn_10 ?_
  refine lv_iconst (v := 4) hx hb dX6_borderOn_11 (by decide) ?_
  refine lv_irem hx hb dX6_borderOn_12 (by decide) ?_
  refine lv_iadd hx hb dX6_borderOn_13 ?_
  refine lv_istore (lv' := [(4, .int (4 + (irm (x1 + 2) 4))), (3, .int ((g_r0 (4 + x1).toNatClampNeg).toInt32)), (0, .ref a_r0), (1, .int x1), (2, .int x2)]) hx hb dX6_borderOn_14 hl (by decide) rfl (fun ls hl => ?_)
  refine lv_aload_n hx hb dX6_borderOn_16 rfl (lv_at hl 2 rfl) ?_
  refine lv_iconst (v := 4) hx hb dX6_borderOn_17 (by decide) ?_
  refine lv_iload_n hx hb dX6_borderOn_18 rfl (lv_at hl 3 rfl) ?_
  refine lv_iadd hx hb dX6_borderOn_19 ?_
  refine lv_iload_n hx hb dX6_borderOn_20 rfl (lv_at hl 4 rfl) ?_
  refine lv_i2l (v := x2.toInt64) hx hb dX6_borderOn_21 rfl ?_
  by_cases q_2 : (4 + x1) < 0 ∨ 11 ≤ (4 + x1).toNatClampNeg
  · have hf := ip_ q_2 hf; cases hf
  have hf := in_ q_2 hf
  refine vz_last rfl hx hb hK hP hD hS 0 2 rfl rfl (vin q_2) dX6_borderOn_22 (fun H locs hP hD hS => ?_)
  have hP : va_P G vwCl [(a_r0, av_J cy 11 (vp_updL g_r0 (4 + x1).toNatClampNeg x2.toInt64))] H := hP
  have hD : va_D A [(a_r0, av_J cy 11 (vp_updL g_r0 (4 + x1).toNatClampNeg x2.toInt64))] := hD
  refine lv_aload_n hx hb dX6_borderOn_23 rfl (lv_at hl 2 rfl) ?_
  refine lv_iload hx hb dX6_borderOn_24 (lv_at hl 0 rfl) ?_
  refine lv_iload_n hx hb dX6_borderOn_26 rfl (lv_at hl 4 rfl) ?_
  refine lv_iconst (v := 2) hx hb dX6_borderOn_27 (by decide) ?_
  refine lv_icmp_eq (tgt := 36) hx hb dX6_borderOn_28 (by decide) (fun h_3 => ?_) (fun h_3 => ?_)
  · have hf := ip_ h_3 hf
    refine lv_iload_n hx hb dX6_borderOn_36 rfl (lv_at hl 4 rfl) ?_
    refine lv_i2l (v := x2.toInt64) hx hb dX6_borderOn_37 rfl ?_
    refine lv_goto (tgt := 45) hx hb dX6_borderOn_38 (by decide) ?_
    by_cases q_4 : (4 + (irm (x1 + 2) 4)) < 0 ∨ 11 ≤ (4 + (irm (x1 + 2) 4)).toNatClampNeg
    · have hf := ip_ q_4 hf; cases hf
    have hf := in_ q_4 hf
    refine vz_last rfl hx hb hK hP hD hS 0 2 rfl rfl (vin q_4) dX6_borderOn_45 (fun H locs hP hD hS => ?_)
    have hP : va_P G vwCl [(a_r0, av_J cy 11 (vp_updL (vp_updL g_r0 (4 + x1).toNatClampNeg x2.toInt64) (4 + (irm (x1 + 2) 4)).toNatClampNeg x2.toInt64))] H := hP
    have hD : va_D A [(a_r0, av_J cy 11 (vp_updL (vp_updL g_r0 (4 + x1).toNatClampNeg x2.toInt64) (4 + (irm (x1 + 2) 4)).toNatClampNeg x2.toInt64))] := hD
    refine lv_iload_n hx hb dX6_borderOn_46 rfl (lv_at hl 1 rfl) ?_
    obtain rfl := Option.some.inj hf
    exact kr_i hx hb hr hlocks rfl hP hK hD hN hS hS.2.2 dX6_borderOn_47
  · have hf := in_ h_3 hf
    refine lv_iload_n hx hb dX6_borderOn_31 rfl (lv_at hl 1 rfl) ?_
    refine lv_iconst (v := 2) hx hb dX6_borderOn_32 (by decide) ?_
    refine lv_icmp_ne (tgt := 41) hx hb dX6_borderOn_33 (by decide) (fun h_5 => ?_) (fun h_5 => ?_)
    · have hf := in_ h_5 hf
      refine lv_aload_n hx hb dX6_borderOn_41 rfl (lv_at hl 2 rfl) ?_
      refine lv_iload hx hb dX6_borderOn_42 (lv_at hl 0 rfl) ?_
      by_cases q_6 : (4 + (irm (x1 + 2) 4)) < 0 ∨ 11 ≤ (4 + (irm (x1 + 2) 4)).toNatClampNeg
      · have hf := ip_ q_6 hf; cases hf
      have hf := in_ q_6 hf
      refine vz_lald rfl hx hb hK hP 0 2 rfl rfl (vin q_6) dX6_borderOn_44 ?_
      by_cases q_7 : (4 + (irm (x1 + 2) 4)) < 0 ∨ 11 ≤ (4 + (irm (x1 + 2) 4)).toNatClampNeg
      · have hf := ip_ q_7 hf; cases hf
      have hf := in_ q_7 hf
      refine vz_last rfl hx hb hK hP hD hS 0 2 rfl rfl (vin q_7) dX6_borderOn_45 (fun H locs hP hD hS => ?_)
      have hP : va_P G vwCl [(a_r0, av_J cy 11 (vp_updL (vp_updL g_r0 (4 + x1).toNatClampNeg x2.toInt64) (4 + (irm (x1 + 2) 4)).toNatClampNeg ((vp_updL g_r0 (4 + x1).toNatClampNeg x2.toInt64) (4 + (irm (x1 + 2) 4)).toNatClampNeg)))] H := hP
      have hD : va_D A [(a_r0, av_J cy 11 (vp_updL (vp_updL g_r0 (4 + x1).toNatClampNeg x2.toInt64) (4 + (irm (x1 + 2) 4)).toNatClampNeg ((vp_updL g_r0 (4 + x1).toNatClampNeg x2.toInt64) (4 + (irm (x1 + 2) 4)).toNatClampNeg)))] := hD
      refine lv_iload_n hx hb dX6_borderOn_46 rfl (lv_at hl 1 rfl) ?_
      obtain rfl := Option.some.inj hf
      exact kr_i hx hb hr hlocks rfl hP hK hD hN hS hS.2.2 dX6_borderOn_47
    · have hf := ip_ h_5 hf
      refine lv_iload_n hx hb dX6_borderOn_36 rfl (lv_at hl 4 rfl) ?_
      refine lv_i2l (v := x2.toInt64) hx hb dX6_borderOn_37 rfl ?_
      refine lv_goto (tgt := 45) hx hb dX6_borderOn_38 (by decide) ?_
      by_cases q_8 : (4 + (irm (x1 + 2) 4)) < 0 ∨ 11 ≤ (4 + (irm (x1 + 2) 4)).toNatClampNeg
      · have hf := ip_ q_8 hf; cases hf
      have hf := in_ q_8 hf
      refine vz_last rfl hx hb hK hP hD hS 0 2 rfl rfl (vin q_8) dX6_borderOn_45 (fun H locs hP hD hS => ?_)
      have hP : va_P G vwCl [(a_r0, av_J cy 11 (vp_updL (vp_updL g_r0 (4 + x1).toNatClampNeg x2.toInt64) (4 + (irm (x1 + 2) 4)).toNatClampNeg x2.toInt64))] H := hP
      have hD : va_D A [(a_r0, av_J cy 11 (vp_updL (vp_updL g_r0 (4 + x1).toNatClampNeg x2.toInt64) (4 + (irm (x1 + 2) 4)).toNatClampNeg x2.toInt64))] := hD
      refine lv_iload_n hx hb dX6_borderOn_46 rfl (lv_at hl 1 rfl) ?_
      obtain rfl := Option.some.inj hf
      exact kr_i hx hb hr hlocks rfl hP hK hD hN hS hS.2.2 dX6_borderOn_47
set_option maxHeartbeats 4000000 in
set_option maxRecDepth 100000 in
theorem c_X6_ruleOn {l : Launch} (G : va_G) (cy : Nat → ClassId) (a_r0 : Nat) (sz : Nat) (g_r0 : Nat → Int64) (x1 : Int32)  (R : Int32 × (Nat → Int64)) (hf : f_X6_ruleOn g_r0 x1 = R) : Met l yX6_ruleOn wsX6_ruleOn ({ frames := 0, cells := 0, slots := 0, locals := 0 } : Room) (va_Pc [.ref a_r0, .int x1] (pcW G cy [(a_r0, av_J cy 11 g_r0)] sz)) (va_Qi (fun r (_ : Unit) => r = R.1) (fun _ t => Wd G cy (va_A [(a_r0, av_J cy 11 g_r0)] sz) [(a_r0, av_J cy 11 R.2)] t) (va_A [(a_r0, av_J cy 11 g_r0)] sz)) 0 0 (va_A [(a_r0, av_J cy 11 g_r0)] sz) := by
  refine Met.ofW (cc := cX6_ruleOn) (maxL := 3) (ret := (some .int)) (by decide) rfl ?_
  intro p e s m args below meth c s₁ B hml hv
  obtain ⟨rfl, hsz, hP, hK, hD0, hN⟩ := hv
  have hx := B.exec
  have hb := B.bytes
  have hr := B.returns
  have hts := atoms_spec (ws := wsX6_ruleOn) B.pre
  have hown : s.vm.findClass RX6 = some m.cls := findClass_of_methodNamed B.named
  have hlocks := B.notSynchronized
  subst hsz
  have hD := hD0.self (sz := s.heap.size)
  generalize hAe : va_A [(a_r0, av_J cy 11 g_r0)] s.heap.size = A at hD ⊢
  have hA : ∀ q : Nat, s.heap.size ≤ q → A q := fun q h => by rw [← hAe]; exact Or.inr h
  have hS : va_S A s.heap s.heap [] := va_S.rf
  have hP : va_P G vwCl [(a_r0, av_J cy 11 g_r0)] s.heap := hP
  have hl := lv_entry [.ref a_r0, .int x1] (n := 3) (Nat.le_of_ble_eq_true rfl)
  rw [lg_entry_eq]
  generalize (lg_sl [.ref a_r0, .int x1] ++ List.replicate (3 - (lg_sl [.ref a_r0, .int x1]).length) Slot.unset).toArray = ls at hl ⊢
  have hl : lv_has ls 3 [(0, .ref a_r0), (1, .int x1)] := hl
  unfold f_X6_ruleOn at hf
  refine lv_aload_n hx hb dX6_ruleOn_0 rfl (lv_at hl 0 rfl) ?_
  refine lv_iconst (v := 2) hx hb dX6_ruleOn_1 (by decide) ?_
  refine vz_lald tn_2 hx hb hK hP 0 2 rfl rfl vn_2_11 dX6_ruleOn_2 ?_
  refine lv_l2i (v := (g_r0 2).toInt32) hx hb dX6_ruleOn_3 rfl ?_
  refine lv_istore_n (lv' := [(2, .int ((g_r0 2).toInt32)), (0, .ref a_r0), (1, .int x1)]) hx hb dX6_ruleOn_4 rfl hl (by decide) rfl (fun ls hl => ?_)
  refine lv_aload_n hx hb dX6_ruleOn_5 rfl (lv_at hl 1 rfl) ?_
  refine lv_iconst (v := 2) hx hb dX6_ruleOn_6 (by decide) ?_
  refine lv_iload_n hx hb dX6_ruleOn_7 rfl (lv_at hl 2 rfl) ?_
  refine lv_i2l (v := x1.toInt64) hx hb dX6_ruleOn_8 rfl ?_
  refine vz_last tn_2 hx hb hK hP hD hS 0 2 rfl rfl vn_2_11 dX6_ruleOn_9 (fun H locs hP hD hS => ?_)
  have hP : va_P G vwCl [(a_r0, av_J cy 11 (vp_updL g_r0 2 x1.toInt64))] H := hP
  have hD : va_D A [(a_r0, av_J cy 11 (vp_updL g_r0 2 x1.toInt64))] := hD
  refine lv_iload_n hx hb dX6_ruleOn_10 rfl (lv_at hl 0 rfl) ?_
  subst hf
  exact kr_i hx hb hr hlocks rfl hP hK hD hN hS hS.2.2 dX6_ruleOn_11
set_option maxHeartbeats 4000000 in
set_option maxRecDepth 100000 in
theorem c_X6_breatheOn {l : Launch} (G : va_G) (cy : Nat → ClassId) (a_r0 : Nat) (sz : Nat) (g_r0 : Nat → Int64) (x1 : Int32) (x2 : Int32) (n : Nat) (R : Int32 × (Nat → Int64)) (hf : f_X6_breatheOn n g_r0 x1 x2 = some R) : Met l yX6_breatheOn wsX6_breatheOn ({ frames := 6, cells := 0, slots := 0, locals := 145 } : Room) (va_Pc [.ref a_r0, .int x1, .int x2] (pcW G cy [(a_r0, av_J cy 11 g_r0)] sz)) (va_Qi (fun r (_ : Unit) => r = R.1) (fun _ t => Wd G cy (va_A [(a_r0, av_J cy 11 g_r0)] sz) [(a_r0, av_J cy 11 R.2)] t) (va_A [(a_r0, av_J cy 11 g_r0)] sz)) 0 0 (va_A [(a_r0, av_J cy 11 g_r0)] sz) := by
  refine Met.ofW (cc := cX6_breatheOn) (maxL := 6) (ret := (some .int)) (by decide) rfl ?_
  intro p e s m args below meth c s₁ B hml hv
  obtain ⟨rfl, hsz, hP, hK, hD0, hN⟩ := hv
  have hx := B.exec
  have hb := B.bytes
  have hr := B.returns
  have hts := atoms_spec (ws := wsX6_breatheOn) B.pre
  have hown : s.vm.findClass RX6 = some m.cls := findClass_of_methodNamed B.named
  have hlocks := B.notSynchronized
  subst hsz
  have hD := hD0.self (sz := s.heap.size)
  generalize hAe : va_A [(a_r0, av_J cy 11 g_r0)] s.heap.size = A at hD ⊢
  have hA : ∀ q : Nat, s.heap.size ≤ q → A q := fun q h => by rw [← hAe]; exact Or.inr h
  have hS : va_S A s.heap s.heap [] := va_S.rf
  have hP : va_P G vwCl [(a_r0, av_J cy 11 g_r0)] s.heap := hP
  have bl_7 : ∀ (y2 : Int32), ∀ (k : Nat), ∀ (c_g_r0 : Nat → Int64) (y3 : Int64) (y5 : Int32) (H : Heap) (locs : List Loc), f_X6_breatheOn_b7 n y2 k c_g_r0 y3 y5 = some R → va_P G vwCl [(a_r0, av_J cy 11 c_g_r0)] H → va_D A [(a_r0, av_J cy 11 c_g_r0)] → va_S A s.heap H locs → ∀ (ls : Array Slot), lv_has ls 6 [(0, .ref a_r0), (2, .int y2), (3, .long y3), (5, .int y5)] → W p l e ({ frames := 6, cells := 0, slots := 0, locals := 145 } : Room) s m [.ref a_r0, .int x1, .int x2].toArray below meth c H locs 0 0 (MQ below (va_Qi (fun r (_ : Unit) => r = R.1) (fun _ t => Wd G cy A [(a_r0, av_J cy 11 R.2)] t) A) [.ref a_r0, .int x1, .int x2].toArray s 0 0 A) (F0 m 7 ls []) := by
    intro y2
    intro k
    induction k with
    | zero =>
      intro c_g_r0 y3 y5 H locs hf; cases hf
    | succ k ih =>
      intro c_g_r0 y3 y5 H locs hf hP hD hS ls hl
      have hf := (f_X6_breatheOn_b7_s n y2 k c_g_r0 y3 y5).symm.trans hf
      refine lv_iload hx hb dX6_breatheOn_7 (lv_at hl 3 rfl) ?_
      refine lv_iload_n hx hb dX6_breatheOn_9 rfl (lv_at hl 1 rfl) ?_
      refine lv_icmp_ge (tgt := 28) hx hb dX6_breatheOn_10 (by decide) (fun h_1 => ?_) (fun h_1 => ?_)
      · have hf := ip_ h_1 hf
        refine lv_aload_n hx hb dX6_breatheOn_28 rfl (lv_at hl 0 rfl) ?_
        refine lv_bipush (v := 8) hx hb dX6_breatheOn_29 (by decide) ?_
        refine vz_lald tn_8 hx hb hK hP 0 2 rfl rfl vn_8_11 dX6_breatheOn_31 ?_
        refine lv_lload_n hx hb dX6_breatheOn_32 rfl (lv_at hl 2 rfl) ?_
        refine lv_land hx hb dX6_breatheOn_33 ?_
        obtain ⟨r_2, hh_r_2, hf⟩ := obd_some hf
        refine kc_i (w1 := []) (wr := [(a_r0, av_J cy 11 c_g_r0)]) hP hD hS hA [] [0] rfl rfl rfl (by decide) (va_runS (As := [.long ((c_g_r0 8) &&& y3)]) (rest := []) ⟨hx, hb, hml, hown, hts⟩ (c_X6_bits (l := l) G cy  H.size ((c_g_r0 8) &&& y3) n r_2 hh_r_2) (va_cwS 1 hts gX6_breatheOn_X6_bits rfl rfl rfl ddN_X6_bits ⟨Nat.le_of_ble_eq_true rfl, Nat.le_of_ble_eq_true rfl⟩) (preS_ (hP.sub (ws' := []) [] rfl) hK (hD.sub (ws' := []) [] rfl rfl) hN) rfl rfl hl.1 rfl (lv_room (Nat.le_of_ble_eq_true rfl)) dX6_breatheOn_34 ⟨Nat.le_of_ble_eq_true rfl, Nat.le_of_ble_eq_true rfl⟩) (fun H locs hP hD hS => ?_)
        have hP : va_P G vwCl [(a_r0, av_J cy 11 c_g_r0)] H := hP
        have hD : va_D A [(a_r0, av_J cy 11 c_g_r0)] := hD
        refine lv_istore (lv' := [(5, .int r_2), (0, .ref a_r0), (2, .int y2), (3, .long y3)]) hx hb dX6_breatheOn_37 hl (by decide) rfl (fun ls hl => ?_)
        refine lv_aload_n hx hb dX6_breatheOn_39 rfl (lv_at hl 1 rfl) ?_
        refine lv_bipush (v := 8) hx hb dX6_breatheOn_40 (by decide) ?_
        refine lv_dup2_11 hx hb dX6_breatheOn_42 rfl rfl ?_
        refine vz_lald tn_8 hx hb hK hP 0 2 rfl rfl vn_8_11 dX6_breatheOn_43 ?_
        refine lv_lload_n hx hb dX6_breatheOn_44 rfl (lv_at hl 3 rfl) ?_
        refine lv_ldc2 (v := (-1)) hx hb hown (hts (.constantLong RX6 109 (-1)) (by decide +kernel)) dX6_breatheOn_45 ?_
        refine lv_lxor hx hb dX6_breatheOn_48 ?_
        refine lv_land hx hb dX6_breatheOn_49 ?_
        refine vz_last tn_8 hx hb hK hP hD hS 0 2 rfl rfl vn_8_11 dX6_breatheOn_50 (fun H locs hP hD hS => ?_)
        have hP : va_P G vwCl [(a_r0, av_J cy 11 (vp_updL c_g_r0 8 ((c_g_r0 8) &&& (y3 ^^^ (-1)))))] H := hP
        have hD : va_D A [(a_r0, av_J cy 11 (vp_updL c_g_r0 8 ((c_g_r0 8) &&& (y3 ^^^ (-1)))))] := hD
        refine lv_iload hx hb dX6_breatheOn_51 (lv_at hl 0 rfl) ?_
        obtain rfl := Option.some.inj hf
        exact kr_i hx hb hr hlocks rfl hP hK hD hN hS hS.2.2 dX6_breatheOn_53
      · have hf := in_ h_1 hf
        refine lv_aload_n hx hb dX6_breatheOn_13 rfl (lv_at hl 0 rfl) ?_
        refine lv_lload_n hx hb dX6_breatheOn_14 rfl (lv_at hl 2 rfl) ?_
        refine lv_ldc2 (v := (-1)) hx hb hown (hts (.constantLong RX6 109 (-1)) (by decide +kernel)) dX6_breatheOn_15 ?_
        obtain ⟨r_3, hh_r_3, hf⟩ := obd_some hf
        refine kc_l (w1 := [(a_r0, av_J cy 11 c_g_r0)]) (wr := []) hP hD hS hA [0] [] rfl rfl rfl (by decide) (va_runS (As := [.ref a_r0, .long y3, .long (-1)]) (rest := []) ⟨hx, hb, hml, hown, hts⟩ (c_X6_grown (l := l) G cy a_r0 H.size c_g_r0 y3 (-1) n r_3 hh_r_3) (va_cwS 3 hts gX6_breatheOn_X6_grown rfl rfl rfl ddN_X6_grown ⟨Nat.le_of_ble_eq_true rfl, Nat.le_of_ble_eq_true rfl⟩) (preS_ hP hK hD hN) rfl rfl hl.1 rfl (lv_room (Nat.le_of_ble_eq_true rfl)) dX6_breatheOn_18 ⟨Nat.le_of_ble_eq_true rfl, Nat.le_of_ble_eq_true rfl⟩) (fun H locs hP hD hS => ?_)
        have hP : va_P G vwCl [(a_r0, av_J cy 11 c_g_r0)] H := hP
        have hD : va_D A [(a_r0, av_J cy 11 c_g_r0)] := hD
        refine lv_lstore_n (lv' := [(3, .long r_3), (0, .ref a_r0), (2, .int y2), (5, .int y5)]) hx hb dX6_breatheOn_21 rfl hl (by decide) rfl (fun ls hl => ?_)
        refine lv_iinc (v := (y5 + 1)) (lv' := [(5, .int (y5 + 1)), (3, .long r_3), (0, .ref a_r0), (2, .int y2)]) hx hb dX6_breatheOn_22 hl (k := 3) rfl rfl (by decide) rfl (fun ls hl => ?_)
        refine lv_goto (tgt := 7) hx hb dX6_breatheOn_25 (by decide) ?_
        exact ih c_g_r0 r_3 (y5 + 1) _ _ hf hP hD hS ls (lv_sub hl [2, 3, 1, 0] rfl)
  have hl := lv_entry [.ref a_r0, .int x1, .int x2] (n := 6) (Nat.le_of_ble_eq_true rfl)
  rw [lg_entry_eq]
  generalize (lg_sl [.ref a_r0, .int x1, .int x2] ++ List.replicate (6 - (lg_sl [.ref a_r0, .int x1, .int x2]).length) Slot.unset).toArray = ls at hl ⊢
  have hl : lv_has ls 6 [(0, .ref a_r0), (1, .int x1), (2, .int x2)] := hl
  unfold f_X6_breatheOn at hf
  refine lv_lconst (v := 1) hx hb dX6_breatheOn_0 rfl ?_
  refine lv_iload_n hx hb dX6_breatheOn_1 rfl (lv_at hl 1 rfl) ?_
  refine lv_lshl (v := (jsl 1 x1)) hx hb dX6_breatheOn_2 rfl ?_
  refine lv_lstore_n (lv' := [(3, .long (jsl 1 x1)), (0, .ref a_r0), (1, .int x1), (2, .int x2)]) hx hb dX6_breatheOn_3 rfl hl (by decide) rfl (fun ls hl => ?_)
  refine lv_iconst (v := 0) hx hb dX6_breatheOn_4 (by decide) ?_
  refine lv_istore (lv' := [(5, .int 0), (3, .long (jsl 1 x1)), (0, .ref a_r0), (1, .int x1), (2, .int x2)]) hx hb dX6_breatheOn_5 hl (by decide) rfl (fun ls hl => ?_)
  exact bl_7 x2 n g_r0 (jsl 1 x1) 0 _ _ hf hP hD hS ls (lv_sub hl [2, 4, 1, 0] rfl)
set_option maxHeartbeats 4000000 in
set_option maxRecDepth 100000 in
theorem c_X6_layEquations {l : Launch} (G : va_G) (cy : Nat → ClassId) (a_0 : Nat) (a_text : Nat) (a_now : Nat) (a_trial : Nat) (a_diary : Nat) (a_kept : Nat) (a_isKept : Nat) (a_seen : Nat) (a_equations : Nat) (a_wanted : Nat) (sz : Nat) (s_0 : MT) (g_now : Nat → Int64) (g_equations : Nat → Int64) (g_wanted : Nat → Int32) (n : Nat) (R : (Nat → Int64) × (Nat → Int32)) (hf : f_X6_layEquations n s_0 g_now g_equations g_wanted = some R) : Met l yX6_layEquations wsX6_layEquations ({ frames := 5, cells := 0, slots := 0, locals := 115 } : Room) (va_Pc [.ref a_0] (pcW G cy [(a_0, mv a_text a_now a_trial a_diary a_kept a_isKept a_seen a_equations a_wanted s_0), (a_now, av_J cy 11 g_now), (a_equations, av_J cy 64 g_equations), (a_wanted, av_Z cy 64 g_wanted)] sz)) (va_Qv (fun _ : Unit => True) (fun _ t => Wd G cy (va_A [(a_0, mv a_text a_now a_trial a_diary a_kept a_isKept a_seen a_equations a_wanted s_0), (a_now, av_J cy 11 g_now), (a_equations, av_J cy 64 g_equations), (a_wanted, av_Z cy 64 g_wanted)] sz) [(a_0, mv a_text a_now a_trial a_diary a_kept a_isKept a_seen a_equations a_wanted s_0), (a_now, av_J cy 11 g_now), (a_equations, av_J cy 64 R.1), (a_wanted, av_Z cy 64 R.2)] t) (va_A [(a_0, mv a_text a_now a_trial a_diary a_kept a_isKept a_seen a_equations a_wanted s_0), (a_now, av_J cy 11 g_now), (a_equations, av_J cy 64 g_equations), (a_wanted, av_Z cy 64 g_wanted)] sz)) 0 0 (va_A [(a_0, mv a_text a_now a_trial a_diary a_kept a_isKept a_seen a_equations a_wanted s_0), (a_now, av_J cy 11 g_now), (a_equations, av_J cy 64 g_equations), (a_wanted, av_Z cy 64 g_wanted)] sz) := by
  refine Met.ofW (cc := cX6_layEquations) (maxL := 5) (ret := none) (by decide) rfl ?_
  intro p e s m args below meth c s₁ B hml hv
  obtain ⟨rfl, hsz, hP, hK, hD0, hN⟩ := hv
  have hx := B.exec
  have hb := B.bytes
  have hr := B.returns
  have hts := atoms_spec (ws := wsX6_layEquations) B.pre
  have hown : s.vm.findClass RX6 = some m.cls := findClass_of_methodNamed B.named
  have hlocks := B.notSynchronized
  subst hsz
  have hD := hD0.self (sz := s.heap.size)
  generalize hAe : va_A [(a_0, mv a_text a_now a_trial a_diary a_kept a_isKept a_seen a_equations a_wanted s_0), (a_now, av_J cy 11 g_now), (a_equations, av_J cy 64 g_equations), (a_wanted, av_Z cy 64 g_wanted)] s.heap.size = A at hD ⊢
  have hA : ∀ q : Nat, s.heap.size ≤ q → A q := fun q h => by rw [← hAe]; exact Or.inr h
  have hS : va_S A s.heap s.heap [] := va_S.rf
  have hP : va_P G vwCl [(a_0, mv a_text a_now a_trial a_diary a_kept a_isKept a_seen a_equations a_wanted s_0), (a_now, av_J cy 11 g_now), (a_equations, av_J cy 64 g_equations), (a_wanted, av_Z cy 64 g_wanted)] s.heap := hP
  have bl_60 : ∀ (y1 : Int32), ∀ (y2 : Int32), ∀ (K10 : (Nat → Int64) → (Nat → Int32) → Int32 → Option ((Nat → Int64) × (Nat → Int32))), (∀ (c_g_equations : Nat → Int64) (c_g_wanted : Nat → Int32) (y2 : Int32) (H : Heap) (locs : List Loc), K10 c_g_equations c_g_wanted y2 = some R → va_P G vwCl [(a_0, mv a_text a_now a_trial a_diary a_kept a_isKept a_seen a_equations a_wanted s_0), (a_now, av_J cy 11 g_now), (a_equations, av_J cy 64 c_g_equations), (a_wanted, av_Z cy 64 c_g_wanted)] H → va_D A [(a_0, mv a_text a_now a_trial a_diary a_kept a_isKept a_seen a_equations a_wanted s_0), (a_now, av_J cy 11 g_now), (a_equations, av_J cy 64 c_g_equations), (a_wanted, av_Z cy 64 c_g_wanted)] → va_S A s.heap H locs → ∀ (ls : Array Slot), lv_has ls 5 [(0, .ref a_0), (1, .int y1), (2, .int y2)] → W p l e ({ frames := 5, cells := 0, slots := 0, locals := 115 } : Room) s m [.ref a_0].toArray below meth c H locs 0 0 (MQ below (va_Qv (fun _ : Unit => True) (fun _ t => Wd G cy A [(a_0, mv a_text a_now a_trial a_diary a_kept a_isKept a_seen a_equations a_wanted s_0), (a_now, av_J cy 11 g_now), (a_equations, av_J cy 64 R.1), (a_wanted, av_Z cy 64 R.2)] t) A) [.ref a_0].toArray s 0 0 A) (F0 m 10 ls [])) → ∀ (k : Nat), ∀ (c_g_equations : Nat → Int64) (c_g_wanted : Nat → Int32) (y3 : Int32) (H : Heap) (locs : List Loc), f_X6_layEquations_b60 n s_0 g_now y1 y2 K10 k c_g_equations c_g_wanted y3 = some R → va_P G vwCl [(a_0, mv a_text a_now a_trial a_diary a_kept a_isKept a_seen a_equations a_wanted s_0), (a_now, av_J cy 11 g_now), (a_equations, av_J cy 64 c_g_equations), (a_wanted, av_Z cy 64 c_g_wanted)] H → va_D A [(a_0, mv a_text a_now a_trial a_diary a_kept a_isKept a_seen a_equations a_wanted s_0), (a_now, av_J cy 11 g_now), (a_equations, av_J cy 64 c_g_equations), (a_wanted, av_Z cy 64 c_g_wanted)] → va_S A s.heap H locs → ∀ (ls : Array Slot), lv_has ls 5 [(0, .ref a_0), (1, .int y1), (2, .int y2), (3, .int y3)] → W p l e ({ frames := 5, cells := 0, slots := 0, locals := 115 } : Room) s m [.ref a_0].toArray below meth c H locs 0 0 (MQ below (va_Qv (fun _ : Unit => True) (fun _ t => Wd G cy A [(a_0, mv a_text a_now a_trial a_diary a_kept a_isKept a_seen a_equations a_wanted s_0), (a_now, av_J cy 11 g_now), (a_equations, av_J cy 64 R.1), (a_wanted, av_Z cy 64 R.2)] t) A) [.ref a_0].toArray s 0 0 A) (F0 m 60 ls []) := by
    intro y1
    intro y2
    intro K10 hK10
    intro k
    induction k with
    | zero =>
      intro c_g_equations c_g_wanted y3 H locs hf; cases hf
    | succ k ih =>
      intro c_g_equations c_g_wanted y3 H locs hf hP hD hS ls hl
      have hf := (f_X6_layEquations_b60_s n s_0 g_now y1 y2 K10 k c_g_equations c_g_wanted y3).symm.trans hf
      refine lv_iload_n hx hb dX6_layEquations_60 rfl (lv_at hl 3 rfl) ?_
      refine lv_iconst (v := 4) hx hb dX6_layEquations_61 (by decide) ?_
      refine lv_icmp_ge (tgt := 123) hx hb dX6_layEquations_62 (by decide) (fun h_1 => ?_) (fun h_1 => ?_)
      · have hf := ip_ h_1 hf
        refine lv_iinc (v := (y2 + 1)) (lv' := [(2, .int (y2 + 1)), (0, .ref a_0), (1, .int y1), (3, .int y3)]) hx hb dX6_layEquations_123 hl (k := 2) rfl rfl (by decide) rfl (fun ls hl => ?_)
        refine lv_goto (tgt := 10) hx hb dX6_layEquations_126 (by decide) ?_
        exact hK10 c_g_equations c_g_wanted (y2 + 1) _ _ hf hP hD hS ls (lv_sub hl [1, 2, 0] rfl)
      · have hf := in_ h_1 hf
        refine lv_aload_n hx hb dX6_layEquations_65 rfl (lv_at hl 0 rfl) ?_
        refine va_get (D := G) (ci := 6) (v := .ref a_now) (C := RX6) (T := TX6) (N := 15) hx hb hts iw_X6_layEquations_X6 hown hK hP 0 rfl rfl 3 (by decide) (hts (.fieldLink RX6 13 "PaneFrostModel" "now" "[J") (by decide +kernel)) (fun _ h9 => h9) rfl dX6_layEquations_66 ?_
        refine lv_iload_n hx hb dX6_layEquations_69 rfl (lv_at hl 2 rfl) ?_
        refine lv_iload_n hx hb dX6_layEquations_70 rfl (lv_at hl 3 rfl) ?_
        obtain ⟨r_2, hh_r_2, hf⟩ := obd_some hf
        refine kc_i (w1 := [(a_now, av_J cy 11 g_now)]) (wr := [(a_0, mv a_text a_now a_trial a_diary a_kept a_isKept a_seen a_equations a_wanted s_0), (a_equations, av_J cy 64 c_g_equations), (a_wanted, av_Z cy 64 c_g_wanted)]) hP hD hS hA [1] [0, 2, 3] rfl rfl rfl (by decide) (va_runS (As := [.ref a_now, .int y2, .int y3]) (rest := []) ⟨hx, hb, hml, hown, hts⟩ (c_X6_next (l := l) G cy a_now H.size g_now y2 y3  r_2 hh_r_2) (va_cwS 3 hts gX6_layEquations_X6_next rfl rfl rfl ddN_X6_next ⟨Nat.le_of_ble_eq_true rfl, Nat.le_of_ble_eq_true rfl⟩) (preS_ (hP.sub (ws' := [(a_now, av_J cy 11 g_now)]) [1] rfl) hK (hD.sub (ws' := [(a_now, av_J cy 11 g_now)]) [1] rfl rfl) hN) rfl rfl hl.1 rfl (lv_room (Nat.le_of_ble_eq_true rfl)) dX6_layEquations_71 ⟨Nat.le_of_ble_eq_true rfl, Nat.le_of_ble_eq_true rfl⟩) (fun H locs hP hD hS => ?_)
        have hP : va_P G vwCl [(a_0, mv a_text a_now a_trial a_diary a_kept a_isKept a_seen a_equations a_wanted s_0), (a_equations, av_J cy 64 c_g_equations), (a_wanted, av_Z cy 64 c_g_wanted), (a_now, av_J cy 11 g_now)] H := hP
        have hD : va_D A [(a_0, mv a_text a_now a_trial a_diary a_kept a_isKept a_seen a_equations a_wanted s_0), (a_equations, av_J cy 64 c_g_equations), (a_wanted, av_Z cy 64 c_g_wanted), (a_now, av_J cy 11 g_now)] := hD
        refine lv_istore (lv' := [(4, .int r_2), (0, .ref a_0), (1, .int y1), (2, .int y2), (3, .int y3)]) hx hb dX6_layEquations_74 hl (by decide) rfl (fun ls hl => ?_)
        refine lv_aload_n hx hb dX6_layEquations_76 rfl (lv_at hl 1 rfl) ?_
        refine va_get (D := G) (ci := 6) (v := .ref a_equations) (C := RX6) (T := TX6) (N := 15) hx hb hts iw_X6_layEquations_X6 hown hK hP 0 rfl rfl 10 (by decide) (hts (.fieldLink RX6 33 "PaneFrostModel" "equations" "[J") (by decide +kernel)) (fun _ h9 => h9) rfl dX6_layEquations_77 ?_
        refine lv_iload_n hx hb dX6_layEquations_80 rfl (lv_at hl 3 rfl) ?_
        refine lv_dup2_11 hx hb dX6_layEquations_81 rfl rfl ?_
        by_cases q_3 : y2 < 0 ∨ 64 ≤ y2.toNatClampNeg
        · have hf := ip_ q_3 hf; cases hf
        have hf := in_ q_3 hf
        refine vz_lald rfl hx hb hK hP 1 2 rfl rfl (vin q_3) dX6_layEquations_82 ?_
        refine lv_iload hx hb dX6_layEquations_83 (lv_at hl 0 rfl) ?_
        refine lv_iconst (v := (-1)) hx hb dX6_layEquations_85 (by decide) ?_
        refine lv_icmp_ne (tgt := 93) hx hb dX6_layEquations_86 (by decide) (fun h_4 => ?_) (fun h_4 => ?_)
        · have hf := in_ h_4 hf
          refine lv_lconst (v := 1) hx hb dX6_layEquations_93 rfl ?_
          refine lv_iload hx hb dX6_layEquations_94 (lv_at hl 0 rfl) ?_
          refine lv_lshl (v := (jsl 1 r_2)) hx hb dX6_layEquations_96 rfl ?_
          refine lv_lxor hx hb dX6_layEquations_97 ?_
          by_cases q_5 : y2 < 0 ∨ 64 ≤ y2.toNatClampNeg
          · have hf := ip_ q_5 hf; cases hf
          have hf := in_ q_5 hf
          refine vz_last rfl hx hb hK hP hD hS 1 2 rfl rfl (vin q_5) dX6_layEquations_98 (fun H locs hP hD hS => ?_)
          have hP : va_P G vwCl [(a_0, mv a_text a_now a_trial a_diary a_kept a_isKept a_seen a_equations a_wanted s_0), (a_equations, av_J cy 64 (vp_updL c_g_equations y2.toNatClampNeg ((c_g_equations y2.toNatClampNeg) ^^^ (jsl 1 r_2)))), (a_wanted, av_Z cy 64 c_g_wanted), (a_now, av_J cy 11 g_now)] H := hP
          have hD : va_D A [(a_0, mv a_text a_now a_trial a_diary a_kept a_isKept a_seen a_equations a_wanted s_0), (a_equations, av_J cy 64 (vp_updL c_g_equations y2.toNatClampNeg ((c_g_equations y2.toNatClampNeg) ^^^ (jsl 1 r_2)))), (a_wanted, av_Z cy 64 c_g_wanted), (a_now, av_J cy 11 g_now)] := hD
          refine lv_aload_n hx hb dX6_layEquations_99 rfl (lv_at hl 1 rfl) ?_
          refine va_get (D := G) (ci := 6) (v := .ref a_wanted) (C := RX6) (T := TX6) (N := 15) hx hb hts iw_X6_layEquations_X6 hown hK hP 0 rfl rfl 11 (by decide) (hts (.fieldLink RX6 36 "PaneFrostModel" "wanted" "[Z") (by decide +kernel)) (fun _ h9 => h9) rfl dX6_layEquations_100 ?_
          refine lv_iload_n hx hb dX6_layEquations_103 rfl (lv_at hl 3 rfl) ?_
          refine lv_dup2_11 hx hb dX6_layEquations_104 rfl rfl ?_
          by_cases q_6 : y2 < 0 ∨ 64 ≤ y2.toNatClampNeg
          · have hf := ip_ q_6 hf; cases hf
          have hf := in_ q_6 hf
          refine vz_zald rfl hx hb hK hP 2 3 rfl rfl (vin q_6) dX6_layEquations_105 ?_
          refine lv_aload_n hx hb dX6_layEquations_106 rfl (lv_at hl 1 rfl) ?_
          refine va_get (D := G) (ci := 6) (v := .ref a_now) (C := RX6) (T := TX6) (N := 15) hx hb hts iw_X6_layEquations_X6 hown hK hP 0 rfl rfl 3 (by decide) (hts (.fieldLink RX6 13 "PaneFrostModel" "now" "[J") (by decide +kernel)) (fun _ h9 => h9) rfl dX6_layEquations_107 ?_
          refine lv_iload_n hx hb dX6_layEquations_110 rfl (lv_at hl 3 rfl) ?_
          refine lv_iload_n hx hb dX6_layEquations_111 rfl (lv_at hl 4 rfl) ?_
          obtain ⟨r_7, hh_r_7, hf⟩ := obd_some hf
          refine kc_i (w1 := [(a_now, av_J cy 11 g_now)]) (wr := [(a_0, mv a_text a_now a_trial a_diary a_kept a_isKept a_seen a_equations a_wanted s_0), (a_equations, av_J cy 64 (vp_updL c_g_equations y2.toNatClampNeg ((c_g_equations y2.toNatClampNeg) ^^^ (jsl 1 r_2)))), (a_wanted, av_Z cy 64 c_g_wanted)]) hP hD hS hA [3] [0, 1, 2] rfl rfl rfl (by decide) (va_runS (As := [.ref a_now, .int y2, .int y3]) (rest := [.int (c_g_wanted y2.toNatClampNeg), .int y2, .ref a_wanted]) ⟨hx, hb, hml, hown, hts⟩ (c_X6_isIce (l := l) G cy a_now H.size g_now y2 y3  r_7 hh_r_7) (va_cwS 3 hts gX6_layEquations_X6_isIce rfl rfl rfl ddN_X6_isIce ⟨Nat.le_of_ble_eq_true rfl, Nat.le_of_ble_eq_true rfl⟩) (preS_ (hP.sub (ws' := [(a_now, av_J cy 11 g_now)]) [3] rfl) hK (hD.sub (ws' := [(a_now, av_J cy 11 g_now)]) [3] rfl rfl) hN) rfl rfl hl.1 rfl (lv_room (Nat.le_of_ble_eq_true rfl)) dX6_layEquations_112 ⟨Nat.le_of_ble_eq_true rfl, Nat.le_of_ble_eq_true rfl⟩) (fun H locs hP hD hS => ?_)
          have hP : va_P G vwCl [(a_0, mv a_text a_now a_trial a_diary a_kept a_isKept a_seen a_equations a_wanted s_0), (a_equations, av_J cy 64 (vp_updL c_g_equations y2.toNatClampNeg ((c_g_equations y2.toNatClampNeg) ^^^ (jsl 1 r_2)))), (a_wanted, av_Z cy 64 c_g_wanted), (a_now, av_J cy 11 g_now)] H := hP
          have hD : va_D A [(a_0, mv a_text a_now a_trial a_diary a_kept a_isKept a_seen a_equations a_wanted s_0), (a_equations, av_J cy 64 (vp_updL c_g_equations y2.toNatClampNeg ((c_g_equations y2.toNatClampNeg) ^^^ (jsl 1 r_2)))), (a_wanted, av_Z cy 64 c_g_wanted), (a_now, av_J cy 11 g_now)] := hD
          refine lv_ixor hx hb dX6_layEquations_115 ?_
          by_cases q_8 : y2 < 0 ∨ 64 ≤ y2.toNatClampNeg
          · have hf := ip_ q_8 hf; cases hf
          have hf := in_ q_8 hf
          refine vz_zast rfl hx hb hK hP hD hS 2 3 rfl rfl (vin q_8) dX6_layEquations_116 (fun H locs hP hD hS => ?_)
          have hP : va_P G vwCl [(a_0, mv a_text a_now a_trial a_diary a_kept a_isKept a_seen a_equations a_wanted s_0), (a_equations, av_J cy 64 (vp_updL c_g_equations y2.toNatClampNeg ((c_g_equations y2.toNatClampNeg) ^^^ (jsl 1 r_2)))), (a_wanted, av_Z cy 64 (upd c_g_wanted y2.toNatClampNeg (vp_nar .boolean ((c_g_wanted y2.toNatClampNeg) ^^^ (bI r_7))))), (a_now, av_J cy 11 g_now)] H := hP
          have hD : va_D A [(a_0, mv a_text a_now a_trial a_diary a_kept a_isKept a_seen a_equations a_wanted s_0), (a_equations, av_J cy 64 (vp_updL c_g_equations y2.toNatClampNeg ((c_g_equations y2.toNatClampNeg) ^^^ (jsl 1 r_2)))), (a_wanted, av_Z cy 64 (upd c_g_wanted y2.toNatClampNeg (vp_nar .boolean ((c_g_wanted y2.toNatClampNeg) ^^^ (bI r_7))))), (a_now, av_J cy 11 g_now)] := hD
          refine lv_iinc (v := (y3 + 1)) (lv' := [(3, .int (y3 + 1)), (4, .int r_2), (0, .ref a_0), (1, .int y1), (2, .int y2)]) hx hb dX6_layEquations_117 hl (k := 4) rfl rfl (by decide) rfl (fun ls hl => ?_)
          refine lv_goto (tgt := 60) hx hb dX6_layEquations_120 (by decide) ?_
          exact ih (vp_updL c_g_equations y2.toNatClampNeg ((c_g_equations y2.toNatClampNeg) ^^^ (jsl 1 r_2))) (upd c_g_wanted y2.toNatClampNeg (vp_nar .boolean ((c_g_wanted y2.toNatClampNeg) ^^^ (bI r_7)))) (y3 + 1) _ _ hf (hP.sub (ws' := [(a_0, mv a_text a_now a_trial a_diary a_kept a_isKept a_seen a_equations a_wanted s_0), (a_now, av_J cy 11 g_now), (a_equations, av_J cy 64 (vp_updL c_g_equations y2.toNatClampNeg ((c_g_equations y2.toNatClampNeg) ^^^ (jsl 1 r_2)))), (a_wanted, av_Z cy 64 (upd c_g_wanted y2.toNatClampNeg (vp_nar .boolean ((c_g_wanted y2.toNatClampNeg) ^^^ (bI r_7)))))]) [0, 3, 1, 2] rfl) (hD.sub (ws' := [(a_0, mv a_text a_now a_trial a_diary a_kept a_isKept a_seen a_equations a_wanted s_0), (a_now, av_J cy 11 g_now), (a_equations, av_J cy 64 (vp_updL c_g_equations y2.toNatClampNeg ((c_g_equations y2.toNatClampNeg) ^^^ (jsl 1 r_2)))), (a_wanted, av_Z cy 64 (upd c_g_wanted y2.toNatClampNeg (vp_nar .boolean ((c_g_wanted y2.toNatClampNeg) ^^^ (bI r_7)))))]) [0, 3, 1, 2] rfl rfl) hS ls (lv_sub hl [2, 3, 4, 0] rfl)
        · have hf := ip_ h_4 hf
          refine lv_lconst (v := 0) hx hb dX6_layEquations_89 rfl ?_
          refine lv_goto (tgt := 97) hx hb dX6_layEquations_90 (by decide) ?_
          refine lv_lxor hx hb dX6_layEquations_97 ?_
          by_cases q_9 : y2 < 0 ∨ 64 ≤ y2.toNatClampNeg
          · have hf := ip_ q_9 hf; cases hf
          have hf := in_ q_9 hf
          refine vz_last rfl hx hb hK hP hD hS 1 2 rfl rfl (vin q_9) dX6_layEquations_98 (fun H locs hP hD hS => ?_)
          have hP : va_P G vwCl [(a_0, mv a_text a_now a_trial a_diary a_kept a_isKept a_seen a_equations a_wanted s_0), (a_equations, av_J cy 64 (vp_updL c_g_equations y2.toNatClampNeg ((c_g_equations y2.toNatClampNeg) ^^^ 0))), (a_wanted, av_Z cy 64 c_g_wanted), (a_now, av_J cy 11 g_now)] H := hP
          have hD : va_D A [(a_0, mv a_text a_now a_trial a_diary a_kept a_isKept a_seen a_equations a_wanted s_0), (a_equations, av_J cy 64 (vp_updL c_g_equations y2.toNatClampNeg ((c_g_equations y2.toNatClampNeg) ^^^ 0))), (a_wanted, av_Z cy 64 c_g_wanted), (a_now, av_J cy 11 g_now)] := hD
          refine lv_aload_n hx hb dX6_layEquations_99 rfl (lv_at hl 1 rfl) ?_
          refine va_get (D := G) (ci := 6) (v := .ref a_wanted) (C := RX6) (T := TX6) (N := 15) hx hb hts iw_X6_layEquations_X6 hown hK hP 0 rfl rfl 11 (by decide) (hts (.fieldLink RX6 36 "PaneFrostModel" "wanted" "[Z") (by decide +kernel)) (fun _ h9 => h9) rfl dX6_layEquations_100 ?_
          refine lv_iload_n hx hb dX6_layEquations_103 rfl (lv_at hl 3 rfl) ?_
          refine lv_dup2_11 hx hb dX6_layEquations_104 rfl rfl ?_
          by_cases q_10 : y2 < 0 ∨ 64 ≤ y2.toNatClampNeg
          · have hf := ip_ q_10 hf; cases hf
          have hf := in_ q_10 hf
          refine vz_zald rfl hx hb hK hP 2 3 rfl rfl (vin q_10) dX6_layEquations_105 ?_
          refine lv_aload_n hx hb dX6_layEquations_106 rfl (lv_at hl 1 rfl) ?_
          refine va_get (D := G) (ci := 6) (v := .ref a_now) (C := RX6) (T := TX6) (N := 15) hx hb hts iw_X6_layEquations_X6 hown hK hP 0 rfl rfl 3 (by decide) (hts (.fieldLink RX6 13 "PaneFrostModel" "now" "[J") (by decide +kernel)) (fun _ h9 => h9) rfl dX6_layEquations_107 ?_
          refine lv_iload_n hx hb dX6_layEquations_110 rfl (lv_at hl 3 rfl) ?_
          refine lv_iload_n hx hb dX6_layEquations_111 rfl (lv_at hl 4 rfl) ?_
          obtain ⟨r_11, hh_r_11, hf⟩ := obd_some hf
          refine kc_i (w1 := [(a_now, av_J cy 11 g_now)]) (wr := [(a_0, mv a_text a_now a_trial a_diary a_kept a_isKept a_seen a_equations a_wanted s_0), (a_equations, av_J cy 64 (vp_updL c_g_equations y2.toNatClampNeg ((c_g_equations y2.toNatClampNeg) ^^^ 0))), (a_wanted, av_Z cy 64 c_g_wanted)]) hP hD hS hA [3] [0, 1, 2] rfl rfl rfl (by decide) (va_runS (As := [.ref a_now, .int y2, .int y3]) (rest := [.int (c_g_wanted y2.toNatClampNeg), .int y2, .ref a_wanted]) ⟨hx, hb, hml, hown, hts⟩ (c_X6_isIce (l := l) G cy a_now H.size g_now y2 y3  r_11 hh_r_11) (va_cwS 3 hts gX6_layEquations_X6_isIce rfl rfl rfl ddN_X6_isIce ⟨Nat.le_of_ble_eq_true rfl, Nat.le_of_ble_eq_true rfl⟩) (preS_ (hP.sub (ws' := [(a_now, av_J cy 11 g_now)]) [3] rfl) hK (hD.sub (ws' := [(a_now, av_J cy 11 g_now)]) [3] rfl rfl) hN) rfl rfl hl.1 rfl (lv_room (Nat.le_of_ble_eq_true rfl)) dX6_layEquations_112 ⟨Nat.le_of_ble_eq_true rfl, Nat.le_of_ble_eq_true rfl⟩) (fun H locs hP hD hS => ?_)
          have hP : va_P G vwCl [(a_0, mv a_text a_now a_trial a_diary a_kept a_isKept a_seen a_equations a_wanted s_0), (a_equations, av_J cy 64 (vp_updL c_g_equations y2.toNatClampNeg ((c_g_equations y2.toNatClampNeg) ^^^ 0))), (a_wanted, av_Z cy 64 c_g_wanted), (a_now, av_J cy 11 g_now)] H := hP
          have hD : va_D A [(a_0, mv a_text a_now a_trial a_diary a_kept a_isKept a_seen a_equations a_wanted s_0), (a_equations, av_J cy 64 (vp_updL c_g_equations y2.toNatClampNeg ((c_g_equations y2.toNatClampNeg) ^^^ 0))), (a_wanted, av_Z cy 64 c_g_wanted), (a_now, av_J cy 11 g_now)] := hD
          refine lv_ixor hx hb dX6_layEquations_115 ?_
          by_cases q_12 : y2 < 0 ∨ 64 ≤ y2.toNatClampNeg
          · have hf := ip_ q_12 hf; cases hf
          have hf := in_ q_12 hf
          refine vz_zast rfl hx hb hK hP hD hS 2 3 rfl rfl (vin q_12) dX6_layEquations_116 (fun H locs hP hD hS => ?_)
          have hP : va_P G vwCl [(a_0, mv a_text a_now a_trial a_diary a_kept a_isKept a_seen a_equations a_wanted s_0), (a_equations, av_J cy 64 (vp_updL c_g_equations y2.toNatClampNeg ((c_g_equations y2.toNatClampNeg) ^^^ 0))), (a_wanted, av_Z cy 64 (upd c_g_wanted y2.toNatClampNeg (vp_nar .boolean ((c_g_wanted y2.toNatClampNeg) ^^^ (bI r_11))))), (a_now, av_J cy 11 g_now)] H := hP
          have hD : va_D A [(a_0, mv a_text a_now a_trial a_diary a_kept a_isKept a_seen a_equations a_wanted s_0), (a_equations, av_J cy 64 (vp_updL c_g_equations y2.toNatClampNeg ((c_g_equations y2.toNatClampNeg) ^^^ 0))), (a_wanted, av_Z cy 64 (upd c_g_wanted y2.toNatClampNeg (vp_nar .boolean ((c_g_wanted y2.toNatClampNeg) ^^^ (bI r_11))))), (a_now, av_J cy 11 g_now)] := hD
          refine lv_iinc (v := (y3 + 1)) (lv' := [(3, .int (y3 + 1)), (4, .int r_2), (0, .ref a_0), (1, .int y1), (2, .int y2)]) hx hb dX6_layEquations_117 hl (k := 4) rfl rfl (by decide) rfl (fun ls hl => ?_)
          refine lv_goto (tgt := 60) hx hb dX6_layEquations_120 (by decide) ?_
          exact ih (vp_updL c_g_equations y2.toNatClampNeg ((c_g_equations y2.toNatClampNeg) ^^^ 0)) (upd c_g_wanted y2.toNatClampNeg (vp_nar .boolean ((c_g_wanted y2.toNatClampNeg) ^^^ (bI r_11)))) (y3 + 1) _ _ hf (hP.sub (ws' := [(a_0, mv a_text a_now a_trial a_diary a_kept a_isKept a_seen a_equations a_wanted s_0), (a_now, av_J cy 11 g_now), (a_equations, av_J cy 64 (vp_updL c_g_equations y2.toNatClampNeg ((c_g_equations y2.toNatClampNeg) ^^^ 0))), (a_wanted, av_Z cy 64 (upd c_g_wanted y2.toNatClampNeg (vp_nar .boolean ((c_g_wanted y2.toNatClampNeg) ^^^ (bI r_11)))))]) [0, 3, 1, 2] rfl) (hD.sub (ws' := [(a_0, mv a_text a_now a_trial a_diary a_kept a_isKept a_seen a_equations a_wanted s_0), (a_now, av_J cy 11 g_now), (a_equations, av_J cy 64 (vp_updL c_g_equations y2.toNatClampNeg ((c_g_equations y2.toNatClampNeg) ^^^ 0))), (a_wanted, av_Z cy 64 (upd c_g_wanted y2.toNatClampNeg (vp_nar .boolean ((c_g_wanted y2.toNatClampNeg) ^^^ (bI r_11)))))]) [0, 3, 1, 2] rfl rfl) hS ls (lv_sub hl [2, 3, 4, 0] rfl)
  have bl_10 : ∀ (y1 : Int32), ∀ (k : Nat), ∀ (c_g_equations : Nat → Int64) (c_g_wanted : Nat → Int32) (y2 : Int32) (H : Heap) (locs : List Loc), f_X6_layEquations_b10 n s_0 g_now y1 k c_g_equations c_g_wanted y2 = some R → va_P G vwCl [(a_0, mv a_text a_now a_trial a_diary a_kept a_isKept a_seen a_equations a_wanted s_0), (a_now, av_J cy 11 g_now), (a_equations, av_J cy 64 c_g_equations), (a_wanted, av_Z cy 64 c_g_wanted)] H → va_D A [(a_0, mv a_text a_now a_trial a_diary a_kept a_isKept a_seen a_equations a_wanted s_0), (a_now, av_J cy 11 g_now), (a_equations, av_J cy 64 c_g_equations), (a_wanted, av_Z cy 64 c_g_wanted)] → va_S A s.heap H locs → ∀ (ls : Array Slot), lv_has ls 5 [(0, .ref a_0), (1, .int y1), (2, .int y2)] → W p l e ({ frames := 5, cells := 0, slots := 0, locals := 115 } : Room) s m [.ref a_0].toArray below meth c H locs 0 0 (MQ below (va_Qv (fun _ : Unit => True) (fun _ t => Wd G cy A [(a_0, mv a_text a_now a_trial a_diary a_kept a_isKept a_seen a_equations a_wanted s_0), (a_now, av_J cy 11 g_now), (a_equations, av_J cy 64 R.1), (a_wanted, av_Z cy 64 R.2)] t) A) [.ref a_0].toArray s 0 0 A) (F0 m 10 ls []) := by
    intro y1
    intro k
    induction k with
    | zero =>
      intro c_g_equations c_g_wanted y2 H locs hf; cases hf
    | succ k ih =>
      intro c_g_equations c_g_wanted y2 H locs hf hP hD hS ls hl
      have hf := (f_X6_layEquations_b10_s n s_0 g_now y1 k c_g_equations c_g_wanted y2).symm.trans hf
      refine lv_iload_n hx hb dX6_layEquations_10 rfl (lv_at hl 2 rfl) ?_
      refine lv_iload_n hx hb dX6_layEquations_11 rfl (lv_at hl 1 rfl) ?_
      refine lv_icmp_ge (tgt := 129) hx hb dX6_layEquations_12 (by decide) (fun h_13 => ?_) (fun h_13 => ?_)
      · have hf := ip_ h_13 hf
        obtain rfl := Option.some.inj hf
        exact kr_v hx hb hr hlocks hP hK hD hN hS hS.2.2 dX6_layEquations_129
      · have hf := in_ h_13 hf
        refine lv_aload_n hx hb dX6_layEquations_15 rfl (lv_at hl 0 rfl) ?_
        refine va_get (D := G) (ci := 6) (v := .ref a_equations) (C := RX6) (T := TX6) (N := 15) hx hb hts iw_X6_layEquations_X6 hown hK hP 0 rfl rfl 10 (by decide) (hts (.fieldLink RX6 33 "PaneFrostModel" "equations" "[J") (by decide +kernel)) (fun _ h9 => h9) rfl dX6_layEquations_16 ?_
        refine lv_iload_n hx hb dX6_layEquations_19 rfl (lv_at hl 2 rfl) ?_
        refine lv_aload_n hx hb dX6_layEquations_20 rfl (lv_at hl 0 rfl) ?_
        refine va_get (D := G) (ci := 6) (v := .ref a_now) (C := RX6) (T := TX6) (N := 15) hx hb hts iw_X6_layEquations_X6 hown hK hP 0 rfl rfl 3 (by decide) (hts (.fieldLink RX6 13 "PaneFrostModel" "now" "[J") (by decide +kernel)) (fun _ h9 => h9) rfl dX6_layEquations_21 ?_
        refine lv_iconst (v := 2) hx hb dX6_layEquations_24 (by decide) ?_
        refine vz_lald tn_2 hx hb hK hP 1 2 rfl rfl vn_2_11 dX6_layEquations_25 ?_
        refine lv_ldc2 (v := 2) hx hb hown (hts (.constantLong RX6 55 (2)) (by decide +kernel)) dX6_layEquations_26 ?_
        refine W.lcmp hx hb dX6_layEquations_29 ?_
        refine lv_if_ne (tgt := 39) hx hb dX6_layEquations_30 (by decide) (fun h_14 => ?_) (fun h_14 => ?_)
        · have hf := in_ (fun q => h_14 (lgc_eq.mpr q)) hf
          refine lv_lconst (v := 0) hx hb dX6_layEquations_39 rfl ?_
          by_cases q_15 : y2 < 0 ∨ 64 ≤ y2.toNatClampNeg
          · have hf := ip_ q_15 hf; cases hf
          have hf := in_ q_15 hf
          refine vz_last rfl hx hb hK hP hD hS 2 2 rfl rfl (vin q_15) dX6_layEquations_40 (fun H locs hP hD hS => ?_)
          have hP : va_P G vwCl [(a_0, mv a_text a_now a_trial a_diary a_kept a_isKept a_seen a_equations a_wanted s_0), (a_now, av_J cy 11 g_now), (a_equations, av_J cy 64 (vp_updL c_g_equations y2.toNatClampNeg 0)), (a_wanted, av_Z cy 64 c_g_wanted)] H := hP
          have hD : va_D A [(a_0, mv a_text a_now a_trial a_diary a_kept a_isKept a_seen a_equations a_wanted s_0), (a_now, av_J cy 11 g_now), (a_equations, av_J cy 64 (vp_updL c_g_equations y2.toNatClampNeg 0)), (a_wanted, av_Z cy 64 c_g_wanted)] := hD
          refine lv_aload_n hx hb dX6_layEquations_41 rfl (lv_at hl 0 rfl) ?_
          refine va_get (D := G) (ci := 6) (v := .ref a_wanted) (C := RX6) (T := TX6) (N := 15) hx hb hts iw_X6_layEquations_X6 hown hK hP 0 rfl rfl 11 (by decide) (hts (.fieldLink RX6 36 "PaneFrostModel" "wanted" "[Z") (by decide +kernel)) (fun _ h9 => h9) rfl dX6_layEquations_42 ?_
          refine lv_iload_n hx hb dX6_layEquations_45 rfl (lv_at hl 2 rfl) ?_
          refine lv_aload_n hx hb dX6_layEquations_46 rfl (lv_at hl 0 rfl) ?_
          refine va_get (D := G) (ci := 6) (v := .ref a_now) (C := RX6) (T := TX6) (N := 15) hx hb hts iw_X6_layEquations_X6 hown hK hP 0 rfl rfl 3 (by decide) (hts (.fieldLink RX6 13 "PaneFrostModel" "now" "[J") (by decide +kernel)) (fun _ h9 => h9) rfl dX6_layEquations_47 ?_
          refine lv_bipush (v := 8) hx hb dX6_layEquations_50 (by decide) ?_
          refine vz_lald tn_8 hx hb hK hP 1 2 rfl rfl vn_8_11 dX6_layEquations_52 ?_
          refine lv_iload_n hx hb dX6_layEquations_53 rfl (lv_at hl 2 rfl) ?_
          refine kc_i (w1 := []) (wr := [(a_0, mv a_text a_now a_trial a_diary a_kept a_isKept a_seen a_equations a_wanted s_0), (a_now, av_J cy 11 g_now), (a_equations, av_J cy 64 (vp_updL c_g_equations y2.toNatClampNeg 0)), (a_wanted, av_Z cy 64 c_g_wanted)]) hP hD hS hA [] [0, 1, 2, 3] rfl rfl rfl (by decide) (va_runS (As := [.long (g_now 8), .int y2]) (rest := [.int y2, .ref a_wanted]) ⟨hx, hb, hml, hown, hts⟩ (c_X6_has (l := l) G cy  H.size (g_now 8) y2  (f_X6_has (g_now 8) y2) rfl) (va_cwS 2 hts gX6_layEquations_X6_has rfl rfl rfl ddN_X6_has ⟨Nat.le_of_ble_eq_true rfl, Nat.le_of_ble_eq_true rfl⟩) (preS_ (hP.sub (ws' := []) [] rfl) hK (hD.sub (ws' := []) [] rfl rfl) hN) rfl rfl hl.1 rfl (lv_room (Nat.le_of_ble_eq_true rfl)) dX6_layEquations_54 ⟨Nat.le_of_ble_eq_true rfl, Nat.le_of_ble_eq_true rfl⟩) (fun H locs hP hD hS => ?_)
          have hP : va_P G vwCl [(a_0, mv a_text a_now a_trial a_diary a_kept a_isKept a_seen a_equations a_wanted s_0), (a_now, av_J cy 11 g_now), (a_equations, av_J cy 64 (vp_updL c_g_equations y2.toNatClampNeg 0)), (a_wanted, av_Z cy 64 c_g_wanted)] H := hP
          have hD : va_D A [(a_0, mv a_text a_now a_trial a_diary a_kept a_isKept a_seen a_equations a_wanted s_0), (a_now, av_J cy 11 g_now), (a_equations, av_J cy 64 (vp_updL c_g_equations y2.toNatClampNeg 0)), (a_wanted, av_Z cy 64 c_g_wanted)] := hD
          by_cases q_16 : y2 < 0 ∨ 64 ≤ y2.toNatClampNeg
          · have hf := ip_ q_16 hf; cases hf
          have hf := in_ q_16 hf
          refine vz_zast rfl hx hb hK hP hD hS 3 3 rfl rfl (vin q_16) dX6_layEquations_57 (fun H locs hP hD hS => ?_)
          have hP : va_P G vwCl [(a_0, mv a_text a_now a_trial a_diary a_kept a_isKept a_seen a_equations a_wanted s_0), (a_now, av_J cy 11 g_now), (a_equations, av_J cy 64 (vp_updL c_g_equations y2.toNatClampNeg 0)), (a_wanted, av_Z cy 64 (upd c_g_wanted y2.toNatClampNeg (vp_nar .boolean (bI (f_X6_has (g_now 8) y2)))))] H := hP
          have hD : va_D A [(a_0, mv a_text a_now a_trial a_diary a_kept a_isKept a_seen a_equations a_wanted s_0), (a_now, av_J cy 11 g_now), (a_equations, av_J cy 64 (vp_updL c_g_equations y2.toNatClampNeg 0)), (a_wanted, av_Z cy 64 (upd c_g_wanted y2.toNatClampNeg (vp_nar .boolean (bI (f_X6_has (g_now 8) y2)))))] := hD
          refine lv_iconst (v := 0) hx hb dX6_layEquations_58 (by decide) ?_
          refine lv_istore_n (lv' := [(3, .int 0), (0, .ref a_0), (1, .int y1), (2, .int y2)]) hx hb dX6_layEquations_59 rfl hl (by decide) rfl (fun ls hl => ?_)
          exact bl_60 y1 y2 (f_X6_layEquations_b10 n s_0 g_now y1 k) ih n (vp_updL c_g_equations y2.toNatClampNeg 0) (upd c_g_wanted y2.toNatClampNeg (vp_nar .boolean (bI (f_X6_has (g_now 8) y2)))) 0 _ _ hf hP hD hS ls (lv_sub hl [1, 2, 3, 0] rfl)
        · have hf := ip_ (lgc_eq.mp h_14) hf
          refine lv_lconst (v := 1) hx hb dX6_layEquations_33 rfl ?_
          refine lv_iload_n hx hb dX6_layEquations_34 rfl (lv_at hl 2 rfl) ?_
          refine lv_lshl (v := (jsl 1 y2)) hx hb dX6_layEquations_35 rfl ?_
          refine lv_goto (tgt := 40) hx hb dX6_layEquations_36 (by decide) ?_
          by_cases q_17 : y2 < 0 ∨ 64 ≤ y2.toNatClampNeg
          · have hf := ip_ q_17 hf; cases hf
          have hf := in_ q_17 hf
          refine vz_last rfl hx hb hK hP hD hS 2 2 rfl rfl (vin q_17) dX6_layEquations_40 (fun H locs hP hD hS => ?_)
          have hP : va_P G vwCl [(a_0, mv a_text a_now a_trial a_diary a_kept a_isKept a_seen a_equations a_wanted s_0), (a_now, av_J cy 11 g_now), (a_equations, av_J cy 64 (vp_updL c_g_equations y2.toNatClampNeg (jsl 1 y2))), (a_wanted, av_Z cy 64 c_g_wanted)] H := hP
          have hD : va_D A [(a_0, mv a_text a_now a_trial a_diary a_kept a_isKept a_seen a_equations a_wanted s_0), (a_now, av_J cy 11 g_now), (a_equations, av_J cy 64 (vp_updL c_g_equations y2.toNatClampNeg (jsl 1 y2))), (a_wanted, av_Z cy 64 c_g_wanted)] := hD
          refine lv_aload_n hx hb dX6_layEquations_41 rfl (lv_at hl 0 rfl) ?_
          refine va_get (D := G) (ci := 6) (v := .ref a_wanted) (C := RX6) (T := TX6) (N := 15) hx hb hts iw_X6_layEquations_X6 hown hK hP 0 rfl rfl 11 (by decide) (hts (.fieldLink RX6 36 "PaneFrostModel" "wanted" "[Z") (by decide +kernel)) (fun _ h9 => h9) rfl dX6_layEquations_42 ?_
          refine lv_iload_n hx hb dX6_layEquations_45 rfl (lv_at hl 2 rfl) ?_
          refine lv_aload_n hx hb dX6_layEquations_46 rfl (lv_at hl 0 rfl) ?_
          refine va_get (D := G) (ci := 6) (v := .ref a_now) (C := RX6) (T := TX6) (N := 15) hx hb hts iw_X6_layEquations_X6 hown hK hP 0 rfl rfl 3 (by decide) (hts (.fieldLink RX6 13 "PaneFrostModel" "now" "[J") (by decide +kernel)) (fun _ h9 => h9) rfl dX6_layEquations_47 ?_
          refine lv_bipush (v := 8) hx hb dX6_layEquations_50 (by decide) ?_
          refine vz_lald tn_8 hx hb hK hP 1 2 rfl rfl vn_8_11 dX6_layEquations_52 ?_
          refine lv_iload_n hx hb dX6_layEquations_53 rfl (lv_at hl 2 rfl) ?_
          refine kc_i (w1 := []) (wr := [(a_0, mv a_text a_now a_trial a_diary a_kept a_isKept a_seen a_equations a_wanted s_0), (a_now, av_J cy 11 g_now), (a_equations, av_J cy 64 (vp_updL c_g_equations y2.toNatClampNeg (jsl 1 y2))), (a_wanted, av_Z cy 64 c_g_wanted)]) hP hD hS hA [] [0, 1, 2, 3] rfl rfl rfl (by decide) (va_runS (As := [.long (g_now 8), .int y2]) (rest := [.int y2, .ref a_wanted]) ⟨hx, hb, hml, hown, hts⟩ (c_X6_has (l := l) G cy  H.size (g_now 8) y2  (f_X6_has (g_now 8) y2) rfl) (va_cwS 2 hts gX6_layEquations_X6_has rfl rfl rfl ddN_X6_has ⟨Nat.le_of_ble_eq_true rfl, Nat.le_of_ble_eq_true rfl⟩) (preS_ (hP.sub (ws' := []) [] rfl) hK (hD.sub (ws' := []) [] rfl rfl) hN) rfl rfl hl.1 rfl (lv_room (Nat.le_of_ble_eq_true rfl)) dX6_layEquations_54 ⟨Nat.le_of_ble_eq_true rfl, Nat.le_of_ble_eq_true rfl⟩) (fun H locs hP hD hS => ?_)
          have hP : va_P G vwCl [(a_0, mv a_text a_now a_trial a_diary a_kept a_isKept a_seen a_equations a_wanted s_0), (a_now, av_J cy 11 g_now), (a_equations, av_J cy 64 (vp_updL c_g_equations y2.toNatClampNeg (jsl 1 y2))), (a_wanted, av_Z cy 64 c_g_wanted)] H := hP
          have hD : va_D A [(a_0, mv a_text a_now a_trial a_diary a_kept a_isKept a_seen a_equations a_wanted s_0), (a_now, av_J cy 11 g_now), (a_equations, av_J cy 64 (vp_updL c_g_equations y2.toNatClampNeg (jsl 1 y2))), (a_wanted, av_Z cy 64 c_g_wanted)] := hD
          by_cases q_18 : y2 < 0 ∨ 64 ≤ y2.toNatClampNeg
          · have hf := ip_ q_18 hf; cases hf
          have hf := in_ q_18 hf
          refine vz_zast rfl hx hb hK hP hD hS 3 3 rfl rfl (vin q_18) dX6_layEquations_57 (fun H locs hP hD hS => ?_)
          have hP : va_P G vwCl [(a_0, mv a_text a_now a_trial a_diary a_kept a_isKept a_seen a_equations a_wanted s_0), (a_now, av_J cy 11 g_now), (a_equations, av_J cy 64 (vp_updL c_g_equations y2.toNatClampNeg (jsl 1 y2))), (a_wanted, av_Z cy 64 (upd c_g_wanted y2.toNatClampNeg (vp_nar .boolean (bI (f_X6_has (g_now 8) y2)))))] H := hP
          have hD : va_D A [(a_0, mv a_text a_now a_trial a_diary a_kept a_isKept a_seen a_equations a_wanted s_0), (a_now, av_J cy 11 g_now), (a_equations, av_J cy 64 (vp_updL c_g_equations y2.toNatClampNeg (jsl 1 y2))), (a_wanted, av_Z cy 64 (upd c_g_wanted y2.toNatClampNeg (vp_nar .boolean (bI (f_X6_has (g_now 8) y2)))))] := hD
          refine lv_iconst (v := 0) hx hb dX6_layEquations_58 (by decide) ?_
          refine lv_istore_n (lv' := [(3, .int 0), (0, .ref a_0), (1, .int y1), (2, .int y2)]) hx hb dX6_layEquations_59 rfl hl (by decide) rfl (fun ls hl => ?_)
          exact bl_60 y1 y2 (f_X6_layEquations_b10 n s_0 g_now y1 k) ih n (vp_updL c_g_equations y2.toNatClampNeg (jsl 1 y2)) (upd c_g_wanted y2.toNatClampNeg (vp_nar .boolean (bI (f_X6_has (g_now 8) y2)))) 0 _ _ hf hP hD hS ls (lv_sub hl [1, 2, 3, 0] rfl)
  have hl := lv_entry [.ref a_0] (n := 5) (Nat.le_of_ble_eq_true rfl)
  rw [lg_entry_eq]
  generalize (lg_sl [.ref a_0] ++ List.replicate (5 - (lg_sl [.ref a_0]).length) Slot.unset).toArray = ls at hl ⊢
  have hl : lv_has ls 5 [(0, .ref a_0)] := hl
  unfold f_X6_layEquations at hf
  refine lv_aload_n hx hb dX6_layEquations_0 rfl (lv_at hl 0 rfl) ?_
  refine va_get (D := G) (ci := 6) (v := .ref a_now) (C := RX6) (T := TX6) (N := 15) hx hb hts iw_X6_layEquations_X6 hown hK hP 0 rfl rfl 3 (by decide) (hts (.fieldLink RX6 13 "PaneFrostModel" "now" "[J") (by decide +kernel)) (fun _ h9 => h9) rfl dX6_layEquations_1 ?_
  refine kc_i (w1 := [(a_now, av_J cy 11 g_now)]) (wr := [(a_0, mv a_text a_now a_trial a_diary a_kept a_isKept a_seen a_equations a_wanted s_0), (a_equations, av_J cy 64 g_equations), (a_wanted, av_Z cy 64 g_wanted)]) hP hD hS hA [1] [0, 2, 3] rfl rfl rfl (by decide) (va_runS (As := [.ref a_now]) (rest := []) ⟨hx, hb, hml, hown, hts⟩ (c_X6_many (l := l) G cy a_now s.heap.size g_now  (f_X6_many g_now) rfl) (va_cwS 1 hts gX6_layEquations_X6_many rfl rfl rfl ddN_X6_many ⟨Nat.le_of_ble_eq_true rfl, Nat.le_of_ble_eq_true rfl⟩) (preS_ (hP.sub (ws' := [(a_now, av_J cy 11 g_now)]) [1] rfl) hK (hD.sub (ws' := [(a_now, av_J cy 11 g_now)]) [1] rfl rfl) hN) rfl rfl hl.1 rfl (lv_room (Nat.le_of_ble_eq_true rfl)) dX6_layEquations_4 ⟨Nat.le_of_ble_eq_true rfl, Nat.le_of_ble_eq_true rfl⟩) (fun H locs hP hD hS => ?_)
  have hP : va_P G vwCl [(a_0, mv a_text a_now a_trial a_diary a_kept a_isKept a_seen a_equations a_wanted s_0), (a_equations, av_J cy 64 g_equations), (a_wanted, av_Z cy 64 g_wanted), (a_now, av_J cy 11 g_now)] H := hP
  have hD : va_D A [(a_0, mv a_text a_now a_trial a_diary a_kept a_isKept a_seen a_equations a_wanted s_0), (a_equations, av_J cy 64 g_equations), (a_wanted, av_Z cy 64 g_wanted), (a_now, av_J cy 11 g_now)] := hD
  refine lv_istore_n (lv' := [(1, .int (f_X6_many g_now)), (0, .ref a_0)]) hx hb dX6_layEquations_7 rfl hl (by decide) rfl (fun ls hl => ?_)
  refine lv_iconst (v := 0) hx hb dX6_layEquations_8 (by decide) ?_
  refine lv_istore_n (lv' := [(2, .int 0), (1, .int (f_X6_many g_now)), (0, .ref a_0)]) hx hb dX6_layEquations_9 rfl hl (by decide) rfl (fun ls hl => ?_)
  exact bl_10 (f_X6_many g_now) n g_equations g_wanted 0 _ _ hf (hP.sub (ws' := [(a_0, mv a_text a_now a_trial a_diary a_kept a_isKept a_seen a_equations a_wanted s_0), (a_now, av_J cy 11 g_now), (a_equations, av_J cy 64 g_equations), (a_wanted, av_Z cy 64 g_wanted)]) [0, 3, 1, 2] rfl) (hD.sub (ws' := [(a_0, mv a_text a_now a_trial a_diary a_kept a_isKept a_seen a_equations a_wanted s_0), (a_now, av_J cy 11 g_now), (a_equations, av_J cy 64 g_equations), (a_wanted, av_Z cy 64 g_wanted)]) [0, 3, 1, 2] rfl rfl) hS ls (lv_sub hl [2, 1, 0] rfl)
set_option maxHeartbeats 4000000 in
set_option maxRecDepth 100000 in
theorem c_X6_solve {l : Launch} (G : va_G) (cy : Nat → ClassId) (a_0 : Nat) (a_text : Nat) (a_now : Nat) (a_trial : Nat) (a_diary : Nat) (a_kept : Nat) (a_isKept : Nat) (a_seen : Nat) (a_equations : Nat) (a_wanted : Nat) (sz : Nat) (s_0 : MT) (g_now : Nat → Int64) (g_equations : Nat → Int64) (g_wanted : Nat → Int32) (n : Nat) (R : Bool × MT × (Nat → Int64) × (Nat → Int32)) (hf : f_X6_solve n s_0 g_now g_equations g_wanted = some R) : Met l yX6_solve wsX6_solve ({ frames := 1, cells := 0, slots := 0, locals := 22 } : Room) (va_Pc [.ref a_0] (pcW G cy [(a_0, mv a_text a_now a_trial a_diary a_kept a_isKept a_seen a_equations a_wanted s_0), (a_now, av_J cy 11 g_now), (a_equations, av_J cy 64 g_equations), (a_wanted, av_Z cy 64 g_wanted)] sz)) (va_Qi (fun r (_ : Unit) => r = bI R.1) (fun _ t => Wd G cy (va_A [(a_0, mv a_text a_now a_trial a_diary a_kept a_isKept a_seen a_equations a_wanted s_0), (a_now, av_J cy 11 g_now), (a_equations, av_J cy 64 g_equations), (a_wanted, av_Z cy 64 g_wanted)] sz) [(a_0, mv a_text a_now a_trial a_diary a_kept a_isKept a_seen a_equations a_wanted R.2.1), (a_now, av_J cy 11 g_now), (a_equations, av_J cy 64 R.2.2.1), (a_wanted, av_Z cy 64 R.2.2.2)] t) (va_A [(a_0, mv a_text a_now a_trial a_diary a_kept a_isKept a_seen a_equations a_wanted s_0), (a_now, av_J cy 11 g_now), (a_equations, av_J cy 64 g_equations), (a_wanted, av_Z cy 64 g_wanted)] sz)) 0 0 (va_A [(a_0, mv a_text a_now a_trial a_diary a_kept a_isKept a_seen a_equations a_wanted s_0), (a_now, av_J cy 11 g_now), (a_equations, av_J cy 64 g_equations), (a_wanted, av_Z cy 64 g_wanted)] sz) := by
  refine Met.ofW (cc := cX6_solve) (maxL := 8) (ret := (some .boolean)) (by decide) rfl ?_
  intro p e s m args below meth c s₁ B hml hv
  obtain ⟨rfl, hsz, hP, hK, hD0, hN⟩ := hv
  have hx := B.exec
  have hb := B.bytes
  have hr := B.returns
  have hts := atoms_spec (ws := wsX6_solve) B.pre
  have hown : s.vm.findClass RX6 = some m.cls := findClass_of_methodNamed B.named
  have hlocks := B.notSynchronized
  subst hsz
  have hD := hD0.self (sz := s.heap.size)
  generalize hAe : va_A [(a_0, mv a_text a_now a_trial a_diary a_kept a_isKept a_seen a_equations a_wanted s_0), (a_now, av_J cy 11 g_now), (a_equations, av_J cy 64 g_equations), (a_wanted, av_Z cy 64 g_wanted)] s.heap.size = A at hD ⊢
  have hA : ∀ q : Nat, s.heap.size ≤ q → A q := fun q h => by rw [← hAe]; exact Or.inr h
  have hS : va_S A s.heap s.heap [] := va_S.rf
  have hP : va_P G vwCl [(a_0, mv a_text a_now a_trial a_diary a_kept a_isKept a_seen a_equations a_wanted s_0), (a_now, av_J cy 11 g_now), (a_equations, av_J cy 64 g_equations), (a_wanted, av_Z cy 64 g_wanted)] s.heap := hP
  have bl_205 : ∀ (y1 : Int32), ∀ (k : Nat), ∀ (c_s_0 : MT) (c_g_equations : Nat → Int64) (c_g_wanted : Nat → Int32) (y2 : Int32) (H : Heap) (locs : List Loc), f_X6_solve_b205 n g_now y1 k c_s_0 c_g_equations c_g_wanted y2 = some R → va_P G vwCl [(a_0, mv a_text a_now a_trial a_diary a_kept a_isKept a_seen a_equations a_wanted c_s_0), (a_now, av_J cy 11 g_now), (a_equations, av_J cy 64 c_g_equations), (a_wanted, av_Z cy 64 c_g_wanted)] H → va_D A [(a_0, mv a_text a_now a_trial a_diary a_kept a_isKept a_seen a_equations a_wanted c_s_0), (a_now, av_J cy 11 g_now), (a_equations, av_J cy 64 c_g_equations), (a_wanted, av_Z cy 64 c_g_wanted)] → va_S A s.heap H locs → ∀ (ls : Array Slot), lv_has ls 8 [(0, .ref a_0), (1, .int y1), (2, .int y2)] → W p l e ({ frames := 1, cells := 0, slots := 0, locals := 22 } : Room) s m [.ref a_0].toArray below meth c H locs 0 0 (MQ below (va_Qi (fun r (_ : Unit) => r = bI R.1) (fun _ t => Wd G cy A [(a_0, mv a_text a_now a_trial a_diary a_kept a_isKept a_seen a_equations a_wanted R.2.1), (a_now, av_J cy 11 g_now), (a_equations, av_J cy 64 R.2.2.1), (a_wanted, av_Z cy 64 R.2.2.2)] t) A) [.ref a_0].toArray s 0 0 A) (F0 m 205 ls []) := by
    intro y1
    intro k
    induction k with
    | zero =>
      intro c_s_0 c_g_equations c_g_wanted y2 H locs hf; cases hf
    | succ k ih =>
      intro c_s_0 c_g_equations c_g_wanted y2 H locs hf hP hD hS ls hl
      have hf := (f_X6_solve_b205_s n g_now y1 k c_s_0 c_g_equations c_g_wanted y2).symm.trans hf
      refine lv_iload_n hx hb dX6_solve_205 rfl (lv_at hl 2 rfl) ?_
      refine lv_iload_n hx hb dX6_solve_206 rfl (lv_at hl 1 rfl) ?_
      refine lv_icmp_ge (tgt := 227) hx hb dX6_solve_207 (by decide) (fun h_1 => ?_) (fun h_1 => ?_)
      · have hf := ip_ h_1 hf
        refine lv_iconst (v := 1) hx hb dX6_solve_227 (by decide) ?_
        obtain rfl := Option.some.inj hf
        exact kr_z (V := bI true) hx hb hr hlocks (bI_nar _) rfl hP hK hD hN hS hS.2.2 dX6_solve_228
      · have hf := in_ h_1 hf
        refine lv_aload_n hx hb dX6_solve_210 rfl (lv_at hl 0 rfl) ?_
        refine va_get (D := G) (ci := 6) (v := .ref a_wanted) (C := RX6) (T := TX6) (N := 15) hx hb hts iw_X6_solve_X6 hown hK hP 0 rfl rfl 11 (by decide) (hts (.fieldLink RX6 36 "PaneFrostModel" "wanted" "[Z") (by decide +kernel)) (fun _ h9 => h9) rfl dX6_solve_211 ?_
        refine lv_iload_n hx hb dX6_solve_214 rfl (lv_at hl 2 rfl) ?_
        by_cases q_2 : y2 < 0 ∨ 64 ≤ y2.toNatClampNeg
        · have hf := ip_ q_2 hf; cases hf
        have hf := in_ q_2 hf
        refine vz_zald rfl hx hb hK hP 3 3 rfl rfl (vin q_2) dX6_solve_215 ?_
        refine lv_if_eq (tgt := 221) hx hb dX6_solve_216 (by decide) (fun h_3 => ?_) (fun h_3 => ?_)
        · have hf := ip_ h_3 hf
          refine lv_iinc (v := (y2 + 1)) (lv' := [(2, .int (y2 + 1)), (0, .ref a_0), (1, .int y1)]) hx hb dX6_solve_221 hl (k := 2) rfl rfl (by decide) rfl (fun ls hl => ?_)
          refine lv_goto (tgt := 205) hx hb dX6_solve_224 (by decide) ?_
          exact ih c_s_0 c_g_equations c_g_wanted (y2 + 1) _ _ hf hP hD hS ls (lv_sub hl [1, 2, 0] rfl)
        · have hf := in_ h_3 hf
          refine lv_iconst (v := 0) hx hb dX6_solve_219 (by decide) ?_
          obtain rfl := Option.some.inj hf
          exact kr_z (V := bI false) hx hb hr hlocks (bI_nar _) rfl hP hK hD hN hS hS.2.2 dX6_solve_220
  have bl_125 : ∀ (y1 : Int32), ∀ (y2 : Int32), ∀ (y4 : Int64), ∀ (y6 : Int32), ∀ (K15 : MT → (Nat → Int64) → (Nat → Int32) → Int32 → Option (Bool × MT × (Nat → Int64) × (Nat → Int32))), (∀ (c_s_0 : MT) (c_g_equations : Nat → Int64) (c_g_wanted : Nat → Int32) (y2 : Int32) (H : Heap) (locs : List Loc), K15 c_s_0 c_g_equations c_g_wanted y2 = some R → va_P G vwCl [(a_0, mv a_text a_now a_trial a_diary a_kept a_isKept a_seen a_equations a_wanted c_s_0), (a_now, av_J cy 11 g_now), (a_equations, av_J cy 64 c_g_equations), (a_wanted, av_Z cy 64 c_g_wanted)] H → va_D A [(a_0, mv a_text a_now a_trial a_diary a_kept a_isKept a_seen a_equations a_wanted c_s_0), (a_now, av_J cy 11 g_now), (a_equations, av_J cy 64 c_g_equations), (a_wanted, av_Z cy 64 c_g_wanted)] → va_S A s.heap H locs → ∀ (ls : Array Slot), lv_has ls 8 [(0, .ref a_0), (1, .int y1), (2, .int y2)] → W p l e ({ frames := 1, cells := 0, slots := 0, locals := 22 } : Room) s m [.ref a_0].toArray below meth c H locs 0 0 (MQ below (va_Qi (fun r (_ : Unit) => r = bI R.1) (fun _ t => Wd G cy A [(a_0, mv a_text a_now a_trial a_diary a_kept a_isKept a_seen a_equations a_wanted R.2.1), (a_now, av_J cy 11 g_now), (a_equations, av_J cy 64 R.2.2.1), (a_wanted, av_Z cy 64 R.2.2.2)] t) A) [.ref a_0].toArray s 0 0 A) (F0 m 15 ls [])) → ∀ (k : Nat), ∀ (c_s_0 : MT) (c_g_equations : Nat → Int64) (c_g_wanted : Nat → Int32) (y7 : Int32) (H : Heap) (locs : List Loc), f_X6_solve_b125 n g_now y1 y2 y4 y6 K15 k c_s_0 c_g_equations c_g_wanted y7 = some R → va_P G vwCl [(a_0, mv a_text a_now a_trial a_diary a_kept a_isKept a_seen a_equations a_wanted c_s_0), (a_now, av_J cy 11 g_now), (a_equations, av_J cy 64 c_g_equations), (a_wanted, av_Z cy 64 c_g_wanted)] H → va_D A [(a_0, mv a_text a_now a_trial a_diary a_kept a_isKept a_seen a_equations a_wanted c_s_0), (a_now, av_J cy 11 g_now), (a_equations, av_J cy 64 c_g_equations), (a_wanted, av_Z cy 64 c_g_wanted)] → va_S A s.heap H locs → ∀ (ls : Array Slot), lv_has ls 8 [(0, .ref a_0), (1, .int y1), (2, .int y2), (4, .long y4), (6, .int y6), (7, .int y7)] → W p l e ({ frames := 1, cells := 0, slots := 0, locals := 22 } : Room) s m [.ref a_0].toArray below meth c H locs 0 0 (MQ below (va_Qi (fun r (_ : Unit) => r = bI R.1) (fun _ t => Wd G cy A [(a_0, mv a_text a_now a_trial a_diary a_kept a_isKept a_seen a_equations a_wanted R.2.1), (a_now, av_J cy 11 g_now), (a_equations, av_J cy 64 R.2.2.1), (a_wanted, av_Z cy 64 R.2.2.2)] t) A) [.ref a_0].toArray s 0 0 A) (F0 m 125 ls []) := by
    intro y1
    intro y2
    intro y4
    intro y6
    intro K15 hK15
    intro k
    induction k with
    | zero =>
      intro c_s_0 c_g_equations c_g_wanted y7 H locs hf; cases hf
    | succ k ih =>
      intro c_s_0 c_g_equations c_g_wanted y7 H locs hf hP hD hS ls hl
      have hf := (f_X6_solve_b125_s n g_now y1 y2 y4 y6 K15 k c_s_0 c_g_equations c_g_wanted y7).symm.trans hf
      refine lv_iload hx hb dX6_solve_125 (lv_at hl 5 rfl) ?_
      refine lv_iload_n hx hb dX6_solve_127 rfl (lv_at hl 1 rfl) ?_
      refine lv_icmp_ge (tgt := 184) hx hb dX6_solve_128 (by decide) (fun h_4 => ?_) (fun h_4 => ?_)
      · have hf := ip_ h_4 hf
        refine lv_aload_n hx hb dX6_solve_184 rfl (lv_at hl 0 rfl) ?_
        refine lv_dup hx hb dX6_solve_185 rfl ?_
        refine va_get (D := G) (ci := 6) (v := .int (m_rank c_s_0)) (C := RX6) (T := TX6) (N := 15) hx hb hts iw_X6_solve_X6 hown hK hP 0 rfl rfl 12 (by decide) (hts (.fieldLink RX6 119 "PaneFrostModel" "rank" "I") (by decide +kernel)) (fun _ h9 => h9) rfl dX6_solve_186 ?_
        refine lv_iconst (v := 1) hx hb dX6_solve_189 (by decide) ?_
        refine lv_iadd hx hb dX6_solve_190 ?_
        refine va_put (D := G) (ci := 6) (v := .int ((m_rank c_s_0) + 1)) (ty := .int) (C := RX6) (T := TX6) (N := 15) hx hb hts iw_X6_solve_X6 tyX6 tyX6_ok nmX6 hown hK hP hD hS 0 rfl rfl 12 (by decide) (hts (.fieldLink RX6 119 "PaneFrostModel" "rank" "I") (by decide +kernel)) (fun _ h9 => h9) rfl (by decide +kernel) rfl rfl (Nat.le_of_ble_eq_true rfl) dX6_solve_191 (fun H locs hP hD hS => ?_)
        have hP : va_P G vwCl [(a_0, mv a_text a_now a_trial a_diary a_kept a_isKept a_seen a_equations a_wanted (m_refusal c_s_0, m_size c_s_0, m_acts c_s_0, ((m_rank c_s_0) + 1), m_spot c_s_0, m_out c_s_0)), (a_now, av_J cy 11 g_now), (a_equations, av_J cy 64 c_g_equations), (a_wanted, av_Z cy 64 c_g_wanted)] H := hP
        have hD : va_D A [(a_0, mv a_text a_now a_trial a_diary a_kept a_isKept a_seen a_equations a_wanted (m_refusal c_s_0, m_size c_s_0, m_acts c_s_0, ((m_rank c_s_0) + 1), m_spot c_s_0, m_out c_s_0)), (a_now, av_J cy 11 g_now), (a_equations, av_J cy 64 c_g_equations), (a_wanted, av_Z cy 64 c_g_wanted)] := hD
        refine lv_iinc (v := (y2 + 1)) (lv' := [(2, .int (y2 + 1)), (0, .ref a_0), (1, .int y1), (4, .long y4), (6, .int y6), (7, .int y7)]) hx hb dX6_solve_194 hl (k := 2) rfl rfl (by decide) rfl (fun ls hl => ?_)
        refine lv_goto (tgt := 15) hx hb dX6_solve_197 (by decide) ?_
        exact hK15 (m_refusal c_s_0, m_size c_s_0, m_acts c_s_0, ((m_rank c_s_0) + 1), m_spot c_s_0, m_out c_s_0) c_g_equations c_g_wanted (y2 + 1) _ _ hf hP hD hS ls (lv_sub hl [1, 2, 0] rfl)
      · have hf := in_ h_4 hf
        refine lv_iload hx hb dX6_solve_131 (lv_at hl 5 rfl) ?_
        refine lv_aload_n hx hb dX6_solve_133 rfl (lv_at hl 0 rfl) ?_
        refine va_get (D := G) (ci := 6) (v := .int (m_rank c_s_0)) (C := RX6) (T := TX6) (N := 15) hx hb hts iw_X6_solve_X6 hown hK hP 0 rfl rfl 12 (by decide) (hts (.fieldLink RX6 119 "PaneFrostModel" "rank" "I") (by decide +kernel)) (fun _ h9 => h9) rfl dX6_solve_134 ?_
        refine lv_icmp_eq (tgt := 178) hx hb dX6_solve_137 (by decide) (fun h_5 => ?_) (fun h_5 => ?_)
        · have hf := ip_ h_5 hf
          refine lv_iinc (v := (y7 + 1)) (lv' := [(7, .int (y7 + 1)), (0, .ref a_0), (1, .int y1), (2, .int y2), (4, .long y4), (6, .int y6)]) hx hb dX6_solve_178 hl (k := 5) rfl rfl (by decide) rfl (fun ls hl => ?_)
          refine lv_goto (tgt := 125) hx hb dX6_solve_181 (by decide) ?_
          exact ih c_s_0 c_g_equations c_g_wanted (y7 + 1) _ _ hf hP hD hS ls (lv_sub hl [1, 2, 3, 4, 5, 0] rfl)
        · have hf := in_ h_5 hf
          refine lv_aload_n hx hb dX6_solve_140 rfl (lv_at hl 0 rfl) ?_
          refine va_get (D := G) (ci := 6) (v := .ref a_equations) (C := RX6) (T := TX6) (N := 15) hx hb hts iw_X6_solve_X6 hown hK hP 0 rfl rfl 10 (by decide) (hts (.fieldLink RX6 33 "PaneFrostModel" "equations" "[J") (by decide +kernel)) (fun _ h9 => h9) rfl dX6_solve_141 ?_
          refine lv_iload hx hb dX6_solve_144 (lv_at hl 5 rfl) ?_
          by_cases q_6 : y7 < 0 ∨ 64 ≤ y7.toNatClampNeg
          · have hf := ip_ q_6 hf; cases hf
          have hf := in_ q_6 hf
          refine vz_lald rfl hx hb hK hP 2 2 rfl rfl (vin q_6) dX6_solve_146 ?_
          refine lv_iload_n hx hb dX6_solve_147 rfl (lv_at hl 2 rfl) ?_
          refine kc_i (w1 := []) (wr := [(a_0, mv a_text a_now a_trial a_diary a_kept a_isKept a_seen a_equations a_wanted c_s_0), (a_now, av_J cy 11 g_now), (a_equations, av_J cy 64 c_g_equations), (a_wanted, av_Z cy 64 c_g_wanted)]) hP hD hS hA [] [0, 1, 2, 3] rfl rfl rfl (by decide) (va_runS (As := [.long (c_g_equations y7.toNatClampNeg), .int y2]) (rest := []) ⟨hx, hb, hml, hown, hts⟩ (c_X6_has (l := l) G cy  H.size (c_g_equations y7.toNatClampNeg) y2  (f_X6_has (c_g_equations y7.toNatClampNeg) y2) rfl) (va_cwS 2 hts gX6_solve_X6_has rfl rfl rfl ddN_X6_has ⟨Nat.le_of_ble_eq_true rfl, Nat.le_of_ble_eq_true rfl⟩) (preS_ (hP.sub (ws' := []) [] rfl) hK (hD.sub (ws' := []) [] rfl rfl) hN) rfl rfl hl.1 rfl (lv_room (Nat.le_of_ble_eq_true rfl)) dX6_solve_148 ⟨Nat.le_of_ble_eq_true rfl, Nat.le_of_ble_eq_true rfl⟩) (fun H locs hP hD hS => ?_)
          have hP : va_P G vwCl [(a_0, mv a_text a_now a_trial a_diary a_kept a_isKept a_seen a_equations a_wanted c_s_0), (a_now, av_J cy 11 g_now), (a_equations, av_J cy 64 c_g_equations), (a_wanted, av_Z cy 64 c_g_wanted)] H := hP
          have hD : va_D A [(a_0, mv a_text a_now a_trial a_diary a_kept a_isKept a_seen a_equations a_wanted c_s_0), (a_now, av_J cy 11 g_now), (a_equations, av_J cy 64 c_g_equations), (a_wanted, av_Z cy 64 c_g_wanted)] := hD
          refine lv_if_eq (tgt := 178) hx hb dX6_solve_151 (by decide) (fun h_7 => ?_) (fun h_7 => ?_)
          · have hf := in_ (bI_0 h_7) hf
            refine lv_iinc (v := (y7 + 1)) (lv' := [(7, .int (y7 + 1)), (0, .ref a_0), (1, .int y1), (2, .int y2), (4, .long y4), (6, .int y6)]) hx hb dX6_solve_178 hl (k := 5) rfl rfl (by decide) rfl (fun ls hl => ?_)
            refine lv_goto (tgt := 125) hx hb dX6_solve_181 (by decide) ?_
            exact ih c_s_0 c_g_equations c_g_wanted (y7 + 1) _ _ hf hP hD hS ls (lv_sub hl [1, 2, 3, 4, 5, 0] rfl)
          · have hf := ip_ (bI_n0 h_7) hf
            refine lv_aload_n hx hb dX6_solve_154 rfl (lv_at hl 0 rfl) ?_
            refine va_get (D := G) (ci := 6) (v := .ref a_equations) (C := RX6) (T := TX6) (N := 15) hx hb hts iw_X6_solve_X6 hown hK hP 0 rfl rfl 10 (by decide) (hts (.fieldLink RX6 33 "PaneFrostModel" "equations" "[J") (by decide +kernel)) (fun _ h9 => h9) rfl dX6_solve_155 ?_
            refine lv_iload hx hb dX6_solve_158 (lv_at hl 5 rfl) ?_
            refine lv_dup2_11 hx hb dX6_solve_160 rfl rfl ?_
            by_cases q_8 : y7 < 0 ∨ 64 ≤ y7.toNatClampNeg
            · have hf := ip_ q_8 hf; cases hf
            have hf := in_ q_8 hf
            refine vz_lald rfl hx hb hK hP 2 2 rfl rfl (vin q_8) dX6_solve_161 ?_
            refine lv_lload hx hb dX6_solve_162 (lv_at hl 3 rfl) ?_
            refine lv_lxor hx hb dX6_solve_164 ?_
            by_cases q_9 : y7 < 0 ∨ 64 ≤ y7.toNatClampNeg
            · have hf := ip_ q_9 hf; cases hf
            have hf := in_ q_9 hf
            refine vz_last rfl hx hb hK hP hD hS 2 2 rfl rfl (vin q_9) dX6_solve_165 (fun H locs hP hD hS => ?_)
            have hP : va_P G vwCl [(a_0, mv a_text a_now a_trial a_diary a_kept a_isKept a_seen a_equations a_wanted c_s_0), (a_now, av_J cy 11 g_now), (a_equations, av_J cy 64 (vp_updL c_g_equations y7.toNatClampNeg ((c_g_equations y7.toNatClampNeg) ^^^ y4))), (a_wanted, av_Z cy 64 c_g_wanted)] H := hP
            have hD : va_D A [(a_0, mv a_text a_now a_trial a_diary a_kept a_isKept a_seen a_equations a_wanted c_s_0), (a_now, av_J cy 11 g_now), (a_equations, av_J cy 64 (vp_updL c_g_equations y7.toNatClampNeg ((c_g_equations y7.toNatClampNeg) ^^^ y4))), (a_wanted, av_Z cy 64 c_g_wanted)] := hD
            refine lv_aload_n hx hb dX6_solve_166 rfl (lv_at hl 0 rfl) ?_
            refine va_get (D := G) (ci := 6) (v := .ref a_wanted) (C := RX6) (T := TX6) (N := 15) hx hb hts iw_X6_solve_X6 hown hK hP 0 rfl rfl 11 (by decide) (hts (.fieldLink RX6 36 "PaneFrostModel" "wanted" "[Z") (by decide +kernel)) (fun _ h9 => h9) rfl dX6_solve_167 ?_
            refine lv_iload hx hb dX6_solve_170 (lv_at hl 5 rfl) ?_
            refine lv_dup2_11 hx hb dX6_solve_172 rfl rfl ?_
            by_cases q_10 : y7 < 0 ∨ 64 ≤ y7.toNatClampNeg
            · have hf := ip_ q_10 hf; cases hf
            have hf := in_ q_10 hf
            refine vz_zald rfl hx hb hK hP 3 3 rfl rfl (vin q_10) dX6_solve_173 ?_
            refine lv_iload hx hb dX6_solve_174 (lv_at hl 4 rfl) ?_
            refine lv_ixor hx hb dX6_solve_176 ?_
            by_cases q_11 : y7 < 0 ∨ 64 ≤ y7.toNatClampNeg
            · have hf := ip_ q_11 hf; cases hf
            have hf := in_ q_11 hf
            refine vz_zast rfl hx hb hK hP hD hS 3 3 rfl rfl (vin q_11) dX6_solve_177 (fun H locs hP hD hS => ?_)
            have hP : va_P G vwCl [(a_0, mv a_text a_now a_trial a_diary a_kept a_isKept a_seen a_equations a_wanted c_s_0), (a_now, av_J cy 11 g_now), (a_equations, av_J cy 64 (vp_updL c_g_equations y7.toNatClampNeg ((c_g_equations y7.toNatClampNeg) ^^^ y4))), (a_wanted, av_Z cy 64 (upd c_g_wanted y7.toNatClampNeg (vp_nar .boolean ((c_g_wanted y7.toNatClampNeg) ^^^ y6))))] H := hP
            have hD : va_D A [(a_0, mv a_text a_now a_trial a_diary a_kept a_isKept a_seen a_equations a_wanted c_s_0), (a_now, av_J cy 11 g_now), (a_equations, av_J cy 64 (vp_updL c_g_equations y7.toNatClampNeg ((c_g_equations y7.toNatClampNeg) ^^^ y4))), (a_wanted, av_Z cy 64 (upd c_g_wanted y7.toNatClampNeg (vp_nar .boolean ((c_g_wanted y7.toNatClampNeg) ^^^ y6))))] := hD
            refine lv_iinc (v := (y7 + 1)) (lv' := [(7, .int (y7 + 1)), (0, .ref a_0), (1, .int y1), (2, .int y2), (4, .long y4), (6, .int y6)]) hx hb dX6_solve_178 hl (k := 5) rfl rfl (by decide) rfl (fun ls hl => ?_)
            refine lv_goto (tgt := 125) hx hb dX6_solve_181 (by decide) ?_
            exact ih c_s_0 (vp_updL c_g_equations y7.toNatClampNeg ((c_g_equations y7.toNatClampNeg) ^^^ y4)) (upd c_g_wanted y7.toNatClampNeg (vp_nar .boolean ((c_g_wanted y7.toNatClampNeg) ^^^ y6))) (y7 + 1) _ _ hf hP hD hS ls (lv_sub hl [1, 2, 3, 4, 5, 0] rfl)
  have bl_49 : ∀ (y1 : Int32), ∀ (K15 : MT → (Nat → Int64) → (Nat → Int32) → Int32 → Option (Bool × MT × (Nat → Int64) × (Nat → Int32))), (∀ (c_s_0 : MT) (c_g_equations : Nat → Int64) (c_g_wanted : Nat → Int32) (y2 : Int32) (H : Heap) (locs : List Loc), K15 c_s_0 c_g_equations c_g_wanted y2 = some R → va_P G vwCl [(a_0, mv a_text a_now a_trial a_diary a_kept a_isKept a_seen a_equations a_wanted c_s_0), (a_now, av_J cy 11 g_now), (a_equations, av_J cy 64 c_g_equations), (a_wanted, av_Z cy 64 c_g_wanted)] H → va_D A [(a_0, mv a_text a_now a_trial a_diary a_kept a_isKept a_seen a_equations a_wanted c_s_0), (a_now, av_J cy 11 g_now), (a_equations, av_J cy 64 c_g_equations), (a_wanted, av_Z cy 64 c_g_wanted)] → va_S A s.heap H locs → ∀ (ls : Array Slot), lv_has ls 8 [(0, .ref a_0), (1, .int y1), (2, .int y2)] → W p l e ({ frames := 1, cells := 0, slots := 0, locals := 22 } : Room) s m [.ref a_0].toArray below meth c H locs 0 0 (MQ below (va_Qi (fun r (_ : Unit) => r = bI R.1) (fun _ t => Wd G cy A [(a_0, mv a_text a_now a_trial a_diary a_kept a_isKept a_seen a_equations a_wanted R.2.1), (a_now, av_J cy 11 g_now), (a_equations, av_J cy 64 R.2.2.1), (a_wanted, av_Z cy 64 R.2.2.2)] t) A) [.ref a_0].toArray s 0 0 A) (F0 m 15 ls [])) → ∀ (c_s_0 : MT) (c_g_equations : Nat → Int64) (c_g_wanted : Nat → Int32) (y2 : Int32) (y3 : Int32) (H : Heap) (locs : List Loc), f_X6_solve_b49 n g_now y1 K15 c_s_0 c_g_equations c_g_wanted y2 y3 = some R → va_P G vwCl [(a_0, mv a_text a_now a_trial a_diary a_kept a_isKept a_seen a_equations a_wanted c_s_0), (a_now, av_J cy 11 g_now), (a_equations, av_J cy 64 c_g_equations), (a_wanted, av_Z cy 64 c_g_wanted)] H → va_D A [(a_0, mv a_text a_now a_trial a_diary a_kept a_isKept a_seen a_equations a_wanted c_s_0), (a_now, av_J cy 11 g_now), (a_equations, av_J cy 64 c_g_equations), (a_wanted, av_Z cy 64 c_g_wanted)] → va_S A s.heap H locs → ∀ (ls : Array Slot), lv_has ls 8 [(0, .ref a_0), (1, .int y1), (2, .int y2), (3, .int y3)] → W p l e ({ frames := 1, cells := 0, slots := 0, locals := 22 } : Room) s m [.ref a_0].toArray below meth c H locs 0 0 (MQ below (va_Qi (fun r (_ : Unit) => r = bI R.1) (fun _ t => Wd G cy A [(a_0, mv a_text a_now a_trial a_diary a_kept a_isKept a_seen a_equations a_wanted R.2.1), (a_now, av_J cy 11 g_now), (a_equations, av_J cy 64 R.2.2.1), (a_wanted, av_Z cy 64 R.2.2.2)] t) A) [.ref a_0].toArray s 0 0 A) (F0 m 49 ls []) := by
    intro y1
    intro K15 hK15
    intro c_s_0 c_g_equations c_g_wanted y2 y3 H locs hf hP hD hS ls hl
    unfold f_X6_solve_b49 at hf
    refine lv_iload_n hx hb dX6_solve_49 rfl (lv_at hl 3 rfl) ?_
    refine lv_iload_n hx hb dX6_solve_50 rfl (lv_at hl 1 rfl) ?_
    refine lv_icmp_ge (tgt := 194) hx hb dX6_solve_51 (by decide) (fun h_12 => ?_) (fun h_12 => ?_)
    · have hf := ip_ h_12 hf
      refine lv_iinc (v := (y2 + 1)) (lv' := [(2, .int (y2 + 1)), (0, .ref a_0), (1, .int y1), (3, .int y3)]) hx hb dX6_solve_194 hl (k := 2) rfl rfl (by decide) rfl (fun ls hl => ?_)
      refine lv_goto (tgt := 15) hx hb dX6_solve_197 (by decide) ?_
      exact hK15 c_s_0 c_g_equations c_g_wanted (y2 + 1) _ _ hf hP hD hS ls (lv_sub hl [1, 2, 0] rfl)
    · have hf := in_ h_12 hf
      refine lv_aload_n hx hb dX6_solve_54 rfl (lv_at hl 0 rfl) ?_
      refine va_get (D := G) (ci := 6) (v := .ref a_equations) (C := RX6) (T := TX6) (N := 15) hx hb hts iw_X6_solve_X6 hown hK hP 0 rfl rfl 10 (by decide) (hts (.fieldLink RX6 33 "PaneFrostModel" "equations" "[J") (by decide +kernel)) (fun _ h9 => h9) rfl dX6_solve_55 ?_
      refine lv_iload_n hx hb dX6_solve_58 rfl (lv_at hl 3 rfl) ?_
      by_cases q_13 : y3 < 0 ∨ 64 ≤ y3.toNatClampNeg
      · have hf := ip_ q_13 hf; cases hf
      have hf := in_ q_13 hf
      refine vz_lald rfl hx hb hK hP 2 2 rfl rfl (vin q_13) dX6_solve_59 ?_
      refine lv_lstore (lv' := [(4, .long (c_g_equations y3.toNatClampNeg)), (0, .ref a_0), (1, .int y1), (2, .int y2), (3, .int y3)]) hx hb dX6_solve_60 hl (by decide) rfl (fun ls hl => ?_)
      refine lv_aload_n hx hb dX6_solve_62 rfl (lv_at hl 1 rfl) ?_
      refine va_get (D := G) (ci := 6) (v := .ref a_wanted) (C := RX6) (T := TX6) (N := 15) hx hb hts iw_X6_solve_X6 hown hK hP 0 rfl rfl 11 (by decide) (hts (.fieldLink RX6 36 "PaneFrostModel" "wanted" "[Z") (by decide +kernel)) (fun _ h9 => h9) rfl dX6_solve_63 ?_
      refine lv_iload_n hx hb dX6_solve_66 rfl (lv_at hl 4 rfl) ?_
      by_cases q_14 : y3 < 0 ∨ 64 ≤ y3.toNatClampNeg
      · have hf := ip_ q_14 hf; cases hf
      have hf := in_ q_14 hf
      refine vz_zald rfl hx hb hK hP 3 3 rfl rfl (vin q_14) dX6_solve_67 ?_
      refine lv_istore (lv' := [(6, .int (c_g_wanted y3.toNatClampNeg)), (4, .long (c_g_equations y3.toNatClampNeg)), (0, .ref a_0), (1, .int y1), (2, .int y2), (3, .int y3)]) hx hb dX6_solve_68 hl (by decide) rfl (fun ls hl => ?_)
      refine lv_aload_n hx hb dX6_solve_70 rfl (lv_at hl 2 rfl) ?_
      refine va_get (D := G) (ci := 6) (v := .ref a_equations) (C := RX6) (T := TX6) (N := 15) hx hb hts iw_X6_solve_X6 hown hK hP 0 rfl rfl 10 (by decide) (hts (.fieldLink RX6 33 "PaneFrostModel" "equations" "[J") (by decide +kernel)) (fun _ h9 => h9) rfl dX6_solve_71 ?_
      refine lv_iload_n hx hb dX6_solve_74 rfl (lv_at hl 5 rfl) ?_
      refine lv_aload_n hx hb dX6_solve_75 rfl (lv_at hl 2 rfl) ?_
      refine va_get (D := G) (ci := 6) (v := .ref a_equations) (C := RX6) (T := TX6) (N := 15) hx hb hts iw_X6_solve_X6 hown hK hP 0 rfl rfl 10 (by decide) (hts (.fieldLink RX6 33 "PaneFrostModel" "equations" "[J") (by decide +kernel)) (fun _ h9 => h9) rfl dX6_solve_76 ?_
      refine lv_aload_n hx hb dX6_solve_79 rfl (lv_at hl 2 rfl) ?_
      refine va_get (D := G) (ci := 6) (v := .int (m_rank c_s_0)) (C := RX6) (T := TX6) (N := 15) hx hb hts iw_X6_solve_X6 hown hK hP 0 rfl rfl 12 (by decide) (hts (.fieldLink RX6 119 "PaneFrostModel" "rank" "I") (by decide +kernel)) (fun _ h9 => h9) rfl dX6_solve_80 ?_
      by_cases q_15 : (m_rank c_s_0) < 0 ∨ 64 ≤ (m_rank c_s_0).toNatClampNeg
      · have hf := ip_ q_15 hf; cases hf
      have hf := in_ q_15 hf
      refine vz_lald rfl hx hb hK hP 2 2 rfl rfl (vin q_15) dX6_solve_83 ?_
      by_cases q_16 : y3 < 0 ∨ 64 ≤ y3.toNatClampNeg
      · have hf := ip_ q_16 hf; cases hf
      have hf := in_ q_16 hf
      refine vz_last rfl hx hb hK hP hD hS 2 2 rfl rfl (vin q_16) dX6_solve_84 (fun H locs hP hD hS => ?_)
      have hP : va_P G vwCl [(a_0, mv a_text a_now a_trial a_diary a_kept a_isKept a_seen a_equations a_wanted c_s_0), (a_now, av_J cy 11 g_now), (a_equations, av_J cy 64 (vp_updL c_g_equations y3.toNatClampNeg (c_g_equations (m_rank c_s_0).toNatClampNeg))), (a_wanted, av_Z cy 64 c_g_wanted)] H := hP
      have hD : va_D A [(a_0, mv a_text a_now a_trial a_diary a_kept a_isKept a_seen a_equations a_wanted c_s_0), (a_now, av_J cy 11 g_now), (a_equations, av_J cy 64 (vp_updL c_g_equations y3.toNatClampNeg (c_g_equations (m_rank c_s_0).toNatClampNeg))), (a_wanted, av_Z cy 64 c_g_wanted)] := hD
      refine lv_aload_n hx hb dX6_solve_85 rfl (lv_at hl 2 rfl) ?_
      refine va_get (D := G) (ci := 6) (v := .ref a_wanted) (C := RX6) (T := TX6) (N := 15) hx hb hts iw_X6_solve_X6 hown hK hP 0 rfl rfl 11 (by decide) (hts (.fieldLink RX6 36 "PaneFrostModel" "wanted" "[Z") (by decide +kernel)) (fun _ h9 => h9) rfl dX6_solve_86 ?_
      refine lv_iload_n hx hb dX6_solve_89 rfl (lv_at hl 5 rfl) ?_
      refine lv_aload_n hx hb dX6_solve_90 rfl (lv_at hl 2 rfl) ?_
      refine va_get (D := G) (ci := 6) (v := .ref a_wanted) (C := RX6) (T := TX6) (N := 15) hx hb hts iw_X6_solve_X6 hown hK hP 0 rfl rfl 11 (by decide) (hts (.fieldLink RX6 36 "PaneFrostModel" "wanted" "[Z") (by decide +kernel)) (fun _ h9 => h9) rfl dX6_solve_91 ?_
      refine lv_aload_n hx hb dX6_solve_94 rfl (lv_at hl 2 rfl) ?_
      refine va_get (D := G) (ci := 6) (v := .int (m_rank c_s_0)) (C := RX6) (T := TX6) (N := 15) hx hb hts iw_X6_solve_X6 hown hK hP 0 rfl rfl 12 (by decide) (hts (.fieldLink RX6 119 "PaneFrostModel" "rank" "I") (by decide +kernel)) (fun _ h9 => h9) rfl dX6_solve_95 ?_
      by_cases q_17 : (m_rank c_s_0) < 0 ∨ 64 ≤ (m_rank c_s_0).toNatClampNeg
      · have hf := ip_ q_17 hf; cases hf
      have hf := in_ q_17 hf
      refine vz_zald rfl hx hb hK hP 3 3 rfl rfl (vin q_17) dX6_solve_98 ?_
      by_cases q_18 : y3 < 0 ∨ 64 ≤ y3.toNatClampNeg
      · have hf := ip_ q_18 hf; cases hf
      have hf := in_ q_18 hf
      refine vz_zast rfl hx hb hK hP hD hS 3 3 rfl rfl (vin q_18) dX6_solve_99 (fun H locs hP hD hS => ?_)
      have hP : va_P G vwCl [(a_0, mv a_text a_now a_trial a_diary a_kept a_isKept a_seen a_equations a_wanted c_s_0), (a_now, av_J cy 11 g_now), (a_equations, av_J cy 64 (vp_updL c_g_equations y3.toNatClampNeg (c_g_equations (m_rank c_s_0).toNatClampNeg))), (a_wanted, av_Z cy 64 (upd c_g_wanted y3.toNatClampNeg (vp_nar .boolean (c_g_wanted (m_rank c_s_0).toNatClampNeg))))] H := hP
      have hD : va_D A [(a_0, mv a_text a_now a_trial a_diary a_kept a_isKept a_seen a_equations a_wanted c_s_0), (a_now, av_J cy 11 g_now), (a_equations, av_J cy 64 (vp_updL c_g_equations y3.toNatClampNeg (c_g_equations (m_rank c_s_0).toNatClampNeg))), (a_wanted, av_Z cy 64 (upd c_g_wanted y3.toNatClampNeg (vp_nar .boolean (c_g_wanted (m_rank c_s_0).toNatClampNeg))))] := hD
      refine lv_aload_n hx hb dX6_solve_100 rfl (lv_at hl 2 rfl) ?_
      refine va_get (D := G) (ci := 6) (v := .ref a_equations) (C := RX6) (T := TX6) (N := 15) hx hb hts iw_X6_solve_X6 hown hK hP 0 rfl rfl 10 (by decide) (hts (.fieldLink RX6 33 "PaneFrostModel" "equations" "[J") (by decide +kernel)) (fun _ h9 => h9) rfl dX6_solve_101 ?_
      refine lv_aload_n hx hb dX6_solve_104 rfl (lv_at hl 2 rfl) ?_
      refine va_get (D := G) (ci := 6) (v := .int (m_rank c_s_0)) (C := RX6) (T := TX6) (N := 15) hx hb hts iw_X6_solve_X6 hown hK hP 0 rfl rfl 12 (by decide) (hts (.fieldLink RX6 119 "PaneFrostModel" "rank" "I") (by decide +kernel)) (fun _ h9 => h9) rfl dX6_solve_105 ?_
      refine lv_lload hx hb dX6_solve_108 (lv_at hl 1 rfl) ?_
      by_cases q_19 : (m_rank c_s_0) < 0 ∨ 64 ≤ (m_rank c_s_0).toNatClampNeg
      · have hf := ip_ q_19 hf; cases hf
      have hf := in_ q_19 hf
      refine vz_last rfl hx hb hK hP hD hS 2 2 rfl rfl (vin q_19) dX6_solve_110 (fun H locs hP hD hS => ?_)
      have hP : va_P G vwCl [(a_0, mv a_text a_now a_trial a_diary a_kept a_isKept a_seen a_equations a_wanted c_s_0), (a_now, av_J cy 11 g_now), (a_equations, av_J cy 64 (vp_updL (vp_updL c_g_equations y3.toNatClampNeg (c_g_equations (m_rank c_s_0).toNatClampNeg)) (m_rank c_s_0).toNatClampNeg (c_g_equations y3.toNatClampNeg))), (a_wanted, av_Z cy 64 (upd c_g_wanted y3.toNatClampNeg (vp_nar .boolean (c_g_wanted (m_rank c_s_0).toNatClampNeg))))] H := hP
      have hD : va_D A [(a_0, mv a_text a_now a_trial a_diary a_kept a_isKept a_seen a_equations a_wanted c_s_0), (a_now, av_J cy 11 g_now), (a_equations, av_J cy 64 (vp_updL (vp_updL c_g_equations y3.toNatClampNeg (c_g_equations (m_rank c_s_0).toNatClampNeg)) (m_rank c_s_0).toNatClampNeg (c_g_equations y3.toNatClampNeg))), (a_wanted, av_Z cy 64 (upd c_g_wanted y3.toNatClampNeg (vp_nar .boolean (c_g_wanted (m_rank c_s_0).toNatClampNeg))))] := hD
      refine lv_aload_n hx hb dX6_solve_111 rfl (lv_at hl 2 rfl) ?_
      refine va_get (D := G) (ci := 6) (v := .ref a_wanted) (C := RX6) (T := TX6) (N := 15) hx hb hts iw_X6_solve_X6 hown hK hP 0 rfl rfl 11 (by decide) (hts (.fieldLink RX6 36 "PaneFrostModel" "wanted" "[Z") (by decide +kernel)) (fun _ h9 => h9) rfl dX6_solve_112 ?_
      refine lv_aload_n hx hb dX6_solve_115 rfl (lv_at hl 2 rfl) ?_
      refine va_get (D := G) (ci := 6) (v := .int (m_rank c_s_0)) (C := RX6) (T := TX6) (N := 15) hx hb hts iw_X6_solve_X6 hown hK hP 0 rfl rfl 12 (by decide) (hts (.fieldLink RX6 119 "PaneFrostModel" "rank" "I") (by decide +kernel)) (fun _ h9 => h9) rfl dX6_solve_116 ?_
      refine lv_iload hx hb dX6_solve_119 (lv_at hl 0 rfl) ?_
      by_cases q_20 : (m_rank c_s_0) < 0 ∨ 64 ≤ (m_rank c_s_0).toNatClampNeg
      · have hf := ip_ q_20 hf; cases hf
      have hf := in_ q_20 hf
      refine vz_zast rfl hx hb hK hP hD hS 3 3 rfl rfl (vin q_20) dX6_solve_121 (fun H locs hP hD hS => ?_)
      have hP : va_P G vwCl [(a_0, mv a_text a_now a_trial a_diary a_kept a_isKept a_seen a_equations a_wanted c_s_0), (a_now, av_J cy 11 g_now), (a_equations, av_J cy 64 (vp_updL (vp_updL c_g_equations y3.toNatClampNeg (c_g_equations (m_rank c_s_0).toNatClampNeg)) (m_rank c_s_0).toNatClampNeg (c_g_equations y3.toNatClampNeg))), (a_wanted, av_Z cy 64 (upd (upd c_g_wanted y3.toNatClampNeg (vp_nar .boolean (c_g_wanted (m_rank c_s_0).toNatClampNeg))) (m_rank c_s_0).toNatClampNeg (vp_nar .boolean (c_g_wanted y3.toNatClampNeg))))] H := hP
      have hD : va_D A [(a_0, mv a_text a_now a_trial a_diary a_kept a_isKept a_seen a_equations a_wanted c_s_0), (a_now, av_J cy 11 g_now), (a_equations, av_J cy 64 (vp_updL (vp_updL c_g_equations y3.toNatClampNeg (c_g_equations (m_rank c_s_0).toNatClampNeg)) (m_rank c_s_0).toNatClampNeg (c_g_equations y3.toNatClampNeg))), (a_wanted, av_Z cy 64 (upd (upd c_g_wanted y3.toNatClampNeg (vp_nar .boolean (c_g_wanted (m_rank c_s_0).toNatClampNeg))) (m_rank c_s_0).toNatClampNeg (vp_nar .boolean (c_g_wanted y3.toNatClampNeg))))] := hD
      refine lv_iconst (v := 0) hx hb dX6_solve_122 (by decide) ?_
      refine lv_istore (lv' := [(7, .int 0), (6, .int (c_g_wanted y3.toNatClampNeg)), (4, .long (c_g_equations y3.toNatClampNeg)), (0, .ref a_0), (1, .int y1), (2, .int y2), (3, .int y3)]) hx hb dX6_solve_123 hl (by decide) rfl (fun ls hl => ?_)
      exact bl_125 y1 y2 (c_g_equations y3.toNatClampNeg) (c_g_wanted y3.toNatClampNeg) K15 hK15 n c_s_0 (vp_updL (vp_updL c_g_equations y3.toNatClampNeg (c_g_equations (m_rank c_s_0).toNatClampNeg)) (m_rank c_s_0).toNatClampNeg (c_g_equations y3.toNatClampNeg)) (upd (upd c_g_wanted y3.toNatClampNeg (vp_nar .boolean (c_g_wanted (m_rank c_s_0).toNatClampNeg))) (m_rank c_s_0).toNatClampNeg (vp_nar .boolean (c_g_wanted y3.toNatClampNeg))) 0 _ _ hf hP hD hS ls (lv_sub hl [3, 4, 5, 2, 1, 0] rfl)
  have bl_25 : ∀ (y1 : Int32), ∀ (y2 : Int32), ∀ (K15 : MT → (Nat → Int64) → (Nat → Int32) → Int32 → Option (Bool × MT × (Nat → Int64) × (Nat → Int32))), (∀ (c_s_0 : MT) (c_g_equations : Nat → Int64) (c_g_wanted : Nat → Int32) (y2 : Int32) (H : Heap) (locs : List Loc), K15 c_s_0 c_g_equations c_g_wanted y2 = some R → va_P G vwCl [(a_0, mv a_text a_now a_trial a_diary a_kept a_isKept a_seen a_equations a_wanted c_s_0), (a_now, av_J cy 11 g_now), (a_equations, av_J cy 64 c_g_equations), (a_wanted, av_Z cy 64 c_g_wanted)] H → va_D A [(a_0, mv a_text a_now a_trial a_diary a_kept a_isKept a_seen a_equations a_wanted c_s_0), (a_now, av_J cy 11 g_now), (a_equations, av_J cy 64 c_g_equations), (a_wanted, av_Z cy 64 c_g_wanted)] → va_S A s.heap H locs → ∀ (ls : Array Slot), lv_has ls 8 [(0, .ref a_0), (1, .int y1), (2, .int y2)] → W p l e ({ frames := 1, cells := 0, slots := 0, locals := 22 } : Room) s m [.ref a_0].toArray below meth c H locs 0 0 (MQ below (va_Qi (fun r (_ : Unit) => r = bI R.1) (fun _ t => Wd G cy A [(a_0, mv a_text a_now a_trial a_diary a_kept a_isKept a_seen a_equations a_wanted R.2.1), (a_now, av_J cy 11 g_now), (a_equations, av_J cy 64 R.2.2.1), (a_wanted, av_Z cy 64 R.2.2.2)] t) A) [.ref a_0].toArray s 0 0 A) (F0 m 15 ls [])) → ∀ (k : Nat), ∀ (c_s_0 : MT) (c_g_equations : Nat → Int64) (c_g_wanted : Nat → Int32) (y3 : Int32) (H : Heap) (locs : List Loc), f_X6_solve_b25 n g_now y1 y2 K15 k c_s_0 c_g_equations c_g_wanted y3 = some R → va_P G vwCl [(a_0, mv a_text a_now a_trial a_diary a_kept a_isKept a_seen a_equations a_wanted c_s_0), (a_now, av_J cy 11 g_now), (a_equations, av_J cy 64 c_g_equations), (a_wanted, av_Z cy 64 c_g_wanted)] H → va_D A [(a_0, mv a_text a_now a_trial a_diary a_kept a_isKept a_seen a_equations a_wanted c_s_0), (a_now, av_J cy 11 g_now), (a_equations, av_J cy 64 c_g_equations), (a_wanted, av_Z cy 64 c_g_wanted)] → va_S A s.heap H locs → ∀ (ls : Array Slot), lv_has ls 8 [(0, .ref a_0), (1, .int y1), (2, .int y2), (3, .int y3)] → W p l e ({ frames := 1, cells := 0, slots := 0, locals := 22 } : Room) s m [.ref a_0].toArray below meth c H locs 0 0 (MQ below (va_Qi (fun r (_ : Unit) => r = bI R.1) (fun _ t => Wd G cy A [(a_0, mv a_text a_now a_trial a_diary a_kept a_isKept a_seen a_equations a_wanted R.2.1), (a_now, av_J cy 11 g_now), (a_equations, av_J cy 64 R.2.2.1), (a_wanted, av_Z cy 64 R.2.2.2)] t) A) [.ref a_0].toArray s 0 0 A) (F0 m 25 ls []) := by
    intro y1
    intro y2
    intro K15 hK15
    intro k
    induction k with
    | zero =>
      intro c_s_0 c_g_equations c_g_wanted y3 H locs hf; cases hf
    | succ k ih =>
      intro c_s_0 c_g_equations c_g_wanted y3 H locs hf hP hD hS ls hl
      have hf := (f_X6_solve_b25_s n g_now y1 y2 K15 k c_s_0 c_g_equations c_g_wanted y3).symm.trans hf
      refine lv_iload_n hx hb dX6_solve_25 rfl (lv_at hl 3 rfl) ?_
      refine lv_iload_n hx hb dX6_solve_26 rfl (lv_at hl 1 rfl) ?_
      refine lv_icmp_ge (tgt := 49) hx hb dX6_solve_27 (by decide) (fun h_21 => ?_) (fun h_21 => ?_)
      · have hf := ip_ h_21 hf
        exact bl_49 y1 K15 hK15 c_s_0 c_g_equations c_g_wanted y2 y3 _ _ hf hP hD hS ls (lv_sub hl [0, 1, 2, 3] rfl)
      · have hf := in_ h_21 hf
        refine lv_aload_n hx hb dX6_solve_30 rfl (lv_at hl 0 rfl) ?_
        refine va_get (D := G) (ci := 6) (v := .ref a_equations) (C := RX6) (T := TX6) (N := 15) hx hb hts iw_X6_solve_X6 hown hK hP 0 rfl rfl 10 (by decide) (hts (.fieldLink RX6 33 "PaneFrostModel" "equations" "[J") (by decide +kernel)) (fun _ h9 => h9) rfl dX6_solve_31 ?_
        refine lv_iload_n hx hb dX6_solve_34 rfl (lv_at hl 3 rfl) ?_
        by_cases q_22 : y3 < 0 ∨ 64 ≤ y3.toNatClampNeg
        · have hf := ip_ q_22 hf; cases hf
        have hf := in_ q_22 hf
        refine vz_lald rfl hx hb hK hP 2 2 rfl rfl (vin q_22) dX6_solve_35 ?_
        refine lv_iload_n hx hb dX6_solve_36 rfl (lv_at hl 2 rfl) ?_
        refine kc_i (w1 := []) (wr := [(a_0, mv a_text a_now a_trial a_diary a_kept a_isKept a_seen a_equations a_wanted c_s_0), (a_now, av_J cy 11 g_now), (a_equations, av_J cy 64 c_g_equations), (a_wanted, av_Z cy 64 c_g_wanted)]) hP hD hS hA [] [0, 1, 2, 3] rfl rfl rfl (by decide) (va_runS (As := [.long (c_g_equations y3.toNatClampNeg), .int y2]) (rest := []) ⟨hx, hb, hml, hown, hts⟩ (c_X6_has (l := l) G cy  H.size (c_g_equations y3.toNatClampNeg) y2  (f_X6_has (c_g_equations y3.toNatClampNeg) y2) rfl) (va_cwS 2 hts gX6_solve_X6_has rfl rfl rfl ddN_X6_has ⟨Nat.le_of_ble_eq_true rfl, Nat.le_of_ble_eq_true rfl⟩) (preS_ (hP.sub (ws' := []) [] rfl) hK (hD.sub (ws' := []) [] rfl rfl) hN) rfl rfl hl.1 rfl (lv_room (Nat.le_of_ble_eq_true rfl)) dX6_solve_37 ⟨Nat.le_of_ble_eq_true rfl, Nat.le_of_ble_eq_true rfl⟩) (fun H locs hP hD hS => ?_)
        have hP : va_P G vwCl [(a_0, mv a_text a_now a_trial a_diary a_kept a_isKept a_seen a_equations a_wanted c_s_0), (a_now, av_J cy 11 g_now), (a_equations, av_J cy 64 c_g_equations), (a_wanted, av_Z cy 64 c_g_wanted)] H := hP
        have hD : va_D A [(a_0, mv a_text a_now a_trial a_diary a_kept a_isKept a_seen a_equations a_wanted c_s_0), (a_now, av_J cy 11 g_now), (a_equations, av_J cy 64 c_g_equations), (a_wanted, av_Z cy 64 c_g_wanted)] := hD
        refine lv_if_ne (tgt := 49) hx hb dX6_solve_40 (by decide) (fun h_23 => ?_) (fun h_23 => ?_)
        · have hf := ip_ (bI_n0 h_23) hf
          exact bl_49 y1 K15 hK15 c_s_0 c_g_equations c_g_wanted y2 y3 _ _ hf hP hD hS ls (lv_sub hl [0, 1, 2, 3] rfl)
        · have hf := in_ (bI_0 h_23) hf
          refine lv_iinc (v := (y3 + 1)) (lv' := [(3, .int (y3 + 1)), (0, .ref a_0), (1, .int y1), (2, .int y2)]) hx hb dX6_solve_43 hl (k := 3) rfl rfl (by decide) rfl (fun ls hl => ?_)
          refine lv_goto (tgt := 25) hx hb dX6_solve_46 (by decide) ?_
          exact ih c_s_0 c_g_equations c_g_wanted (y3 + 1) _ _ hf hP hD hS ls (lv_sub hl [1, 2, 3, 0] rfl)
  have bl_15 : ∀ (y1 : Int32), ∀ (k : Nat), ∀ (c_s_0 : MT) (c_g_equations : Nat → Int64) (c_g_wanted : Nat → Int32) (y2 : Int32) (H : Heap) (locs : List Loc), f_X6_solve_b15 n g_now y1 k c_s_0 c_g_equations c_g_wanted y2 = some R → va_P G vwCl [(a_0, mv a_text a_now a_trial a_diary a_kept a_isKept a_seen a_equations a_wanted c_s_0), (a_now, av_J cy 11 g_now), (a_equations, av_J cy 64 c_g_equations), (a_wanted, av_Z cy 64 c_g_wanted)] H → va_D A [(a_0, mv a_text a_now a_trial a_diary a_kept a_isKept a_seen a_equations a_wanted c_s_0), (a_now, av_J cy 11 g_now), (a_equations, av_J cy 64 c_g_equations), (a_wanted, av_Z cy 64 c_g_wanted)] → va_S A s.heap H locs → ∀ (ls : Array Slot), lv_has ls 8 [(0, .ref a_0), (1, .int y1), (2, .int y2)] → W p l e ({ frames := 1, cells := 0, slots := 0, locals := 22 } : Room) s m [.ref a_0].toArray below meth c H locs 0 0 (MQ below (va_Qi (fun r (_ : Unit) => r = bI R.1) (fun _ t => Wd G cy A [(a_0, mv a_text a_now a_trial a_diary a_kept a_isKept a_seen a_equations a_wanted R.2.1), (a_now, av_J cy 11 g_now), (a_equations, av_J cy 64 R.2.2.1), (a_wanted, av_Z cy 64 R.2.2.2)] t) A) [.ref a_0].toArray s 0 0 A) (F0 m 15 ls []) := by
    intro y1
    intro k
    induction k with
    | zero =>
      intro c_s_0 c_g_equations c_g_wanted y2 H locs hf; cases hf
    | succ k ih =>
      intro c_s_0 c_g_equations c_g_wanted y2 H locs hf hP hD hS ls hl
      have hf := (f_X6_solve_b15_s n g_now y1 k c_s_0 c_g_equations c_g_wanted y2).symm.trans hf
      refine lv_iload_n hx hb dX6_solve_15 rfl (lv_at hl 2 rfl) ?_
      refine lv_iload_n hx hb dX6_solve_16 rfl (lv_at hl 1 rfl) ?_
      refine lv_icmp_ge (tgt := 200) hx hb dX6_solve_17 (by decide) (fun h_24 => ?_) (fun h_24 => ?_)
      · have hf := ip_ h_24 hf
        refine lv_aload_n hx hb dX6_solve_200 rfl (lv_at hl 0 rfl) ?_
        refine va_get (D := G) (ci := 6) (v := .int (m_rank c_s_0)) (C := RX6) (T := TX6) (N := 15) hx hb hts iw_X6_solve_X6 hown hK hP 0 rfl rfl 12 (by decide) (hts (.fieldLink RX6 119 "PaneFrostModel" "rank" "I") (by decide +kernel)) (fun _ h9 => h9) rfl dX6_solve_201 ?_
        refine lv_istore_n (lv' := [(2, .int (m_rank c_s_0)), (0, .ref a_0), (1, .int y1)]) hx hb dX6_solve_204 rfl hl (by decide) rfl (fun ls hl => ?_)
        exact bl_205 y1 n c_s_0 c_g_equations c_g_wanted (m_rank c_s_0) _ _ hf hP hD hS ls (lv_sub hl [1, 2, 0] rfl)
      · have hf := in_ h_24 hf
        refine lv_aload_n hx hb dX6_solve_20 rfl (lv_at hl 0 rfl) ?_
        refine va_get (D := G) (ci := 6) (v := .int (m_rank c_s_0)) (C := RX6) (T := TX6) (N := 15) hx hb hts iw_X6_solve_X6 hown hK hP 0 rfl rfl 12 (by decide) (hts (.fieldLink RX6 119 "PaneFrostModel" "rank" "I") (by decide +kernel)) (fun _ h9 => h9) rfl dX6_solve_21 ?_
        refine lv_istore_n (lv' := [(3, .int (m_rank c_s_0)), (0, .ref a_0), (1, .int y1), (2, .int y2)]) hx hb dX6_solve_24 rfl hl (by decide) rfl (fun ls hl => ?_)
        exact bl_25 y1 y2 (f_X6_solve_b15 n g_now y1 k) ih n c_s_0 c_g_equations c_g_wanted (m_rank c_s_0) _ _ hf hP hD hS ls (lv_sub hl [1, 2, 3, 0] rfl)
  have hl := lv_entry [.ref a_0] (n := 8) (Nat.le_of_ble_eq_true rfl)
  rw [lg_entry_eq]
  generalize (lg_sl [.ref a_0] ++ List.replicate (8 - (lg_sl [.ref a_0]).length) Slot.unset).toArray = ls at hl ⊢
  have hl : lv_has ls 8 [(0, .ref a_0)] := hl
  unfold f_X6_solve at hf
  refine lv_aload_n hx hb dX6_solve_0 rfl (lv_at hl 0 rfl) ?_
  refine va_get (D := G) (ci := 6) (v := .ref a_now) (C := RX6) (T := TX6) (N := 15) hx hb hts iw_X6_solve_X6 hown hK hP 0 rfl rfl 3 (by decide) (hts (.fieldLink RX6 13 "PaneFrostModel" "now" "[J") (by decide +kernel)) (fun _ h9 => h9) rfl dX6_solve_1 ?_
  refine kc_i (w1 := [(a_now, av_J cy 11 g_now)]) (wr := [(a_0, mv a_text a_now a_trial a_diary a_kept a_isKept a_seen a_equations a_wanted s_0), (a_equations, av_J cy 64 g_equations), (a_wanted, av_Z cy 64 g_wanted)]) hP hD hS hA [1] [0, 2, 3] rfl rfl rfl (by decide) (va_runS (As := [.ref a_now]) (rest := []) ⟨hx, hb, hml, hown, hts⟩ (c_X6_many (l := l) G cy a_now s.heap.size g_now  (f_X6_many g_now) rfl) (va_cwS 1 hts gX6_solve_X6_many rfl rfl rfl ddN_X6_many ⟨Nat.le_of_ble_eq_true rfl, Nat.le_of_ble_eq_true rfl⟩) (preS_ (hP.sub (ws' := [(a_now, av_J cy 11 g_now)]) [1] rfl) hK (hD.sub (ws' := [(a_now, av_J cy 11 g_now)]) [1] rfl rfl) hN) rfl rfl hl.1 rfl (lv_room (Nat.le_of_ble_eq_true rfl)) dX6_solve_4 ⟨Nat.le_of_ble_eq_true rfl, Nat.le_of_ble_eq_true rfl⟩) (fun H locs hP hD hS => ?_)
  have hP : va_P G vwCl [(a_0, mv a_text a_now a_trial a_diary a_kept a_isKept a_seen a_equations a_wanted s_0), (a_equations, av_J cy 64 g_equations), (a_wanted, av_Z cy 64 g_wanted), (a_now, av_J cy 11 g_now)] H := hP
  have hD : va_D A [(a_0, mv a_text a_now a_trial a_diary a_kept a_isKept a_seen a_equations a_wanted s_0), (a_equations, av_J cy 64 g_equations), (a_wanted, av_Z cy 64 g_wanted), (a_now, av_J cy 11 g_now)] := hD
  refine lv_istore_n (lv' := [(1, .int (f_X6_many g_now)), (0, .ref a_0)]) hx hb dX6_solve_7 rfl hl (by decide) rfl (fun ls hl => ?_)
  refine lv_aload_n hx hb dX6_solve_8 rfl (lv_at hl 1 rfl) ?_
  refine lv_iconst (v := 0) hx hb dX6_solve_9 (by decide) ?_
  refine va_put (D := G) (ci := 6) (v := .int 0) (ty := .int) (C := RX6) (T := TX6) (N := 15) hx hb hts iw_X6_solve_X6 tyX6 tyX6_ok nmX6 hown hK hP hD hS 0 rfl rfl 12 (by decide) (hts (.fieldLink RX6 119 "PaneFrostModel" "rank" "I") (by decide +kernel)) (fun _ h9 => h9) rfl (by decide +kernel) rfl rfl (Nat.le_of_ble_eq_true rfl) dX6_solve_10 (fun H locs hP hD hS => ?_)
  have hP : va_P G vwCl [(a_0, mv a_text a_now a_trial a_diary a_kept a_isKept a_seen a_equations a_wanted (m_refusal s_0, m_size s_0, m_acts s_0, 0, m_spot s_0, m_out s_0)), (a_equations, av_J cy 64 g_equations), (a_wanted, av_Z cy 64 g_wanted), (a_now, av_J cy 11 g_now)] H := hP
  have hD : va_D A [(a_0, mv a_text a_now a_trial a_diary a_kept a_isKept a_seen a_equations a_wanted (m_refusal s_0, m_size s_0, m_acts s_0, 0, m_spot s_0, m_out s_0)), (a_equations, av_J cy 64 g_equations), (a_wanted, av_Z cy 64 g_wanted), (a_now, av_J cy 11 g_now)] := hD
  refine lv_iconst (v := 0) hx hb dX6_solve_13 (by decide) ?_
  refine lv_istore_n (lv' := [(2, .int 0), (1, .int (f_X6_many g_now)), (0, .ref a_0)]) hx hb dX6_solve_14 rfl hl (by decide) rfl (fun ls hl => ?_)
  exact bl_15 (f_X6_many g_now) n (m_refusal s_0, m_size s_0, m_acts s_0, 0, m_spot s_0, m_out s_0) g_equations g_wanted 0 _ _ hf (hP.sub (ws' := [(a_0, mv a_text a_now a_trial a_diary a_kept a_isKept a_seen a_equations a_wanted (m_refusal s_0, m_size s_0, m_acts s_0, 0, m_spot s_0, m_out s_0)), (a_now, av_J cy 11 g_now), (a_equations, av_J cy 64 g_equations), (a_wanted, av_Z cy 64 g_wanted)]) [0, 3, 1, 2] rfl) (hD.sub (ws' := [(a_0, mv a_text a_now a_trial a_diary a_kept a_isKept a_seen a_equations a_wanted (m_refusal s_0, m_size s_0, m_acts s_0, 0, m_spot s_0, m_out s_0)), (a_now, av_J cy 11 g_now), (a_equations, av_J cy 64 g_equations), (a_wanted, av_Z cy 64 g_wanted)]) [0, 3, 1, 2] rfl rfl) hS ls (lv_sub hl [2, 1, 0] rfl)
set_option maxHeartbeats 4000000 in
set_option maxRecDepth 100000 in
theorem c_X6_lowest {l : Launch} (G : va_G) (cy : Nat → ClassId)  (sz : Nat) (x0 : Int64) (n : Nat) (R : Int32) (hf : f_X6_lowest n x0 = some R) : Met l yX6_lowest wsX6_lowest ({ frames := 1, cells := 0, slots := 0, locals := 22 } : Room) (va_Pc [.long x0] (pcW G cy [] sz)) (va_Qi (fun r (_ : Unit) => r = R) (fun _ t => Wd G cy (va_A [] sz) [] t) (va_A [] sz)) 0 0 (va_A [] sz) := by
  refine Met.ofW (cc := cX6_lowest) (maxL := 3) (ret := (some .int)) (by decide) rfl ?_
  intro p e s m args below meth c s₁ B hml hv
  obtain ⟨rfl, hsz, hP, hK, hD0, hN⟩ := hv
  have hx := B.exec
  have hb := B.bytes
  have hr := B.returns
  have hts := atoms_spec (ws := wsX6_lowest) B.pre
  have hown : s.vm.findClass RX6 = some m.cls := findClass_of_methodNamed B.named
  have hlocks := B.notSynchronized
  subst hsz
  have hD := hD0.self (sz := s.heap.size)
  generalize hAe : va_A [] s.heap.size = A at hD ⊢
  have hA : ∀ q : Nat, s.heap.size ≤ q → A q := fun q h => by rw [← hAe]; exact Or.inr h
  have hS : va_S A s.heap s.heap [] := va_S.rf
  have hP : va_P G vwCl [] s.heap := hP
  have bl_2 : ∀ (y0 : Int64), ∀ (k : Nat), ∀ (y2 : Int32) (H : Heap) (locs : List Loc), f_X6_lowest_b2 n y0 k y2 = some R → va_P G vwCl [] H → va_D A [] → va_S A s.heap H locs → ∀ (ls : Array Slot), lv_has ls 3 [(0, .long y0), (2, .int y2)] → W p l e ({ frames := 1, cells := 0, slots := 0, locals := 22 } : Room) s m [.long x0].toArray below meth c H locs 0 0 (MQ below (va_Qi (fun r (_ : Unit) => r = R) (fun _ t => Wd G cy A [] t) A) [.long x0].toArray s 0 0 A) (F0 m 2 ls []) := by
    intro y0
    intro k
    induction k with
    | zero =>
      intro y2 H locs hf; cases hf
    | succ k ih =>
      intro y2 H locs hf hP hD hS ls hl
      have hf := (f_X6_lowest_b2_s n y0 k y2).symm.trans hf
      refine lv_lload_n hx hb dX6_lowest_2 rfl (lv_at hl 0 rfl) ?_
      refine lv_iload_n hx hb dX6_lowest_3 rfl (lv_at hl 1 rfl) ?_
      refine kc_i (w1 := []) (wr := []) hP hD hS hA [] [] rfl rfl rfl (by decide) (va_runS (As := [.long y0, .int y2]) (rest := []) ⟨hx, hb, hml, hown, hts⟩ (c_X6_has (l := l) G cy  H.size y0 y2  (f_X6_has y0 y2) rfl) (va_cwS 2 hts gX6_lowest_X6_has rfl rfl rfl ddN_X6_has ⟨Nat.le_of_ble_eq_true rfl, Nat.le_of_ble_eq_true rfl⟩) (preS_ hP hK hD hN) rfl rfl hl.1 rfl (lv_room (Nat.le_of_ble_eq_true rfl)) dX6_lowest_4 ⟨Nat.le_of_ble_eq_true rfl, Nat.le_of_ble_eq_true rfl⟩) (fun H locs hP hD hS => ?_)
      have hP : va_P G vwCl [] H := hP
      have hD : va_D A [] := hD
      refine lv_if_ne (tgt := 16) hx hb dX6_lowest_7 (by decide) (fun h_1 => ?_) (fun h_1 => ?_)
      · have hf := ip_ (bI_n0 h_1) hf
        refine lv_iload_n hx hb dX6_lowest_16 rfl (lv_at hl 1 rfl) ?_
        obtain rfl := Option.some.inj hf
        exact kr_i hx hb hr hlocks rfl hP hK hD hN hS hS.2.2 dX6_lowest_17
      · have hf := in_ (bI_0 h_1) hf
        refine lv_iinc (v := (y2 + 1)) (lv' := [(2, .int (y2 + 1)), (0, .long y0)]) hx hb dX6_lowest_10 hl (k := 1) rfl rfl (by decide) rfl (fun ls hl => ?_)
        refine lv_goto (tgt := 2) hx hb dX6_lowest_13 (by decide) ?_
        exact ih (y2 + 1) _ _ hf hP hD hS ls (lv_sub hl [1, 0] rfl)
  have hl := lv_entry [.long x0] (n := 3) (Nat.le_of_ble_eq_true rfl)
  rw [lg_entry_eq]
  generalize (lg_sl [.long x0] ++ List.replicate (3 - (lg_sl [.long x0]).length) Slot.unset).toArray = ls at hl ⊢
  have hl : lv_has ls 3 [(0, .long x0)] := hl
  unfold f_X6_lowest at hf
  refine lv_iconst (v := 0) hx hb dX6_lowest_0 (by decide) ?_
  refine lv_istore_n (lv' := [(2, .int 0), (0, .long x0)]) hx hb dX6_lowest_1 rfl hl (by decide) rfl (fun ls hl => ?_)
  exact bl_2 x0 n 0 _ _ hf hP hD hS ls (lv_sub hl [1, 0] rfl)
set_option maxHeartbeats 4000000 in
set_option maxRecDepth 100000 in
theorem c_X6_append {l : Launch} (G : va_G) (cy : Nat → ClassId) (a_0 : Nat) (a_text : Nat) (a_now : Nat) (a_trial : Nat) (a_diary : Nat) (a_kept : Nat) (a_isKept : Nat) (a_seen : Nat) (a_equations : Nat) (a_wanted : Nat) (sz : Nat) (s_0 : MT) (g_text : Nat → Int32) (x1 : Int32)  (R : Int32 × MT × (Nat → Int32)) (hf : f_X6_append s_0 g_text x1 = some R) : Met l yX6_append wsX6_append ({ frames := 1, cells := 0, slots := 0, locals := 25 } : Room) (va_Pc [.ref a_0, .int x1] (pcW G cy [(a_0, mv a_text a_now a_trial a_diary a_kept a_isKept a_seen a_equations a_wanted s_0), (a_text, av_I cy 120 g_text)] sz)) (va_Qi (fun r (_ : Unit) => r = R.1) (fun _ t => Wd G cy (va_A [(a_0, mv a_text a_now a_trial a_diary a_kept a_isKept a_seen a_equations a_wanted s_0), (a_text, av_I cy 120 g_text)] sz) [(a_0, mv a_text a_now a_trial a_diary a_kept a_isKept a_seen a_equations a_wanted R.2.1), (a_text, av_I cy 120 R.2.2)] t) (va_A [(a_0, mv a_text a_now a_trial a_diary a_kept a_isKept a_seen a_equations a_wanted s_0), (a_text, av_I cy 120 g_text)] sz)) 0 0 (va_A [(a_0, mv a_text a_now a_trial a_diary a_kept a_isKept a_seen a_equations a_wanted s_0), (a_text, av_I cy 120 g_text)] sz) := by
  refine Met.ofW (cc := cX6_append) (maxL := 2) (ret := (some .int)) (by decide) rfl ?_
  intro p e s m args below meth c s₁ B hml hv
  obtain ⟨rfl, hsz, hP, hK, hD0, hN⟩ := hv
  have hx := B.exec
  have hb := B.bytes
  have hr := B.returns
  have hts := atoms_spec (ws := wsX6_append) B.pre
  have hown : s.vm.findClass RX6 = some m.cls := findClass_of_methodNamed B.named
  have hlocks := B.notSynchronized
  subst hsz
  have hD := hD0.self (sz := s.heap.size)
  generalize hAe : va_A [(a_0, mv a_text a_now a_trial a_diary a_kept a_isKept a_seen a_equations a_wanted s_0), (a_text, av_I cy 120 g_text)] s.heap.size = A at hD ⊢
  have hA : ∀ q : Nat, s.heap.size ≤ q → A q := fun q h => by rw [← hAe]; exact Or.inr h
  have hS : va_S A s.heap s.heap [] := va_S.rf
  have hP : va_P G vwCl [(a_0, mv a_text a_now a_trial a_diary a_kept a_isKept a_seen a_equations a_wanted s_0), (a_text, av_I cy 120 g_text)] s.heap := hP
  have bl_31 : ∀ (c_s_0 : MT) (c_g_text : Nat → Int32) (y1 : Int32) (z1 : Int32) (H : Heap) (locs : List Loc), f_X6_append_b31  c_s_0 c_g_text y1 z1 = some R → va_P G vwCl [(a_0, mv a_text a_now a_trial a_diary a_kept a_isKept a_seen a_equations a_wanted c_s_0), (a_text, av_I cy 120 c_g_text)] H → va_D A [(a_0, mv a_text a_now a_trial a_diary a_kept a_isKept a_seen a_equations a_wanted c_s_0), (a_text, av_I cy 120 c_g_text)] → va_S A s.heap H locs → ∀ (ls : Array Slot), lv_has ls 2 [(0, .ref a_0), (1, .int y1)] → W p l e ({ frames := 1, cells := 0, slots := 0, locals := 25 } : Room) s m [.ref a_0, .int x1].toArray below meth c H locs 0 0 (MQ below (va_Qi (fun r (_ : Unit) => r = R.1) (fun _ t => Wd G cy A [(a_0, mv a_text a_now a_trial a_diary a_kept a_isKept a_seen a_equations a_wanted R.2.1), (a_text, av_I cy 120 R.2.2)] t) A) [.ref a_0, .int x1].toArray s 0 0 A) (F0 m 31 ls [.int z1, .ref a_0]) := by
    intro c_s_0 c_g_text y1 z1 H locs hf hP hD hS ls hl
    unfold f_X6_append_b31 at hf
    obtain ⟨r_1, hh_r_1⟩ : ∃ z, z = f_X6_refused c_s_0 z1 := ⟨_, rfl⟩
    have hf := lt_e hh_r_1 hf
    refine kc_i (w1 := [(a_0, mv a_text a_now a_trial a_diary a_kept a_isKept a_seen a_equations a_wanted r_1.2)]) (wr := [(a_text, av_I cy 120 c_g_text)]) hP hD hS hA [0] [1] rfl rfl rfl (by decide) (va_runV (As := [.int z1]) (rest := []) ⟨hx, hb, hml, hown, hts⟩ (c_X6_refused (l := l) G cy a_0 a_text a_now a_trial a_diary a_kept a_isKept a_seen a_equations a_wanted H.size c_s_0 z1  r_1 hh_r_1.symm) (cwV 1 hts gX6_append_X6_refused rfl rfl rfl ddV_X6_refused ⟨Nat.le_of_ble_eq_true rfl, Nat.le_of_ble_eq_true rfl⟩) (preV_ (ci := 6) (q0 := 0) rfl rfl (hP.sub (ws' := [(a_0, mv a_text a_now a_trial a_diary a_kept a_isKept a_seen a_equations a_wanted c_s_0)]) [0] rfl) hK (hD.sub (ws' := [(a_0, mv a_text a_now a_trial a_diary a_kept a_isKept a_seen a_equations a_wanted c_s_0)]) [0] rfl rfl) hN) rfl rfl hl.1 rfl (lv_room (Nat.le_of_ble_eq_true rfl)) dX6_append_31 ⟨Nat.le_of_ble_eq_true rfl, Nat.le_of_ble_eq_true rfl⟩) (fun H locs hP hD hS => ?_)
    have hP : va_P G vwCl [(a_text, av_I cy 120 c_g_text), (a_0, mv a_text a_now a_trial a_diary a_kept a_isKept a_seen a_equations a_wanted r_1.2)] H := hP
    have hD : va_D A [(a_text, av_I cy 120 c_g_text), (a_0, mv a_text a_now a_trial a_diary a_kept a_isKept a_seen a_equations a_wanted r_1.2)] := hD
    refine lv_if_eq (tgt := 39) hx hb dX6_append_34 (by decide) (fun h_2 => ?_) (fun h_2 => ?_)
    · have hf := in_ (bI_0 h_2) hf
      refine lv_aload_n hx hb dX6_append_39 rfl (lv_at hl 0 rfl) ?_
      refine va_get (D := G) (ci := 6) (v := .ref a_text) (C := RX6) (T := TX6) (N := 15) hx hb hts iw_X6_append_X6 hown hK hP 1 rfl rfl 1 (by decide) (hts (.fieldLink RX6 7 "PaneFrostModel" "text" "[I") (by decide +kernel)) (fun _ h9 => h9) rfl dX6_append_40 ?_
      refine lv_aload_n hx hb dX6_append_43 rfl (lv_at hl 0 rfl) ?_
      refine va_get (D := G) (ci := 6) (v := .int (m_size r_1.2)) (C := RX6) (T := TX6) (N := 15) hx hb hts iw_X6_append_X6 hown hK hP 1 rfl rfl 2 (by decide) (hts (.fieldLink RX6 124 "PaneFrostModel" "size" "I") (by decide +kernel)) (fun _ h9 => h9) rfl dX6_append_44 ?_
      refine lv_iload_n hx hb dX6_append_47 rfl (lv_at hl 1 rfl) ?_
      by_cases q_3 : (m_size r_1.2) < 0 ∨ 120 ≤ (m_size r_1.2).toNatClampNeg
      · have hf := ip_ q_3 hf; cases hf
      have hf := in_ q_3 hf
      refine vz_iast rfl hx hb hK hP hD hS 0 1 rfl rfl (vin q_3) dX6_append_48 (fun H locs hP hD hS => ?_)
      have hP : va_P G vwCl [(a_text, av_I cy 120 (upd c_g_text (m_size r_1.2).toNatClampNeg y1)), (a_0, mv a_text a_now a_trial a_diary a_kept a_isKept a_seen a_equations a_wanted r_1.2)] H := hP
      have hD : va_D A [(a_text, av_I cy 120 (upd c_g_text (m_size r_1.2).toNatClampNeg y1)), (a_0, mv a_text a_now a_trial a_diary a_kept a_isKept a_seen a_equations a_wanted r_1.2)] := hD
      refine lv_aload_n hx hb dX6_append_49 rfl (lv_at hl 0 rfl) ?_
      refine lv_dup hx hb dX6_append_50 rfl ?_
      refine va_get (D := G) (ci := 6) (v := .int (m_size r_1.2)) (C := RX6) (T := TX6) (N := 15) hx hb hts iw_X6_append_X6 hown hK hP 1 rfl rfl 2 (by decide) (hts (.fieldLink RX6 124 "PaneFrostModel" "size" "I") (by decide +kernel)) (fun _ h9 => h9) rfl dX6_append_51 ?_
      refine lv_iconst (v := 1) hx hb dX6_append_54 (by decide) ?_
      refine lv_iadd hx hb dX6_append_55 ?_
      refine va_put (D := G) (ci := 6) (v := .int ((m_size r_1.2) + 1)) (ty := .int) (C := RX6) (T := TX6) (N := 15) hx hb hts iw_X6_append_X6 tyX6 tyX6_ok nmX6 hown hK hP hD hS 1 rfl rfl 2 (by decide) (hts (.fieldLink RX6 124 "PaneFrostModel" "size" "I") (by decide +kernel)) (fun _ h9 => h9) rfl (by decide +kernel) rfl rfl (Nat.le_of_ble_eq_true rfl) dX6_append_56 (fun H locs hP hD hS => ?_)
      have hP : va_P G vwCl [(a_text, av_I cy 120 (upd c_g_text (m_size r_1.2).toNatClampNeg y1)), (a_0, mv a_text a_now a_trial a_diary a_kept a_isKept a_seen a_equations a_wanted (m_refusal r_1.2, ((m_size r_1.2) + 1), m_acts r_1.2, m_rank r_1.2, m_spot r_1.2, m_out r_1.2))] H := hP
      have hD : va_D A [(a_text, av_I cy 120 (upd c_g_text (m_size r_1.2).toNatClampNeg y1)), (a_0, mv a_text a_now a_trial a_diary a_kept a_isKept a_seen a_equations a_wanted (m_refusal r_1.2, ((m_size r_1.2) + 1), m_acts r_1.2, m_rank r_1.2, m_spot r_1.2, m_out r_1.2))] := hD
      refine lv_aload_n hx hb dX6_append_59 rfl (lv_at hl 0 rfl) ?_
      refine va_get (D := G) (ci := 6) (v := .int ((m_size r_1.2) + 1)) (C := RX6) (T := TX6) (N := 15) hx hb hts iw_X6_append_X6 hown hK hP 1 rfl rfl 2 (by decide) (hts (.fieldLink RX6 124 "PaneFrostModel" "size" "I") (by decide +kernel)) (fun _ h9 => h9) rfl dX6_append_60 ?_
      obtain rfl := Option.some.inj hf
      exact kr_i hx hb hr hlocks rfl (hP.sub (ws' := [(a_0, mv a_text a_now a_trial a_diary a_kept a_isKept a_seen a_equations a_wanted (m_refusal r_1.2, ((m_size r_1.2) + 1), m_acts r_1.2, m_rank r_1.2, m_spot r_1.2, m_out r_1.2)), (a_text, av_I cy 120 (upd c_g_text (m_size r_1.2).toNatClampNeg y1))]) [1, 0] rfl) hK (hD.sub (ws' := [(a_0, mv a_text a_now a_trial a_diary a_kept a_isKept a_seen a_equations a_wanted (m_refusal r_1.2, ((m_size r_1.2) + 1), m_acts r_1.2, m_rank r_1.2, m_spot r_1.2, m_out r_1.2)), (a_text, av_I cy 120 (upd c_g_text (m_size r_1.2).toNatClampNeg y1))]) [1, 0] rfl rfl) hN hS hS.2.2 dX6_append_63
    · have hf := ip_ (bI_n0 h_2) hf
      refine lv_iconst (v := 0) hx hb dX6_append_37 (by decide) ?_
      obtain rfl := Option.some.inj hf
      exact kr_i hx hb hr hlocks rfl (hP.sub (ws' := [(a_0, mv a_text a_now a_trial a_diary a_kept a_isKept a_seen a_equations a_wanted r_1.2), (a_text, av_I cy 120 c_g_text)]) [1, 0] rfl) hK (hD.sub (ws' := [(a_0, mv a_text a_now a_trial a_diary a_kept a_isKept a_seen a_equations a_wanted r_1.2), (a_text, av_I cy 120 c_g_text)]) [1, 0] rfl rfl) hN hS hS.2.2 dX6_append_38
  have hl := lv_entry [.ref a_0, .int x1] (n := 2) (Nat.le_of_ble_eq_true rfl)
  rw [lg_entry_eq]
  generalize (lg_sl [.ref a_0, .int x1] ++ List.replicate (2 - (lg_sl [.ref a_0, .int x1]).length) Slot.unset).toArray = ls at hl ⊢
  have hl : lv_has ls 2 [(0, .ref a_0), (1, .int x1)] := hl
  unfold f_X6_append at hf
  refine lv_aload_n hx hb dX6_append_0 rfl (lv_at hl 0 rfl) ?_
  refine lv_iload_n hx hb dX6_append_1 rfl (lv_at hl 1 rfl) ?_
  refine lv_i2l (v := x1.toInt64) hx hb dX6_append_2 rfl ?_
  refine lv_lconst (v := 0) hx hb dX6_append_3 rfl ?_
  refine lv_ldc2 (v := 255) hx hb hown (hts (.constantLong RX6 122 (255)) (by decide +kernel)) dX6_append_4 ?_
  refine kc_i (w1 := []) (wr := [(a_0, mv a_text a_now a_trial a_diary a_kept a_isKept a_seen a_equations a_wanted s_0), (a_text, av_I cy 120 g_text)]) hP hD hS hA [] [0, 1] rfl rfl rfl (by decide) (va_runS (As := [.long x1.toInt64, .long 0, .long 255]) (rest := [.ref a_0]) ⟨hx, hb, hml, hown, hts⟩ (c_X6_in (l := l) G cy  s.heap.size x1.toInt64 0 255  (f_X6_in x1.toInt64 0 255) rfl) (va_cwS 3 hts gX6_append_X6_in rfl rfl rfl ddN_X6_in ⟨Nat.le_of_ble_eq_true rfl, Nat.le_of_ble_eq_true rfl⟩) (preS_ (hP.sub (ws' := []) [] rfl) hK (hD.sub (ws' := []) [] rfl rfl) hN) rfl rfl hl.1 rfl (lv_room (Nat.le_of_ble_eq_true rfl)) dX6_append_7 ⟨Nat.le_of_ble_eq_true rfl, Nat.le_of_ble_eq_true rfl⟩) (fun H locs hP hD hS => ?_)
  have hP : va_P G vwCl [(a_0, mv a_text a_now a_trial a_diary a_kept a_isKept a_seen a_equations a_wanted s_0), (a_text, av_I cy 120 g_text)] H := hP
  have hD : va_D A [(a_0, mv a_text a_now a_trial a_diary a_kept a_isKept a_seen a_equations a_wanted s_0), (a_text, av_I cy 120 g_text)] := hD
  refine lv_if_ne (tgt := 17) hx hb dX6_append_10 (by decide) (fun h_4 => ?_) (fun h_4 => ?_)
  · have hf := ip_ (bI_n0 h_4) hf
    refine lv_aload_n hx hb dX6_append_17 rfl (lv_at hl 0 rfl) ?_
    refine va_get (D := G) (ci := 6) (v := .int (m_size s_0)) (C := RX6) (T := TX6) (N := 15) hx hb hts iw_X6_append_X6 hown hK hP 0 rfl rfl 2 (by decide) (hts (.fieldLink RX6 124 "PaneFrostModel" "size" "I") (by decide +kernel)) (fun _ h9 => h9) rfl dX6_append_18 ?_
    refine lv_bipush (v := 120) hx hb dX6_append_21 (by decide) ?_
    refine lv_icmp_ne (tgt := 30) hx hb dX6_append_23 (by decide) (fun h_5 => ?_) (fun h_5 => ?_)
    · have hf := in_ h_5 hf
      refine lv_iconst (v := 0) hx hb dX6_append_30 (by decide) ?_
      exact bl_31  s_0 g_text x1 0 _ _ hf hP hD hS ls (lv_sub hl [0, 1] rfl)
    · have hf := ip_ h_5 hf
      refine lv_iconst (v := 2) hx hb dX6_append_26 (by decide) ?_
      refine lv_goto (tgt := 31) hx hb dX6_append_27 (by decide) ?_
      exact bl_31  s_0 g_text x1 2 _ _ hf hP hD hS ls (lv_sub hl [0, 1] rfl)
  · have hf := in_ (bI_0 h_4) hf
    refine lv_iconst (v := 1) hx hb dX6_append_13 (by decide) ?_
    refine lv_goto (tgt := 31) hx hb dX6_append_14 (by decide) ?_
    exact bl_31  s_0 g_text x1 1 _ _ hf hP hD hS ls (lv_sub hl [0, 1] rfl)
set_option maxHeartbeats 4000000 in
set_option maxRecDepth 100000 in
theorem c_X6_clearText {l : Launch} (G : va_G) (cy : Nat → ClassId) (a_0 : Nat) (a_text : Nat) (a_now : Nat) (a_trial : Nat) (a_diary : Nat) (a_kept : Nat) (a_isKept : Nat) (a_seen : Nat) (a_equations : Nat) (a_wanted : Nat) (sz : Nat) (s_0 : MT)  (R : Int32 × MT) (hf : f_X6_clearText s_0 = R) : Met l yX6_clearText wsX6_clearText ({ frames := 0, cells := 0, slots := 0, locals := 0 } : Room) (va_Pc [.ref a_0] (pcW G cy [(a_0, mv a_text a_now a_trial a_diary a_kept a_isKept a_seen a_equations a_wanted s_0)] sz)) (va_Qi (fun r (_ : Unit) => r = R.1) (fun _ t => Wd G cy (va_A [(a_0, mv a_text a_now a_trial a_diary a_kept a_isKept a_seen a_equations a_wanted s_0)] sz) [(a_0, mv a_text a_now a_trial a_diary a_kept a_isKept a_seen a_equations a_wanted R.2)] t) (va_A [(a_0, mv a_text a_now a_trial a_diary a_kept a_isKept a_seen a_equations a_wanted s_0)] sz)) 0 0 (va_A [(a_0, mv a_text a_now a_trial a_diary a_kept a_isKept a_seen a_equations a_wanted s_0)] sz) := by
  refine Met.ofW (cc := cX6_clearText) (maxL := 2) (ret := (some .int)) (by decide) rfl ?_
  intro p e s m args below meth c s₁ B hml hv
  obtain ⟨rfl, hsz, hP, hK, hD0, hN⟩ := hv
  have hx := B.exec
  have hb := B.bytes
  have hr := B.returns
  have hts := atoms_spec (ws := wsX6_clearText) B.pre
  have hown : s.vm.findClass RX6 = some m.cls := findClass_of_methodNamed B.named
  have hlocks := B.notSynchronized
  subst hsz
  have hD := hD0.self (sz := s.heap.size)
  generalize hAe : va_A [(a_0, mv a_text a_now a_trial a_diary a_kept a_isKept a_seen a_equations a_wanted s_0)] s.heap.size = A at hD ⊢
  have hA : ∀ q : Nat, s.heap.size ≤ q → A q := fun q h => by rw [← hAe]; exact Or.inr h
  have hS : va_S A s.heap s.heap [] := va_S.rf
  have hP : va_P G vwCl [(a_0, mv a_text a_now a_trial a_diary a_kept a_isKept a_seen a_equations a_wanted s_0)] s.heap := hP
  have hl := lv_entry [.ref a_0] (n := 2) (Nat.le_of_ble_eq_true rfl)
  rw [lg_entry_eq]
  generalize (lg_sl [.ref a_0] ++ List.replicate (2 - (lg_sl [.ref a_0]).length) Slot.unset).toArray = ls at hl ⊢
  have hl : lv_has ls 2 [(0, .ref a_0)] := hl
  unfold f_X6_clearText at hf
  refine lv_aload_n hx hb dX6_clearText_0 rfl (lv_at hl 0 rfl) ?_
  refine lv_iconst (v := 0) hx hb dX6_clearText_1 (by decide) ?_
  refine va_put (D := G) (ci := 6) (v := .int 0) (ty := .int) (C := RX6) (T := TX6) (N := 15) hx hb hts iw_X6_clearText_X6 tyX6 tyX6_ok nmX6 hown hK hP hD hS 0 rfl rfl 0 (by decide) (hts (.fieldLink RX6 43 "PaneFrostModel" "refusal" "I") (by decide +kernel)) (fun _ h9 => h9) rfl (by decide +kernel) rfl rfl (Nat.le_of_ble_eq_true rfl) dX6_clearText_2 (fun H locs hP hD hS => ?_)
  have hP : va_P G vwCl [(a_0, mv a_text a_now a_trial a_diary a_kept a_isKept a_seen a_equations a_wanted (0, m_size s_0, m_acts s_0, m_rank s_0, m_spot s_0, m_out s_0))] H := hP
  have hD : va_D A [(a_0, mv a_text a_now a_trial a_diary a_kept a_isKept a_seen a_equations a_wanted (0, m_size s_0, m_acts s_0, m_rank s_0, m_spot s_0, m_out s_0))] := hD
  refine lv_aload_n hx hb dX6_clearText_5 rfl (lv_at hl 0 rfl) ?_
  refine va_get (D := G) (ci := 6) (v := .int (m_size s_0)) (C := RX6) (T := TX6) (N := 15) hx hb hts iw_X6_clearText_X6 hown hK hP 0 rfl rfl 2 (by decide) (hts (.fieldLink RX6 124 "PaneFrostModel" "size" "I") (by decide +kernel)) (fun _ h9 => h9) rfl dX6_clearText_6 ?_
  refine lv_istore_n (lv' := [(1, .int (m_size s_0)), (0, .ref a_0)]) hx hb dX6_clearText_9 rfl hl (by decide) rfl (fun ls hl => ?_)
  refine lv_aload_n hx hb dX6_clearText_10 rfl (lv_at hl 1 rfl) ?_
  refine lv_iconst (v := 0) hx hb dX6_clearText_11 (by decide) ?_
  refine va_put (D := G) (ci := 6) (v := .int 0) (ty := .int) (C := RX6) (T := TX6) (N := 15) hx hb hts iw_X6_clearText_X6 tyX6 tyX6_ok nmX6 hown hK hP hD hS 0 rfl rfl 2 (by decide) (hts (.fieldLink RX6 124 "PaneFrostModel" "size" "I") (by decide +kernel)) (fun _ h9 => h9) rfl (by decide +kernel) rfl rfl (Nat.le_of_ble_eq_true rfl) dX6_clearText_12 (fun H locs hP hD hS => ?_)
  have hP : va_P G vwCl [(a_0, mv a_text a_now a_trial a_diary a_kept a_isKept a_seen a_equations a_wanted (0, 0, m_acts s_0, m_rank s_0, m_spot s_0, m_out s_0))] H := hP
  have hD : va_D A [(a_0, mv a_text a_now a_trial a_diary a_kept a_isKept a_seen a_equations a_wanted (0, 0, m_acts s_0, m_rank s_0, m_spot s_0, m_out s_0))] := hD
  refine lv_iload_n hx hb dX6_clearText_15 rfl (lv_at hl 0 rfl) ?_
  subst hf
  exact kr_i hx hb hr hlocks rfl hP hK hD hN hS hS.2.2 dX6_clearText_16
set_option maxHeartbeats 4000000 in
set_option maxRecDepth 100000 in
theorem c_X6_figures {l : Launch} (G : va_G) (cy : Nat → ClassId) (a_0 : Nat) (a_text : Nat) (a_now : Nat) (a_trial : Nat) (a_diary : Nat) (a_kept : Nat) (a_isKept : Nat) (a_seen : Nat) (a_equations : Nat) (a_wanted : Nat) (sz : Nat) (s_0 : MT) (g_text : Nat → Int32) (x1 : Int32) (x2 : Int32) (x3 : Int32) (x4 : Int32) (n : Nat) (R : Int32 × MT) (hf : f_X6_figures n s_0 g_text x1 x2 x3 x4 = some R) : Met l yX6_figures wsX6_figures ({ frames := 1, cells := 0, slots := 0, locals := 25 } : Room) (va_Pc [.ref a_0, .int x1, .int x2, .int x3, .int x4] (pcW G cy [(a_0, mv a_text a_now a_trial a_diary a_kept a_isKept a_seen a_equations a_wanted s_0), (a_text, av_I cy 120 g_text)] sz)) (va_Qi (fun r (_ : Unit) => r = R.1) (fun _ t => Wd G cy (va_A [(a_0, mv a_text a_now a_trial a_diary a_kept a_isKept a_seen a_equations a_wanted s_0), (a_text, av_I cy 120 g_text)] sz) [(a_0, mv a_text a_now a_trial a_diary a_kept a_isKept a_seen a_equations a_wanted R.2), (a_text, av_I cy 120 g_text)] t) (va_A [(a_0, mv a_text a_now a_trial a_diary a_kept a_isKept a_seen a_equations a_wanted s_0), (a_text, av_I cy 120 g_text)] sz)) 0 0 (va_A [(a_0, mv a_text a_now a_trial a_diary a_kept a_isKept a_seen a_equations a_wanted s_0), (a_text, av_I cy 120 g_text)] sz) := by
  refine Met.ofW (cc := cX6_figures) (maxL := 9) (ret := (some .int)) (by decide) rfl ?_
  intro p e s m args below meth c s₁ B hml hv
  obtain ⟨rfl, hsz, hP, hK, hD0, hN⟩ := hv
  have hx := B.exec
  have hb := B.bytes
  have hr := B.returns
  have hts := atoms_spec (ws := wsX6_figures) B.pre
  have hown : s.vm.findClass RX6 = some m.cls := findClass_of_methodNamed B.named
  have hlocks := B.notSynchronized
  subst hsz
  have hD := hD0.self (sz := s.heap.size)
  generalize hAe : va_A [(a_0, mv a_text a_now a_trial a_diary a_kept a_isKept a_seen a_equations a_wanted s_0), (a_text, av_I cy 120 g_text)] s.heap.size = A at hD ⊢
  have hA : ∀ q : Nat, s.heap.size ≤ q → A q := fun q h => by rw [← hAe]; exact Or.inr h
  have hS : va_S A s.heap s.heap [] := va_S.rf
  have hP : va_P G vwCl [(a_0, mv a_text a_now a_trial a_diary a_kept a_isKept a_seen a_equations a_wanted s_0), (a_text, av_I cy 120 g_text)] s.heap := hP
  have bl_53 : ∀ (y1 : Int32), ∀ (y3 : Int32), ∀ (y4 : Int32), ∀ (K16 : MT → Int32 → Int32 → Option (Int32 × MT)), (∀ (c_s_0 : MT) (y5 : Int32) (y6 : Int32) (H : Heap) (locs : List Loc), K16 c_s_0 y5 y6 = some R → va_P G vwCl [(a_0, mv a_text a_now a_trial a_diary a_kept a_isKept a_seen a_equations a_wanted c_s_0), (a_text, av_I cy 120 g_text)] H → va_D A [(a_0, mv a_text a_now a_trial a_diary a_kept a_isKept a_seen a_equations a_wanted c_s_0), (a_text, av_I cy 120 g_text)] → va_S A s.heap H locs → ∀ (ls : Array Slot), lv_has ls 9 [(0, .ref a_0), (1, .int y1), (3, .int y3), (4, .int y4), (5, .int y5), (6, .int y6)] → W p l e ({ frames := 1, cells := 0, slots := 0, locals := 25 } : Room) s m [.ref a_0, .int x1, .int x2, .int x3, .int x4].toArray below meth c H locs 0 0 (MQ below (va_Qi (fun r (_ : Unit) => r = R.1) (fun _ t => Wd G cy A [(a_0, mv a_text a_now a_trial a_diary a_kept a_isKept a_seen a_equations a_wanted R.2), (a_text, av_I cy 120 g_text)] t) A) [.ref a_0, .int x1, .int x2, .int x3, .int x4].toArray s 0 0 A) (F0 m 16 ls [])) → ∀ (c_s_0 : MT) (y5 : Int32) (y6 : Int32) (z0 : Int32) (H : Heap) (locs : List Loc), f_X6_figures_b53 n g_text y1 y3 y4 K16 c_s_0 y5 y6 z0 = some R → va_P G vwCl [(a_0, mv a_text a_now a_trial a_diary a_kept a_isKept a_seen a_equations a_wanted c_s_0), (a_text, av_I cy 120 g_text)] H → va_D A [(a_0, mv a_text a_now a_trial a_diary a_kept a_isKept a_seen a_equations a_wanted c_s_0), (a_text, av_I cy 120 g_text)] → va_S A s.heap H locs → ∀ (ls : Array Slot), lv_has ls 9 [(0, .ref a_0), (1, .int y1), (3, .int y3), (4, .int y4), (5, .int y5), (6, .int y6)] → W p l e ({ frames := 1, cells := 0, slots := 0, locals := 25 } : Room) s m [.ref a_0, .int x1, .int x2, .int x3, .int x4].toArray below meth c H locs 0 0 (MQ below (va_Qi (fun r (_ : Unit) => r = R.1) (fun _ t => Wd G cy A [(a_0, mv a_text a_now a_trial a_diary a_kept a_isKept a_seen a_equations a_wanted R.2), (a_text, av_I cy 120 g_text)] t) A) [.ref a_0, .int x1, .int x2, .int x3, .int x4].toArray s 0 0 A) (F0 m 53 ls [.int z0]) := by
    intro y1
    intro y3
    intro y4
    intro K16 hK16
    intro c_s_0 y5 y6 z0 H locs hf hP hD hS ls hl
    unfold f_X6_figures_b53 at hf
    refine lv_istore (lv' := [(7, .int z0), (0, .ref a_0), (1, .int y1), (3, .int y3), (4, .int y4), (5, .int y5), (6, .int y6)]) hx hb dX6_figures_53 hl (by decide) rfl (fun ls hl => ?_)
    refine lv_iload hx hb dX6_figures_55 (lv_at hl 5 rfl) ?_
    refine lv_iload hx hb dX6_figures_57 (lv_at hl 0 rfl) ?_
    refine lv_iload hx hb dX6_figures_59 (lv_at hl 6 rfl) ?_
    refine lv_imul hx hb dX6_figures_61 ?_
    refine lv_iadd hx hb dX6_figures_62 ?_
    refine lv_istore (lv' := [(8, .int (y5 + (z0 * y6))), (7, .int z0), (0, .ref a_0), (1, .int y1), (3, .int y3), (4, .int y4), (5, .int y5), (6, .int y6)]) hx hb dX6_figures_63 hl (by decide) rfl (fun ls hl => ?_)
    refine lv_iload hx hb dX6_figures_65 (lv_at hl 1 rfl) ?_
    refine lv_i2l (v := z0.toInt64) hx hb dX6_figures_67 rfl ?_
    refine lv_lconst (v := 0) hx hb dX6_figures_68 rfl ?_
    refine lv_ldc2 (v := 9) hx hb hown (hts (.constantLong RX6 133 (9)) (by decide +kernel)) dX6_figures_69 ?_
    refine kc_i (w1 := []) (wr := [(a_0, mv a_text a_now a_trial a_diary a_kept a_isKept a_seen a_equations a_wanted c_s_0), (a_text, av_I cy 120 g_text)]) hP hD hS hA [] [0, 1] rfl rfl rfl (by decide) (va_runS (As := [.long z0.toInt64, .long 0, .long 9]) (rest := []) ⟨hx, hb, hml, hown, hts⟩ (c_X6_in (l := l) G cy  H.size z0.toInt64 0 9  (f_X6_in z0.toInt64 0 9) rfl) (va_cwS 3 hts gX6_figures_X6_in rfl rfl rfl ddN_X6_in ⟨Nat.le_of_ble_eq_true rfl, Nat.le_of_ble_eq_true rfl⟩) (preS_ (hP.sub (ws' := []) [] rfl) hK (hD.sub (ws' := []) [] rfl rfl) hN) rfl rfl hl.1 rfl (lv_room (Nat.le_of_ble_eq_true rfl)) dX6_figures_72 ⟨Nat.le_of_ble_eq_true rfl, Nat.le_of_ble_eq_true rfl⟩) (fun H locs hP hD hS => ?_)
    have hP : va_P G vwCl [(a_0, mv a_text a_now a_trial a_diary a_kept a_isKept a_seen a_equations a_wanted c_s_0), (a_text, av_I cy 120 g_text)] H := hP
    have hD : va_D A [(a_0, mv a_text a_now a_trial a_diary a_kept a_isKept a_seen a_equations a_wanted c_s_0), (a_text, av_I cy 120 g_text)] := hD
    refine lv_if_eq (tgt := 96) hx hb dX6_figures_75 (by decide) (fun h_1 => ?_) (fun h_1 => ?_)
    · have hf := in_ (bI_0 h_1) hf
      refine lv_iconst (v := (-1)) hx hb dX6_figures_96 (by decide) ?_
      obtain rfl := Option.some.inj hf
      exact kr_i hx hb hr hlocks rfl hP hK hD hN hS hS.2.2 dX6_figures_97
    · have hf := ip_ (bI_n0 h_1) hf
      refine lv_iload hx hb dX6_figures_78 (lv_at hl 0 rfl) ?_
      refine lv_iload hx hb dX6_figures_80 (lv_at hl 5 rfl) ?_
      refine lv_icmp_gt (tgt := 96) hx hb dX6_figures_82 (by decide) (fun h_2 => ?_) (fun h_2 => ?_)
      · have hf := ip_ h_2 hf
        refine lv_iconst (v := (-1)) hx hb dX6_figures_96 (by decide) ?_
        obtain rfl := Option.some.inj hf
        exact kr_i hx hb hr hlocks rfl hP hK hD hN hS hS.2.2 dX6_figures_97
      · have hf := in_ h_2 hf
        refine lv_iload hx hb dX6_figures_85 (lv_at hl 0 rfl) ?_
        refine lv_iload hx hb dX6_figures_87 (lv_at hl 7 rfl) ?_
        refine lv_iadd hx hb dX6_figures_89 ?_
        refine lv_iconst (v := 1) hx hb dX6_figures_90 (by decide) ?_
        refine lv_isub hx hb dX6_figures_91 ?_
        refine lv_iload_n hx hb dX6_figures_92 rfl (lv_at hl 4 rfl) ?_
        refine lv_icmp_ge (tgt := 98) hx hb dX6_figures_93 (by decide) (fun h_3 => ?_) (fun h_3 => ?_)
        · have hf := ip_ h_3 hf
          refine lv_iload hx hb dX6_figures_98 (lv_at hl 0 rfl) ?_
          refine lv_istore (lv' := [(5, .int (y5 + (z0 * y6))), (8, .int (y5 + (z0 * y6))), (7, .int z0), (0, .ref a_0), (1, .int y1), (3, .int y3), (4, .int y4), (6, .int y6)]) hx hb dX6_figures_100 hl (by decide) rfl (fun ls hl => ?_)
          refine lv_aload_n hx hb dX6_figures_102 rfl (lv_at hl 3 rfl) ?_
          refine lv_dup hx hb dX6_figures_103 rfl ?_
          refine va_get (D := G) (ci := 6) (v := .int (m_spot c_s_0)) (C := RX6) (T := TX6) (N := 15) hx hb hts iw_X6_figures_X6 hown hK hP 0 rfl rfl 13 (by decide) (hts (.fieldLink RX6 130 "PaneFrostModel" "spot" "I") (by decide +kernel)) (fun _ h9 => h9) rfl dX6_figures_104 ?_
          refine lv_iconst (v := 1) hx hb dX6_figures_107 (by decide) ?_
          refine lv_iadd hx hb dX6_figures_108 ?_
          refine va_put (D := G) (ci := 6) (v := .int ((m_spot c_s_0) + 1)) (ty := .int) (C := RX6) (T := TX6) (N := 15) hx hb hts iw_X6_figures_X6 tyX6 tyX6_ok nmX6 hown hK hP hD hS 0 rfl rfl 13 (by decide) (hts (.fieldLink RX6 130 "PaneFrostModel" "spot" "I") (by decide +kernel)) (fun _ h9 => h9) rfl (by decide +kernel) rfl rfl (Nat.le_of_ble_eq_true rfl) dX6_figures_109 (fun H locs hP hD hS => ?_)
          have hP : va_P G vwCl [(a_0, mv a_text a_now a_trial a_diary a_kept a_isKept a_seen a_equations a_wanted (m_refusal c_s_0, m_size c_s_0, m_acts c_s_0, m_rank c_s_0, ((m_spot c_s_0) + 1), m_out c_s_0)), (a_text, av_I cy 120 g_text)] H := hP
          have hD : va_D A [(a_0, mv a_text a_now a_trial a_diary a_kept a_isKept a_seen a_equations a_wanted (m_refusal c_s_0, m_size c_s_0, m_acts c_s_0, m_rank c_s_0, ((m_spot c_s_0) + 1), m_out c_s_0)), (a_text, av_I cy 120 g_text)] := hD
          refine lv_iload hx hb dX6_figures_112 (lv_at hl 7 rfl) ?_
          refine lv_bipush (v := 10) hx hb dX6_figures_114 (by decide) ?_
          refine lv_idiv hx hb dX6_figures_116 (by decide) ?_
          refine lv_istore (lv' := [(6, .int (y6 / 10)), (5, .int (y5 + (z0 * y6))), (8, .int (y5 + (z0 * y6))), (7, .int z0), (0, .ref a_0), (1, .int y1), (3, .int y3), (4, .int y4)]) hx hb dX6_figures_117 hl (by decide) rfl (fun ls hl => ?_)
          refine lv_goto (tgt := 16) hx hb dX6_figures_119 (by decide) ?_
          exact hK16 (m_refusal c_s_0, m_size c_s_0, m_acts c_s_0, m_rank c_s_0, ((m_spot c_s_0) + 1), m_out c_s_0) (y5 + (z0 * y6)) (y6 / 10) _ _ hf hP hD hS ls (lv_sub hl [4, 5, 6, 7, 1, 0] rfl)
        · have hf := in_ h_3 hf
          refine lv_iconst (v := (-1)) hx hb dX6_figures_96 (by decide) ?_
          obtain rfl := Option.some.inj hf
          exact kr_i hx hb hr hlocks rfl hP hK hD hN hS hS.2.2 dX6_figures_97
  have bl_16 : ∀ (y1 : Int32), ∀ (y3 : Int32), ∀ (y4 : Int32), ∀ (k : Nat), ∀ (c_s_0 : MT) (y5 : Int32) (y6 : Int32) (H : Heap) (locs : List Loc), f_X6_figures_b16 n g_text y1 y3 y4 k c_s_0 y5 y6 = some R → va_P G vwCl [(a_0, mv a_text a_now a_trial a_diary a_kept a_isKept a_seen a_equations a_wanted c_s_0), (a_text, av_I cy 120 g_text)] H → va_D A [(a_0, mv a_text a_now a_trial a_diary a_kept a_isKept a_seen a_equations a_wanted c_s_0), (a_text, av_I cy 120 g_text)] → va_S A s.heap H locs → ∀ (ls : Array Slot), lv_has ls 9 [(0, .ref a_0), (1, .int y1), (3, .int y3), (4, .int y4), (5, .int y5), (6, .int y6)] → W p l e ({ frames := 1, cells := 0, slots := 0, locals := 25 } : Room) s m [.ref a_0, .int x1, .int x2, .int x3, .int x4].toArray below meth c H locs 0 0 (MQ below (va_Qi (fun r (_ : Unit) => r = R.1) (fun _ t => Wd G cy A [(a_0, mv a_text a_now a_trial a_diary a_kept a_isKept a_seen a_equations a_wanted R.2), (a_text, av_I cy 120 g_text)] t) A) [.ref a_0, .int x1, .int x2, .int x3, .int x4].toArray s 0 0 A) (F0 m 16 ls []) := by
    intro y1
    intro y3
    intro y4
    intro k
    induction k with
    | zero =>
      intro c_s_0 y5 y6 H locs hf; cases hf
    | succ k ih =>
      intro c_s_0 y5 y6 H locs hf hP hD hS ls hl
      have hf := (f_X6_figures_b16_s n g_text y1 y3 y4 k c_s_0 y5 y6).symm.trans hf
      refine lv_iload hx hb dX6_figures_16 (lv_at hl 5 rfl) ?_
      refine lv_if_le (tgt := 122) hx hb dX6_figures_18 (by decide) (fun h_4 => ?_) (fun h_4 => ?_)
      · have hf := ip_ h_4 hf
        refine lv_iload_n hx hb dX6_figures_122 rfl (lv_at hl 1 rfl) ?_
        refine lv_iconst (v := (-1)) hx hb dX6_figures_123 (by decide) ?_
        refine lv_icmp_ne (tgt := 131) hx hb dX6_figures_124 (by decide) (fun h_5 => ?_) (fun h_5 => ?_)
        · have hf := in_ h_5 hf
          refine lv_iload hx hb dX6_figures_131 (lv_at hl 4 rfl) ?_
          obtain rfl := Option.some.inj hf
          exact kr_i hx hb hr hlocks rfl hP hK hD hN hS hS.2.2 dX6_figures_133
        · have hf := ip_ h_5 hf
          refine lv_iconst (v := (-1)) hx hb dX6_figures_127 (by decide) ?_
          refine lv_goto (tgt := 133) hx hb dX6_figures_128 (by decide) ?_
          obtain rfl := Option.some.inj hf
          exact kr_i hx hb hr hlocks rfl hP hK hD hN hS hS.2.2 dX6_figures_133
      · have hf := in_ h_4 hf
        refine lv_iload_n hx hb dX6_figures_21 rfl (lv_at hl 1 rfl) ?_
        refine lv_iconst (v := (-1)) hx hb dX6_figures_22 (by decide) ?_
        refine lv_icmp_eq (tgt := 122) hx hb dX6_figures_23 (by decide) (fun h_6 => ?_) (fun h_6 => ?_)
        · have hf := ip_ h_6 hf
          refine lv_iload_n hx hb dX6_figures_122 rfl (lv_at hl 1 rfl) ?_
          refine lv_iconst (v := (-1)) hx hb dX6_figures_123 (by decide) ?_
          refine lv_icmp_ne (tgt := 131) hx hb dX6_figures_124 (by decide) (fun h_7 => ?_) (fun h_7 => ?_)
          · have hf := in_ h_7 hf
            refine lv_iload hx hb dX6_figures_131 (lv_at hl 4 rfl) ?_
            obtain rfl := Option.some.inj hf
            exact kr_i hx hb hr hlocks rfl hP hK hD hN hS hS.2.2 dX6_figures_133
          · have hf := ip_ h_7 hf
            refine lv_iconst (v := (-1)) hx hb dX6_figures_127 (by decide) ?_
            refine lv_goto (tgt := 133) hx hb dX6_figures_128 (by decide) ?_
            obtain rfl := Option.some.inj hf
            exact kr_i hx hb hr hlocks rfl hP hK hD hN hS hS.2.2 dX6_figures_133
        · have hf := in_ h_6 hf
          refine lv_aload_n hx hb dX6_figures_26 rfl (lv_at hl 0 rfl) ?_
          refine va_get (D := G) (ci := 6) (v := .int (m_spot c_s_0)) (C := RX6) (T := TX6) (N := 15) hx hb hts iw_X6_figures_X6 hown hK hP 0 rfl rfl 13 (by decide) (hts (.fieldLink RX6 130 "PaneFrostModel" "spot" "I") (by decide +kernel)) (fun _ h9 => h9) rfl dX6_figures_27 ?_
          refine lv_aload_n hx hb dX6_figures_30 rfl (lv_at hl 0 rfl) ?_
          refine va_get (D := G) (ci := 6) (v := .int (m_size c_s_0)) (C := RX6) (T := TX6) (N := 15) hx hb hts iw_X6_figures_X6 hown hK hP 0 rfl rfl 2 (by decide) (hts (.fieldLink RX6 124 "PaneFrostModel" "size" "I") (by decide +kernel)) (fun _ h9 => h9) rfl dX6_figures_31 ?_
          refine lv_icmp_ge (tgt := 52) hx hb dX6_figures_34 (by decide) (fun h_8 => ?_) (fun h_8 => ?_)
          · have hf := ip_ h_8 hf
            refine lv_iconst (v := (-1)) hx hb dX6_figures_52 (by decide) ?_
            exact bl_53 y1 y3 y4 (f_X6_figures_b16 n g_text y1 y3 y4 k) ih c_s_0 y5 y6 (-1) _ _ hf hP hD hS ls (lv_sub hl [0, 1, 2, 3, 4, 5] rfl)
          · have hf := in_ h_8 hf
            refine lv_aload_n hx hb dX6_figures_37 rfl (lv_at hl 0 rfl) ?_
            refine va_get (D := G) (ci := 6) (v := .ref a_text) (C := RX6) (T := TX6) (N := 15) hx hb hts iw_X6_figures_X6 hown hK hP 0 rfl rfl 1 (by decide) (hts (.fieldLink RX6 7 "PaneFrostModel" "text" "[I") (by decide +kernel)) (fun _ h9 => h9) rfl dX6_figures_38 ?_
            refine lv_aload_n hx hb dX6_figures_41 rfl (lv_at hl 0 rfl) ?_
            refine va_get (D := G) (ci := 6) (v := .int (m_spot c_s_0)) (C := RX6) (T := TX6) (N := 15) hx hb hts iw_X6_figures_X6 hown hK hP 0 rfl rfl 13 (by decide) (hts (.fieldLink RX6 130 "PaneFrostModel" "spot" "I") (by decide +kernel)) (fun _ h9 => h9) rfl dX6_figures_42 ?_
            by_cases q_9 : (m_spot c_s_0) < 0 ∨ 120 ≤ (m_spot c_s_0).toNatClampNeg
            · have hf := ip_ q_9 hf; cases hf
            have hf := in_ q_9 hf
            refine vz_iald rfl hx hb hK hP 1 1 rfl rfl (vin q_9) dX6_figures_45 ?_
            refine lv_bipush (v := 48) hx hb dX6_figures_46 (by decide) ?_
            refine lv_isub hx hb dX6_figures_48 ?_
            refine lv_goto (tgt := 53) hx hb dX6_figures_49 (by decide) ?_
            exact bl_53 y1 y3 y4 (f_X6_figures_b16 n g_text y1 y3 y4 k) ih c_s_0 y5 y6 ((g_text (m_spot c_s_0).toNatClampNeg) - 48) _ _ hf hP hD hS ls (lv_sub hl [0, 1, 2, 3, 4, 5] rfl)
  have hl := lv_entry [.ref a_0, .int x1, .int x2, .int x3, .int x4] (n := 9) (Nat.le_of_ble_eq_true rfl)
  rw [lg_entry_eq]
  generalize (lg_sl [.ref a_0, .int x1, .int x2, .int x3, .int x4] ++ List.replicate (9 - (lg_sl [.ref a_0, .int x1, .int x2, .int x3, .int x4]).length) Slot.unset).toArray = ls at hl ⊢
  have hl : lv_has ls 9 [(0, .ref a_0), (1, .int x1), (2, .int x2), (3, .int x3), (4, .int x4)] := hl
  unfold f_X6_figures at hf
  refine lv_iconst (v := 0) hx hb dX6_figures_0 (by decide) ?_
  refine lv_istore (lv' := [(5, .int 0), (0, .ref a_0), (1, .int x1), (2, .int x2), (3, .int x3), (4, .int x4)]) hx hb dX6_figures_1 hl (by decide) rfl (fun ls hl => ?_)
  refine lv_iload_n hx hb dX6_figures_3 rfl (lv_at hl 3 rfl) ?_
  refine lv_iconst (v := 2) hx hb dX6_figures_4 (by decide) ?_
  refine lv_icmp_ne (tgt := 13) hx hb dX6_figures_5 (by decide) (fun h_10 => ?_) (fun h_10 => ?_)
  · have hf := in_ h_10 hf
    refine lv_iconst (v := 1) hx hb dX6_figures_13 (by decide) ?_
    refine lv_istore (lv' := [(6, .int 1), (5, .int 0), (0, .ref a_0), (1, .int x1), (2, .int x2), (3, .int x3), (4, .int x4)]) hx hb dX6_figures_14 hl (by decide) rfl (fun ls hl => ?_)
    exact bl_16 x1 x3 x4 n s_0 0 1 _ _ hf hP hD hS ls (lv_sub hl [2, 3, 5, 6, 1, 0] rfl)
  · have hf := ip_ h_10 hf
    refine lv_bipush (v := 10) hx hb dX6_figures_8 (by decide) ?_
    refine lv_goto (tgt := 14) hx hb dX6_figures_10 (by decide) ?_
    refine lv_istore (lv' := [(6, .int 10), (5, .int 0), (0, .ref a_0), (1, .int x1), (2, .int x2), (3, .int x3), (4, .int x4)]) hx hb dX6_figures_14 hl (by decide) rfl (fun ls hl => ?_)
    exact bl_16 x1 x3 x4 n s_0 0 10 _ _ hf hP hD hS ls (lv_sub hl [2, 3, 5, 6, 1, 0] rfl)
set_option maxHeartbeats 4000000 in
set_option maxRecDepth 100000 in
theorem c_X6_done {l : Launch} (G : va_G) (cy : Nat → ClassId) (a_0 : Nat) (a_text : Nat) (a_now : Nat) (a_trial : Nat) (a_diary : Nat) (a_kept : Nat) (a_isKept : Nat) (a_seen : Nat) (a_equations : Nat) (a_wanted : Nat) (sz : Nat) (s_0 : MT) (x1 : Bool)  (R : Bool × MT) (hf : f_X6_done s_0 x1 = R) : Met l yX6_done wsX6_done ({ frames := 0, cells := 0, slots := 0, locals := 0 } : Room) (va_Pc [.ref a_0, .int (bI x1)] (pcW G cy [(a_0, mv a_text a_now a_trial a_diary a_kept a_isKept a_seen a_equations a_wanted s_0)] sz)) (va_Qi (fun r (_ : Unit) => r = bI R.1) (fun _ t => Wd G cy (va_A [(a_0, mv a_text a_now a_trial a_diary a_kept a_isKept a_seen a_equations a_wanted s_0)] sz) [(a_0, mv a_text a_now a_trial a_diary a_kept a_isKept a_seen a_equations a_wanted R.2)] t) (va_A [(a_0, mv a_text a_now a_trial a_diary a_kept a_isKept a_seen a_equations a_wanted s_0)] sz)) 0 0 (va_A [(a_0, mv a_text a_now a_trial a_diary a_kept a_isKept a_seen a_equations a_wanted s_0)] sz) := by
  refine Met.ofW (cc := cX6_done) (maxL := 2) (ret := (some .boolean)) (by decide) rfl ?_
  intro p e s m args below meth c s₁ B hml hv
  obtain ⟨rfl, hsz, hP, hK, hD0, hN⟩ := hv
  have hx := B.exec
  have hb := B.bytes
  have hr := B.returns
  have hts := atoms_spec (ws := wsX6_done) B.pre
  have hown : s.vm.findClass RX6 = some m.cls := findClass_of_methodNamed B.named
  have hlocks := B.notSynchronized
  subst hsz
  have hD := hD0.self (sz := s.heap.size)
  generalize hAe : va_A [(a_0, mv a_text a_now a_trial a_diary a_kept a_isKept a_seen a_equations a_wanted s_0)] s.heap.size = A at hD ⊢
  have hA : ∀ q : Nat, s.heap.size ≤ q → A q := fun q h => by rw [← hAe]; exact Or.inr h
  have hS : va_S A s.heap s.heap [] := va_S.rf
  have hP : va_P G vwCl [(a_0, mv a_text a_now a_trial a_diary a_kept a_isKept a_seen a_equations a_wanted s_0)] s.heap := hP
  have hl := lv_entry [.ref a_0, .int (bI x1)] (n := 2) (Nat.le_of_ble_eq_true rfl)
  rw [lg_entry_eq]
  generalize (lg_sl [.ref a_0, .int (bI x1)] ++ List.replicate (2 - (lg_sl [.ref a_0, .int (bI x1)]).length) Slot.unset).toArray = ls at hl ⊢
  have hl : lv_has ls 2 [(0, .ref a_0), (1, .int (bI x1))] := hl
  unfold f_X6_done at hf
  refine lv_aload_n hx hb dX6_done_0 rfl (lv_at hl 0 rfl) ?_
  refine lv_dup hx hb dX6_done_1 rfl ?_
  refine va_get (D := G) (ci := 6) (v := .int (m_out s_0)) (C := RX6) (T := TX6) (N := 15) hx hb hts iw_X6_done_X6 hown hK hP 0 rfl rfl 14 (by decide) (hts (.fieldLink RX6 135 "PaneFrostModel" "out" "I") (by decide +kernel)) (fun _ h9 => h9) rfl dX6_done_2 ?_
  refine lv_iload_n hx hb dX6_done_5 rfl (lv_at hl 1 rfl) ?_
  refine lv_if_eq (tgt := 13) hx hb dX6_done_6 (by decide) (fun h_1 => ?_) (fun h_1 => ?_)
  · have hf := in_ (bI_0 h_1) hf
    refine lv_iconst (v := 1) hx hb dX6_done_13 (by decide) ?_
    refine lv_iadd hx hb dX6_done_14 ?_
    refine va_put (D := G) (ci := 6) (v := .int ((m_out s_0) + 1)) (ty := .int) (C := RX6) (T := TX6) (N := 15) hx hb hts iw_X6_done_X6 tyX6 tyX6_ok nmX6 hown hK hP hD hS 0 rfl rfl 14 (by decide) (hts (.fieldLink RX6 135 "PaneFrostModel" "out" "I") (by decide +kernel)) (fun _ h9 => h9) rfl (by decide +kernel) rfl rfl (Nat.le_of_ble_eq_true rfl) dX6_done_15 (fun H locs hP hD hS => ?_)
    have hP : va_P G vwCl [(a_0, mv a_text a_now a_trial a_diary a_kept a_isKept a_seen a_equations a_wanted (m_refusal s_0, m_size s_0, m_acts s_0, m_rank s_0, m_spot s_0, ((m_out s_0) + 1)))] H := hP
    have hD : va_D A [(a_0, mv a_text a_now a_trial a_diary a_kept a_isKept a_seen a_equations a_wanted (m_refusal s_0, m_size s_0, m_acts s_0, m_rank s_0, m_spot s_0, ((m_out s_0) + 1)))] := hD
    refine lv_iconst (v := 1) hx hb dX6_done_18 (by decide) ?_
    subst hf
    exact kr_z (V := bI true) hx hb hr hlocks (bI_nar _) rfl hP hK hD hN hS hS.2.2 dX6_done_19
  · have hf := ip_ (bI_n0 h_1) hf
    refine lv_iconst (v := 0) hx hb dX6_done_9 (by decide) ?_
    refine lv_goto (tgt := 14) hx hb dX6_done_10 (by decide) ?_
    refine lv_iadd hx hb dX6_done_14 ?_
    refine va_put (D := G) (ci := 6) (v := .int ((m_out s_0) + 0)) (ty := .int) (C := RX6) (T := TX6) (N := 15) hx hb hts iw_X6_done_X6 tyX6 tyX6_ok nmX6 hown hK hP hD hS 0 rfl rfl 14 (by decide) (hts (.fieldLink RX6 135 "PaneFrostModel" "out" "I") (by decide +kernel)) (fun _ h9 => h9) rfl (by decide +kernel) rfl rfl (Nat.le_of_ble_eq_true rfl) dX6_done_15 (fun H locs hP hD hS => ?_)
    have hP : va_P G vwCl [(a_0, mv a_text a_now a_trial a_diary a_kept a_isKept a_seen a_equations a_wanted (m_refusal s_0, m_size s_0, m_acts s_0, m_rank s_0, m_spot s_0, ((m_out s_0) + 0)))] H := hP
    have hD : va_D A [(a_0, mv a_text a_now a_trial a_diary a_kept a_isKept a_seen a_equations a_wanted (m_refusal s_0, m_size s_0, m_acts s_0, m_rank s_0, m_spot s_0, ((m_out s_0) + 0)))] := hD
    refine lv_iconst (v := 1) hx hb dX6_done_18 (by decide) ?_
    subst hf
    exact kr_z (V := bI true) hx hb hr hlocks (bI_nar _) rfl hP hK hD hN hS hS.2.2 dX6_done_19
set_option maxHeartbeats 4000000 in
set_option maxRecDepth 100000 in
theorem c_X6_readCommand {l : Launch} (G : va_G) (cy : Nat → ClassId) (a_0 : Nat) (a_text : Nat) (a_now : Nat) (a_trial : Nat) (a_diary : Nat) (a_kept : Nat) (a_isKept : Nat) (a_seen : Nat) (a_equations : Nat) (a_wanted : Nat) (a_r0 : Nat) (sz : Nat) (s_0 : MT) (g_text : Nat → Int32) (g_r0 : Nat → Int64) (n : Nat) (R : Bool × MT × (Nat → Int64)) (hf : f_X6_readCommand n s_0 g_text g_r0 = some R) : Met l yX6_readCommand wsX6_readCommand ({ frames := 8, cells := 0, slots := 0, locals := 188 } : Room) (va_Pc [.ref a_0, .ref a_r0] (pcW G cy [(a_0, mv a_text a_now a_trial a_diary a_kept a_isKept a_seen a_equations a_wanted s_0), (a_text, av_I cy 120 g_text), (a_r0, av_J cy 11 g_r0)] sz)) (va_Qi (fun r (_ : Unit) => r = bI R.1) (fun _ t => Wd G cy (va_A [(a_0, mv a_text a_now a_trial a_diary a_kept a_isKept a_seen a_equations a_wanted s_0), (a_text, av_I cy 120 g_text), (a_r0, av_J cy 11 g_r0)] sz) [(a_0, mv a_text a_now a_trial a_diary a_kept a_isKept a_seen a_equations a_wanted R.2.1), (a_text, av_I cy 120 g_text), (a_r0, av_J cy 11 R.2.2)] t) (va_A [(a_0, mv a_text a_now a_trial a_diary a_kept a_isKept a_seen a_equations a_wanted s_0), (a_text, av_I cy 120 g_text), (a_r0, av_J cy 11 g_r0)] sz)) 0 0 (va_A [(a_0, mv a_text a_now a_trial a_diary a_kept a_isKept a_seen a_equations a_wanted s_0), (a_text, av_I cy 120 g_text), (a_r0, av_J cy 11 g_r0)] sz) := by
  refine Met.ofW (cc := cX6_readCommand) (maxL := 5) (ret := (some .boolean)) (by decide) rfl ?_
  intro p e s m args below meth c s₁ B hml hv
  obtain ⟨rfl, hsz, hP, hK, hD0, hN⟩ := hv
  have hx := B.exec
  have hb := B.bytes
  have hr := B.returns
  have hts := atoms_spec (ws := wsX6_readCommand) B.pre
  have hown : s.vm.findClass RX6 = some m.cls := findClass_of_methodNamed B.named
  have hlocks := B.notSynchronized
  subst hsz
  have hD := hD0.self (sz := s.heap.size)
  generalize hAe : va_A [(a_0, mv a_text a_now a_trial a_diary a_kept a_isKept a_seen a_equations a_wanted s_0), (a_text, av_I cy 120 g_text), (a_r0, av_J cy 11 g_r0)] s.heap.size = A at hD ⊢
  have hA : ∀ q : Nat, s.heap.size ≤ q → A q := fun q h => by rw [← hAe]; exact Or.inr h
  have hS : va_S A s.heap s.heap [] := va_S.rf
  have hP : va_P G vwCl [(a_0, mv a_text a_now a_trial a_diary a_kept a_isKept a_seen a_equations a_wanted s_0), (a_text, av_I cy 120 g_text), (a_r0, av_J cy 11 g_r0)] s.heap := hP
  have hl := lv_entry [.ref a_0, .ref a_r0] (n := 5) (Nat.le_of_ble_eq_true rfl)
  rw [lg_entry_eq]
  generalize (lg_sl [.ref a_0, .ref a_r0] ++ List.replicate (5 - (lg_sl [.ref a_0, .ref a_r0]).length) Slot.unset).toArray = ls at hl ⊢
  have hl : lv_has ls 5 [(0, .ref a_0), (1, .ref a_r0)] := hl
  unfold f_X6_readCommand at hf
  refine lv_aload_n hx hb dX6_readCommand_0 rfl (lv_at hl 0 rfl) ?_
  refine va_get (D := G) (ci := 6) (v := .ref a_text) (C := RX6) (T := TX6) (N := 15) hx hb hts iw_X6_readCommand_X6 hown hK hP 0 rfl rfl 1 (by decide) (hts (.fieldLink RX6 7 "PaneFrostModel" "text" "[I") (by decide +kernel)) (fun _ h9 => h9) rfl dX6_readCommand_1 ?_
  refine lv_aload_n hx hb dX6_readCommand_4 rfl (lv_at hl 0 rfl) ?_
  refine va_get (D := G) (ci := 6) (v := .int (m_spot s_0)) (C := RX6) (T := TX6) (N := 15) hx hb hts iw_X6_readCommand_X6 hown hK hP 0 rfl rfl 13 (by decide) (hts (.fieldLink RX6 130 "PaneFrostModel" "spot" "I") (by decide +kernel)) (fun _ h9 => h9) rfl dX6_readCommand_5 ?_
  by_cases q_1 : (m_spot s_0) < 0 ∨ 120 ≤ (m_spot s_0).toNatClampNeg
  · have hf := ip_ q_1 hf; cases hf
  have hf := in_ q_1 hf
  refine vz_iald rfl hx hb hK hP 1 1 rfl rfl (vin q_1) dX6_readCommand_8 ?_
  refine lv_istore_n (lv' := [(2, .int (g_text (m_spot s_0).toNatClampNeg)), (0, .ref a_0), (1, .ref a_r0)]) hx hb dX6_readCommand_9 rfl hl (by decide) rfl (fun ls hl => ?_)
  refine lv_aload_n hx hb dX6_readCommand_10 rfl (lv_at hl 1 rfl) ?_
  refine lv_dup hx hb dX6_readCommand_11 rfl ?_
  refine va_get (D := G) (ci := 6) (v := .int (m_spot s_0)) (C := RX6) (T := TX6) (N := 15) hx hb hts iw_X6_readCommand_X6 hown hK hP 0 rfl rfl 13 (by decide) (hts (.fieldLink RX6 130 "PaneFrostModel" "spot" "I") (by decide +kernel)) (fun _ h9 => h9) rfl dX6_readCommand_12 ?_
  refine lv_iconst (v := 1) hx hb dX6_readCommand_15 (by decide) ?_
  refine lv_iadd hx hb dX6_readCommand_16 ?_
  refine va_put (D := G) (ci := 6) (v := .int ((m_spot s_0) + 1)) (ty := .int) (C := RX6) (T := TX6) (N := 15) hx hb hts iw_X6_readCommand_X6 tyX6 tyX6_ok nmX6 hown hK hP hD hS 0 rfl rfl 13 (by decide) (hts (.fieldLink RX6 130 "PaneFrostModel" "spot" "I") (by decide +kernel)) (fun _ h9 => h9) rfl (by decide +kernel) rfl rfl (Nat.le_of_ble_eq_true rfl) dX6_readCommand_17 (fun H locs hP hD hS => ?_)
  have hP : va_P G vwCl [(a_0, mv a_text a_now a_trial a_diary a_kept a_isKept a_seen a_equations a_wanted (m_refusal s_0, m_size s_0, m_acts s_0, m_rank s_0, ((m_spot s_0) + 1), m_out s_0)), (a_text, av_I cy 120 g_text), (a_r0, av_J cy 11 g_r0)] H := hP
  have hD : va_D A [(a_0, mv a_text a_now a_trial a_diary a_kept a_isKept a_seen a_equations a_wanted (m_refusal s_0, m_size s_0, m_acts s_0, m_rank s_0, ((m_spot s_0) + 1), m_out s_0)), (a_text, av_I cy 120 g_text), (a_r0, av_J cy 11 g_r0)] := hD
  refine lv_iload_n hx hb dX6_readCommand_20 rfl (lv_at hl 0 rfl) ?_
  by_cases h_2 : (g_text (m_spot s_0).toNatClampNeg) = 98
  · have hf := ip_ h_2 hf
    refine lv_tableIn (tgt := 225) (off := 204) hx hb dX6_readCommand_21 (by show ¬ (g_text (m_spot s_0).toNatClampNeg).toInt < 98; rw [h_2]; decide) (by show ¬ 116 < (g_text (m_spot s_0).toNatClampNeg).toInt; rw [h_2]; decide) (by show (#[204, 401, 401, 401, 91, 401, 401, 401, 401, 401, 401, 401, 360, 401, 401, 401, 257, 140, 297] : Array Int)[((g_text (m_spot s_0).toNatClampNeg).toInt - 98).toNat]? = some 204; rw [h_2]; rfl) (by decide) ?_
    refine lv_aload_n hx hb dX6_readCommand_225 rfl (lv_at hl 1 rfl) ?_
    refine lv_iconst (v := 0) hx hb dX6_readCommand_226 (by decide) ?_
    refine lv_iconst (v := 1) hx hb dX6_readCommand_227 (by decide) ?_
    refine lv_iconst (v := 0) hx hb dX6_readCommand_228 (by decide) ?_
    refine lv_iconst (v := 3) hx hb dX6_readCommand_229 (by decide) ?_
    obtain ⟨r_3, hh_r_3, hf⟩ := obd_some hf
    refine kc_i (w1 := [(a_0, mv a_text a_now a_trial a_diary a_kept a_isKept a_seen a_equations a_wanted r_3.2), (a_text, av_I cy 120 g_text)]) (wr := [(a_r0, av_J cy 11 g_r0)]) hP hD hS hA [0, 1] [2] rfl rfl rfl (by decide) (va_runV (As := [.int 0, .int 1, .int 0, .int 3]) (rest := []) ⟨hx, hb, hml, hown, hts⟩ (c_X6_figures (l := l) G cy a_0 a_text a_now a_trial a_diary a_kept a_isKept a_seen a_equations a_wanted H.size (m_refusal s_0, m_size s_0, m_acts s_0, m_rank s_0, ((m_spot s_0) + 1), m_out s_0) g_text 0 1 0 3 n r_3 hh_r_3) (cwV 4 hts gX6_readCommand_X6_figures rfl rfl rfl ddV_X6_figures ⟨Nat.le_of_ble_eq_true rfl, Nat.le_of_ble_eq_true rfl⟩) (preV_ (ci := 6) (q0 := 0) rfl rfl (hP.sub (ws' := [(a_0, mv a_text a_now a_trial a_diary a_kept a_isKept a_seen a_equations a_wanted (m_refusal s_0, m_size s_0, m_acts s_0, m_rank s_0, ((m_spot s_0) + 1), m_out s_0)), (a_text, av_I cy 120 g_text)]) [0, 1] rfl) hK (hD.sub (ws' := [(a_0, mv a_text a_now a_trial a_diary a_kept a_isKept a_seen a_equations a_wanted (m_refusal s_0, m_size s_0, m_acts s_0, m_rank s_0, ((m_spot s_0) + 1), m_out s_0)), (a_text, av_I cy 120 g_text)]) [0, 1] rfl rfl) hN) rfl rfl hl.1 rfl (lv_room (Nat.le_of_ble_eq_true rfl)) dX6_readCommand_230 ⟨Nat.le_of_ble_eq_true rfl, Nat.le_of_ble_eq_true rfl⟩) (fun H locs hP hD hS => ?_)
    have hP : va_P G vwCl [(a_r0, av_J cy 11 g_r0), (a_0, mv a_text a_now a_trial a_diary a_kept a_isKept a_seen a_equations a_wanted r_3.2), (a_text, av_I cy 120 g_text)] H := hP
    have hD : va_D A [(a_r0, av_J cy 11 g_r0), (a_0, mv a_text a_now a_trial a_diary a_kept a_isKept a_seen a_equations a_wanted r_3.2), (a_text, av_I cy 120 g_text)] := hD
    refine lv_istore_n (lv' := [(3, .int r_3.1), (2, .int (g_text (m_spot s_0).toNatClampNeg)), (0, .ref a_0), (1, .ref a_r0)]) hx hb dX6_readCommand_233 rfl hl (by decide) rfl (fun ls hl => ?_)
    refine lv_aload_n hx hb dX6_readCommand_234 rfl (lv_at hl 2 rfl) ?_
    refine lv_iload_n hx hb dX6_readCommand_235 rfl (lv_at hl 0 rfl) ?_
    refine lv_iconst (v := 1) hx hb dX6_readCommand_236 (by decide) ?_
    refine lv_iconst (v := 0) hx hb dX6_readCommand_237 (by decide) ?_
    refine lv_iconst (v := 2) hx hb dX6_readCommand_238 (by decide) ?_
    obtain ⟨r_4, hh_r_4, hf⟩ := obd_some hf
    refine kc_i (w1 := [(a_0, mv a_text a_now a_trial a_diary a_kept a_isKept a_seen a_equations a_wanted r_4.2), (a_text, av_I cy 120 g_text)]) (wr := [(a_r0, av_J cy 11 g_r0)]) hP hD hS hA [1, 2] [0] rfl rfl rfl (by decide) (va_runV (As := [.int r_3.1, .int 1, .int 0, .int 2]) (rest := []) ⟨hx, hb, hml, hown, hts⟩ (c_X6_figures (l := l) G cy a_0 a_text a_now a_trial a_diary a_kept a_isKept a_seen a_equations a_wanted H.size r_3.2 g_text r_3.1 1 0 2 n r_4 hh_r_4) (cwV 4 hts gX6_readCommand_X6_figures rfl rfl rfl ddV_X6_figures ⟨Nat.le_of_ble_eq_true rfl, Nat.le_of_ble_eq_true rfl⟩) (preV_ (ci := 6) (q0 := 0) rfl rfl (hP.sub (ws' := [(a_0, mv a_text a_now a_trial a_diary a_kept a_isKept a_seen a_equations a_wanted r_3.2), (a_text, av_I cy 120 g_text)]) [1, 2] rfl) hK (hD.sub (ws' := [(a_0, mv a_text a_now a_trial a_diary a_kept a_isKept a_seen a_equations a_wanted r_3.2), (a_text, av_I cy 120 g_text)]) [1, 2] rfl rfl) hN) rfl rfl hl.1 rfl (lv_room (Nat.le_of_ble_eq_true rfl)) dX6_readCommand_239 ⟨Nat.le_of_ble_eq_true rfl, Nat.le_of_ble_eq_true rfl⟩) (fun H locs hP hD hS => ?_)
    have hP : va_P G vwCl [(a_r0, av_J cy 11 g_r0), (a_0, mv a_text a_now a_trial a_diary a_kept a_isKept a_seen a_equations a_wanted r_4.2), (a_text, av_I cy 120 g_text)] H := hP
    have hD : va_D A [(a_r0, av_J cy 11 g_r0), (a_0, mv a_text a_now a_trial a_diary a_kept a_isKept a_seen a_equations a_wanted r_4.2), (a_text, av_I cy 120 g_text)] := hD
    refine lv_istore (lv' := [(4, .int r_4.1), (3, .int r_3.1), (2, .int (g_text (m_spot s_0).toNatClampNeg)), (0, .ref a_0), (1, .ref a_r0)]) hx hb dX6_readCommand_242 hl (by decide) rfl (fun ls hl => ?_)
    refine lv_iload hx hb dX6_readCommand_244 (lv_at hl 0 rfl) ?_
    refine lv_iconst (v := (-1)) hx hb dX6_readCommand_246 (by decide) ?_
    refine lv_icmp_eq (tgt := 276) hx hb dX6_readCommand_247 (by decide) (fun h_5 => ?_) (fun h_5 => ?_)
    · have hf := ip_ h_5 hf
      refine lv_iconst (v := 0) hx hb dX6_readCommand_276 (by decide) ?_
      obtain rfl := Option.some.inj hf
      exact kr_z (V := bI false) hx hb hr hlocks (bI_nar _) rfl (hP.sub (ws' := [(a_0, mv a_text a_now a_trial a_diary a_kept a_isKept a_seen a_equations a_wanted r_4.2), (a_text, av_I cy 120 g_text), (a_r0, av_J cy 11 g_r0)]) [1, 2, 0] rfl) hK (hD.sub (ws' := [(a_0, mv a_text a_now a_trial a_diary a_kept a_isKept a_seen a_equations a_wanted r_4.2), (a_text, av_I cy 120 g_text), (a_r0, av_J cy 11 g_r0)]) [1, 2, 0] rfl rfl) hN hS hS.2.2 dX6_readCommand_277
    · have hf := in_ h_5 hf
      refine lv_aload_n hx hb dX6_readCommand_250 rfl (lv_at hl 3 rfl) ?_
      refine lv_aload_n hx hb dX6_readCommand_251 rfl (lv_at hl 4 rfl) ?_
      refine lv_iload_n hx hb dX6_readCommand_252 rfl (lv_at hl 1 rfl) ?_
      refine lv_iload hx hb dX6_readCommand_253 (lv_at hl 0 rfl) ?_
      obtain ⟨r_6, hh_r_6, hf⟩ := obd_some hf
      refine kc_i (w1 := [(a_r0, av_J cy 11 r_6.2)]) (wr := [(a_0, mv a_text a_now a_trial a_diary a_kept a_isKept a_seen a_equations a_wanted r_4.2), (a_text, av_I cy 120 g_text)]) hP hD hS hA [0] [1, 2] rfl rfl rfl (by decide) (va_runS (As := [.ref a_r0, .int r_3.1, .int r_4.1]) (rest := [.ref a_0]) ⟨hx, hb, hml, hown, hts⟩ (c_X6_borderOn (l := l) G cy a_r0 H.size g_r0 r_3.1 r_4.1  r_6 hh_r_6) (va_cwS 3 hts gX6_readCommand_X6_borderOn rfl rfl rfl ddN_X6_borderOn ⟨Nat.le_of_ble_eq_true rfl, Nat.le_of_ble_eq_true rfl⟩) (preS_ (hP.sub (ws' := [(a_r0, av_J cy 11 g_r0)]) [0] rfl) hK (hD.sub (ws' := [(a_r0, av_J cy 11 g_r0)]) [0] rfl rfl) hN) rfl rfl hl.1 rfl (lv_room (Nat.le_of_ble_eq_true rfl)) dX6_readCommand_255 ⟨Nat.le_of_ble_eq_true rfl, Nat.le_of_ble_eq_true rfl⟩) (fun H locs hP hD hS => ?_)
      have hP : va_P G vwCl [(a_0, mv a_text a_now a_trial a_diary a_kept a_isKept a_seen a_equations a_wanted r_4.2), (a_text, av_I cy 120 g_text), (a_r0, av_J cy 11 r_6.2)] H := hP
      have hD : va_D A [(a_0, mv a_text a_now a_trial a_diary a_kept a_isKept a_seen a_equations a_wanted r_4.2), (a_text, av_I cy 120 g_text), (a_r0, av_J cy 11 r_6.2)] := hD
      refine lv_if_lt (tgt := 265) hx hb dX6_readCommand_258 (by decide) (fun h_7 => ?_) (fun h_7 => ?_)
      · have hf := ip_ h_7 hf
        refine lv_iconst (v := 0) hx hb dX6_readCommand_265 (by decide) ?_
        obtain ⟨r_8, hh_r_8⟩ : ∃ z, z = f_X6_done r_4.2 false := ⟨_, rfl⟩
        have hf := lt_e hh_r_8 hf
        refine kc_i (w1 := [(a_0, mv a_text a_now a_trial a_diary a_kept a_isKept a_seen a_equations a_wanted r_8.2)]) (wr := [(a_text, av_I cy 120 g_text), (a_r0, av_J cy 11 r_6.2)]) hP hD hS hA [0] [1, 2] rfl rfl rfl (by decide) (va_runV (As := [.int (bI false)]) (rest := []) ⟨hx, hb, hml, hown, hts⟩ (c_X6_done (l := l) G cy a_0 a_text a_now a_trial a_diary a_kept a_isKept a_seen a_equations a_wanted H.size r_4.2 false  r_8 hh_r_8.symm) (cwV 1 hts gX6_readCommand_X6_done rfl rfl rfl ddV_X6_done ⟨Nat.le_of_ble_eq_true rfl, Nat.le_of_ble_eq_true rfl⟩) (preV_ (ci := 6) (q0 := 0) rfl rfl (hP.sub (ws' := [(a_0, mv a_text a_now a_trial a_diary a_kept a_isKept a_seen a_equations a_wanted r_4.2)]) [0] rfl) hK (hD.sub (ws' := [(a_0, mv a_text a_now a_trial a_diary a_kept a_isKept a_seen a_equations a_wanted r_4.2)]) [0] rfl rfl) hN) rfl rfl hl.1 rfl (lv_room (Nat.le_of_ble_eq_true rfl)) dX6_readCommand_266 ⟨Nat.le_of_ble_eq_true rfl, Nat.le_of_ble_eq_true rfl⟩) (fun H locs hP hD hS => ?_)
        have hP : va_P G vwCl [(a_text, av_I cy 120 g_text), (a_r0, av_J cy 11 r_6.2), (a_0, mv a_text a_now a_trial a_diary a_kept a_isKept a_seen a_equations a_wanted r_8.2)] H := hP
        have hD : va_D A [(a_text, av_I cy 120 g_text), (a_r0, av_J cy 11 r_6.2), (a_0, mv a_text a_now a_trial a_diary a_kept a_isKept a_seen a_equations a_wanted r_8.2)] := hD
        refine lv_if_eq (tgt := 276) hx hb dX6_readCommand_269 (by decide) (fun h_9 => ?_) (fun h_9 => ?_)
        · have hf := in_ (bI_0 h_9) hf
          refine lv_iconst (v := 0) hx hb dX6_readCommand_276 (by decide) ?_
          obtain rfl := Option.some.inj hf
          exact kr_z (V := bI false) hx hb hr hlocks (bI_nar _) rfl (hP.sub (ws' := [(a_0, mv a_text a_now a_trial a_diary a_kept a_isKept a_seen a_equations a_wanted r_8.2), (a_text, av_I cy 120 g_text), (a_r0, av_J cy 11 r_6.2)]) [2, 0, 1] rfl) hK (hD.sub (ws' := [(a_0, mv a_text a_now a_trial a_diary a_kept a_isKept a_seen a_equations a_wanted r_8.2), (a_text, av_I cy 120 g_text), (a_r0, av_J cy 11 r_6.2)]) [2, 0, 1] rfl rfl) hN hS hS.2.2 dX6_readCommand_277
        · have hf := ip_ (bI_n0 h_9) hf
          refine lv_iconst (v := 1) hx hb dX6_readCommand_272 (by decide) ?_
          refine lv_goto (tgt := 277) hx hb dX6_readCommand_273 (by decide) ?_
          obtain rfl := Option.some.inj hf
          exact kr_z (V := bI true) hx hb hr hlocks (bI_nar _) rfl (hP.sub (ws' := [(a_0, mv a_text a_now a_trial a_diary a_kept a_isKept a_seen a_equations a_wanted r_8.2), (a_text, av_I cy 120 g_text), (a_r0, av_J cy 11 r_6.2)]) [2, 0, 1] rfl) hK (hD.sub (ws' := [(a_0, mv a_text a_now a_trial a_diary a_kept a_isKept a_seen a_equations a_wanted r_8.2), (a_text, av_I cy 120 g_text), (a_r0, av_J cy 11 r_6.2)]) [2, 0, 1] rfl rfl) hN hS hS.2.2 dX6_readCommand_277
      · have hf := in_ h_7 hf
        refine lv_iconst (v := 1) hx hb dX6_readCommand_261 (by decide) ?_
        refine lv_goto (tgt := 266) hx hb dX6_readCommand_262 (by decide) ?_
        obtain ⟨r_10, hh_r_10⟩ : ∃ z, z = f_X6_done r_4.2 true := ⟨_, rfl⟩
        have hf := lt_e hh_r_10 hf
        refine kc_i (w1 := [(a_0, mv a_text a_now a_trial a_diary a_kept a_isKept a_seen a_equations a_wanted r_10.2)]) (wr := [(a_text, av_I cy 120 g_text), (a_r0, av_J cy 11 r_6.2)]) hP hD hS hA [0] [1, 2] rfl rfl rfl (by decide) (va_runV (As := [.int (bI true)]) (rest := []) ⟨hx, hb, hml, hown, hts⟩ (c_X6_done (l := l) G cy a_0 a_text a_now a_trial a_diary a_kept a_isKept a_seen a_equations a_wanted H.size r_4.2 true  r_10 hh_r_10.symm) (cwV 1 hts gX6_readCommand_X6_done rfl rfl rfl ddV_X6_done ⟨Nat.le_of_ble_eq_true rfl, Nat.le_of_ble_eq_true rfl⟩) (preV_ (ci := 6) (q0 := 0) rfl rfl (hP.sub (ws' := [(a_0, mv a_text a_now a_trial a_diary a_kept a_isKept a_seen a_equations a_wanted r_4.2)]) [0] rfl) hK (hD.sub (ws' := [(a_0, mv a_text a_now a_trial a_diary a_kept a_isKept a_seen a_equations a_wanted r_4.2)]) [0] rfl rfl) hN) rfl rfl hl.1 rfl (lv_room (Nat.le_of_ble_eq_true rfl)) dX6_readCommand_266 ⟨Nat.le_of_ble_eq_true rfl, Nat.le_of_ble_eq_true rfl⟩) (fun H locs hP hD hS => ?_)
        have hP : va_P G vwCl [(a_text, av_I cy 120 g_text), (a_r0, av_J cy 11 r_6.2), (a_0, mv a_text a_now a_trial a_diary a_kept a_isKept a_seen a_equations a_wanted r_10.2)] H := hP
        have hD : va_D A [(a_text, av_I cy 120 g_text), (a_r0, av_J cy 11 r_6.2), (a_0, mv a_text a_now a_trial a_diary a_kept a_isKept a_seen a_equations a_wanted r_10.2)] := hD
        refine lv_if_eq (tgt := 276) hx hb dX6_readCommand_269 (by decide) (fun h_11 => ?_) (fun h_11 => ?_)
        · have hf := in_ (bI_0 h_11) hf
          refine lv_iconst (v := 0) hx hb dX6_readCommand_276 (by decide) ?_
          obtain rfl := Option.some.inj hf
          exact kr_z (V := bI false) hx hb hr hlocks (bI_nar _) rfl (hP.sub (ws' := [(a_0, mv a_text a_now a_trial a_diary a_kept a_isKept a_seen a_equations a_wanted r_10.2), (a_text, av_I cy 120 g_text), (a_r0, av_J cy 11 r_6.2)]) [2, 0, 1] rfl) hK (hD.sub (ws' := [(a_0, mv a_text a_now a_trial a_diary a_kept a_isKept a_seen a_equations a_wanted r_10.2), (a_text, av_I cy 120 g_text), (a_r0, av_J cy 11 r_6.2)]) [2, 0, 1] rfl rfl) hN hS hS.2.2 dX6_readCommand_277
        · have hf := ip_ (bI_n0 h_11) hf
          refine lv_iconst (v := 1) hx hb dX6_readCommand_272 (by decide) ?_
          refine lv_goto (tgt := 277) hx hb dX6_readCommand_273 (by decide) ?_
          obtain rfl := Option.some.inj hf
          exact kr_z (V := bI true) hx hb hr hlocks (bI_nar _) rfl (hP.sub (ws' := [(a_0, mv a_text a_now a_trial a_diary a_kept a_isKept a_seen a_equations a_wanted r_10.2), (a_text, av_I cy 120 g_text), (a_r0, av_J cy 11 r_6.2)]) [2, 0, 1] rfl) hK (hD.sub (ws' := [(a_0, mv a_text a_now a_trial a_diary a_kept a_isKept a_seen a_equations a_wanted r_10.2), (a_text, av_I cy 120 g_text), (a_r0, av_J cy 11 r_6.2)]) [2, 0, 1] rfl rfl) hN hS hS.2.2 dX6_readCommand_277
  have hf := in_ h_2 hf
  by_cases h_12 : (g_text (m_spot s_0).toNatClampNeg) = 102
  · have hf := ip_ h_12 hf
    refine lv_tableIn (tgt := 112) (off := 91) hx hb dX6_readCommand_21 (by show ¬ (g_text (m_spot s_0).toNatClampNeg).toInt < 98; rw [h_12]; decide) (by show ¬ 116 < (g_text (m_spot s_0).toNatClampNeg).toInt; rw [h_12]; decide) (by show (#[204, 401, 401, 401, 91, 401, 401, 401, 401, 401, 401, 401, 360, 401, 401, 401, 257, 140, 297] : Array Int)[((g_text (m_spot s_0).toNatClampNeg).toInt - 98).toNat]? = some 91; rw [h_12]; rfl) (by decide) ?_
    refine lv_aload_n hx hb dX6_readCommand_112 rfl (lv_at hl 1 rfl) ?_
    refine lv_iconst (v := 0) hx hb dX6_readCommand_113 (by decide) ?_
    refine lv_iconst (v := 2) hx hb dX6_readCommand_114 (by decide) ?_
    refine lv_iconst (v := 0) hx hb dX6_readCommand_115 (by decide) ?_
    refine lv_bipush (v := 63) hx hb dX6_readCommand_116 (by decide) ?_
    obtain ⟨r_13, hh_r_13, hf⟩ := obd_some hf
    refine kc_i (w1 := [(a_0, mv a_text a_now a_trial a_diary a_kept a_isKept a_seen a_equations a_wanted r_13.2), (a_text, av_I cy 120 g_text)]) (wr := [(a_r0, av_J cy 11 g_r0)]) hP hD hS hA [0, 1] [2] rfl rfl rfl (by decide) (va_runV (As := [.int 0, .int 2, .int 0, .int 63]) (rest := []) ⟨hx, hb, hml, hown, hts⟩ (c_X6_figures (l := l) G cy a_0 a_text a_now a_trial a_diary a_kept a_isKept a_seen a_equations a_wanted H.size (m_refusal s_0, m_size s_0, m_acts s_0, m_rank s_0, ((m_spot s_0) + 1), m_out s_0) g_text 0 2 0 63 n r_13 hh_r_13) (cwV 4 hts gX6_readCommand_X6_figures rfl rfl rfl ddV_X6_figures ⟨Nat.le_of_ble_eq_true rfl, Nat.le_of_ble_eq_true rfl⟩) (preV_ (ci := 6) (q0 := 0) rfl rfl (hP.sub (ws' := [(a_0, mv a_text a_now a_trial a_diary a_kept a_isKept a_seen a_equations a_wanted (m_refusal s_0, m_size s_0, m_acts s_0, m_rank s_0, ((m_spot s_0) + 1), m_out s_0)), (a_text, av_I cy 120 g_text)]) [0, 1] rfl) hK (hD.sub (ws' := [(a_0, mv a_text a_now a_trial a_diary a_kept a_isKept a_seen a_equations a_wanted (m_refusal s_0, m_size s_0, m_acts s_0, m_rank s_0, ((m_spot s_0) + 1), m_out s_0)), (a_text, av_I cy 120 g_text)]) [0, 1] rfl rfl) hN) rfl rfl hl.1 rfl (lv_room (Nat.le_of_ble_eq_true rfl)) dX6_readCommand_118 ⟨Nat.le_of_ble_eq_true rfl, Nat.le_of_ble_eq_true rfl⟩) (fun H locs hP hD hS => ?_)
    have hP : va_P G vwCl [(a_r0, av_J cy 11 g_r0), (a_0, mv a_text a_now a_trial a_diary a_kept a_isKept a_seen a_equations a_wanted r_13.2), (a_text, av_I cy 120 g_text)] H := hP
    have hD : va_D A [(a_r0, av_J cy 11 g_r0), (a_0, mv a_text a_now a_trial a_diary a_kept a_isKept a_seen a_equations a_wanted r_13.2), (a_text, av_I cy 120 g_text)] := hD
    refine lv_istore_n (lv' := [(3, .int r_13.1), (2, .int (g_text (m_spot s_0).toNatClampNeg)), (0, .ref a_0), (1, .ref a_r0)]) hx hb dX6_readCommand_121 rfl hl (by decide) rfl (fun ls hl => ?_)
    refine lv_iload_n hx hb dX6_readCommand_122 rfl (lv_at hl 0 rfl) ?_
    refine lv_iconst (v := (-1)) hx hb dX6_readCommand_123 (by decide) ?_
    refine lv_icmp_eq (tgt := 159) hx hb dX6_readCommand_124 (by decide) (fun h_14 => ?_) (fun h_14 => ?_)
    · have hf := ip_ h_14 hf
      refine lv_iconst (v := 0) hx hb dX6_readCommand_159 (by decide) ?_
      obtain rfl := Option.some.inj hf
      exact kr_z (V := bI false) hx hb hr hlocks (bI_nar _) rfl (hP.sub (ws' := [(a_0, mv a_text a_now a_trial a_diary a_kept a_isKept a_seen a_equations a_wanted r_13.2), (a_text, av_I cy 120 g_text), (a_r0, av_J cy 11 g_r0)]) [1, 2, 0] rfl) hK (hD.sub (ws' := [(a_0, mv a_text a_now a_trial a_diary a_kept a_isKept a_seen a_equations a_wanted r_13.2), (a_text, av_I cy 120 g_text), (a_r0, av_J cy 11 g_r0)]) [1, 2, 0] rfl rfl) hN hS hS.2.2 dX6_readCommand_160
    · have hf := in_ h_14 hf
      refine lv_aload_n hx hb dX6_readCommand_127 rfl (lv_at hl 2 rfl) ?_
      refine lv_aload_n hx hb dX6_readCommand_128 rfl (lv_at hl 3 rfl) ?_
      refine lv_iload_n hx hb dX6_readCommand_129 rfl (lv_at hl 0 rfl) ?_
      refine kc_i (w1 := [(a_r0, av_J cy 11 g_r0)]) (wr := [(a_0, mv a_text a_now a_trial a_diary a_kept a_isKept a_seen a_equations a_wanted r_13.2), (a_text, av_I cy 120 g_text)]) hP hD hS hA [0] [1, 2] rfl rfl rfl (by decide) (va_runS (As := [.ref a_r0, .int r_13.1]) (rest := [.ref a_0]) ⟨hx, hb, hml, hown, hts⟩ (c_X6_isCell (l := l) G cy a_r0 H.size g_r0 r_13.1  (f_X6_isCell g_r0 r_13.1) rfl) (va_cwS 2 hts gX6_readCommand_X6_isCell rfl rfl rfl ddN_X6_isCell ⟨Nat.le_of_ble_eq_true rfl, Nat.le_of_ble_eq_true rfl⟩) (preS_ (hP.sub (ws' := [(a_r0, av_J cy 11 g_r0)]) [0] rfl) hK (hD.sub (ws' := [(a_r0, av_J cy 11 g_r0)]) [0] rfl rfl) hN) rfl rfl hl.1 rfl (lv_room (Nat.le_of_ble_eq_true rfl)) dX6_readCommand_130 ⟨Nat.le_of_ble_eq_true rfl, Nat.le_of_ble_eq_true rfl⟩) (fun H locs hP hD hS => ?_)
      have hP : va_P G vwCl [(a_0, mv a_text a_now a_trial a_diary a_kept a_isKept a_seen a_equations a_wanted r_13.2), (a_text, av_I cy 120 g_text), (a_r0, av_J cy 11 g_r0)] H := hP
      have hD : va_D A [(a_0, mv a_text a_now a_trial a_diary a_kept a_isKept a_seen a_equations a_wanted r_13.2), (a_text, av_I cy 120 g_text), (a_r0, av_J cy 11 g_r0)] := hD
      refine lv_if_eq (tgt := 148) hx hb dX6_readCommand_133 (by decide) (fun h_15 => ?_) (fun h_15 => ?_)
      · have hf := in_ (bI_0 h_15) hf
        refine lv_iconst (v := 0) hx hb dX6_readCommand_148 (by decide) ?_
        obtain ⟨r_16, hh_r_16⟩ : ∃ z, z = f_X6_done r_13.2 false := ⟨_, rfl⟩
        have hf := lt_e hh_r_16 hf
        refine kc_i (w1 := [(a_0, mv a_text a_now a_trial a_diary a_kept a_isKept a_seen a_equations a_wanted r_16.2)]) (wr := [(a_text, av_I cy 120 g_text), (a_r0, av_J cy 11 g_r0)]) hP hD hS hA [0] [1, 2] rfl rfl rfl (by decide) (va_runV (As := [.int (bI false)]) (rest := []) ⟨hx, hb, hml, hown, hts⟩ (c_X6_done (l := l) G cy a_0 a_text a_now a_trial a_diary a_kept a_isKept a_seen a_equations a_wanted H.size r_13.2 false  r_16 hh_r_16.symm) (cwV 1 hts gX6_readCommand_X6_done rfl rfl rfl ddV_X6_done ⟨Nat.le_of_ble_eq_true rfl, Nat.le_of_ble_eq_true rfl⟩) (preV_ (ci := 6) (q0 := 0) rfl rfl (hP.sub (ws' := [(a_0, mv a_text a_now a_trial a_diary a_kept a_isKept a_seen a_equations a_wanted r_13.2)]) [0] rfl) hK (hD.sub (ws' := [(a_0, mv a_text a_now a_trial a_diary a_kept a_isKept a_seen a_equations a_wanted r_13.2)]) [0] rfl rfl) hN) rfl rfl hl.1 rfl (lv_room (Nat.le_of_ble_eq_true rfl)) dX6_readCommand_149 ⟨Nat.le_of_ble_eq_true rfl, Nat.le_of_ble_eq_true rfl⟩) (fun H locs hP hD hS => ?_)
        have hP : va_P G vwCl [(a_text, av_I cy 120 g_text), (a_r0, av_J cy 11 g_r0), (a_0, mv a_text a_now a_trial a_diary a_kept a_isKept a_seen a_equations a_wanted r_16.2)] H := hP
        have hD : va_D A [(a_text, av_I cy 120 g_text), (a_r0, av_J cy 11 g_r0), (a_0, mv a_text a_now a_trial a_diary a_kept a_isKept a_seen a_equations a_wanted r_16.2)] := hD
        refine lv_if_eq (tgt := 159) hx hb dX6_readCommand_152 (by decide) (fun h_17 => ?_) (fun h_17 => ?_)
        · have hf := in_ (bI_0 h_17) hf
          refine lv_iconst (v := 0) hx hb dX6_readCommand_159 (by decide) ?_
          obtain rfl := Option.some.inj hf
          exact kr_z (V := bI false) hx hb hr hlocks (bI_nar _) rfl (hP.sub (ws' := [(a_0, mv a_text a_now a_trial a_diary a_kept a_isKept a_seen a_equations a_wanted r_16.2), (a_text, av_I cy 120 g_text), (a_r0, av_J cy 11 g_r0)]) [2, 0, 1] rfl) hK (hD.sub (ws' := [(a_0, mv a_text a_now a_trial a_diary a_kept a_isKept a_seen a_equations a_wanted r_16.2), (a_text, av_I cy 120 g_text), (a_r0, av_J cy 11 g_r0)]) [2, 0, 1] rfl rfl) hN hS hS.2.2 dX6_readCommand_160
        · have hf := ip_ (bI_n0 h_17) hf
          refine lv_iconst (v := 1) hx hb dX6_readCommand_155 (by decide) ?_
          refine lv_goto (tgt := 160) hx hb dX6_readCommand_156 (by decide) ?_
          obtain rfl := Option.some.inj hf
          exact kr_z (V := bI true) hx hb hr hlocks (bI_nar _) rfl (hP.sub (ws' := [(a_0, mv a_text a_now a_trial a_diary a_kept a_isKept a_seen a_equations a_wanted r_16.2), (a_text, av_I cy 120 g_text), (a_r0, av_J cy 11 g_r0)]) [2, 0, 1] rfl) hK (hD.sub (ws' := [(a_0, mv a_text a_now a_trial a_diary a_kept a_isKept a_seen a_equations a_wanted r_16.2), (a_text, av_I cy 120 g_text), (a_r0, av_J cy 11 g_r0)]) [2, 0, 1] rfl rfl) hN hS hS.2.2 dX6_readCommand_160
      · have hf := ip_ (bI_n0 h_15) hf
        refine lv_aload_n hx hb dX6_readCommand_136 rfl (lv_at hl 3 rfl) ?_
        refine lv_iload_n hx hb dX6_readCommand_137 rfl (lv_at hl 0 rfl) ?_
        obtain ⟨r_18, hh_r_18⟩ : ∃ z, z = f_X6_flipOn g_r0 r_13.1 := ⟨_, rfl⟩
        have hf := lt_e hh_r_18 hf
        refine kc_i (w1 := [(a_r0, av_J cy 11 r_18.2)]) (wr := [(a_0, mv a_text a_now a_trial a_diary a_kept a_isKept a_seen a_equations a_wanted r_13.2), (a_text, av_I cy 120 g_text)]) hP hD hS hA [2] [0, 1] rfl rfl rfl (by decide) (va_runS (As := [.ref a_r0, .int r_13.1]) (rest := [.ref a_0]) ⟨hx, hb, hml, hown, hts⟩ (c_X6_flipOn (l := l) G cy a_r0 H.size g_r0 r_13.1  r_18 hh_r_18.symm) (va_cwS 2 hts gX6_readCommand_X6_flipOn rfl rfl rfl ddN_X6_flipOn ⟨Nat.le_of_ble_eq_true rfl, Nat.le_of_ble_eq_true rfl⟩) (preS_ (hP.sub (ws' := [(a_r0, av_J cy 11 g_r0)]) [2] rfl) hK (hD.sub (ws' := [(a_r0, av_J cy 11 g_r0)]) [2] rfl rfl) hN) rfl rfl hl.1 rfl (lv_room (Nat.le_of_ble_eq_true rfl)) dX6_readCommand_138 ⟨Nat.le_of_ble_eq_true rfl, Nat.le_of_ble_eq_true rfl⟩) (fun H locs hP hD hS => ?_)
        have hP : va_P G vwCl [(a_0, mv a_text a_now a_trial a_diary a_kept a_isKept a_seen a_equations a_wanted r_13.2), (a_text, av_I cy 120 g_text), (a_r0, av_J cy 11 r_18.2)] H := hP
        have hD : va_D A [(a_0, mv a_text a_now a_trial a_diary a_kept a_isKept a_seen a_equations a_wanted r_13.2), (a_text, av_I cy 120 g_text), (a_r0, av_J cy 11 r_18.2)] := hD
        refine lv_if_lt (tgt := 148) hx hb dX6_readCommand_141 (by decide) (fun h_19 => ?_) (fun h_19 => ?_)
        · have hf := ip_ h_19 hf
          refine lv_iconst (v := 0) hx hb dX6_readCommand_148 (by decide) ?_
          obtain ⟨r_20, hh_r_20⟩ : ∃ z, z = f_X6_done r_13.2 false := ⟨_, rfl⟩
          have hf := lt_e hh_r_20 hf
          refine kc_i (w1 := [(a_0, mv a_text a_now a_trial a_diary a_kept a_isKept a_seen a_equations a_wanted r_20.2)]) (wr := [(a_text, av_I cy 120 g_text), (a_r0, av_J cy 11 r_18.2)]) hP hD hS hA [0] [1, 2] rfl rfl rfl (by decide) (va_runV (As := [.int (bI false)]) (rest := []) ⟨hx, hb, hml, hown, hts⟩ (c_X6_done (l := l) G cy a_0 a_text a_now a_trial a_diary a_kept a_isKept a_seen a_equations a_wanted H.size r_13.2 false  r_20 hh_r_20.symm) (cwV 1 hts gX6_readCommand_X6_done rfl rfl rfl ddV_X6_done ⟨Nat.le_of_ble_eq_true rfl, Nat.le_of_ble_eq_true rfl⟩) (preV_ (ci := 6) (q0 := 0) rfl rfl (hP.sub (ws' := [(a_0, mv a_text a_now a_trial a_diary a_kept a_isKept a_seen a_equations a_wanted r_13.2)]) [0] rfl) hK (hD.sub (ws' := [(a_0, mv a_text a_now a_trial a_diary a_kept a_isKept a_seen a_equations a_wanted r_13.2)]) [0] rfl rfl) hN) rfl rfl hl.1 rfl (lv_room (Nat.le_of_ble_eq_true rfl)) dX6_readCommand_149 ⟨Nat.le_of_ble_eq_true rfl, Nat.le_of_ble_eq_true rfl⟩) (fun H locs hP hD hS => ?_)
          have hP : va_P G vwCl [(a_text, av_I cy 120 g_text), (a_r0, av_J cy 11 r_18.2), (a_0, mv a_text a_now a_trial a_diary a_kept a_isKept a_seen a_equations a_wanted r_20.2)] H := hP
          have hD : va_D A [(a_text, av_I cy 120 g_text), (a_r0, av_J cy 11 r_18.2), (a_0, mv a_text a_now a_trial a_diary a_kept a_isKept a_seen a_equations a_wanted r_20.2)] := hD
          refine lv_if_eq (tgt := 159) hx hb dX6_readCommand_152 (by decide) (fun h_21 => ?_) (fun h_21 => ?_)
          · have hf := in_ (bI_0 h_21) hf
            refine lv_iconst (v := 0) hx hb dX6_readCommand_159 (by decide) ?_
            obtain rfl := Option.some.inj hf
            exact kr_z (V := bI false) hx hb hr hlocks (bI_nar _) rfl (hP.sub (ws' := [(a_0, mv a_text a_now a_trial a_diary a_kept a_isKept a_seen a_equations a_wanted r_20.2), (a_text, av_I cy 120 g_text), (a_r0, av_J cy 11 r_18.2)]) [2, 0, 1] rfl) hK (hD.sub (ws' := [(a_0, mv a_text a_now a_trial a_diary a_kept a_isKept a_seen a_equations a_wanted r_20.2), (a_text, av_I cy 120 g_text), (a_r0, av_J cy 11 r_18.2)]) [2, 0, 1] rfl rfl) hN hS hS.2.2 dX6_readCommand_160
          · have hf := ip_ (bI_n0 h_21) hf
            refine lv_iconst (v := 1) hx hb dX6_readCommand_155 (by decide) ?_
            refine lv_goto (tgt := 160) hx hb dX6_readCommand_156 (by decide) ?_
            obtain rfl := Option.some.inj hf
            exact kr_z (V := bI true) hx hb hr hlocks (bI_nar _) rfl (hP.sub (ws' := [(a_0, mv a_text a_now a_trial a_diary a_kept a_isKept a_seen a_equations a_wanted r_20.2), (a_text, av_I cy 120 g_text), (a_r0, av_J cy 11 r_18.2)]) [2, 0, 1] rfl) hK (hD.sub (ws' := [(a_0, mv a_text a_now a_trial a_diary a_kept a_isKept a_seen a_equations a_wanted r_20.2), (a_text, av_I cy 120 g_text), (a_r0, av_J cy 11 r_18.2)]) [2, 0, 1] rfl rfl) hN hS hS.2.2 dX6_readCommand_160
        · have hf := in_ h_19 hf
          refine lv_iconst (v := 1) hx hb dX6_readCommand_144 (by decide) ?_
          refine lv_goto (tgt := 149) hx hb dX6_readCommand_145 (by decide) ?_
          obtain ⟨r_22, hh_r_22⟩ : ∃ z, z = f_X6_done r_13.2 true := ⟨_, rfl⟩
          have hf := lt_e hh_r_22 hf
          refine kc_i (w1 := [(a_0, mv a_text a_now a_trial a_diary a_kept a_isKept a_seen a_equations a_wanted r_22.2)]) (wr := [(a_text, av_I cy 120 g_text), (a_r0, av_J cy 11 r_18.2)]) hP hD hS hA [0] [1, 2] rfl rfl rfl (by decide) (va_runV (As := [.int (bI true)]) (rest := []) ⟨hx, hb, hml, hown, hts⟩ (c_X6_done (l := l) G cy a_0 a_text a_now a_trial a_diary a_kept a_isKept a_seen a_equations a_wanted H.size r_13.2 true  r_22 hh_r_22.symm) (cwV 1 hts gX6_readCommand_X6_done rfl rfl rfl ddV_X6_done ⟨Nat.le_of_ble_eq_true rfl, Nat.le_of_ble_eq_true rfl⟩) (preV_ (ci := 6) (q0 := 0) rfl rfl (hP.sub (ws' := [(a_0, mv a_text a_now a_trial a_diary a_kept a_isKept a_seen a_equations a_wanted r_13.2)]) [0] rfl) hK (hD.sub (ws' := [(a_0, mv a_text a_now a_trial a_diary a_kept a_isKept a_seen a_equations a_wanted r_13.2)]) [0] rfl rfl) hN) rfl rfl hl.1 rfl (lv_room (Nat.le_of_ble_eq_true rfl)) dX6_readCommand_149 ⟨Nat.le_of_ble_eq_true rfl, Nat.le_of_ble_eq_true rfl⟩) (fun H locs hP hD hS => ?_)
          have hP : va_P G vwCl [(a_text, av_I cy 120 g_text), (a_r0, av_J cy 11 r_18.2), (a_0, mv a_text a_now a_trial a_diary a_kept a_isKept a_seen a_equations a_wanted r_22.2)] H := hP
          have hD : va_D A [(a_text, av_I cy 120 g_text), (a_r0, av_J cy 11 r_18.2), (a_0, mv a_text a_now a_trial a_diary a_kept a_isKept a_seen a_equations a_wanted r_22.2)] := hD
          refine lv_if_eq (tgt := 159) hx hb dX6_readCommand_152 (by decide) (fun h_23 => ?_) (fun h_23 => ?_)
          · have hf := in_ (bI_0 h_23) hf
            refine lv_iconst (v := 0) hx hb dX6_readCommand_159 (by decide) ?_
            obtain rfl := Option.some.inj hf
            exact kr_z (V := bI false) hx hb hr hlocks (bI_nar _) rfl (hP.sub (ws' := [(a_0, mv a_text a_now a_trial a_diary a_kept a_isKept a_seen a_equations a_wanted r_22.2), (a_text, av_I cy 120 g_text), (a_r0, av_J cy 11 r_18.2)]) [2, 0, 1] rfl) hK (hD.sub (ws' := [(a_0, mv a_text a_now a_trial a_diary a_kept a_isKept a_seen a_equations a_wanted r_22.2), (a_text, av_I cy 120 g_text), (a_r0, av_J cy 11 r_18.2)]) [2, 0, 1] rfl rfl) hN hS hS.2.2 dX6_readCommand_160
          · have hf := ip_ (bI_n0 h_23) hf
            refine lv_iconst (v := 1) hx hb dX6_readCommand_155 (by decide) ?_
            refine lv_goto (tgt := 160) hx hb dX6_readCommand_156 (by decide) ?_
            obtain rfl := Option.some.inj hf
            exact kr_z (V := bI true) hx hb hr hlocks (bI_nar _) rfl (hP.sub (ws' := [(a_0, mv a_text a_now a_trial a_diary a_kept a_isKept a_seen a_equations a_wanted r_22.2), (a_text, av_I cy 120 g_text), (a_r0, av_J cy 11 r_18.2)]) [2, 0, 1] rfl) hK (hD.sub (ws' := [(a_0, mv a_text a_now a_trial a_diary a_kept a_isKept a_seen a_equations a_wanted r_22.2), (a_text, av_I cy 120 g_text), (a_r0, av_J cy 11 r_18.2)]) [2, 0, 1] rfl rfl) hN hS hS.2.2 dX6_readCommand_160
  have hf := in_ h_12 hf
  by_cases h_24 : (g_text (m_spot s_0).toNatClampNeg) = 110
  · have hf := ip_ h_24 hf
    refine lv_tableIn (tgt := 381) (off := 360) hx hb dX6_readCommand_21 (by show ¬ (g_text (m_spot s_0).toNatClampNeg).toInt < 98; rw [h_24]; decide) (by show ¬ 116 < (g_text (m_spot s_0).toNatClampNeg).toInt; rw [h_24]; decide) (by show (#[204, 401, 401, 401, 91, 401, 401, 401, 401, 401, 401, 401, 360, 401, 401, 401, 257, 140, 297] : Array Int)[((g_text (m_spot s_0).toNatClampNeg).toInt - 98).toNat]? = some 360; rw [h_24]; rfl) (by decide) ?_
    refine lv_aload_n hx hb dX6_readCommand_381 rfl (lv_at hl 1 rfl) ?_
    refine lv_iconst (v := 0) hx hb dX6_readCommand_382 (by decide) ?_
    refine lv_iconst (v := 2) hx hb dX6_readCommand_383 (by decide) ?_
    refine lv_iconst (v := 1) hx hb dX6_readCommand_384 (by decide) ?_
    refine lv_bipush (v := 60) hx hb dX6_readCommand_385 (by decide) ?_
    obtain ⟨r_25, hh_r_25, hf⟩ := obd_some hf
    refine kc_i (w1 := [(a_0, mv a_text a_now a_trial a_diary a_kept a_isKept a_seen a_equations a_wanted r_25.2), (a_text, av_I cy 120 g_text)]) (wr := [(a_r0, av_J cy 11 g_r0)]) hP hD hS hA [0, 1] [2] rfl rfl rfl (by decide) (va_runV (As := [.int 0, .int 2, .int 1, .int 60]) (rest := []) ⟨hx, hb, hml, hown, hts⟩ (c_X6_figures (l := l) G cy a_0 a_text a_now a_trial a_diary a_kept a_isKept a_seen a_equations a_wanted H.size (m_refusal s_0, m_size s_0, m_acts s_0, m_rank s_0, ((m_spot s_0) + 1), m_out s_0) g_text 0 2 1 60 n r_25 hh_r_25) (cwV 4 hts gX6_readCommand_X6_figures rfl rfl rfl ddV_X6_figures ⟨Nat.le_of_ble_eq_true rfl, Nat.le_of_ble_eq_true rfl⟩) (preV_ (ci := 6) (q0 := 0) rfl rfl (hP.sub (ws' := [(a_0, mv a_text a_now a_trial a_diary a_kept a_isKept a_seen a_equations a_wanted (m_refusal s_0, m_size s_0, m_acts s_0, m_rank s_0, ((m_spot s_0) + 1), m_out s_0)), (a_text, av_I cy 120 g_text)]) [0, 1] rfl) hK (hD.sub (ws' := [(a_0, mv a_text a_now a_trial a_diary a_kept a_isKept a_seen a_equations a_wanted (m_refusal s_0, m_size s_0, m_acts s_0, m_rank s_0, ((m_spot s_0) + 1), m_out s_0)), (a_text, av_I cy 120 g_text)]) [0, 1] rfl rfl) hN) rfl rfl hl.1 rfl (lv_room (Nat.le_of_ble_eq_true rfl)) dX6_readCommand_387 ⟨Nat.le_of_ble_eq_true rfl, Nat.le_of_ble_eq_true rfl⟩) (fun H locs hP hD hS => ?_)
    have hP : va_P G vwCl [(a_r0, av_J cy 11 g_r0), (a_0, mv a_text a_now a_trial a_diary a_kept a_isKept a_seen a_equations a_wanted r_25.2), (a_text, av_I cy 120 g_text)] H := hP
    have hD : va_D A [(a_r0, av_J cy 11 g_r0), (a_0, mv a_text a_now a_trial a_diary a_kept a_isKept a_seen a_equations a_wanted r_25.2), (a_text, av_I cy 120 g_text)] := hD
    refine lv_istore_n (lv' := [(3, .int r_25.1), (2, .int (g_text (m_spot s_0).toNatClampNeg)), (0, .ref a_0), (1, .ref a_r0)]) hx hb dX6_readCommand_390 rfl hl (by decide) rfl (fun ls hl => ?_)
    refine lv_iload_n hx hb dX6_readCommand_391 rfl (lv_at hl 0 rfl) ?_
    refine lv_iconst (v := (-1)) hx hb dX6_readCommand_392 (by decide) ?_
    refine lv_icmp_eq (tgt := 420) hx hb dX6_readCommand_393 (by decide) (fun h_26 => ?_) (fun h_26 => ?_)
    · have hf := ip_ h_26 hf
      refine lv_iconst (v := 0) hx hb dX6_readCommand_420 (by decide) ?_
      obtain rfl := Option.some.inj hf
      exact kr_z (V := bI false) hx hb hr hlocks (bI_nar _) rfl (hP.sub (ws' := [(a_0, mv a_text a_now a_trial a_diary a_kept a_isKept a_seen a_equations a_wanted r_25.2), (a_text, av_I cy 120 g_text), (a_r0, av_J cy 11 g_r0)]) [1, 2, 0] rfl) hK (hD.sub (ws' := [(a_0, mv a_text a_now a_trial a_diary a_kept a_isKept a_seen a_equations a_wanted r_25.2), (a_text, av_I cy 120 g_text), (a_r0, av_J cy 11 g_r0)]) [1, 2, 0] rfl rfl) hN hS hS.2.2 dX6_readCommand_421
    · have hf := in_ h_26 hf
      refine lv_aload_n hx hb dX6_readCommand_396 rfl (lv_at hl 2 rfl) ?_
      refine lv_aload_n hx hb dX6_readCommand_397 rfl (lv_at hl 3 rfl) ?_
      refine lv_iload_n hx hb dX6_readCommand_398 rfl (lv_at hl 0 rfl) ?_
      obtain ⟨r_27, hh_r_27, hf⟩ := obd_some hf
      refine kc_i (w1 := [(a_r0, av_J cy 11 r_27.2)]) (wr := [(a_0, mv a_text a_now a_trial a_diary a_kept a_isKept a_seen a_equations a_wanted r_25.2), (a_text, av_I cy 120 g_text)]) hP hD hS hA [0] [1, 2] rfl rfl rfl (by decide) (va_runS (As := [.ref a_r0, .int r_25.1]) (rest := [.ref a_0]) ⟨hx, hb, hml, hown, hts⟩ (c_X6_nightsOn (l := l) G cy a_r0 H.size g_r0 r_25.1 n r_27 hh_r_27) (va_cwS 2 hts gX6_readCommand_X6_nightsOn rfl rfl rfl ddN_X6_nightsOn ⟨Nat.le_of_ble_eq_true rfl, Nat.le_of_ble_eq_true rfl⟩) (preS_ (hP.sub (ws' := [(a_r0, av_J cy 11 g_r0)]) [0] rfl) hK (hD.sub (ws' := [(a_r0, av_J cy 11 g_r0)]) [0] rfl rfl) hN) rfl rfl hl.1 rfl (lv_room (Nat.le_of_ble_eq_true rfl)) dX6_readCommand_399 ⟨Nat.le_of_ble_eq_true rfl, Nat.le_of_ble_eq_true rfl⟩) (fun H locs hP hD hS => ?_)
      have hP : va_P G vwCl [(a_0, mv a_text a_now a_trial a_diary a_kept a_isKept a_seen a_equations a_wanted r_25.2), (a_text, av_I cy 120 g_text), (a_r0, av_J cy 11 r_27.2)] H := hP
      have hD : va_D A [(a_0, mv a_text a_now a_trial a_diary a_kept a_isKept a_seen a_equations a_wanted r_25.2), (a_text, av_I cy 120 g_text), (a_r0, av_J cy 11 r_27.2)] := hD
      refine lv_if_lt (tgt := 409) hx hb dX6_readCommand_402 (by decide) (fun h_28 => ?_) (fun h_28 => ?_)
      · have hf := ip_ h_28 hf
        refine lv_iconst (v := 0) hx hb dX6_readCommand_409 (by decide) ?_
        obtain ⟨r_29, hh_r_29⟩ : ∃ z, z = f_X6_done r_25.2 false := ⟨_, rfl⟩
        have hf := lt_e hh_r_29 hf
        refine kc_i (w1 := [(a_0, mv a_text a_now a_trial a_diary a_kept a_isKept a_seen a_equations a_wanted r_29.2)]) (wr := [(a_text, av_I cy 120 g_text), (a_r0, av_J cy 11 r_27.2)]) hP hD hS hA [0] [1, 2] rfl rfl rfl (by decide) (va_runV (As := [.int (bI false)]) (rest := []) ⟨hx, hb, hml, hown, hts⟩ (c_X6_done (l := l) G cy a_0 a_text a_now a_trial a_diary a_kept a_isKept a_seen a_equations a_wanted H.size r_25.2 false  r_29 hh_r_29.symm) (cwV 1 hts gX6_readCommand_X6_done rfl rfl rfl ddV_X6_done ⟨Nat.le_of_ble_eq_true rfl, Nat.le_of_ble_eq_true rfl⟩) (preV_ (ci := 6) (q0 := 0) rfl rfl (hP.sub (ws' := [(a_0, mv a_text a_now a_trial a_diary a_kept a_isKept a_seen a_equations a_wanted r_25.2)]) [0] rfl) hK (hD.sub (ws' := [(a_0, mv a_text a_now a_trial a_diary a_kept a_isKept a_seen a_equations a_wanted r_25.2)]) [0] rfl rfl) hN) rfl rfl hl.1 rfl (lv_room (Nat.le_of_ble_eq_true rfl)) dX6_readCommand_410 ⟨Nat.le_of_ble_eq_true rfl, Nat.le_of_ble_eq_true rfl⟩) (fun H locs hP hD hS => ?_)
        have hP : va_P G vwCl [(a_text, av_I cy 120 g_text), (a_r0, av_J cy 11 r_27.2), (a_0, mv a_text a_now a_trial a_diary a_kept a_isKept a_seen a_equations a_wanted r_29.2)] H := hP
        have hD : va_D A [(a_text, av_I cy 120 g_text), (a_r0, av_J cy 11 r_27.2), (a_0, mv a_text a_now a_trial a_diary a_kept a_isKept a_seen a_equations a_wanted r_29.2)] := hD
        refine lv_if_eq (tgt := 420) hx hb dX6_readCommand_413 (by decide) (fun h_30 => ?_) (fun h_30 => ?_)
        · have hf := in_ (bI_0 h_30) hf
          refine lv_iconst (v := 0) hx hb dX6_readCommand_420 (by decide) ?_
          obtain rfl := Option.some.inj hf
          exact kr_z (V := bI false) hx hb hr hlocks (bI_nar _) rfl (hP.sub (ws' := [(a_0, mv a_text a_now a_trial a_diary a_kept a_isKept a_seen a_equations a_wanted r_29.2), (a_text, av_I cy 120 g_text), (a_r0, av_J cy 11 r_27.2)]) [2, 0, 1] rfl) hK (hD.sub (ws' := [(a_0, mv a_text a_now a_trial a_diary a_kept a_isKept a_seen a_equations a_wanted r_29.2), (a_text, av_I cy 120 g_text), (a_r0, av_J cy 11 r_27.2)]) [2, 0, 1] rfl rfl) hN hS hS.2.2 dX6_readCommand_421
        · have hf := ip_ (bI_n0 h_30) hf
          refine lv_iconst (v := 1) hx hb dX6_readCommand_416 (by decide) ?_
          refine lv_goto (tgt := 421) hx hb dX6_readCommand_417 (by decide) ?_
          obtain rfl := Option.some.inj hf
          exact kr_z (V := bI true) hx hb hr hlocks (bI_nar _) rfl (hP.sub (ws' := [(a_0, mv a_text a_now a_trial a_diary a_kept a_isKept a_seen a_equations a_wanted r_29.2), (a_text, av_I cy 120 g_text), (a_r0, av_J cy 11 r_27.2)]) [2, 0, 1] rfl) hK (hD.sub (ws' := [(a_0, mv a_text a_now a_trial a_diary a_kept a_isKept a_seen a_equations a_wanted r_29.2), (a_text, av_I cy 120 g_text), (a_r0, av_J cy 11 r_27.2)]) [2, 0, 1] rfl rfl) hN hS hS.2.2 dX6_readCommand_421
      · have hf := in_ h_28 hf
        refine lv_iconst (v := 1) hx hb dX6_readCommand_405 (by decide) ?_
        refine lv_goto (tgt := 410) hx hb dX6_readCommand_406 (by decide) ?_
        obtain ⟨r_31, hh_r_31⟩ : ∃ z, z = f_X6_done r_25.2 true := ⟨_, rfl⟩
        have hf := lt_e hh_r_31 hf
        refine kc_i (w1 := [(a_0, mv a_text a_now a_trial a_diary a_kept a_isKept a_seen a_equations a_wanted r_31.2)]) (wr := [(a_text, av_I cy 120 g_text), (a_r0, av_J cy 11 r_27.2)]) hP hD hS hA [0] [1, 2] rfl rfl rfl (by decide) (va_runV (As := [.int (bI true)]) (rest := []) ⟨hx, hb, hml, hown, hts⟩ (c_X6_done (l := l) G cy a_0 a_text a_now a_trial a_diary a_kept a_isKept a_seen a_equations a_wanted H.size r_25.2 true  r_31 hh_r_31.symm) (cwV 1 hts gX6_readCommand_X6_done rfl rfl rfl ddV_X6_done ⟨Nat.le_of_ble_eq_true rfl, Nat.le_of_ble_eq_true rfl⟩) (preV_ (ci := 6) (q0 := 0) rfl rfl (hP.sub (ws' := [(a_0, mv a_text a_now a_trial a_diary a_kept a_isKept a_seen a_equations a_wanted r_25.2)]) [0] rfl) hK (hD.sub (ws' := [(a_0, mv a_text a_now a_trial a_diary a_kept a_isKept a_seen a_equations a_wanted r_25.2)]) [0] rfl rfl) hN) rfl rfl hl.1 rfl (lv_room (Nat.le_of_ble_eq_true rfl)) dX6_readCommand_410 ⟨Nat.le_of_ble_eq_true rfl, Nat.le_of_ble_eq_true rfl⟩) (fun H locs hP hD hS => ?_)
        have hP : va_P G vwCl [(a_text, av_I cy 120 g_text), (a_r0, av_J cy 11 r_27.2), (a_0, mv a_text a_now a_trial a_diary a_kept a_isKept a_seen a_equations a_wanted r_31.2)] H := hP
        have hD : va_D A [(a_text, av_I cy 120 g_text), (a_r0, av_J cy 11 r_27.2), (a_0, mv a_text a_now a_trial a_diary a_kept a_isKept a_seen a_equations a_wanted r_31.2)] := hD
        refine lv_if_eq (tgt := 420) hx hb dX6_readCommand_413 (by decide) (fun h_32 => ?_) (fun h_32 => ?_)
        · have hf := in_ (bI_0 h_32) hf
          refine lv_iconst (v := 0) hx hb dX6_readCommand_420 (by decide) ?_
          obtain rfl := Option.some.inj hf
          exact kr_z (V := bI false) hx hb hr hlocks (bI_nar _) rfl (hP.sub (ws' := [(a_0, mv a_text a_now a_trial a_diary a_kept a_isKept a_seen a_equations a_wanted r_31.2), (a_text, av_I cy 120 g_text), (a_r0, av_J cy 11 r_27.2)]) [2, 0, 1] rfl) hK (hD.sub (ws' := [(a_0, mv a_text a_now a_trial a_diary a_kept a_isKept a_seen a_equations a_wanted r_31.2), (a_text, av_I cy 120 g_text), (a_r0, av_J cy 11 r_27.2)]) [2, 0, 1] rfl rfl) hN hS hS.2.2 dX6_readCommand_421
        · have hf := ip_ (bI_n0 h_32) hf
          refine lv_iconst (v := 1) hx hb dX6_readCommand_416 (by decide) ?_
          refine lv_goto (tgt := 421) hx hb dX6_readCommand_417 (by decide) ?_
          obtain rfl := Option.some.inj hf
          exact kr_z (V := bI true) hx hb hr hlocks (bI_nar _) rfl (hP.sub (ws' := [(a_0, mv a_text a_now a_trial a_diary a_kept a_isKept a_seen a_equations a_wanted r_31.2), (a_text, av_I cy 120 g_text), (a_r0, av_J cy 11 r_27.2)]) [2, 0, 1] rfl) hK (hD.sub (ws' := [(a_0, mv a_text a_now a_trial a_diary a_kept a_isKept a_seen a_equations a_wanted r_31.2), (a_text, av_I cy 120 g_text), (a_r0, av_J cy 11 r_27.2)]) [2, 0, 1] rfl rfl) hN hS hS.2.2 dX6_readCommand_421
  have hf := in_ h_24 hf
  by_cases h_33 : (g_text (m_spot s_0).toNatClampNeg) = 114
  · have hf := ip_ h_33 hf
    refine lv_tableIn (tgt := 278) (off := 257) hx hb dX6_readCommand_21 (by show ¬ (g_text (m_spot s_0).toNatClampNeg).toInt < 98; rw [h_33]; decide) (by show ¬ 116 < (g_text (m_spot s_0).toNatClampNeg).toInt; rw [h_33]; decide) (by show (#[204, 401, 401, 401, 91, 401, 401, 401, 401, 401, 401, 401, 360, 401, 401, 401, 257, 140, 297] : Array Int)[((g_text (m_spot s_0).toNatClampNeg).toInt - 98).toNat]? = some 257; rw [h_33]; rfl) (by decide) ?_
    refine lv_aload_n hx hb dX6_readCommand_278 rfl (lv_at hl 1 rfl) ?_
    refine lv_iconst (v := 0) hx hb dX6_readCommand_279 (by decide) ?_
    refine lv_iconst (v := 1) hx hb dX6_readCommand_280 (by decide) ?_
    refine lv_iconst (v := 0) hx hb dX6_readCommand_281 (by decide) ?_
    refine lv_iconst (v := 2) hx hb dX6_readCommand_282 (by decide) ?_
    obtain ⟨r_34, hh_r_34, hf⟩ := obd_some hf
    refine kc_i (w1 := [(a_0, mv a_text a_now a_trial a_diary a_kept a_isKept a_seen a_equations a_wanted r_34.2), (a_text, av_I cy 120 g_text)]) (wr := [(a_r0, av_J cy 11 g_r0)]) hP hD hS hA [0, 1] [2] rfl rfl rfl (by decide) (va_runV (As := [.int 0, .int 1, .int 0, .int 2]) (rest := []) ⟨hx, hb, hml, hown, hts⟩ (c_X6_figures (l := l) G cy a_0 a_text a_now a_trial a_diary a_kept a_isKept a_seen a_equations a_wanted H.size (m_refusal s_0, m_size s_0, m_acts s_0, m_rank s_0, ((m_spot s_0) + 1), m_out s_0) g_text 0 1 0 2 n r_34 hh_r_34) (cwV 4 hts gX6_readCommand_X6_figures rfl rfl rfl ddV_X6_figures ⟨Nat.le_of_ble_eq_true rfl, Nat.le_of_ble_eq_true rfl⟩) (preV_ (ci := 6) (q0 := 0) rfl rfl (hP.sub (ws' := [(a_0, mv a_text a_now a_trial a_diary a_kept a_isKept a_seen a_equations a_wanted (m_refusal s_0, m_size s_0, m_acts s_0, m_rank s_0, ((m_spot s_0) + 1), m_out s_0)), (a_text, av_I cy 120 g_text)]) [0, 1] rfl) hK (hD.sub (ws' := [(a_0, mv a_text a_now a_trial a_diary a_kept a_isKept a_seen a_equations a_wanted (m_refusal s_0, m_size s_0, m_acts s_0, m_rank s_0, ((m_spot s_0) + 1), m_out s_0)), (a_text, av_I cy 120 g_text)]) [0, 1] rfl rfl) hN) rfl rfl hl.1 rfl (lv_room (Nat.le_of_ble_eq_true rfl)) dX6_readCommand_283 ⟨Nat.le_of_ble_eq_true rfl, Nat.le_of_ble_eq_true rfl⟩) (fun H locs hP hD hS => ?_)
    have hP : va_P G vwCl [(a_r0, av_J cy 11 g_r0), (a_0, mv a_text a_now a_trial a_diary a_kept a_isKept a_seen a_equations a_wanted r_34.2), (a_text, av_I cy 120 g_text)] H := hP
    have hD : va_D A [(a_r0, av_J cy 11 g_r0), (a_0, mv a_text a_now a_trial a_diary a_kept a_isKept a_seen a_equations a_wanted r_34.2), (a_text, av_I cy 120 g_text)] := hD
    refine lv_istore_n (lv' := [(3, .int r_34.1), (2, .int (g_text (m_spot s_0).toNatClampNeg)), (0, .ref a_0), (1, .ref a_r0)]) hx hb dX6_readCommand_286 rfl hl (by decide) rfl (fun ls hl => ?_)
    refine lv_iload_n hx hb dX6_readCommand_287 rfl (lv_at hl 0 rfl) ?_
    refine lv_iconst (v := (-1)) hx hb dX6_readCommand_288 (by decide) ?_
    refine lv_icmp_eq (tgt := 316) hx hb dX6_readCommand_289 (by decide) (fun h_35 => ?_) (fun h_35 => ?_)
    · have hf := ip_ h_35 hf
      refine lv_iconst (v := 0) hx hb dX6_readCommand_316 (by decide) ?_
      obtain rfl := Option.some.inj hf
      exact kr_z (V := bI false) hx hb hr hlocks (bI_nar _) rfl (hP.sub (ws' := [(a_0, mv a_text a_now a_trial a_diary a_kept a_isKept a_seen a_equations a_wanted r_34.2), (a_text, av_I cy 120 g_text), (a_r0, av_J cy 11 g_r0)]) [1, 2, 0] rfl) hK (hD.sub (ws' := [(a_0, mv a_text a_now a_trial a_diary a_kept a_isKept a_seen a_equations a_wanted r_34.2), (a_text, av_I cy 120 g_text), (a_r0, av_J cy 11 g_r0)]) [1, 2, 0] rfl rfl) hN hS hS.2.2 dX6_readCommand_317
    · have hf := in_ h_35 hf
      refine lv_aload_n hx hb dX6_readCommand_292 rfl (lv_at hl 2 rfl) ?_
      refine lv_aload_n hx hb dX6_readCommand_293 rfl (lv_at hl 3 rfl) ?_
      refine lv_iload_n hx hb dX6_readCommand_294 rfl (lv_at hl 0 rfl) ?_
      obtain ⟨r_36, hh_r_36⟩ : ∃ z, z = f_X6_ruleOn g_r0 r_34.1 := ⟨_, rfl⟩
      have hf := lt_e hh_r_36 hf
      refine kc_i (w1 := [(a_r0, av_J cy 11 r_36.2)]) (wr := [(a_0, mv a_text a_now a_trial a_diary a_kept a_isKept a_seen a_equations a_wanted r_34.2), (a_text, av_I cy 120 g_text)]) hP hD hS hA [0] [1, 2] rfl rfl rfl (by decide) (va_runS (As := [.ref a_r0, .int r_34.1]) (rest := [.ref a_0]) ⟨hx, hb, hml, hown, hts⟩ (c_X6_ruleOn (l := l) G cy a_r0 H.size g_r0 r_34.1  r_36 hh_r_36.symm) (va_cwS 2 hts gX6_readCommand_X6_ruleOn rfl rfl rfl ddN_X6_ruleOn ⟨Nat.le_of_ble_eq_true rfl, Nat.le_of_ble_eq_true rfl⟩) (preS_ (hP.sub (ws' := [(a_r0, av_J cy 11 g_r0)]) [0] rfl) hK (hD.sub (ws' := [(a_r0, av_J cy 11 g_r0)]) [0] rfl rfl) hN) rfl rfl hl.1 rfl (lv_room (Nat.le_of_ble_eq_true rfl)) dX6_readCommand_295 ⟨Nat.le_of_ble_eq_true rfl, Nat.le_of_ble_eq_true rfl⟩) (fun H locs hP hD hS => ?_)
      have hP : va_P G vwCl [(a_0, mv a_text a_now a_trial a_diary a_kept a_isKept a_seen a_equations a_wanted r_34.2), (a_text, av_I cy 120 g_text), (a_r0, av_J cy 11 r_36.2)] H := hP
      have hD : va_D A [(a_0, mv a_text a_now a_trial a_diary a_kept a_isKept a_seen a_equations a_wanted r_34.2), (a_text, av_I cy 120 g_text), (a_r0, av_J cy 11 r_36.2)] := hD
      refine lv_if_lt (tgt := 305) hx hb dX6_readCommand_298 (by decide) (fun h_37 => ?_) (fun h_37 => ?_)
      · have hf := ip_ h_37 hf
        refine lv_iconst (v := 0) hx hb dX6_readCommand_305 (by decide) ?_
        obtain ⟨r_38, hh_r_38⟩ : ∃ z, z = f_X6_done r_34.2 false := ⟨_, rfl⟩
        have hf := lt_e hh_r_38 hf
        refine kc_i (w1 := [(a_0, mv a_text a_now a_trial a_diary a_kept a_isKept a_seen a_equations a_wanted r_38.2)]) (wr := [(a_text, av_I cy 120 g_text), (a_r0, av_J cy 11 r_36.2)]) hP hD hS hA [0] [1, 2] rfl rfl rfl (by decide) (va_runV (As := [.int (bI false)]) (rest := []) ⟨hx, hb, hml, hown, hts⟩ (c_X6_done (l := l) G cy a_0 a_text a_now a_trial a_diary a_kept a_isKept a_seen a_equations a_wanted H.size r_34.2 false  r_38 hh_r_38.symm) (cwV 1 hts gX6_readCommand_X6_done rfl rfl rfl ddV_X6_done ⟨Nat.le_of_ble_eq_true rfl, Nat.le_of_ble_eq_true rfl⟩) (preV_ (ci := 6) (q0 := 0) rfl rfl (hP.sub (ws' := [(a_0, mv a_text a_now a_trial a_diary a_kept a_isKept a_seen a_equations a_wanted r_34.2)]) [0] rfl) hK (hD.sub (ws' := [(a_0, mv a_text a_now a_trial a_diary a_kept a_isKept a_seen a_equations a_wanted r_34.2)]) [0] rfl rfl) hN) rfl rfl hl.1 rfl (lv_room (Nat.le_of_ble_eq_true rfl)) dX6_readCommand_306 ⟨Nat.le_of_ble_eq_true rfl, Nat.le_of_ble_eq_true rfl⟩) (fun H locs hP hD hS => ?_)
        have hP : va_P G vwCl [(a_text, av_I cy 120 g_text), (a_r0, av_J cy 11 r_36.2), (a_0, mv a_text a_now a_trial a_diary a_kept a_isKept a_seen a_equations a_wanted r_38.2)] H := hP
        have hD : va_D A [(a_text, av_I cy 120 g_text), (a_r0, av_J cy 11 r_36.2), (a_0, mv a_text a_now a_trial a_diary a_kept a_isKept a_seen a_equations a_wanted r_38.2)] := hD
        refine lv_if_eq (tgt := 316) hx hb dX6_readCommand_309 (by decide) (fun h_39 => ?_) (fun h_39 => ?_)
        · have hf := in_ (bI_0 h_39) hf
          refine lv_iconst (v := 0) hx hb dX6_readCommand_316 (by decide) ?_
          obtain rfl := Option.some.inj hf
          exact kr_z (V := bI false) hx hb hr hlocks (bI_nar _) rfl (hP.sub (ws' := [(a_0, mv a_text a_now a_trial a_diary a_kept a_isKept a_seen a_equations a_wanted r_38.2), (a_text, av_I cy 120 g_text), (a_r0, av_J cy 11 r_36.2)]) [2, 0, 1] rfl) hK (hD.sub (ws' := [(a_0, mv a_text a_now a_trial a_diary a_kept a_isKept a_seen a_equations a_wanted r_38.2), (a_text, av_I cy 120 g_text), (a_r0, av_J cy 11 r_36.2)]) [2, 0, 1] rfl rfl) hN hS hS.2.2 dX6_readCommand_317
        · have hf := ip_ (bI_n0 h_39) hf
          refine lv_iconst (v := 1) hx hb dX6_readCommand_312 (by decide) ?_
          refine lv_goto (tgt := 317) hx hb dX6_readCommand_313 (by decide) ?_
          obtain rfl := Option.some.inj hf
          exact kr_z (V := bI true) hx hb hr hlocks (bI_nar _) rfl (hP.sub (ws' := [(a_0, mv a_text a_now a_trial a_diary a_kept a_isKept a_seen a_equations a_wanted r_38.2), (a_text, av_I cy 120 g_text), (a_r0, av_J cy 11 r_36.2)]) [2, 0, 1] rfl) hK (hD.sub (ws' := [(a_0, mv a_text a_now a_trial a_diary a_kept a_isKept a_seen a_equations a_wanted r_38.2), (a_text, av_I cy 120 g_text), (a_r0, av_J cy 11 r_36.2)]) [2, 0, 1] rfl rfl) hN hS hS.2.2 dX6_readCommand_317
      · have hf := in_ h_37 hf
        refine lv_iconst (v := 1) hx hb dX6_readCommand_301 (by decide) ?_
        refine lv_goto (tgt := 306) hx hb dX6_readCommand_302 (by decide) ?_
        obtain ⟨r_40, hh_r_40⟩ : ∃ z, z = f_X6_done r_34.2 true := ⟨_, rfl⟩
        have hf := lt_e hh_r_40 hf
        refine kc_i (w1 := [(a_0, mv a_text a_now a_trial a_diary a_kept a_isKept a_seen a_equations a_wanted r_40.2)]) (wr := [(a_text, av_I cy 120 g_text), (a_r0, av_J cy 11 r_36.2)]) hP hD hS hA [0] [1, 2] rfl rfl rfl (by decide) (va_runV (As := [.int (bI true)]) (rest := []) ⟨hx, hb, hml, hown, hts⟩ (c_X6_done (l := l) G cy a_0 a_text a_now a_trial a_diary a_kept a_isKept a_seen a_equations a_wanted H.size r_34.2 true  r_40 hh_r_40.symm) (cwV 1 hts gX6_readCommand_X6_done rfl rfl rfl ddV_X6_done ⟨Nat.le_of_ble_eq_true rfl, Nat.le_of_ble_eq_true rfl⟩) (preV_ (ci := 6) (q0 := 0) rfl rfl (hP.sub (ws' := [(a_0, mv a_text a_now a_trial a_diary a_kept a_isKept a_seen a_equations a_wanted r_34.2)]) [0] rfl) hK (hD.sub (ws' := [(a_0, mv a_text a_now a_trial a_diary a_kept a_isKept a_seen a_equations a_wanted r_34.2)]) [0] rfl rfl) hN) rfl rfl hl.1 rfl (lv_room (Nat.le_of_ble_eq_true rfl)) dX6_readCommand_306 ⟨Nat.le_of_ble_eq_true rfl, Nat.le_of_ble_eq_true rfl⟩) (fun H locs hP hD hS => ?_)
        have hP : va_P G vwCl [(a_text, av_I cy 120 g_text), (a_r0, av_J cy 11 r_36.2), (a_0, mv a_text a_now a_trial a_diary a_kept a_isKept a_seen a_equations a_wanted r_40.2)] H := hP
        have hD : va_D A [(a_text, av_I cy 120 g_text), (a_r0, av_J cy 11 r_36.2), (a_0, mv a_text a_now a_trial a_diary a_kept a_isKept a_seen a_equations a_wanted r_40.2)] := hD
        refine lv_if_eq (tgt := 316) hx hb dX6_readCommand_309 (by decide) (fun h_41 => ?_) (fun h_41 => ?_)
        · have hf := in_ (bI_0 h_41) hf
          refine lv_iconst (v := 0) hx hb dX6_readCommand_316 (by decide) ?_
          obtain rfl := Option.some.inj hf
          exact kr_z (V := bI false) hx hb hr hlocks (bI_nar _) rfl (hP.sub (ws' := [(a_0, mv a_text a_now a_trial a_diary a_kept a_isKept a_seen a_equations a_wanted r_40.2), (a_text, av_I cy 120 g_text), (a_r0, av_J cy 11 r_36.2)]) [2, 0, 1] rfl) hK (hD.sub (ws' := [(a_0, mv a_text a_now a_trial a_diary a_kept a_isKept a_seen a_equations a_wanted r_40.2), (a_text, av_I cy 120 g_text), (a_r0, av_J cy 11 r_36.2)]) [2, 0, 1] rfl rfl) hN hS hS.2.2 dX6_readCommand_317
        · have hf := ip_ (bI_n0 h_41) hf
          refine lv_iconst (v := 1) hx hb dX6_readCommand_312 (by decide) ?_
          refine lv_goto (tgt := 317) hx hb dX6_readCommand_313 (by decide) ?_
          obtain rfl := Option.some.inj hf
          exact kr_z (V := bI true) hx hb hr hlocks (bI_nar _) rfl (hP.sub (ws' := [(a_0, mv a_text a_now a_trial a_diary a_kept a_isKept a_seen a_equations a_wanted r_40.2), (a_text, av_I cy 120 g_text), (a_r0, av_J cy 11 r_36.2)]) [2, 0, 1] rfl) hK (hD.sub (ws' := [(a_0, mv a_text a_now a_trial a_diary a_kept a_isKept a_seen a_equations a_wanted r_40.2), (a_text, av_I cy 120 g_text), (a_r0, av_J cy 11 r_36.2)]) [2, 0, 1] rfl rfl) hN hS hS.2.2 dX6_readCommand_317
  have hf := in_ h_33 hf
  by_cases h_42 : (g_text (m_spot s_0).toNatClampNeg) = 115
  · have hf := ip_ h_42 hf
    refine lv_tableIn (tgt := 161) (off := 140) hx hb dX6_readCommand_21 (by show ¬ (g_text (m_spot s_0).toNatClampNeg).toInt < 98; rw [h_42]; decide) (by show ¬ 116 < (g_text (m_spot s_0).toNatClampNeg).toInt; rw [h_42]; decide) (by show (#[204, 401, 401, 401, 91, 401, 401, 401, 401, 401, 401, 401, 360, 401, 401, 401, 257, 140, 297] : Array Int)[((g_text (m_spot s_0).toNatClampNeg).toInt - 98).toNat]? = some 140; rw [h_42]; rfl) (by decide) ?_
    refine lv_aload_n hx hb dX6_readCommand_161 rfl (lv_at hl 1 rfl) ?_
    refine lv_iconst (v := 0) hx hb dX6_readCommand_162 (by decide) ?_
    refine lv_iconst (v := 2) hx hb dX6_readCommand_163 (by decide) ?_
    refine lv_iconst (v := 0) hx hb dX6_readCommand_164 (by decide) ?_
    refine lv_bipush (v := 63) hx hb dX6_readCommand_165 (by decide) ?_
    obtain ⟨r_43, hh_r_43, hf⟩ := obd_some hf
    refine kc_i (w1 := [(a_0, mv a_text a_now a_trial a_diary a_kept a_isKept a_seen a_equations a_wanted r_43.2), (a_text, av_I cy 120 g_text)]) (wr := [(a_r0, av_J cy 11 g_r0)]) hP hD hS hA [0, 1] [2] rfl rfl rfl (by decide) (va_runV (As := [.int 0, .int 2, .int 0, .int 63]) (rest := []) ⟨hx, hb, hml, hown, hts⟩ (c_X6_figures (l := l) G cy a_0 a_text a_now a_trial a_diary a_kept a_isKept a_seen a_equations a_wanted H.size (m_refusal s_0, m_size s_0, m_acts s_0, m_rank s_0, ((m_spot s_0) + 1), m_out s_0) g_text 0 2 0 63 n r_43 hh_r_43) (cwV 4 hts gX6_readCommand_X6_figures rfl rfl rfl ddV_X6_figures ⟨Nat.le_of_ble_eq_true rfl, Nat.le_of_ble_eq_true rfl⟩) (preV_ (ci := 6) (q0 := 0) rfl rfl (hP.sub (ws' := [(a_0, mv a_text a_now a_trial a_diary a_kept a_isKept a_seen a_equations a_wanted (m_refusal s_0, m_size s_0, m_acts s_0, m_rank s_0, ((m_spot s_0) + 1), m_out s_0)), (a_text, av_I cy 120 g_text)]) [0, 1] rfl) hK (hD.sub (ws' := [(a_0, mv a_text a_now a_trial a_diary a_kept a_isKept a_seen a_equations a_wanted (m_refusal s_0, m_size s_0, m_acts s_0, m_rank s_0, ((m_spot s_0) + 1), m_out s_0)), (a_text, av_I cy 120 g_text)]) [0, 1] rfl rfl) hN) rfl rfl hl.1 rfl (lv_room (Nat.le_of_ble_eq_true rfl)) dX6_readCommand_167 ⟨Nat.le_of_ble_eq_true rfl, Nat.le_of_ble_eq_true rfl⟩) (fun H locs hP hD hS => ?_)
    have hP : va_P G vwCl [(a_r0, av_J cy 11 g_r0), (a_0, mv a_text a_now a_trial a_diary a_kept a_isKept a_seen a_equations a_wanted r_43.2), (a_text, av_I cy 120 g_text)] H := hP
    have hD : va_D A [(a_r0, av_J cy 11 g_r0), (a_0, mv a_text a_now a_trial a_diary a_kept a_isKept a_seen a_equations a_wanted r_43.2), (a_text, av_I cy 120 g_text)] := hD
    refine lv_istore_n (lv' := [(3, .int r_43.1), (2, .int (g_text (m_spot s_0).toNatClampNeg)), (0, .ref a_0), (1, .ref a_r0)]) hx hb dX6_readCommand_170 rfl hl (by decide) rfl (fun ls hl => ?_)
    refine lv_aload_n hx hb dX6_readCommand_171 rfl (lv_at hl 2 rfl) ?_
    refine lv_iload_n hx hb dX6_readCommand_172 rfl (lv_at hl 0 rfl) ?_
    refine lv_iconst (v := 1) hx hb dX6_readCommand_173 (by decide) ?_
    refine lv_iconst (v := 0) hx hb dX6_readCommand_174 (by decide) ?_
    refine lv_iconst (v := 3) hx hb dX6_readCommand_175 (by decide) ?_
    obtain ⟨r_44, hh_r_44, hf⟩ := obd_some hf
    refine kc_i (w1 := [(a_0, mv a_text a_now a_trial a_diary a_kept a_isKept a_seen a_equations a_wanted r_44.2), (a_text, av_I cy 120 g_text)]) (wr := [(a_r0, av_J cy 11 g_r0)]) hP hD hS hA [1, 2] [0] rfl rfl rfl (by decide) (va_runV (As := [.int r_43.1, .int 1, .int 0, .int 3]) (rest := []) ⟨hx, hb, hml, hown, hts⟩ (c_X6_figures (l := l) G cy a_0 a_text a_now a_trial a_diary a_kept a_isKept a_seen a_equations a_wanted H.size r_43.2 g_text r_43.1 1 0 3 n r_44 hh_r_44) (cwV 4 hts gX6_readCommand_X6_figures rfl rfl rfl ddV_X6_figures ⟨Nat.le_of_ble_eq_true rfl, Nat.le_of_ble_eq_true rfl⟩) (preV_ (ci := 6) (q0 := 0) rfl rfl (hP.sub (ws' := [(a_0, mv a_text a_now a_trial a_diary a_kept a_isKept a_seen a_equations a_wanted r_43.2), (a_text, av_I cy 120 g_text)]) [1, 2] rfl) hK (hD.sub (ws' := [(a_0, mv a_text a_now a_trial a_diary a_kept a_isKept a_seen a_equations a_wanted r_43.2), (a_text, av_I cy 120 g_text)]) [1, 2] rfl rfl) hN) rfl rfl hl.1 rfl (lv_room (Nat.le_of_ble_eq_true rfl)) dX6_readCommand_176 ⟨Nat.le_of_ble_eq_true rfl, Nat.le_of_ble_eq_true rfl⟩) (fun H locs hP hD hS => ?_)
    have hP : va_P G vwCl [(a_r0, av_J cy 11 g_r0), (a_0, mv a_text a_now a_trial a_diary a_kept a_isKept a_seen a_equations a_wanted r_44.2), (a_text, av_I cy 120 g_text)] H := hP
    have hD : va_D A [(a_r0, av_J cy 11 g_r0), (a_0, mv a_text a_now a_trial a_diary a_kept a_isKept a_seen a_equations a_wanted r_44.2), (a_text, av_I cy 120 g_text)] := hD
    refine lv_istore (lv' := [(4, .int r_44.1), (3, .int r_43.1), (2, .int (g_text (m_spot s_0).toNatClampNeg)), (0, .ref a_0), (1, .ref a_r0)]) hx hb dX6_readCommand_179 hl (by decide) rfl (fun ls hl => ?_)
    refine lv_iload hx hb dX6_readCommand_181 (lv_at hl 0 rfl) ?_
    refine lv_iconst (v := (-1)) hx hb dX6_readCommand_183 (by decide) ?_
    refine lv_icmp_eq (tgt := 223) hx hb dX6_readCommand_184 (by decide) (fun h_45 => ?_) (fun h_45 => ?_)
    · have hf := ip_ h_45 hf
      refine lv_iconst (v := 0) hx hb dX6_readCommand_223 (by decide) ?_
      obtain rfl := Option.some.inj hf
      exact kr_z (V := bI false) hx hb hr hlocks (bI_nar _) rfl (hP.sub (ws' := [(a_0, mv a_text a_now a_trial a_diary a_kept a_isKept a_seen a_equations a_wanted r_44.2), (a_text, av_I cy 120 g_text), (a_r0, av_J cy 11 g_r0)]) [1, 2, 0] rfl) hK (hD.sub (ws' := [(a_0, mv a_text a_now a_trial a_diary a_kept a_isKept a_seen a_equations a_wanted r_44.2), (a_text, av_I cy 120 g_text), (a_r0, av_J cy 11 g_r0)]) [1, 2, 0] rfl rfl) hN hS hS.2.2 dX6_readCommand_224
    · have hf := in_ h_45 hf
      refine lv_aload_n hx hb dX6_readCommand_187 rfl (lv_at hl 3 rfl) ?_
      refine lv_aload_n hx hb dX6_readCommand_188 rfl (lv_at hl 4 rfl) ?_
      refine lv_iload_n hx hb dX6_readCommand_189 rfl (lv_at hl 1 rfl) ?_
      refine lv_iload hx hb dX6_readCommand_190 (lv_at hl 0 rfl) ?_
      obtain ⟨r_46, hh_r_46, hf⟩ := obd_some hf
      refine kc_i (w1 := [(a_r0, av_J cy 11 g_r0)]) (wr := [(a_0, mv a_text a_now a_trial a_diary a_kept a_isKept a_seen a_equations a_wanted r_44.2), (a_text, av_I cy 120 g_text)]) hP hD hS hA [0] [1, 2] rfl rfl rfl (by decide) (va_runS (As := [.ref a_r0, .int r_43.1, .int r_44.1]) (rest := [.ref a_0]) ⟨hx, hb, hml, hown, hts⟩ (c_X6_canScratch (l := l) G cy a_r0 H.size g_r0 r_43.1 r_44.1  r_46 hh_r_46) (va_cwS 3 hts gX6_readCommand_X6_canScratch rfl rfl rfl ddN_X6_canScratch ⟨Nat.le_of_ble_eq_true rfl, Nat.le_of_ble_eq_true rfl⟩) (preS_ (hP.sub (ws' := [(a_r0, av_J cy 11 g_r0)]) [0] rfl) hK (hD.sub (ws' := [(a_r0, av_J cy 11 g_r0)]) [0] rfl rfl) hN) rfl rfl hl.1 rfl (lv_room (Nat.le_of_ble_eq_true rfl)) dX6_readCommand_192 ⟨Nat.le_of_ble_eq_true rfl, Nat.le_of_ble_eq_true rfl⟩) (fun H locs hP hD hS => ?_)
      have hP : va_P G vwCl [(a_0, mv a_text a_now a_trial a_diary a_kept a_isKept a_seen a_equations a_wanted r_44.2), (a_text, av_I cy 120 g_text), (a_r0, av_J cy 11 g_r0)] H := hP
      have hD : va_D A [(a_0, mv a_text a_now a_trial a_diary a_kept a_isKept a_seen a_equations a_wanted r_44.2), (a_text, av_I cy 120 g_text), (a_r0, av_J cy 11 g_r0)] := hD
      refine lv_if_eq (tgt := 212) hx hb dX6_readCommand_195 (by decide) (fun h_47 => ?_) (fun h_47 => ?_)
      · have hf := in_ (bI_0 h_47) hf
        refine lv_iconst (v := 0) hx hb dX6_readCommand_212 (by decide) ?_
        obtain ⟨r_48, hh_r_48⟩ : ∃ z, z = f_X6_done r_44.2 false := ⟨_, rfl⟩
        have hf := lt_e hh_r_48 hf
        refine kc_i (w1 := [(a_0, mv a_text a_now a_trial a_diary a_kept a_isKept a_seen a_equations a_wanted r_48.2)]) (wr := [(a_text, av_I cy 120 g_text), (a_r0, av_J cy 11 g_r0)]) hP hD hS hA [0] [1, 2] rfl rfl rfl (by decide) (va_runV (As := [.int (bI false)]) (rest := []) ⟨hx, hb, hml, hown, hts⟩ (c_X6_done (l := l) G cy a_0 a_text a_now a_trial a_diary a_kept a_isKept a_seen a_equations a_wanted H.size r_44.2 false  r_48 hh_r_48.symm) (cwV 1 hts gX6_readCommand_X6_done rfl rfl rfl ddV_X6_done ⟨Nat.le_of_ble_eq_true rfl, Nat.le_of_ble_eq_true rfl⟩) (preV_ (ci := 6) (q0 := 0) rfl rfl (hP.sub (ws' := [(a_0, mv a_text a_now a_trial a_diary a_kept a_isKept a_seen a_equations a_wanted r_44.2)]) [0] rfl) hK (hD.sub (ws' := [(a_0, mv a_text a_now a_trial a_diary a_kept a_isKept a_seen a_equations a_wanted r_44.2)]) [0] rfl rfl) hN) rfl rfl hl.1 rfl (lv_room (Nat.le_of_ble_eq_true rfl)) dX6_readCommand_213 ⟨Nat.le_of_ble_eq_true rfl, Nat.le_of_ble_eq_true rfl⟩) (fun H locs hP hD hS => ?_)
        have hP : va_P G vwCl [(a_text, av_I cy 120 g_text), (a_r0, av_J cy 11 g_r0), (a_0, mv a_text a_now a_trial a_diary a_kept a_isKept a_seen a_equations a_wanted r_48.2)] H := hP
        have hD : va_D A [(a_text, av_I cy 120 g_text), (a_r0, av_J cy 11 g_r0), (a_0, mv a_text a_now a_trial a_diary a_kept a_isKept a_seen a_equations a_wanted r_48.2)] := hD
        refine lv_if_eq (tgt := 223) hx hb dX6_readCommand_216 (by decide) (fun h_49 => ?_) (fun h_49 => ?_)
        · have hf := in_ (bI_0 h_49) hf
          refine lv_iconst (v := 0) hx hb dX6_readCommand_223 (by decide) ?_
          obtain rfl := Option.some.inj hf
          exact kr_z (V := bI false) hx hb hr hlocks (bI_nar _) rfl (hP.sub (ws' := [(a_0, mv a_text a_now a_trial a_diary a_kept a_isKept a_seen a_equations a_wanted r_48.2), (a_text, av_I cy 120 g_text), (a_r0, av_J cy 11 g_r0)]) [2, 0, 1] rfl) hK (hD.sub (ws' := [(a_0, mv a_text a_now a_trial a_diary a_kept a_isKept a_seen a_equations a_wanted r_48.2), (a_text, av_I cy 120 g_text), (a_r0, av_J cy 11 g_r0)]) [2, 0, 1] rfl rfl) hN hS hS.2.2 dX6_readCommand_224
        · have hf := ip_ (bI_n0 h_49) hf
          refine lv_iconst (v := 1) hx hb dX6_readCommand_219 (by decide) ?_
          refine lv_goto (tgt := 224) hx hb dX6_readCommand_220 (by decide) ?_
          obtain rfl := Option.some.inj hf
          exact kr_z (V := bI true) hx hb hr hlocks (bI_nar _) rfl (hP.sub (ws' := [(a_0, mv a_text a_now a_trial a_diary a_kept a_isKept a_seen a_equations a_wanted r_48.2), (a_text, av_I cy 120 g_text), (a_r0, av_J cy 11 g_r0)]) [2, 0, 1] rfl) hK (hD.sub (ws' := [(a_0, mv a_text a_now a_trial a_diary a_kept a_isKept a_seen a_equations a_wanted r_48.2), (a_text, av_I cy 120 g_text), (a_r0, av_J cy 11 g_r0)]) [2, 0, 1] rfl rfl) hN hS hS.2.2 dX6_readCommand_224
      · have hf := ip_ (bI_n0 h_47) hf
        refine lv_aload_n hx hb dX6_readCommand_198 rfl (lv_at hl 4 rfl) ?_
        refine lv_iload_n hx hb dX6_readCommand_199 rfl (lv_at hl 1 rfl) ?_
        refine lv_iload hx hb dX6_readCommand_200 (lv_at hl 0 rfl) ?_
        obtain ⟨r_50, hh_r_50, hf⟩ := obd_some hf
        refine kc_i (w1 := [(a_r0, av_J cy 11 r_50.2)]) (wr := [(a_0, mv a_text a_now a_trial a_diary a_kept a_isKept a_seen a_equations a_wanted r_44.2), (a_text, av_I cy 120 g_text)]) hP hD hS hA [2] [0, 1] rfl rfl rfl (by decide) (va_runS (As := [.ref a_r0, .int r_43.1, .int r_44.1]) (rest := [.ref a_0]) ⟨hx, hb, hml, hown, hts⟩ (c_X6_scratchOn (l := l) G cy a_r0 H.size g_r0 r_43.1 r_44.1  r_50 hh_r_50) (va_cwS 3 hts gX6_readCommand_X6_scratchOn rfl rfl rfl ddN_X6_scratchOn ⟨Nat.le_of_ble_eq_true rfl, Nat.le_of_ble_eq_true rfl⟩) (preS_ (hP.sub (ws' := [(a_r0, av_J cy 11 g_r0)]) [2] rfl) hK (hD.sub (ws' := [(a_r0, av_J cy 11 g_r0)]) [2] rfl rfl) hN) rfl rfl hl.1 rfl (lv_room (Nat.le_of_ble_eq_true rfl)) dX6_readCommand_202 ⟨Nat.le_of_ble_eq_true rfl, Nat.le_of_ble_eq_true rfl⟩) (fun H locs hP hD hS => ?_)
        have hP : va_P G vwCl [(a_0, mv a_text a_now a_trial a_diary a_kept a_isKept a_seen a_equations a_wanted r_44.2), (a_text, av_I cy 120 g_text), (a_r0, av_J cy 11 r_50.2)] H := hP
        have hD : va_D A [(a_0, mv a_text a_now a_trial a_diary a_kept a_isKept a_seen a_equations a_wanted r_44.2), (a_text, av_I cy 120 g_text), (a_r0, av_J cy 11 r_50.2)] := hD
        refine lv_if_lt (tgt := 212) hx hb dX6_readCommand_205 (by decide) (fun h_51 => ?_) (fun h_51 => ?_)
        · have hf := ip_ h_51 hf
          refine lv_iconst (v := 0) hx hb dX6_readCommand_212 (by decide) ?_
          obtain ⟨r_52, hh_r_52⟩ : ∃ z, z = f_X6_done r_44.2 false := ⟨_, rfl⟩
          have hf := lt_e hh_r_52 hf
          refine kc_i (w1 := [(a_0, mv a_text a_now a_trial a_diary a_kept a_isKept a_seen a_equations a_wanted r_52.2)]) (wr := [(a_text, av_I cy 120 g_text), (a_r0, av_J cy 11 r_50.2)]) hP hD hS hA [0] [1, 2] rfl rfl rfl (by decide) (va_runV (As := [.int (bI false)]) (rest := []) ⟨hx, hb, hml, hown, hts⟩ (c_X6_done (l := l) G cy a_0 a_text a_now a_trial a_diary a_kept a_isKept a_seen a_equations a_wanted H.size r_44.2 false  r_52 hh_r_52.symm) (cwV 1 hts gX6_readCommand_X6_done rfl rfl rfl ddV_X6_done ⟨Nat.le_of_ble_eq_true rfl, Nat.le_of_ble_eq_true rfl⟩) (preV_ (ci := 6) (q0 := 0) rfl rfl (hP.sub (ws' := [(a_0, mv a_text a_now a_trial a_diary a_kept a_isKept a_seen a_equations a_wanted r_44.2)]) [0] rfl) hK (hD.sub (ws' := [(a_0, mv a_text a_now a_trial a_diary a_kept a_isKept a_seen a_equations a_wanted r_44.2)]) [0] rfl rfl) hN) rfl rfl hl.1 rfl (lv_room (Nat.le_of_ble_eq_true rfl)) dX6_readCommand_213 ⟨Nat.le_of_ble_eq_true rfl, Nat.le_of_ble_eq_true rfl⟩) (fun H locs hP hD hS => ?_)
          have hP : va_P G vwCl [(a_text, av_I cy 120 g_text), (a_r0, av_J cy 11 r_50.2), (a_0, mv a_text a_now a_trial a_diary a_kept a_isKept a_seen a_equations a_wanted r_52.2)] H := hP
          have hD : va_D A [(a_text, av_I cy 120 g_text), (a_r0, av_J cy 11 r_50.2), (a_0, mv a_text a_now a_trial a_diary a_kept a_isKept a_seen a_equations a_wanted r_52.2)] := hD
          refine lv_if_eq (tgt := 223) hx hb dX6_readCommand_216 (by decide) (fun h_53 => ?_) (fun h_53 => ?_)
          · have hf := in_ (bI_0 h_53) hf
            refine lv_iconst (v := 0) hx hb dX6_readCommand_223 (by decide) ?_
            obtain rfl := Option.some.inj hf
            exact kr_z (V := bI false) hx hb hr hlocks (bI_nar _) rfl (hP.sub (ws' := [(a_0, mv a_text a_now a_trial a_diary a_kept a_isKept a_seen a_equations a_wanted r_52.2), (a_text, av_I cy 120 g_text), (a_r0, av_J cy 11 r_50.2)]) [2, 0, 1] rfl) hK (hD.sub (ws' := [(a_0, mv a_text a_now a_trial a_diary a_kept a_isKept a_seen a_equations a_wanted r_52.2), (a_text, av_I cy 120 g_text), (a_r0, av_J cy 11 r_50.2)]) [2, 0, 1] rfl rfl) hN hS hS.2.2 dX6_readCommand_224
          · have hf := ip_ (bI_n0 h_53) hf
            refine lv_iconst (v := 1) hx hb dX6_readCommand_219 (by decide) ?_
            refine lv_goto (tgt := 224) hx hb dX6_readCommand_220 (by decide) ?_
            obtain rfl := Option.some.inj hf
            exact kr_z (V := bI true) hx hb hr hlocks (bI_nar _) rfl (hP.sub (ws' := [(a_0, mv a_text a_now a_trial a_diary a_kept a_isKept a_seen a_equations a_wanted r_52.2), (a_text, av_I cy 120 g_text), (a_r0, av_J cy 11 r_50.2)]) [2, 0, 1] rfl) hK (hD.sub (ws' := [(a_0, mv a_text a_now a_trial a_diary a_kept a_isKept a_seen a_equations a_wanted r_52.2), (a_text, av_I cy 120 g_text), (a_r0, av_J cy 11 r_50.2)]) [2, 0, 1] rfl rfl) hN hS hS.2.2 dX6_readCommand_224
        · have hf := in_ h_51 hf
          refine lv_iconst (v := 1) hx hb dX6_readCommand_208 (by decide) ?_
          refine lv_goto (tgt := 213) hx hb dX6_readCommand_209 (by decide) ?_
          obtain ⟨r_54, hh_r_54⟩ : ∃ z, z = f_X6_done r_44.2 true := ⟨_, rfl⟩
          have hf := lt_e hh_r_54 hf
          refine kc_i (w1 := [(a_0, mv a_text a_now a_trial a_diary a_kept a_isKept a_seen a_equations a_wanted r_54.2)]) (wr := [(a_text, av_I cy 120 g_text), (a_r0, av_J cy 11 r_50.2)]) hP hD hS hA [0] [1, 2] rfl rfl rfl (by decide) (va_runV (As := [.int (bI true)]) (rest := []) ⟨hx, hb, hml, hown, hts⟩ (c_X6_done (l := l) G cy a_0 a_text a_now a_trial a_diary a_kept a_isKept a_seen a_equations a_wanted H.size r_44.2 true  r_54 hh_r_54.symm) (cwV 1 hts gX6_readCommand_X6_done rfl rfl rfl ddV_X6_done ⟨Nat.le_of_ble_eq_true rfl, Nat.le_of_ble_eq_true rfl⟩) (preV_ (ci := 6) (q0 := 0) rfl rfl (hP.sub (ws' := [(a_0, mv a_text a_now a_trial a_diary a_kept a_isKept a_seen a_equations a_wanted r_44.2)]) [0] rfl) hK (hD.sub (ws' := [(a_0, mv a_text a_now a_trial a_diary a_kept a_isKept a_seen a_equations a_wanted r_44.2)]) [0] rfl rfl) hN) rfl rfl hl.1 rfl (lv_room (Nat.le_of_ble_eq_true rfl)) dX6_readCommand_213 ⟨Nat.le_of_ble_eq_true rfl, Nat.le_of_ble_eq_true rfl⟩) (fun H locs hP hD hS => ?_)
          have hP : va_P G vwCl [(a_text, av_I cy 120 g_text), (a_r0, av_J cy 11 r_50.2), (a_0, mv a_text a_now a_trial a_diary a_kept a_isKept a_seen a_equations a_wanted r_54.2)] H := hP
          have hD : va_D A [(a_text, av_I cy 120 g_text), (a_r0, av_J cy 11 r_50.2), (a_0, mv a_text a_now a_trial a_diary a_kept a_isKept a_seen a_equations a_wanted r_54.2)] := hD
          refine lv_if_eq (tgt := 223) hx hb dX6_readCommand_216 (by decide) (fun h_55 => ?_) (fun h_55 => ?_)
          · have hf := in_ (bI_0 h_55) hf
            refine lv_iconst (v := 0) hx hb dX6_readCommand_223 (by decide) ?_
            obtain rfl := Option.some.inj hf
            exact kr_z (V := bI false) hx hb hr hlocks (bI_nar _) rfl (hP.sub (ws' := [(a_0, mv a_text a_now a_trial a_diary a_kept a_isKept a_seen a_equations a_wanted r_54.2), (a_text, av_I cy 120 g_text), (a_r0, av_J cy 11 r_50.2)]) [2, 0, 1] rfl) hK (hD.sub (ws' := [(a_0, mv a_text a_now a_trial a_diary a_kept a_isKept a_seen a_equations a_wanted r_54.2), (a_text, av_I cy 120 g_text), (a_r0, av_J cy 11 r_50.2)]) [2, 0, 1] rfl rfl) hN hS hS.2.2 dX6_readCommand_224
          · have hf := ip_ (bI_n0 h_55) hf
            refine lv_iconst (v := 1) hx hb dX6_readCommand_219 (by decide) ?_
            refine lv_goto (tgt := 224) hx hb dX6_readCommand_220 (by decide) ?_
            obtain rfl := Option.some.inj hf
            exact kr_z (V := bI true) hx hb hr hlocks (bI_nar _) rfl (hP.sub (ws' := [(a_0, mv a_text a_now a_trial a_diary a_kept a_isKept a_seen a_equations a_wanted r_54.2), (a_text, av_I cy 120 g_text), (a_r0, av_J cy 11 r_50.2)]) [2, 0, 1] rfl) hK (hD.sub (ws' := [(a_0, mv a_text a_now a_trial a_diary a_kept a_isKept a_seen a_equations a_wanted r_54.2), (a_text, av_I cy 120 g_text), (a_r0, av_J cy 11 r_50.2)]) [2, 0, 1] rfl rfl) hN hS hS.2.2 dX6_readCommand_224
  have hf := in_ h_42 hf
  by_cases h_56 : (g_text (m_spot s_0).toNatClampNeg) = 116
  · have hf := ip_ h_56 hf
    refine lv_tableIn (tgt := 318) (off := 297) hx hb dX6_readCommand_21 (by show ¬ (g_text (m_spot s_0).toNatClampNeg).toInt < 98; rw [h_56]; decide) (by show ¬ 116 < (g_text (m_spot s_0).toNatClampNeg).toInt; rw [h_56]; decide) (by show (#[204, 401, 401, 401, 91, 401, 401, 401, 401, 401, 401, 401, 360, 401, 401, 401, 257, 140, 297] : Array Int)[((g_text (m_spot s_0).toNatClampNeg).toInt - 98).toNat]? = some 297; rw [h_56]; rfl) (by decide) ?_
    refine lv_aload_n hx hb dX6_readCommand_318 rfl (lv_at hl 1 rfl) ?_
    refine lv_iconst (v := 0) hx hb dX6_readCommand_319 (by decide) ?_
    refine lv_iconst (v := 2) hx hb dX6_readCommand_320 (by decide) ?_
    refine lv_iconst (v := 0) hx hb dX6_readCommand_321 (by decide) ?_
    refine lv_bipush (v := 63) hx hb dX6_readCommand_322 (by decide) ?_
    obtain ⟨r_57, hh_r_57, hf⟩ := obd_some hf
    refine kc_i (w1 := [(a_0, mv a_text a_now a_trial a_diary a_kept a_isKept a_seen a_equations a_wanted r_57.2), (a_text, av_I cy 120 g_text)]) (wr := [(a_r0, av_J cy 11 g_r0)]) hP hD hS hA [0, 1] [2] rfl rfl rfl (by decide) (va_runV (As := [.int 0, .int 2, .int 0, .int 63]) (rest := []) ⟨hx, hb, hml, hown, hts⟩ (c_X6_figures (l := l) G cy a_0 a_text a_now a_trial a_diary a_kept a_isKept a_seen a_equations a_wanted H.size (m_refusal s_0, m_size s_0, m_acts s_0, m_rank s_0, ((m_spot s_0) + 1), m_out s_0) g_text 0 2 0 63 n r_57 hh_r_57) (cwV 4 hts gX6_readCommand_X6_figures rfl rfl rfl ddV_X6_figures ⟨Nat.le_of_ble_eq_true rfl, Nat.le_of_ble_eq_true rfl⟩) (preV_ (ci := 6) (q0 := 0) rfl rfl (hP.sub (ws' := [(a_0, mv a_text a_now a_trial a_diary a_kept a_isKept a_seen a_equations a_wanted (m_refusal s_0, m_size s_0, m_acts s_0, m_rank s_0, ((m_spot s_0) + 1), m_out s_0)), (a_text, av_I cy 120 g_text)]) [0, 1] rfl) hK (hD.sub (ws' := [(a_0, mv a_text a_now a_trial a_diary a_kept a_isKept a_seen a_equations a_wanted (m_refusal s_0, m_size s_0, m_acts s_0, m_rank s_0, ((m_spot s_0) + 1), m_out s_0)), (a_text, av_I cy 120 g_text)]) [0, 1] rfl rfl) hN) rfl rfl hl.1 rfl (lv_room (Nat.le_of_ble_eq_true rfl)) dX6_readCommand_324 ⟨Nat.le_of_ble_eq_true rfl, Nat.le_of_ble_eq_true rfl⟩) (fun H locs hP hD hS => ?_)
    have hP : va_P G vwCl [(a_r0, av_J cy 11 g_r0), (a_0, mv a_text a_now a_trial a_diary a_kept a_isKept a_seen a_equations a_wanted r_57.2), (a_text, av_I cy 120 g_text)] H := hP
    have hD : va_D A [(a_r0, av_J cy 11 g_r0), (a_0, mv a_text a_now a_trial a_diary a_kept a_isKept a_seen a_equations a_wanted r_57.2), (a_text, av_I cy 120 g_text)] := hD
    refine lv_istore_n (lv' := [(3, .int r_57.1), (2, .int (g_text (m_spot s_0).toNatClampNeg)), (0, .ref a_0), (1, .ref a_r0)]) hx hb dX6_readCommand_327 rfl hl (by decide) rfl (fun ls hl => ?_)
    refine lv_aload_n hx hb dX6_readCommand_328 rfl (lv_at hl 2 rfl) ?_
    refine lv_iload_n hx hb dX6_readCommand_329 rfl (lv_at hl 0 rfl) ?_
    refine lv_iconst (v := 1) hx hb dX6_readCommand_330 (by decide) ?_
    refine lv_iconst (v := 0) hx hb dX6_readCommand_331 (by decide) ?_
    refine lv_bipush (v := 9) hx hb dX6_readCommand_332 (by decide) ?_
    obtain ⟨r_58, hh_r_58, hf⟩ := obd_some hf
    refine kc_i (w1 := [(a_0, mv a_text a_now a_trial a_diary a_kept a_isKept a_seen a_equations a_wanted r_58.2), (a_text, av_I cy 120 g_text)]) (wr := [(a_r0, av_J cy 11 g_r0)]) hP hD hS hA [1, 2] [0] rfl rfl rfl (by decide) (va_runV (As := [.int r_57.1, .int 1, .int 0, .int 9]) (rest := []) ⟨hx, hb, hml, hown, hts⟩ (c_X6_figures (l := l) G cy a_0 a_text a_now a_trial a_diary a_kept a_isKept a_seen a_equations a_wanted H.size r_57.2 g_text r_57.1 1 0 9 n r_58 hh_r_58) (cwV 4 hts gX6_readCommand_X6_figures rfl rfl rfl ddV_X6_figures ⟨Nat.le_of_ble_eq_true rfl, Nat.le_of_ble_eq_true rfl⟩) (preV_ (ci := 6) (q0 := 0) rfl rfl (hP.sub (ws' := [(a_0, mv a_text a_now a_trial a_diary a_kept a_isKept a_seen a_equations a_wanted r_57.2), (a_text, av_I cy 120 g_text)]) [1, 2] rfl) hK (hD.sub (ws' := [(a_0, mv a_text a_now a_trial a_diary a_kept a_isKept a_seen a_equations a_wanted r_57.2), (a_text, av_I cy 120 g_text)]) [1, 2] rfl rfl) hN) rfl rfl hl.1 rfl (lv_room (Nat.le_of_ble_eq_true rfl)) dX6_readCommand_334 ⟨Nat.le_of_ble_eq_true rfl, Nat.le_of_ble_eq_true rfl⟩) (fun H locs hP hD hS => ?_)
    have hP : va_P G vwCl [(a_r0, av_J cy 11 g_r0), (a_0, mv a_text a_now a_trial a_diary a_kept a_isKept a_seen a_equations a_wanted r_58.2), (a_text, av_I cy 120 g_text)] H := hP
    have hD : va_D A [(a_r0, av_J cy 11 g_r0), (a_0, mv a_text a_now a_trial a_diary a_kept a_isKept a_seen a_equations a_wanted r_58.2), (a_text, av_I cy 120 g_text)] := hD
    refine lv_istore (lv' := [(4, .int r_58.1), (3, .int r_57.1), (2, .int (g_text (m_spot s_0).toNatClampNeg)), (0, .ref a_0), (1, .ref a_r0)]) hx hb dX6_readCommand_337 hl (by decide) rfl (fun ls hl => ?_)
    refine lv_iload hx hb dX6_readCommand_339 (lv_at hl 0 rfl) ?_
    refine lv_iconst (v := (-1)) hx hb dX6_readCommand_341 (by decide) ?_
    refine lv_icmp_eq (tgt := 379) hx hb dX6_readCommand_342 (by decide) (fun h_59 => ?_) (fun h_59 => ?_)
    · have hf := ip_ h_59 hf
      refine lv_iconst (v := 0) hx hb dX6_readCommand_379 (by decide) ?_
      obtain rfl := Option.some.inj hf
      exact kr_z (V := bI false) hx hb hr hlocks (bI_nar _) rfl (hP.sub (ws' := [(a_0, mv a_text a_now a_trial a_diary a_kept a_isKept a_seen a_equations a_wanted r_58.2), (a_text, av_I cy 120 g_text), (a_r0, av_J cy 11 g_r0)]) [1, 2, 0] rfl) hK (hD.sub (ws' := [(a_0, mv a_text a_now a_trial a_diary a_kept a_isKept a_seen a_equations a_wanted r_58.2), (a_text, av_I cy 120 g_text), (a_r0, av_J cy 11 g_r0)]) [1, 2, 0] rfl rfl) hN hS hS.2.2 dX6_readCommand_380
    · have hf := in_ h_59 hf
      refine lv_aload_n hx hb dX6_readCommand_345 rfl (lv_at hl 3 rfl) ?_
      refine lv_aload_n hx hb dX6_readCommand_346 rfl (lv_at hl 4 rfl) ?_
      refine lv_iload_n hx hb dX6_readCommand_347 rfl (lv_at hl 1 rfl) ?_
      refine kc_i (w1 := [(a_r0, av_J cy 11 g_r0)]) (wr := [(a_0, mv a_text a_now a_trial a_diary a_kept a_isKept a_seen a_equations a_wanted r_58.2), (a_text, av_I cy 120 g_text)]) hP hD hS hA [0] [1, 2] rfl rfl rfl (by decide) (va_runS (As := [.ref a_r0, .int r_57.1]) (rest := [.ref a_0]) ⟨hx, hb, hml, hown, hts⟩ (c_X6_isCell (l := l) G cy a_r0 H.size g_r0 r_57.1  (f_X6_isCell g_r0 r_57.1) rfl) (va_cwS 2 hts gX6_readCommand_X6_isCell rfl rfl rfl ddN_X6_isCell ⟨Nat.le_of_ble_eq_true rfl, Nat.le_of_ble_eq_true rfl⟩) (preS_ (hP.sub (ws' := [(a_r0, av_J cy 11 g_r0)]) [0] rfl) hK (hD.sub (ws' := [(a_r0, av_J cy 11 g_r0)]) [0] rfl rfl) hN) rfl rfl hl.1 rfl (lv_room (Nat.le_of_ble_eq_true rfl)) dX6_readCommand_348 ⟨Nat.le_of_ble_eq_true rfl, Nat.le_of_ble_eq_true rfl⟩) (fun H locs hP hD hS => ?_)
      have hP : va_P G vwCl [(a_0, mv a_text a_now a_trial a_diary a_kept a_isKept a_seen a_equations a_wanted r_58.2), (a_text, av_I cy 120 g_text), (a_r0, av_J cy 11 g_r0)] H := hP
      have hD : va_D A [(a_0, mv a_text a_now a_trial a_diary a_kept a_isKept a_seen a_equations a_wanted r_58.2), (a_text, av_I cy 120 g_text), (a_r0, av_J cy 11 g_r0)] := hD
      refine lv_if_eq (tgt := 368) hx hb dX6_readCommand_351 (by decide) (fun h_60 => ?_) (fun h_60 => ?_)
      · have hf := in_ (bI_0 h_60) hf
        refine lv_iconst (v := 0) hx hb dX6_readCommand_368 (by decide) ?_
        obtain ⟨r_61, hh_r_61⟩ : ∃ z, z = f_X6_done r_58.2 false := ⟨_, rfl⟩
        have hf := lt_e hh_r_61 hf
        refine kc_i (w1 := [(a_0, mv a_text a_now a_trial a_diary a_kept a_isKept a_seen a_equations a_wanted r_61.2)]) (wr := [(a_text, av_I cy 120 g_text), (a_r0, av_J cy 11 g_r0)]) hP hD hS hA [0] [1, 2] rfl rfl rfl (by decide) (va_runV (As := [.int (bI false)]) (rest := []) ⟨hx, hb, hml, hown, hts⟩ (c_X6_done (l := l) G cy a_0 a_text a_now a_trial a_diary a_kept a_isKept a_seen a_equations a_wanted H.size r_58.2 false  r_61 hh_r_61.symm) (cwV 1 hts gX6_readCommand_X6_done rfl rfl rfl ddV_X6_done ⟨Nat.le_of_ble_eq_true rfl, Nat.le_of_ble_eq_true rfl⟩) (preV_ (ci := 6) (q0 := 0) rfl rfl (hP.sub (ws' := [(a_0, mv a_text a_now a_trial a_diary a_kept a_isKept a_seen a_equations a_wanted r_58.2)]) [0] rfl) hK (hD.sub (ws' := [(a_0, mv a_text a_now a_trial a_diary a_kept a_isKept a_seen a_equations a_wanted r_58.2)]) [0] rfl rfl) hN) rfl rfl hl.1 rfl (lv_room (Nat.le_of_ble_eq_true rfl)) dX6_readCommand_369 ⟨Nat.le_of_ble_eq_true rfl, Nat.le_of_ble_eq_true rfl⟩) (fun H locs hP hD hS => ?_)
        have hP : va_P G vwCl [(a_text, av_I cy 120 g_text), (a_r0, av_J cy 11 g_r0), (a_0, mv a_text a_now a_trial a_diary a_kept a_isKept a_seen a_equations a_wanted r_61.2)] H := hP
        have hD : va_D A [(a_text, av_I cy 120 g_text), (a_r0, av_J cy 11 g_r0), (a_0, mv a_text a_now a_trial a_diary a_kept a_isKept a_seen a_equations a_wanted r_61.2)] := hD
        refine lv_if_eq (tgt := 379) hx hb dX6_readCommand_372 (by decide) (fun h_62 => ?_) (fun h_62 => ?_)
        · have hf := in_ (bI_0 h_62) hf
          refine lv_iconst (v := 0) hx hb dX6_readCommand_379 (by decide) ?_
          obtain rfl := Option.some.inj hf
          exact kr_z (V := bI false) hx hb hr hlocks (bI_nar _) rfl (hP.sub (ws' := [(a_0, mv a_text a_now a_trial a_diary a_kept a_isKept a_seen a_equations a_wanted r_61.2), (a_text, av_I cy 120 g_text), (a_r0, av_J cy 11 g_r0)]) [2, 0, 1] rfl) hK (hD.sub (ws' := [(a_0, mv a_text a_now a_trial a_diary a_kept a_isKept a_seen a_equations a_wanted r_61.2), (a_text, av_I cy 120 g_text), (a_r0, av_J cy 11 g_r0)]) [2, 0, 1] rfl rfl) hN hS hS.2.2 dX6_readCommand_380
        · have hf := ip_ (bI_n0 h_62) hf
          refine lv_iconst (v := 1) hx hb dX6_readCommand_375 (by decide) ?_
          refine lv_goto (tgt := 380) hx hb dX6_readCommand_376 (by decide) ?_
          obtain rfl := Option.some.inj hf
          exact kr_z (V := bI true) hx hb hr hlocks (bI_nar _) rfl (hP.sub (ws' := [(a_0, mv a_text a_now a_trial a_diary a_kept a_isKept a_seen a_equations a_wanted r_61.2), (a_text, av_I cy 120 g_text), (a_r0, av_J cy 11 g_r0)]) [2, 0, 1] rfl) hK (hD.sub (ws' := [(a_0, mv a_text a_now a_trial a_diary a_kept a_isKept a_seen a_equations a_wanted r_61.2), (a_text, av_I cy 120 g_text), (a_r0, av_J cy 11 g_r0)]) [2, 0, 1] rfl rfl) hN hS hS.2.2 dX6_readCommand_380
      · have hf := ip_ (bI_n0 h_60) hf
        refine lv_aload_n hx hb dX6_readCommand_354 rfl (lv_at hl 4 rfl) ?_
        refine lv_iload_n hx hb dX6_readCommand_355 rfl (lv_at hl 1 rfl) ?_
        refine lv_iload hx hb dX6_readCommand_356 (lv_at hl 0 rfl) ?_
        obtain ⟨r_63, hh_r_63, hf⟩ := obd_some hf
        refine kc_i (w1 := [(a_r0, av_J cy 11 r_63.2)]) (wr := [(a_0, mv a_text a_now a_trial a_diary a_kept a_isKept a_seen a_equations a_wanted r_58.2), (a_text, av_I cy 120 g_text)]) hP hD hS hA [2] [0, 1] rfl rfl rfl (by decide) (va_runS (As := [.ref a_r0, .int r_57.1, .int r_58.1]) (rest := [.ref a_0]) ⟨hx, hb, hml, hown, hts⟩ (c_X6_breatheOn (l := l) G cy a_r0 H.size g_r0 r_57.1 r_58.1 n r_63 hh_r_63) (va_cwS 3 hts gX6_readCommand_X6_breatheOn rfl rfl rfl ddN_X6_breatheOn ⟨Nat.le_of_ble_eq_true rfl, Nat.le_of_ble_eq_true rfl⟩) (preS_ (hP.sub (ws' := [(a_r0, av_J cy 11 g_r0)]) [2] rfl) hK (hD.sub (ws' := [(a_r0, av_J cy 11 g_r0)]) [2] rfl rfl) hN) rfl rfl hl.1 rfl (lv_room (Nat.le_of_ble_eq_true rfl)) dX6_readCommand_358 ⟨Nat.le_of_ble_eq_true rfl, Nat.le_of_ble_eq_true rfl⟩) (fun H locs hP hD hS => ?_)
        have hP : va_P G vwCl [(a_0, mv a_text a_now a_trial a_diary a_kept a_isKept a_seen a_equations a_wanted r_58.2), (a_text, av_I cy 120 g_text), (a_r0, av_J cy 11 r_63.2)] H := hP
        have hD : va_D A [(a_0, mv a_text a_now a_trial a_diary a_kept a_isKept a_seen a_equations a_wanted r_58.2), (a_text, av_I cy 120 g_text), (a_r0, av_J cy 11 r_63.2)] := hD
        refine lv_if_lt (tgt := 368) hx hb dX6_readCommand_361 (by decide) (fun h_64 => ?_) (fun h_64 => ?_)
        · have hf := ip_ h_64 hf
          refine lv_iconst (v := 0) hx hb dX6_readCommand_368 (by decide) ?_
          obtain ⟨r_65, hh_r_65⟩ : ∃ z, z = f_X6_done r_58.2 false := ⟨_, rfl⟩
          have hf := lt_e hh_r_65 hf
          refine kc_i (w1 := [(a_0, mv a_text a_now a_trial a_diary a_kept a_isKept a_seen a_equations a_wanted r_65.2)]) (wr := [(a_text, av_I cy 120 g_text), (a_r0, av_J cy 11 r_63.2)]) hP hD hS hA [0] [1, 2] rfl rfl rfl (by decide) (va_runV (As := [.int (bI false)]) (rest := []) ⟨hx, hb, hml, hown, hts⟩ (c_X6_done (l := l) G cy a_0 a_text a_now a_trial a_diary a_kept a_isKept a_seen a_equations a_wanted H.size r_58.2 false  r_65 hh_r_65.symm) (cwV 1 hts gX6_readCommand_X6_done rfl rfl rfl ddV_X6_done ⟨Nat.le_of_ble_eq_true rfl, Nat.le_of_ble_eq_true rfl⟩) (preV_ (ci := 6) (q0 := 0) rfl rfl (hP.sub (ws' := [(a_0, mv a_text a_now a_trial a_diary a_kept a_isKept a_seen a_equations a_wanted r_58.2)]) [0] rfl) hK (hD.sub (ws' := [(a_0, mv a_text a_now a_trial a_diary a_kept a_isKept a_seen a_equations a_wanted r_58.2)]) [0] rfl rfl) hN) rfl rfl hl.1 rfl (lv_room (Nat.le_of_ble_eq_true rfl)) dX6_readCommand_369 ⟨Nat.le_of_ble_eq_true rfl, Nat.le_of_ble_eq_true rfl⟩) (fun H locs hP hD hS => ?_)
          have hP : va_P G vwCl [(a_text, av_I cy 120 g_text), (a_r0, av_J cy 11 r_63.2), (a_0, mv a_text a_now a_trial a_diary a_kept a_isKept a_seen a_equations a_wanted r_65.2)] H := hP
          have hD : va_D A [(a_text, av_I cy 120 g_text), (a_r0, av_J cy 11 r_63.2), (a_0, mv a_text a_now a_trial a_diary a_kept a_isKept a_seen a_equations a_wanted r_65.2)] := hD
          refine lv_if_eq (tgt := 379) hx hb dX6_readCommand_372 (by decide) (fun h_66 => ?_) (fun h_66 => ?_)
          · have hf := in_ (bI_0 h_66) hf
            refine lv_iconst (v := 0) hx hb dX6_readCommand_379 (by decide) ?_
            obtain rfl := Option.some.inj hf
            exact kr_z (V := bI false) hx hb hr hlocks (bI_nar _) rfl (hP.sub (ws' := [(a_0, mv a_text a_now a_trial a_diary a_kept a_isKept a_seen a_equations a_wanted r_65.2), (a_text, av_I cy 120 g_text), (a_r0, av_J cy 11 r_63.2)]) [2, 0, 1] rfl) hK (hD.sub (ws' := [(a_0, mv a_text a_now a_trial a_diary a_kept a_isKept a_seen a_equations a_wanted r_65.2), (a_text, av_I cy 120 g_text), (a_r0, av_J cy 11 r_63.2)]) [2, 0, 1] rfl rfl) hN hS hS.2.2 dX6_readCommand_380
          · have hf := ip_ (bI_n0 h_66) hf
            refine lv_iconst (v := 1) hx hb dX6_readCommand_375 (by decide) ?_
            refine lv_goto (tgt := 380) hx hb dX6_readCommand_376 (by decide) ?_
            obtain rfl := Option.some.inj hf
            exact kr_z (V := bI true) hx hb hr hlocks (bI_nar _) rfl (hP.sub (ws' := [(a_0, mv a_text a_now a_trial a_diary a_kept a_isKept a_seen a_equations a_wanted r_65.2), (a_text, av_I cy 120 g_text), (a_r0, av_J cy 11 r_63.2)]) [2, 0, 1] rfl) hK (hD.sub (ws' := [(a_0, mv a_text a_now a_trial a_diary a_kept a_isKept a_seen a_equations a_wanted r_65.2), (a_text, av_I cy 120 g_text), (a_r0, av_J cy 11 r_63.2)]) [2, 0, 1] rfl rfl) hN hS hS.2.2 dX6_readCommand_380
        · have hf := in_ h_64 hf
          refine lv_iconst (v := 1) hx hb dX6_readCommand_364 (by decide) ?_
          refine lv_goto (tgt := 369) hx hb dX6_readCommand_365 (by decide) ?_
          obtain ⟨r_67, hh_r_67⟩ : ∃ z, z = f_X6_done r_58.2 true := ⟨_, rfl⟩
          have hf := lt_e hh_r_67 hf
          refine kc_i (w1 := [(a_0, mv a_text a_now a_trial a_diary a_kept a_isKept a_seen a_equations a_wanted r_67.2)]) (wr := [(a_text, av_I cy 120 g_text), (a_r0, av_J cy 11 r_63.2)]) hP hD hS hA [0] [1, 2] rfl rfl rfl (by decide) (va_runV (As := [.int (bI true)]) (rest := []) ⟨hx, hb, hml, hown, hts⟩ (c_X6_done (l := l) G cy a_0 a_text a_now a_trial a_diary a_kept a_isKept a_seen a_equations a_wanted H.size r_58.2 true  r_67 hh_r_67.symm) (cwV 1 hts gX6_readCommand_X6_done rfl rfl rfl ddV_X6_done ⟨Nat.le_of_ble_eq_true rfl, Nat.le_of_ble_eq_true rfl⟩) (preV_ (ci := 6) (q0 := 0) rfl rfl (hP.sub (ws' := [(a_0, mv a_text a_now a_trial a_diary a_kept a_isKept a_seen a_equations a_wanted r_58.2)]) [0] rfl) hK (hD.sub (ws' := [(a_0, mv a_text a_now a_trial a_diary a_kept a_isKept a_seen a_equations a_wanted r_58.2)]) [0] rfl rfl) hN) rfl rfl hl.1 rfl (lv_room (Nat.le_of_ble_eq_true rfl)) dX6_readCommand_369 ⟨Nat.le_of_ble_eq_true rfl, Nat.le_of_ble_eq_true rfl⟩) (fun H locs hP hD hS => ?_)
          have hP : va_P G vwCl [(a_text, av_I cy 120 g_text), (a_r0, av_J cy 11 r_63.2), (a_0, mv a_text a_now a_trial a_diary a_kept a_isKept a_seen a_equations a_wanted r_67.2)] H := hP
          have hD : va_D A [(a_text, av_I cy 120 g_text), (a_r0, av_J cy 11 r_63.2), (a_0, mv a_text a_now a_trial a_diary a_kept a_isKept a_seen a_equations a_wanted r_67.2)] := hD
          refine lv_if_eq (tgt := 379) hx hb dX6_readCommand_372 (by decide) (fun h_68 => ?_) (fun h_68 => ?_)
          · have hf := in_ (bI_0 h_68) hf
            refine lv_iconst (v := 0) hx hb dX6_readCommand_379 (by decide) ?_
            obtain rfl := Option.some.inj hf
            exact kr_z (V := bI false) hx hb hr hlocks (bI_nar _) rfl (hP.sub (ws' := [(a_0, mv a_text a_now a_trial a_diary a_kept a_isKept a_seen a_equations a_wanted r_67.2), (a_text, av_I cy 120 g_text), (a_r0, av_J cy 11 r_63.2)]) [2, 0, 1] rfl) hK (hD.sub (ws' := [(a_0, mv a_text a_now a_trial a_diary a_kept a_isKept a_seen a_equations a_wanted r_67.2), (a_text, av_I cy 120 g_text), (a_r0, av_J cy 11 r_63.2)]) [2, 0, 1] rfl rfl) hN hS hS.2.2 dX6_readCommand_380
          · have hf := ip_ (bI_n0 h_68) hf
            refine lv_iconst (v := 1) hx hb dX6_readCommand_375 (by decide) ?_
            refine lv_goto (tgt := 380) hx hb dX6_readCommand_376 (by decide) ?_
            obtain rfl := Option.some.inj hf
            exact kr_z (V := bI true) hx hb hr hlocks (bI_nar _) rfl (hP.sub (ws' := [(a_0, mv a_text a_now a_trial a_diary a_kept a_isKept a_seen a_equations a_wanted r_67.2), (a_text, av_I cy 120 g_text), (a_r0, av_J cy 11 r_63.2)]) [2, 0, 1] rfl) hK (hD.sub (ws' := [(a_0, mv a_text a_now a_trial a_diary a_kept a_isKept a_seen a_equations a_wanted r_67.2), (a_text, av_I cy 120 g_text), (a_r0, av_J cy 11 r_63.2)]) [2, 0, 1] rfl rfl) hN hS hS.2.2 dX6_readCommand_380
  have hf := in_ h_56 hf
  have th_2 : ¬ (g_text (m_spot s_0).toNatClampNeg).toInt = 98 := fun q => h_2 (Int32.toInt_inj.mp (q.trans (by decide)))
  have th_12 : ¬ (g_text (m_spot s_0).toNatClampNeg).toInt = 102 := fun q => h_12 (Int32.toInt_inj.mp (q.trans (by decide)))
  have th_24 : ¬ (g_text (m_spot s_0).toNatClampNeg).toInt = 110 := fun q => h_24 (Int32.toInt_inj.mp (q.trans (by decide)))
  have th_33 : ¬ (g_text (m_spot s_0).toNatClampNeg).toInt = 114 := fun q => h_33 (Int32.toInt_inj.mp (q.trans (by decide)))
  have th_42 : ¬ (g_text (m_spot s_0).toNatClampNeg).toInt = 115 := fun q => h_42 (Int32.toInt_inj.mp (q.trans (by decide)))
  have th_56 : ¬ (g_text (m_spot s_0).toNatClampNeg).toInt = 116 := fun q => h_56 (Int32.toInt_inj.mp (q.trans (by decide)))
  have hdf : ((g_text (m_spot s_0).toNatClampNeg).toInt < 98 ∨ 116 < (g_text (m_spot s_0).toNatClampNeg).toInt) ∨ (g_text (m_spot s_0).toNatClampNeg).toInt = 99 ∨ (g_text (m_spot s_0).toNatClampNeg).toInt = 100 ∨ (g_text (m_spot s_0).toNatClampNeg).toInt = 101 ∨ (g_text (m_spot s_0).toNatClampNeg).toInt = 103 ∨ (g_text (m_spot s_0).toNatClampNeg).toInt = 104 ∨ (g_text (m_spot s_0).toNatClampNeg).toInt = 105 ∨ (g_text (m_spot s_0).toNatClampNeg).toInt = 106 ∨ (g_text (m_spot s_0).toNatClampNeg).toInt = 107 ∨ (g_text (m_spot s_0).toNatClampNeg).toInt = 108 ∨ (g_text (m_spot s_0).toNatClampNeg).toInt = 109 ∨ (g_text (m_spot s_0).toNatClampNeg).toInt = 111 ∨ (g_text (m_spot s_0).toNatClampNeg).toInt = 112 ∨ (g_text (m_spot s_0).toNatClampNeg).toInt = 113 := by omega
  refine lv_tableD (tgt := 422) hx hb dX6_readCommand_21 (by rcases hdf with (g | g) | g | g | g | g | g | g | g | g | g | g | g | g | g; exact Or.inl (Or.inl g); exact Or.inl (Or.inr g); exact Or.inr (by show (#[204, 401, 401, 401, 91, 401, 401, 401, 401, 401, 401, 401, 360, 401, 401, 401, 257, 140, 297] : Array Int)[((g_text (m_spot s_0).toNatClampNeg).toInt - 98).toNat]? = some 401; rw [g]; rfl); exact Or.inr (by show (#[204, 401, 401, 401, 91, 401, 401, 401, 401, 401, 401, 401, 360, 401, 401, 401, 257, 140, 297] : Array Int)[((g_text (m_spot s_0).toNatClampNeg).toInt - 98).toNat]? = some 401; rw [g]; rfl); exact Or.inr (by show (#[204, 401, 401, 401, 91, 401, 401, 401, 401, 401, 401, 401, 360, 401, 401, 401, 257, 140, 297] : Array Int)[((g_text (m_spot s_0).toNatClampNeg).toInt - 98).toNat]? = some 401; rw [g]; rfl); exact Or.inr (by show (#[204, 401, 401, 401, 91, 401, 401, 401, 401, 401, 401, 401, 360, 401, 401, 401, 257, 140, 297] : Array Int)[((g_text (m_spot s_0).toNatClampNeg).toInt - 98).toNat]? = some 401; rw [g]; rfl); exact Or.inr (by show (#[204, 401, 401, 401, 91, 401, 401, 401, 401, 401, 401, 401, 360, 401, 401, 401, 257, 140, 297] : Array Int)[((g_text (m_spot s_0).toNatClampNeg).toInt - 98).toNat]? = some 401; rw [g]; rfl); exact Or.inr (by show (#[204, 401, 401, 401, 91, 401, 401, 401, 401, 401, 401, 401, 360, 401, 401, 401, 257, 140, 297] : Array Int)[((g_text (m_spot s_0).toNatClampNeg).toInt - 98).toNat]? = some 401; rw [g]; rfl); exact Or.inr (by show (#[204, 401, 401, 401, 91, 401, 401, 401, 401, 401, 401, 401, 360, 401, 401, 401, 257, 140, 297] : Array Int)[((g_text (m_spot s_0).toNatClampNeg).toInt - 98).toNat]? = some 401; rw [g]; rfl); exact Or.inr (by show (#[204, 401, 401, 401, 91, 401, 401, 401, 401, 401, 401, 401, 360, 401, 401, 401, 257, 140, 297] : Array Int)[((g_text (m_spot s_0).toNatClampNeg).toInt - 98).toNat]? = some 401; rw [g]; rfl); exact Or.inr (by show (#[204, 401, 401, 401, 91, 401, 401, 401, 401, 401, 401, 401, 360, 401, 401, 401, 257, 140, 297] : Array Int)[((g_text (m_spot s_0).toNatClampNeg).toInt - 98).toNat]? = some 401; rw [g]; rfl); exact Or.inr (by show (#[204, 401, 401, 401, 91, 401, 401, 401, 401, 401, 401, 401, 360, 401, 401, 401, 257, 140, 297] : Array Int)[((g_text (m_spot s_0).toNatClampNeg).toInt - 98).toNat]? = some 401; rw [g]; rfl); exact Or.inr (by show (#[204, 401, 401, 401, 91, 401, 401, 401, 401, 401, 401, 401, 360, 401, 401, 401, 257, 140, 297] : Array Int)[((g_text (m_spot s_0).toNatClampNeg).toInt - 98).toNat]? = some 401; rw [g]; rfl); exact Or.inr (by show (#[204, 401, 401, 401, 91, 401, 401, 401, 401, 401, 401, 401, 360, 401, 401, 401, 257, 140, 297] : Array Int)[((g_text (m_spot s_0).toNatClampNeg).toInt - 98).toNat]? = some 401; rw [g]; rfl); exact Or.inr (by show (#[204, 401, 401, 401, 91, 401, 401, 401, 401, 401, 401, 401, 360, 401, 401, 401, 257, 140, 297] : Array Int)[((g_text (m_spot s_0).toNatClampNeg).toInt - 98).toNat]? = some 401; rw [g]; rfl)) (by decide) ?_
  refine lv_aload_n hx hb dX6_readCommand_422 rfl (lv_at hl 1 rfl) ?_
  refine lv_dup hx hb dX6_readCommand_423 rfl ?_
  refine va_get (D := G) (ci := 6) (v := .int ((m_spot s_0) + 1)) (C := RX6) (T := TX6) (N := 15) hx hb hts iw_X6_readCommand_X6 hown hK hP 0 rfl rfl 13 (by decide) (hts (.fieldLink RX6 130 "PaneFrostModel" "spot" "I") (by decide +kernel)) (fun _ h9 => h9) rfl dX6_readCommand_424 ?_
  refine lv_iconst (v := 1) hx hb dX6_readCommand_427 (by decide) ?_
  refine lv_isub hx hb dX6_readCommand_428 ?_
  refine va_put (D := G) (ci := 6) (v := .int (((m_spot s_0) + 1) - 1)) (ty := .int) (C := RX6) (T := TX6) (N := 15) hx hb hts iw_X6_readCommand_X6 tyX6 tyX6_ok nmX6 hown hK hP hD hS 0 rfl rfl 13 (by decide) (hts (.fieldLink RX6 130 "PaneFrostModel" "spot" "I") (by decide +kernel)) (fun _ h9 => h9) rfl (by decide +kernel) rfl rfl (Nat.le_of_ble_eq_true rfl) dX6_readCommand_429 (fun H locs hP hD hS => ?_)
  have hP : va_P G vwCl [(a_0, mv a_text a_now a_trial a_diary a_kept a_isKept a_seen a_equations a_wanted (m_refusal s_0, m_size s_0, m_acts s_0, m_rank s_0, (((m_spot s_0) + 1) - 1), m_out s_0)), (a_text, av_I cy 120 g_text), (a_r0, av_J cy 11 g_r0)] H := hP
  have hD : va_D A [(a_0, mv a_text a_now a_trial a_diary a_kept a_isKept a_seen a_equations a_wanted (m_refusal s_0, m_size s_0, m_acts s_0, m_rank s_0, (((m_spot s_0) + 1) - 1), m_out s_0)), (a_text, av_I cy 120 g_text), (a_r0, av_J cy 11 g_r0)] := hD
  refine lv_iconst (v := 0) hx hb dX6_readCommand_432 (by decide) ?_
  obtain rfl := Option.some.inj hf
  exact kr_z (V := bI false) hx hb hr hlocks (bI_nar _) rfl hP hK hD hN hS hS.2.2 dX6_readCommand_433
set_option maxHeartbeats 4000000 in
set_option maxRecDepth 100000 in
theorem c_X6_readText {l : Launch} (G : va_G) (cy : Nat → ClassId) (a_0 : Nat) (a_text : Nat) (a_now : Nat) (a_trial : Nat) (a_diary : Nat) (a_kept : Nat) (a_isKept : Nat) (a_seen : Nat) (a_equations : Nat) (a_wanted : Nat) (a_r0 : Nat) (sz : Nat) (s_0 : MT) (g_text : Nat → Int32) (g_r0 : Nat → Int64) (n : Nat) (R : Int32 × MT × (Nat → Int64)) (hf : f_X6_readText n s_0 g_text g_r0 = some R) : Met l yX6_readText wsX6_readText ({ frames := 9, cells := 0, slots := 0, locals := 212 } : Room) (va_Pc [.ref a_0, .ref a_r0] (pcW G cy [(a_0, mv a_text a_now a_trial a_diary a_kept a_isKept a_seen a_equations a_wanted s_0), (a_text, av_I cy 120 g_text), (a_r0, av_J cy 11 g_r0)] sz)) (va_Qi (fun r (_ : Unit) => r = R.1) (fun _ t => Wd G cy (va_A [(a_0, mv a_text a_now a_trial a_diary a_kept a_isKept a_seen a_equations a_wanted s_0), (a_text, av_I cy 120 g_text), (a_r0, av_J cy 11 g_r0)] sz) [(a_0, mv a_text a_now a_trial a_diary a_kept a_isKept a_seen a_equations a_wanted R.2.1), (a_text, av_I cy 120 g_text), (a_r0, av_J cy 11 R.2.2)] t) (va_A [(a_0, mv a_text a_now a_trial a_diary a_kept a_isKept a_seen a_equations a_wanted s_0), (a_text, av_I cy 120 g_text), (a_r0, av_J cy 11 g_r0)] sz)) 0 0 (va_A [(a_0, mv a_text a_now a_trial a_diary a_kept a_isKept a_seen a_equations a_wanted s_0), (a_text, av_I cy 120 g_text), (a_r0, av_J cy 11 g_r0)] sz) := by
  refine Met.ofW (cc := cX6_readText) (maxL := 4) (ret := (some .int)) (by decide) rfl ?_
  intro p e s m args below meth c s₁ B hml hv
  obtain ⟨rfl, hsz, hP, hK, hD0, hN⟩ := hv
  have hx := B.exec
  have hb := B.bytes
  have hr := B.returns
  have hts := atoms_spec (ws := wsX6_readText) B.pre
  have hown : s.vm.findClass RX6 = some m.cls := findClass_of_methodNamed B.named
  have hlocks := B.notSynchronized
  subst hsz
  have hD := hD0.self (sz := s.heap.size)
  generalize hAe : va_A [(a_0, mv a_text a_now a_trial a_diary a_kept a_isKept a_seen a_equations a_wanted s_0), (a_text, av_I cy 120 g_text), (a_r0, av_J cy 11 g_r0)] s.heap.size = A at hD ⊢
  have hA : ∀ q : Nat, s.heap.size ≤ q → A q := fun q h => by rw [← hAe]; exact Or.inr h
  have hS : va_S A s.heap s.heap [] := va_S.rf
  have hP : va_P G vwCl [(a_0, mv a_text a_now a_trial a_diary a_kept a_isKept a_seen a_equations a_wanted s_0), (a_text, av_I cy 120 g_text), (a_r0, av_J cy 11 g_r0)] s.heap := hP
  have bl_71 : ∀ (k : Nat), ∀ (c_s_0 : MT) (c_g_r0 : Nat → Int64) (H : Heap) (locs : List Loc), f_X6_readText_b71 n g_text k c_s_0 c_g_r0 = some R → va_P G vwCl [(a_0, mv a_text a_now a_trial a_diary a_kept a_isKept a_seen a_equations a_wanted c_s_0), (a_text, av_I cy 120 g_text), (a_r0, av_J cy 11 c_g_r0)] H → va_D A [(a_0, mv a_text a_now a_trial a_diary a_kept a_isKept a_seen a_equations a_wanted c_s_0), (a_text, av_I cy 120 g_text), (a_r0, av_J cy 11 c_g_r0)] → va_S A s.heap H locs → ∀ (ls : Array Slot), lv_has ls 4 [(0, .ref a_0), (1, .ref a_r0)] → W p l e ({ frames := 9, cells := 0, slots := 0, locals := 212 } : Room) s m [.ref a_0, .ref a_r0].toArray below meth c H locs 0 0 (MQ below (va_Qi (fun r (_ : Unit) => r = R.1) (fun _ t => Wd G cy A [(a_0, mv a_text a_now a_trial a_diary a_kept a_isKept a_seen a_equations a_wanted R.2.1), (a_text, av_I cy 120 g_text), (a_r0, av_J cy 11 R.2.2)] t) A) [.ref a_0, .ref a_r0].toArray s 0 0 A) (F0 m 71 ls []) := by
    intro k
    induction k with
    | zero =>
      intro c_s_0 c_g_r0 H locs hf; cases hf
    | succ k ih =>
      intro c_s_0 c_g_r0 H locs hf hP hD hS ls hl
      have hf := (f_X6_readText_b71_s n g_text k c_s_0 c_g_r0).symm.trans hf
      refine lv_aload_n hx hb dX6_readText_71 rfl (lv_at hl 0 rfl) ?_
      refine va_get (D := G) (ci := 6) (v := .int (m_spot c_s_0)) (C := RX6) (T := TX6) (N := 15) hx hb hts iw_X6_readText_X6 hown hK hP 0 rfl rfl 13 (by decide) (hts (.fieldLink RX6 130 "PaneFrostModel" "spot" "I") (by decide +kernel)) (fun _ h9 => h9) rfl dX6_readText_72 ?_
      refine lv_aload_n hx hb dX6_readText_75 rfl (lv_at hl 0 rfl) ?_
      refine va_get (D := G) (ci := 6) (v := .int (m_size c_s_0)) (C := RX6) (T := TX6) (N := 15) hx hb hts iw_X6_readText_X6 hown hK hP 0 rfl rfl 2 (by decide) (hts (.fieldLink RX6 124 "PaneFrostModel" "size" "I") (by decide +kernel)) (fun _ h9 => h9) rfl dX6_readText_76 ?_
      refine lv_icmp_ge (tgt := 95) hx hb dX6_readText_79 (by decide) (fun h_1 => ?_) (fun h_1 => ?_)
      · have hf := ip_ h_1 hf
        refine lv_iconst (v := (-1)) hx hb dX6_readText_95 (by decide) ?_
        obtain rfl := Option.some.inj hf
        exact kr_i hx hb hr hlocks rfl hP hK hD hN hS hS.2.2 dX6_readText_96
      · have hf := in_ h_1 hf
        refine lv_aload_n hx hb dX6_readText_82 rfl (lv_at hl 0 rfl) ?_
        refine lv_aload_n hx hb dX6_readText_83 rfl (lv_at hl 1 rfl) ?_
        obtain ⟨r_2, hh_r_2, hf⟩ := obd_some hf
        refine kc_i (w1 := [(a_0, mv a_text a_now a_trial a_diary a_kept a_isKept a_seen a_equations a_wanted r_2.2.1), (a_text, av_I cy 120 g_text), (a_r0, av_J cy 11 r_2.2.2)]) (wr := []) hP hD hS hA [0, 1, 2] [] rfl rfl rfl (by decide) (va_runV (As := [.ref a_r0]) (rest := []) ⟨hx, hb, hml, hown, hts⟩ (c_X6_readCommand (l := l) G cy a_0 a_text a_now a_trial a_diary a_kept a_isKept a_seen a_equations a_wanted a_r0 H.size c_s_0 g_text c_g_r0 n r_2 hh_r_2) (cwV 1 hts gX6_readText_X6_readCommand rfl rfl rfl ddV_X6_readCommand ⟨Nat.le_of_ble_eq_true rfl, Nat.le_of_ble_eq_true rfl⟩) (preV_ (ci := 6) (q0 := 0) rfl rfl hP hK hD hN) rfl rfl hl.1 rfl (lv_room (Nat.le_of_ble_eq_true rfl)) dX6_readText_84 ⟨Nat.le_of_ble_eq_true rfl, Nat.le_of_ble_eq_true rfl⟩) (fun H locs hP hD hS => ?_)
        have hP : va_P G vwCl [(a_0, mv a_text a_now a_trial a_diary a_kept a_isKept a_seen a_equations a_wanted r_2.2.1), (a_text, av_I cy 120 g_text), (a_r0, av_J cy 11 r_2.2.2)] H := hP
        have hD : va_D A [(a_0, mv a_text a_now a_trial a_diary a_kept a_isKept a_seen a_equations a_wanted r_2.2.1), (a_text, av_I cy 120 g_text), (a_r0, av_J cy 11 r_2.2.2)] := hD
        refine lv_if_ne (tgt := 71) hx hb dX6_readText_87 (by decide) (fun h_3 => ?_) (fun h_3 => ?_)
        · have hf := ip_ (bI_n0 h_3) hf
          exact ih r_2.2.1 r_2.2.2 _ _ hf hP hD hS ls (lv_sub hl [0, 1] rfl)
        · have hf := in_ (bI_0 h_3) hf
          refine lv_aload_n hx hb dX6_readText_90 rfl (lv_at hl 0 rfl) ?_
          refine va_get (D := G) (ci := 6) (v := .int (m_spot r_2.2.1)) (C := RX6) (T := TX6) (N := 15) hx hb hts iw_X6_readText_X6 hown hK hP 0 rfl rfl 13 (by decide) (hts (.fieldLink RX6 130 "PaneFrostModel" "spot" "I") (by decide +kernel)) (fun _ h9 => h9) rfl dX6_readText_91 ?_
          obtain rfl := Option.some.inj hf
          exact kr_i hx hb hr hlocks rfl hP hK hD hN hS hS.2.2 dX6_readText_94
  have hl := lv_entry [.ref a_0, .ref a_r0] (n := 4) (Nat.le_of_ble_eq_true rfl)
  rw [lg_entry_eq]
  generalize (lg_sl [.ref a_0, .ref a_r0] ++ List.replicate (4 - (lg_sl [.ref a_0, .ref a_r0]).length) Slot.unset).toArray = ls at hl ⊢
  have hl : lv_has ls 4 [(0, .ref a_0), (1, .ref a_r0)] := hl
  unfold f_X6_readText at hf
  refine lv_aload_n hx hb dX6_readText_0 rfl (lv_at hl 0 rfl) ?_
  refine lv_iconst (v := 0) hx hb dX6_readText_1 (by decide) ?_
  refine va_put (D := G) (ci := 6) (v := .int 0) (ty := .int) (C := RX6) (T := TX6) (N := 15) hx hb hts iw_X6_readText_X6 tyX6 tyX6_ok nmX6 hown hK hP hD hS 0 rfl rfl 14 (by decide) (hts (.fieldLink RX6 135 "PaneFrostModel" "out" "I") (by decide +kernel)) (fun _ h9 => h9) rfl (by decide +kernel) rfl rfl (Nat.le_of_ble_eq_true rfl) dX6_readText_2 (fun H locs hP hD hS => ?_)
  have hP : va_P G vwCl [(a_0, mv a_text a_now a_trial a_diary a_kept a_isKept a_seen a_equations a_wanted (m_refusal s_0, m_size s_0, m_acts s_0, m_rank s_0, m_spot s_0, 0)), (a_text, av_I cy 120 g_text), (a_r0, av_J cy 11 g_r0)] H := hP
  have hD : va_D A [(a_0, mv a_text a_now a_trial a_diary a_kept a_isKept a_seen a_equations a_wanted (m_refusal s_0, m_size s_0, m_acts s_0, m_rank s_0, m_spot s_0, 0)), (a_text, av_I cy 120 g_text), (a_r0, av_J cy 11 g_r0)] := hD
  refine lv_aload_n hx hb dX6_readText_5 rfl (lv_at hl 0 rfl) ?_
  refine lv_iconst (v := 0) hx hb dX6_readText_6 (by decide) ?_
  refine va_put (D := G) (ci := 6) (v := .int 0) (ty := .int) (C := RX6) (T := TX6) (N := 15) hx hb hts iw_X6_readText_X6 tyX6 tyX6_ok nmX6 hown hK hP hD hS 0 rfl rfl 13 (by decide) (hts (.fieldLink RX6 130 "PaneFrostModel" "spot" "I") (by decide +kernel)) (fun _ h9 => h9) rfl (by decide +kernel) rfl rfl (Nat.le_of_ble_eq_true rfl) dX6_readText_7 (fun H locs hP hD hS => ?_)
  have hP : va_P G vwCl [(a_0, mv a_text a_now a_trial a_diary a_kept a_isKept a_seen a_equations a_wanted (m_refusal s_0, m_size s_0, m_acts s_0, m_rank s_0, 0, 0)), (a_text, av_I cy 120 g_text), (a_r0, av_J cy 11 g_r0)] H := hP
  have hD : va_D A [(a_0, mv a_text a_now a_trial a_diary a_kept a_isKept a_seen a_equations a_wanted (m_refusal s_0, m_size s_0, m_acts s_0, m_rank s_0, 0, 0)), (a_text, av_I cy 120 g_text), (a_r0, av_J cy 11 g_r0)] := hD
  refine lv_aload_n hx hb dX6_readText_10 rfl (lv_at hl 0 rfl) ?_
  refine va_get (D := G) (ci := 6) (v := .int (m_size s_0)) (C := RX6) (T := TX6) (N := 15) hx hb hts iw_X6_readText_X6 hown hK hP 0 rfl rfl 2 (by decide) (hts (.fieldLink RX6 124 "PaneFrostModel" "size" "I") (by decide +kernel)) (fun _ h9 => h9) rfl dX6_readText_11 ?_
  refine lv_if_eq (tgt := 28) hx hb dX6_readText_14 (by decide) (fun h_4 => ?_) (fun h_4 => ?_)
  · have hf := ip_ h_4 hf
    refine lv_iconst (v := 0) hx hb dX6_readText_28 (by decide) ?_
    obtain rfl := Option.some.inj hf
    exact kr_i hx hb hr hlocks rfl hP hK hD hN hS hS.2.2 dX6_readText_29
  · have hf := in_ h_4 hf
    refine lv_aload_n hx hb dX6_readText_17 rfl (lv_at hl 0 rfl) ?_
    refine va_get (D := G) (ci := 6) (v := .ref a_text) (C := RX6) (T := TX6) (N := 15) hx hb hts iw_X6_readText_X6 hown hK hP 0 rfl rfl 1 (by decide) (hts (.fieldLink RX6 7 "PaneFrostModel" "text" "[I") (by decide +kernel)) (fun _ h9 => h9) rfl dX6_readText_18 ?_
    refine lv_iconst (v := 0) hx hb dX6_readText_21 (by decide) ?_
    refine vz_iald tn_0 hx hb hK hP 1 1 rfl rfl vn_0_120 dX6_readText_22 ?_
    refine lv_bipush (v := 87) hx hb dX6_readText_23 (by decide) ?_
    refine lv_icmp_eq (tgt := 30) hx hb dX6_readText_25 (by decide) (fun h_5 => ?_) (fun h_5 => ?_)
    · have hf := ip_ h_5 hf
      refine lv_aload_n hx hb dX6_readText_30 rfl (lv_at hl 0 rfl) ?_
      refine lv_iconst (v := 1) hx hb dX6_readText_31 (by decide) ?_
      refine va_put (D := G) (ci := 6) (v := .int 1) (ty := .int) (C := RX6) (T := TX6) (N := 15) hx hb hts iw_X6_readText_X6 tyX6 tyX6_ok nmX6 hown hK hP hD hS 0 rfl rfl 13 (by decide) (hts (.fieldLink RX6 130 "PaneFrostModel" "spot" "I") (by decide +kernel)) (fun _ h9 => h9) rfl (by decide +kernel) rfl rfl (Nat.le_of_ble_eq_true rfl) dX6_readText_32 (fun H locs hP hD hS => ?_)
      have hP : va_P G vwCl [(a_0, mv a_text a_now a_trial a_diary a_kept a_isKept a_seen a_equations a_wanted (m_refusal s_0, m_size s_0, m_acts s_0, m_rank s_0, 1, 0)), (a_text, av_I cy 120 g_text), (a_r0, av_J cy 11 g_r0)] H := hP
      have hD : va_D A [(a_0, mv a_text a_now a_trial a_diary a_kept a_isKept a_seen a_equations a_wanted (m_refusal s_0, m_size s_0, m_acts s_0, m_rank s_0, 1, 0)), (a_text, av_I cy 120 g_text), (a_r0, av_J cy 11 g_r0)] := hD
      refine lv_aload_n hx hb dX6_readText_35 rfl (lv_at hl 0 rfl) ?_
      refine lv_iconst (v := 0) hx hb dX6_readText_36 (by decide) ?_
      refine lv_iconst (v := 1) hx hb dX6_readText_37 (by decide) ?_
      refine lv_iconst (v := 2) hx hb dX6_readText_38 (by decide) ?_
      refine lv_bipush (v := 8) hx hb dX6_readText_39 (by decide) ?_
      obtain ⟨r_6, hh_r_6, hf⟩ := obd_some hf
      refine kc_i (w1 := [(a_0, mv a_text a_now a_trial a_diary a_kept a_isKept a_seen a_equations a_wanted r_6.2), (a_text, av_I cy 120 g_text)]) (wr := [(a_r0, av_J cy 11 g_r0)]) hP hD hS hA [0, 1] [2] rfl rfl rfl (by decide) (va_runV (As := [.int 0, .int 1, .int 2, .int 8]) (rest := []) ⟨hx, hb, hml, hown, hts⟩ (c_X6_figures (l := l) G cy a_0 a_text a_now a_trial a_diary a_kept a_isKept a_seen a_equations a_wanted H.size (m_refusal s_0, m_size s_0, m_acts s_0, m_rank s_0, 1, 0) g_text 0 1 2 8 n r_6 hh_r_6) (cwV 4 hts gX6_readText_X6_figures rfl rfl rfl ddV_X6_figures ⟨Nat.le_of_ble_eq_true rfl, Nat.le_of_ble_eq_true rfl⟩) (preV_ (ci := 6) (q0 := 0) rfl rfl (hP.sub (ws' := [(a_0, mv a_text a_now a_trial a_diary a_kept a_isKept a_seen a_equations a_wanted (m_refusal s_0, m_size s_0, m_acts s_0, m_rank s_0, 1, 0)), (a_text, av_I cy 120 g_text)]) [0, 1] rfl) hK (hD.sub (ws' := [(a_0, mv a_text a_now a_trial a_diary a_kept a_isKept a_seen a_equations a_wanted (m_refusal s_0, m_size s_0, m_acts s_0, m_rank s_0, 1, 0)), (a_text, av_I cy 120 g_text)]) [0, 1] rfl rfl) hN) rfl rfl hl.1 rfl (lv_room (Nat.le_of_ble_eq_true rfl)) dX6_readText_41 ⟨Nat.le_of_ble_eq_true rfl, Nat.le_of_ble_eq_true rfl⟩) (fun H locs hP hD hS => ?_)
      have hP : va_P G vwCl [(a_r0, av_J cy 11 g_r0), (a_0, mv a_text a_now a_trial a_diary a_kept a_isKept a_seen a_equations a_wanted r_6.2), (a_text, av_I cy 120 g_text)] H := hP
      have hD : va_D A [(a_r0, av_J cy 11 g_r0), (a_0, mv a_text a_now a_trial a_diary a_kept a_isKept a_seen a_equations a_wanted r_6.2), (a_text, av_I cy 120 g_text)] := hD
      refine lv_istore_n (lv' := [(2, .int r_6.1), (0, .ref a_0), (1, .ref a_r0)]) hx hb dX6_readText_44 rfl hl (by decide) rfl (fun ls hl => ?_)
      refine lv_aload_n hx hb dX6_readText_45 rfl (lv_at hl 1 rfl) ?_
      refine lv_iload_n hx hb dX6_readText_46 rfl (lv_at hl 0 rfl) ?_
      refine lv_iconst (v := 1) hx hb dX6_readText_47 (by decide) ?_
      refine lv_iconst (v := 2) hx hb dX6_readText_48 (by decide) ?_
      refine lv_bipush (v := 8) hx hb dX6_readText_49 (by decide) ?_
      obtain ⟨r_7, hh_r_7, hf⟩ := obd_some hf
      refine kc_i (w1 := [(a_0, mv a_text a_now a_trial a_diary a_kept a_isKept a_seen a_equations a_wanted r_7.2), (a_text, av_I cy 120 g_text)]) (wr := [(a_r0, av_J cy 11 g_r0)]) hP hD hS hA [1, 2] [0] rfl rfl rfl (by decide) (va_runV (As := [.int r_6.1, .int 1, .int 2, .int 8]) (rest := []) ⟨hx, hb, hml, hown, hts⟩ (c_X6_figures (l := l) G cy a_0 a_text a_now a_trial a_diary a_kept a_isKept a_seen a_equations a_wanted H.size r_6.2 g_text r_6.1 1 2 8 n r_7 hh_r_7) (cwV 4 hts gX6_readText_X6_figures rfl rfl rfl ddV_X6_figures ⟨Nat.le_of_ble_eq_true rfl, Nat.le_of_ble_eq_true rfl⟩) (preV_ (ci := 6) (q0 := 0) rfl rfl (hP.sub (ws' := [(a_0, mv a_text a_now a_trial a_diary a_kept a_isKept a_seen a_equations a_wanted r_6.2), (a_text, av_I cy 120 g_text)]) [1, 2] rfl) hK (hD.sub (ws' := [(a_0, mv a_text a_now a_trial a_diary a_kept a_isKept a_seen a_equations a_wanted r_6.2), (a_text, av_I cy 120 g_text)]) [1, 2] rfl rfl) hN) rfl rfl hl.1 rfl (lv_room (Nat.le_of_ble_eq_true rfl)) dX6_readText_51 ⟨Nat.le_of_ble_eq_true rfl, Nat.le_of_ble_eq_true rfl⟩) (fun H locs hP hD hS => ?_)
      have hP : va_P G vwCl [(a_r0, av_J cy 11 g_r0), (a_0, mv a_text a_now a_trial a_diary a_kept a_isKept a_seen a_equations a_wanted r_7.2), (a_text, av_I cy 120 g_text)] H := hP
      have hD : va_D A [(a_r0, av_J cy 11 g_r0), (a_0, mv a_text a_now a_trial a_diary a_kept a_isKept a_seen a_equations a_wanted r_7.2), (a_text, av_I cy 120 g_text)] := hD
      refine lv_istore_n (lv' := [(3, .int r_7.1), (2, .int r_6.1), (0, .ref a_0), (1, .ref a_r0)]) hx hb dX6_readText_54 rfl hl (by decide) rfl (fun ls hl => ?_)
      refine lv_iload_n hx hb dX6_readText_55 rfl (lv_at hl 0 rfl) ?_
      refine lv_iconst (v := (-1)) hx hb dX6_readText_56 (by decide) ?_
      refine lv_icmp_ne (tgt := 65) hx hb dX6_readText_57 (by decide) (fun h_8 => ?_) (fun h_8 => ?_)
      · have hf := in_ h_8 hf
        refine lv_aload_n hx hb dX6_readText_65 rfl (lv_at hl 3 rfl) ?_
        refine lv_iload_n hx hb dX6_readText_66 rfl (lv_at hl 1 rfl) ?_
        refine lv_iload_n hx hb dX6_readText_67 rfl (lv_at hl 0 rfl) ?_
        obtain ⟨r_9, hh_r_9, hf⟩ := obd_some hf
        refine kc_v (w1 := [(a_r0, av_J cy 11 r_9)]) (wr := [(a_0, mv a_text a_now a_trial a_diary a_kept a_isKept a_seen a_equations a_wanted r_7.2), (a_text, av_I cy 120 g_text)]) hP hD hS hA [0] [1, 2] rfl rfl rfl (by decide) (va_runS (As := [.ref a_r0, .int r_6.1, .int r_7.1]) (rest := []) ⟨hx, hb, hml, hown, hts⟩ (c_X6_clear (l := l) G cy a_r0 H.size g_r0 r_6.1 r_7.1 n r_9 hh_r_9) (va_cwS 3 hts gX6_readText_X6_clear rfl rfl rfl ddN_X6_clear ⟨Nat.le_of_ble_eq_true rfl, Nat.le_of_ble_eq_true rfl⟩) (preS_ (hP.sub (ws' := [(a_r0, av_J cy 11 g_r0)]) [0] rfl) hK (hD.sub (ws' := [(a_r0, av_J cy 11 g_r0)]) [0] rfl rfl) hN) rfl rfl hl.1 rfl (lv_room (Nat.le_of_ble_eq_true rfl)) dX6_readText_68 ⟨Nat.le_of_ble_eq_true rfl, Nat.le_of_ble_eq_true rfl⟩) (fun H locs hP hD hS => ?_)
        have hP : va_P G vwCl [(a_0, mv a_text a_now a_trial a_diary a_kept a_isKept a_seen a_equations a_wanted r_7.2), (a_text, av_I cy 120 g_text), (a_r0, av_J cy 11 r_9)] H := hP
        have hD : va_D A [(a_0, mv a_text a_now a_trial a_diary a_kept a_isKept a_seen a_equations a_wanted r_7.2), (a_text, av_I cy 120 g_text), (a_r0, av_J cy 11 r_9)] := hD
        exact bl_71 n r_7.2 r_9 _ _ hf hP hD hS ls (lv_sub hl [2, 3] rfl)
      · have hf := ip_ h_8 hf
        refine lv_aload_n hx hb dX6_readText_60 rfl (lv_at hl 2 rfl) ?_
        refine va_get (D := G) (ci := 6) (v := .int (m_spot r_7.2)) (C := RX6) (T := TX6) (N := 15) hx hb hts iw_X6_readText_X6 hown hK hP 1 rfl rfl 13 (by decide) (hts (.fieldLink RX6 130 "PaneFrostModel" "spot" "I") (by decide +kernel)) (fun _ h9 => h9) rfl dX6_readText_61 ?_
        obtain rfl := Option.some.inj hf
        exact kr_i hx hb hr hlocks rfl (hP.sub (ws' := [(a_0, mv a_text a_now a_trial a_diary a_kept a_isKept a_seen a_equations a_wanted r_7.2), (a_text, av_I cy 120 g_text), (a_r0, av_J cy 11 g_r0)]) [1, 2, 0] rfl) hK (hD.sub (ws' := [(a_0, mv a_text a_now a_trial a_diary a_kept a_isKept a_seen a_equations a_wanted r_7.2), (a_text, av_I cy 120 g_text), (a_r0, av_J cy 11 g_r0)]) [1, 2, 0] rfl rfl) hN hS hS.2.2 dX6_readText_64
    · have hf := in_ h_5 hf
      refine lv_iconst (v := 0) hx hb dX6_readText_28 (by decide) ?_
      obtain rfl := Option.some.inj hf
      exact kr_i hx hb hr hlocks rfl hP hK hD hN hS hS.2.2 dX6_readText_29
set_option maxHeartbeats 4000000 in
set_option maxRecDepth 100000 in
theorem c_X6_errorPosition {l : Launch} (G : va_G) (cy : Nat → ClassId) (a_0 : Nat) (a_text : Nat) (a_now : Nat) (a_trial : Nat) (a_diary : Nat) (a_kept : Nat) (a_isKept : Nat) (a_seen : Nat) (a_equations : Nat) (a_wanted : Nat) (sz : Nat) (s_0 : MT) (g_text : Nat → Int32) (g_trial : Nat → Int64) (n : Nat) (R : Int32 × MT × (Nat → Int64)) (hf : f_X6_errorPosition n s_0 g_text g_trial = some R) : Met l yX6_errorPosition wsX6_errorPosition ({ frames := 10, cells := 0, slots := 0, locals := 235 } : Room) (va_Pc [.ref a_0] (pcW G cy [(a_0, mv a_text a_now a_trial a_diary a_kept a_isKept a_seen a_equations a_wanted s_0), (a_text, av_I cy 120 g_text), (a_trial, av_J cy 11 g_trial)] sz)) (va_Qi (fun r (_ : Unit) => r = R.1) (fun _ t => Wd G cy (va_A [(a_0, mv a_text a_now a_trial a_diary a_kept a_isKept a_seen a_equations a_wanted s_0), (a_text, av_I cy 120 g_text), (a_trial, av_J cy 11 g_trial)] sz) [(a_0, mv a_text a_now a_trial a_diary a_kept a_isKept a_seen a_equations a_wanted R.2.1), (a_text, av_I cy 120 g_text), (a_trial, av_J cy 11 R.2.2)] t) (va_A [(a_0, mv a_text a_now a_trial a_diary a_kept a_isKept a_seen a_equations a_wanted s_0), (a_text, av_I cy 120 g_text), (a_trial, av_J cy 11 g_trial)] sz)) 0 0 (va_A [(a_0, mv a_text a_now a_trial a_diary a_kept a_isKept a_seen a_equations a_wanted s_0), (a_text, av_I cy 120 g_text), (a_trial, av_J cy 11 g_trial)] sz) := by
  refine Met.ofW (cc := cX6_errorPosition) (maxL := 1) (ret := (some .int)) (by decide) rfl ?_
  intro p e s m args below meth c s₁ B hml hv
  obtain ⟨rfl, hsz, hP, hK, hD0, hN⟩ := hv
  have hx := B.exec
  have hb := B.bytes
  have hr := B.returns
  have hts := atoms_spec (ws := wsX6_errorPosition) B.pre
  have hown : s.vm.findClass RX6 = some m.cls := findClass_of_methodNamed B.named
  have hlocks := B.notSynchronized
  subst hsz
  have hD := hD0.self (sz := s.heap.size)
  generalize hAe : va_A [(a_0, mv a_text a_now a_trial a_diary a_kept a_isKept a_seen a_equations a_wanted s_0), (a_text, av_I cy 120 g_text), (a_trial, av_J cy 11 g_trial)] s.heap.size = A at hD ⊢
  have hA : ∀ q : Nat, s.heap.size ≤ q → A q := fun q h => by rw [← hAe]; exact Or.inr h
  have hS : va_S A s.heap s.heap [] := va_S.rf
  have hP : va_P G vwCl [(a_0, mv a_text a_now a_trial a_diary a_kept a_isKept a_seen a_equations a_wanted s_0), (a_text, av_I cy 120 g_text), (a_trial, av_J cy 11 g_trial)] s.heap := hP
  have hl := lv_entry [.ref a_0] (n := 1) (Nat.le_of_ble_eq_true rfl)
  rw [lg_entry_eq]
  generalize (lg_sl [.ref a_0] ++ List.replicate (1 - (lg_sl [.ref a_0]).length) Slot.unset).toArray = ls at hl ⊢
  have hl : lv_has ls 1 [(0, .ref a_0)] := hl
  unfold f_X6_errorPosition at hf
  refine lv_aload_n hx hb dX6_errorPosition_0 rfl (lv_at hl 0 rfl) ?_
  refine lv_iconst (v := 0) hx hb dX6_errorPosition_1 (by decide) ?_
  refine va_put (D := G) (ci := 6) (v := .int 0) (ty := .int) (C := RX6) (T := TX6) (N := 15) hx hb hts iw_X6_errorPosition_X6 tyX6 tyX6_ok nmX6 hown hK hP hD hS 0 rfl rfl 0 (by decide) (hts (.fieldLink RX6 43 "PaneFrostModel" "refusal" "I") (by decide +kernel)) (fun _ h9 => h9) rfl (by decide +kernel) rfl rfl (Nat.le_of_ble_eq_true rfl) dX6_errorPosition_2 (fun H locs hP hD hS => ?_)
  have hP : va_P G vwCl [(a_0, mv a_text a_now a_trial a_diary a_kept a_isKept a_seen a_equations a_wanted (0, m_size s_0, m_acts s_0, m_rank s_0, m_spot s_0, m_out s_0)), (a_text, av_I cy 120 g_text), (a_trial, av_J cy 11 g_trial)] H := hP
  have hD : va_D A [(a_0, mv a_text a_now a_trial a_diary a_kept a_isKept a_seen a_equations a_wanted (0, m_size s_0, m_acts s_0, m_rank s_0, m_spot s_0, m_out s_0)), (a_text, av_I cy 120 g_text), (a_trial, av_J cy 11 g_trial)] := hD
  refine lv_aload_n hx hb dX6_errorPosition_5 rfl (lv_at hl 0 rfl) ?_
  refine lv_aload_n hx hb dX6_errorPosition_6 rfl (lv_at hl 0 rfl) ?_
  refine va_get (D := G) (ci := 6) (v := .ref a_trial) (C := RX6) (T := TX6) (N := 15) hx hb hts iw_X6_errorPosition_X6 hown hK hP 0 rfl rfl 4 (by decide) (hts (.fieldLink RX6 17 "PaneFrostModel" "trial" "[J") (by decide +kernel)) (fun _ h9 => h9) rfl dX6_errorPosition_7 ?_
  obtain ⟨r_1, hh_r_1, hf⟩ := obd_some hf
  refine kc_i (w1 := [(a_0, mv a_text a_now a_trial a_diary a_kept a_isKept a_seen a_equations a_wanted r_1.2.1), (a_text, av_I cy 120 g_text), (a_trial, av_J cy 11 r_1.2.2)]) (wr := []) hP hD hS hA [0, 1, 2] [] rfl rfl rfl (by decide) (va_runV (As := [.ref a_trial]) (rest := []) ⟨hx, hb, hml, hown, hts⟩ (c_X6_readText (l := l) G cy a_0 a_text a_now a_trial a_diary a_kept a_isKept a_seen a_equations a_wanted a_trial H.size (0, m_size s_0, m_acts s_0, m_rank s_0, m_spot s_0, m_out s_0) g_text g_trial n r_1 hh_r_1) (cwV 1 hts gX6_errorPosition_X6_readText rfl rfl rfl ddV_X6_readText ⟨Nat.le_of_ble_eq_true rfl, Nat.le_of_ble_eq_true rfl⟩) (preV_ (ci := 6) (q0 := 0) rfl rfl hP hK hD hN) rfl rfl hl.1 rfl (lv_room (Nat.le_of_ble_eq_true rfl)) dX6_errorPosition_10 ⟨Nat.le_of_ble_eq_true rfl, Nat.le_of_ble_eq_true rfl⟩) (fun H locs hP hD hS => ?_)
  have hP : va_P G vwCl [(a_0, mv a_text a_now a_trial a_diary a_kept a_isKept a_seen a_equations a_wanted r_1.2.1), (a_text, av_I cy 120 g_text), (a_trial, av_J cy 11 r_1.2.2)] H := hP
  have hD : va_D A [(a_0, mv a_text a_now a_trial a_diary a_kept a_isKept a_seen a_equations a_wanted r_1.2.1), (a_text, av_I cy 120 g_text), (a_trial, av_J cy 11 r_1.2.2)] := hD
  obtain rfl := Option.some.inj hf
  exact kr_i hx hb hr hlocks rfl hP hK hD hN hS hS.2.2 dX6_errorPosition_13
set_option maxHeartbeats 4000000 in
set_option maxRecDepth 100000 in
theorem c_X6_load {l : Launch} (G : va_G) (cy : Nat → ClassId) (a_0 : Nat) (a_text : Nat) (a_now : Nat) (a_trial : Nat) (a_diary : Nat) (a_kept : Nat) (a_isKept : Nat) (a_seen : Nat) (a_equations : Nat) (a_wanted : Nat) (sz : Nat) (s_0 : MT) (g_text : Nat → Int32) (g_now : Nat → Int64) (g_trial : Nat → Int64) (g_isKept : Nat → Int32) (n : Nat) (R : Int32 × MT × (Nat → Int64) × (Nat → Int64) × (Nat → Int32)) (hf : f_X6_load n s_0 g_text g_now g_trial g_isKept = some R) : Met l yX6_load wsX6_load ({ frames := 10, cells := 0, slots := 0, locals := 235 } : Room) (va_Pc [.ref a_0] (pcW G cy [(a_0, mv a_text a_now a_trial a_diary a_kept a_isKept a_seen a_equations a_wanted s_0), (a_text, av_I cy 120 g_text), (a_now, av_J cy 11 g_now), (a_trial, av_J cy 11 g_trial), (a_isKept, av_Z cy 2 g_isKept)] sz)) (va_Qi (fun r (_ : Unit) => r = R.1) (fun _ t => Wd G cy (va_A [(a_0, mv a_text a_now a_trial a_diary a_kept a_isKept a_seen a_equations a_wanted s_0), (a_text, av_I cy 120 g_text), (a_now, av_J cy 11 g_now), (a_trial, av_J cy 11 g_trial), (a_isKept, av_Z cy 2 g_isKept)] sz) [(a_0, mv a_text a_now a_trial a_diary a_kept a_isKept a_seen a_equations a_wanted R.2.1), (a_text, av_I cy 120 g_text), (a_now, av_J cy 11 R.2.2.1), (a_trial, av_J cy 11 R.2.2.2.1), (a_isKept, av_Z cy 2 R.2.2.2.2)] t) (va_A [(a_0, mv a_text a_now a_trial a_diary a_kept a_isKept a_seen a_equations a_wanted s_0), (a_text, av_I cy 120 g_text), (a_now, av_J cy 11 g_now), (a_trial, av_J cy 11 g_trial), (a_isKept, av_Z cy 2 g_isKept)] sz)) 0 0 (va_A [(a_0, mv a_text a_now a_trial a_diary a_kept a_isKept a_seen a_equations a_wanted s_0), (a_text, av_I cy 120 g_text), (a_now, av_J cy 11 g_now), (a_trial, av_J cy 11 g_trial), (a_isKept, av_Z cy 2 g_isKept)] sz) := by
  refine Met.ofW (cc := cX6_load) (maxL := 1) (ret := (some .int)) (by decide) rfl ?_
  intro p e s m args below meth c s₁ B hml hv
  obtain ⟨rfl, hsz, hP, hK, hD0, hN⟩ := hv
  have hx := B.exec
  have hb := B.bytes
  have hr := B.returns
  have hts := atoms_spec (ws := wsX6_load) B.pre
  have hown : s.vm.findClass RX6 = some m.cls := findClass_of_methodNamed B.named
  have hlocks := B.notSynchronized
  subst hsz
  have hD := hD0.self (sz := s.heap.size)
  generalize hAe : va_A [(a_0, mv a_text a_now a_trial a_diary a_kept a_isKept a_seen a_equations a_wanted s_0), (a_text, av_I cy 120 g_text), (a_now, av_J cy 11 g_now), (a_trial, av_J cy 11 g_trial), (a_isKept, av_Z cy 2 g_isKept)] s.heap.size = A at hD ⊢
  have hA : ∀ q : Nat, s.heap.size ≤ q → A q := fun q h => by rw [← hAe]; exact Or.inr h
  have hS : va_S A s.heap s.heap [] := va_S.rf
  have hP : va_P G vwCl [(a_0, mv a_text a_now a_trial a_diary a_kept a_isKept a_seen a_equations a_wanted s_0), (a_text, av_I cy 120 g_text), (a_now, av_J cy 11 g_now), (a_trial, av_J cy 11 g_trial), (a_isKept, av_Z cy 2 g_isKept)] s.heap := hP
  have bl_18 : ∀ (c_s_0 : MT) (c_g_now : Nat → Int64) (c_g_trial : Nat → Int64) (c_g_isKept : Nat → Int32) (z1 : Int32) (H : Heap) (locs : List Loc), f_X6_load_b18 n g_text c_s_0 c_g_now c_g_trial c_g_isKept z1 = some R → va_P G vwCl [(a_0, mv a_text a_now a_trial a_diary a_kept a_isKept a_seen a_equations a_wanted c_s_0), (a_text, av_I cy 120 g_text), (a_now, av_J cy 11 c_g_now), (a_trial, av_J cy 11 c_g_trial), (a_isKept, av_Z cy 2 c_g_isKept)] H → va_D A [(a_0, mv a_text a_now a_trial a_diary a_kept a_isKept a_seen a_equations a_wanted c_s_0), (a_text, av_I cy 120 g_text), (a_now, av_J cy 11 c_g_now), (a_trial, av_J cy 11 c_g_trial), (a_isKept, av_Z cy 2 c_g_isKept)] → va_S A s.heap H locs → ∀ (ls : Array Slot), lv_has ls 1 [(0, .ref a_0)] → W p l e ({ frames := 10, cells := 0, slots := 0, locals := 235 } : Room) s m [.ref a_0].toArray below meth c H locs 0 0 (MQ below (va_Qi (fun r (_ : Unit) => r = R.1) (fun _ t => Wd G cy A [(a_0, mv a_text a_now a_trial a_diary a_kept a_isKept a_seen a_equations a_wanted R.2.1), (a_text, av_I cy 120 g_text), (a_now, av_J cy 11 R.2.2.1), (a_trial, av_J cy 11 R.2.2.2.1), (a_isKept, av_Z cy 2 R.2.2.2.2)] t) A) [.ref a_0].toArray s 0 0 A) (F0 m 18 ls [.int z1, .ref a_0]) := by
    intro c_s_0 c_g_now c_g_trial c_g_isKept z1 H locs hf hP hD hS ls hl
    unfold f_X6_load_b18 at hf
    obtain ⟨r_1, hh_r_1⟩ : ∃ z, z = f_X6_refused c_s_0 z1 := ⟨_, rfl⟩
    have hf := lt_e hh_r_1 hf
    refine kc_i (w1 := [(a_0, mv a_text a_now a_trial a_diary a_kept a_isKept a_seen a_equations a_wanted r_1.2)]) (wr := [(a_text, av_I cy 120 g_text), (a_now, av_J cy 11 c_g_now), (a_trial, av_J cy 11 c_g_trial), (a_isKept, av_Z cy 2 c_g_isKept)]) hP hD hS hA [0] [1, 2, 3, 4] rfl rfl rfl (by decide) (va_runV (As := [.int z1]) (rest := []) ⟨hx, hb, hml, hown, hts⟩ (c_X6_refused (l := l) G cy a_0 a_text a_now a_trial a_diary a_kept a_isKept a_seen a_equations a_wanted H.size c_s_0 z1  r_1 hh_r_1.symm) (cwV 1 hts gX6_load_X6_refused rfl rfl rfl ddV_X6_refused ⟨Nat.le_of_ble_eq_true rfl, Nat.le_of_ble_eq_true rfl⟩) (preV_ (ci := 6) (q0 := 0) rfl rfl (hP.sub (ws' := [(a_0, mv a_text a_now a_trial a_diary a_kept a_isKept a_seen a_equations a_wanted c_s_0)]) [0] rfl) hK (hD.sub (ws' := [(a_0, mv a_text a_now a_trial a_diary a_kept a_isKept a_seen a_equations a_wanted c_s_0)]) [0] rfl rfl) hN) rfl rfl hl.1 rfl (lv_room (Nat.le_of_ble_eq_true rfl)) dX6_load_18 ⟨Nat.le_of_ble_eq_true rfl, Nat.le_of_ble_eq_true rfl⟩) (fun H locs hP hD hS => ?_)
    have hP : va_P G vwCl [(a_text, av_I cy 120 g_text), (a_now, av_J cy 11 c_g_now), (a_trial, av_J cy 11 c_g_trial), (a_isKept, av_Z cy 2 c_g_isKept), (a_0, mv a_text a_now a_trial a_diary a_kept a_isKept a_seen a_equations a_wanted r_1.2)] H := hP
    have hD : va_D A [(a_text, av_I cy 120 g_text), (a_now, av_J cy 11 c_g_now), (a_trial, av_J cy 11 c_g_trial), (a_isKept, av_Z cy 2 c_g_isKept), (a_0, mv a_text a_now a_trial a_diary a_kept a_isKept a_seen a_equations a_wanted r_1.2)] := hD
    refine lv_if_eq (tgt := 26) hx hb dX6_load_21 (by decide) (fun h_2 => ?_) (fun h_2 => ?_)
    · have hf := in_ (bI_0 h_2) hf
      refine lv_aload_n hx hb dX6_load_26 rfl (lv_at hl 0 rfl) ?_
      refine va_get (D := G) (ci := 6) (v := .ref a_trial) (C := RX6) (T := TX6) (N := 15) hx hb hts iw_X6_load_X6 hown hK hP 4 rfl rfl 4 (by decide) (hts (.fieldLink RX6 17 "PaneFrostModel" "trial" "[J") (by decide +kernel)) (fun _ h9 => h9) rfl dX6_load_27 ?_
      refine lv_iconst (v := 0) hx hb dX6_load_30 (by decide) ?_
      refine lv_aload_n hx hb dX6_load_31 rfl (lv_at hl 0 rfl) ?_
      refine va_get (D := G) (ci := 6) (v := .ref a_now) (C := RX6) (T := TX6) (N := 15) hx hb hts iw_X6_load_X6 hown hK hP 4 rfl rfl 3 (by decide) (hts (.fieldLink RX6 13 "PaneFrostModel" "now" "[J") (by decide +kernel)) (fun _ h9 => h9) rfl dX6_load_32 ?_
      refine lv_iconst (v := 0) hx hb dX6_load_35 (by decide) ?_
      obtain ⟨r_3, hh_r_3, hf⟩ := obd_some hf
      refine kc_v (w1 := [(a_trial, av_J cy 11 c_g_trial), (a_now, av_J cy 11 r_3)]) (wr := [(a_text, av_I cy 120 g_text), (a_isKept, av_Z cy 2 c_g_isKept), (a_0, mv a_text a_now a_trial a_diary a_kept a_isKept a_seen a_equations a_wanted r_1.2)]) hP hD hS hA [2, 1] [0, 3, 4] rfl rfl rfl (by decide) (va_runS (As := [.ref a_trial, .int 0, .ref a_now, .int 0]) (rest := []) ⟨hx, hb, hml, hown, hts⟩ (c_X6_copyState (l := l) G cy a_trial a_now H.size c_g_trial c_g_now 11 11 0 0 n r_3 hh_r_3) (va_cwS 4 hts gX6_load_X6_copyState rfl rfl rfl ddN_X6_copyState ⟨Nat.le_of_ble_eq_true rfl, Nat.le_of_ble_eq_true rfl⟩) (preS_ (hP.sub (ws' := [(a_trial, av_J cy 11 c_g_trial), (a_now, av_J cy 11 c_g_now)]) [2, 1] rfl) hK (hD.sub (ws' := [(a_trial, av_J cy 11 c_g_trial), (a_now, av_J cy 11 c_g_now)]) [2, 1] rfl rfl) hN) rfl rfl hl.1 rfl (lv_room (Nat.le_of_ble_eq_true rfl)) dX6_load_36 ⟨Nat.le_of_ble_eq_true rfl, Nat.le_of_ble_eq_true rfl⟩) (fun H locs hP hD hS => ?_)
      have hP : va_P G vwCl [(a_text, av_I cy 120 g_text), (a_isKept, av_Z cy 2 c_g_isKept), (a_0, mv a_text a_now a_trial a_diary a_kept a_isKept a_seen a_equations a_wanted r_1.2), (a_trial, av_J cy 11 c_g_trial), (a_now, av_J cy 11 r_3)] H := hP
      have hD : va_D A [(a_text, av_I cy 120 g_text), (a_isKept, av_Z cy 2 c_g_isKept), (a_0, mv a_text a_now a_trial a_diary a_kept a_isKept a_seen a_equations a_wanted r_1.2), (a_trial, av_J cy 11 c_g_trial), (a_now, av_J cy 11 r_3)] := hD
      refine lv_aload_n hx hb dX6_load_39 rfl (lv_at hl 0 rfl) ?_
      refine lv_iconst (v := 0) hx hb dX6_load_40 (by decide) ?_
      refine va_put (D := G) (ci := 6) (v := .int 0) (ty := .int) (C := RX6) (T := TX6) (N := 15) hx hb hts iw_X6_load_X6 tyX6 tyX6_ok nmX6 hown hK hP hD hS 2 rfl rfl 6 (by decide) (hts (.fieldLink RX6 178 "PaneFrostModel" "acts" "I") (by decide +kernel)) (fun _ h9 => h9) rfl (by decide +kernel) rfl rfl (Nat.le_of_ble_eq_true rfl) dX6_load_41 (fun H locs hP hD hS => ?_)
      have hP : va_P G vwCl [(a_text, av_I cy 120 g_text), (a_isKept, av_Z cy 2 c_g_isKept), (a_0, mv a_text a_now a_trial a_diary a_kept a_isKept a_seen a_equations a_wanted (m_refusal r_1.2, m_size r_1.2, 0, m_rank r_1.2, m_spot r_1.2, m_out r_1.2)), (a_trial, av_J cy 11 c_g_trial), (a_now, av_J cy 11 r_3)] H := hP
      have hD : va_D A [(a_text, av_I cy 120 g_text), (a_isKept, av_Z cy 2 c_g_isKept), (a_0, mv a_text a_now a_trial a_diary a_kept a_isKept a_seen a_equations a_wanted (m_refusal r_1.2, m_size r_1.2, 0, m_rank r_1.2, m_spot r_1.2, m_out r_1.2)), (a_trial, av_J cy 11 c_g_trial), (a_now, av_J cy 11 r_3)] := hD
      refine lv_aload_n hx hb dX6_load_44 rfl (lv_at hl 0 rfl) ?_
      refine va_get (D := G) (ci := 6) (v := .ref a_isKept) (C := RX6) (T := TX6) (N := 15) hx hb hts iw_X6_load_X6 hown hK hP 2 rfl rfl 8 (by decide) (hts (.fieldLink RX6 26 "PaneFrostModel" "isKept" "[Z") (by decide +kernel)) (fun _ h9 => h9) rfl dX6_load_45 ?_
      refine lv_iconst (v := 0) hx hb dX6_load_48 (by decide) ?_
      refine lv_iconst (v := 0) hx hb dX6_load_49 (by decide) ?_
      refine vz_zast tn_0 hx hb hK hP hD hS 1 3 rfl rfl vn_0_2 dX6_load_50 (fun H locs hP hD hS => ?_)
      have hP : va_P G vwCl [(a_text, av_I cy 120 g_text), (a_isKept, av_Z cy 2 (upd c_g_isKept 0 (vp_nar .boolean 0))), (a_0, mv a_text a_now a_trial a_diary a_kept a_isKept a_seen a_equations a_wanted (m_refusal r_1.2, m_size r_1.2, 0, m_rank r_1.2, m_spot r_1.2, m_out r_1.2)), (a_trial, av_J cy 11 c_g_trial), (a_now, av_J cy 11 r_3)] H := hP
      have hD : va_D A [(a_text, av_I cy 120 g_text), (a_isKept, av_Z cy 2 (upd c_g_isKept 0 (vp_nar .boolean 0))), (a_0, mv a_text a_now a_trial a_diary a_kept a_isKept a_seen a_equations a_wanted (m_refusal r_1.2, m_size r_1.2, 0, m_rank r_1.2, m_spot r_1.2, m_out r_1.2)), (a_trial, av_J cy 11 c_g_trial), (a_now, av_J cy 11 r_3)] := hD
      refine lv_aload_n hx hb dX6_load_51 rfl (lv_at hl 0 rfl) ?_
      refine va_get (D := G) (ci := 6) (v := .ref a_isKept) (C := RX6) (T := TX6) (N := 15) hx hb hts iw_X6_load_X6 hown hK hP 2 rfl rfl 8 (by decide) (hts (.fieldLink RX6 26 "PaneFrostModel" "isKept" "[Z") (by decide +kernel)) (fun _ h9 => h9) rfl dX6_load_52 ?_
      refine lv_iconst (v := 1) hx hb dX6_load_55 (by decide) ?_
      refine lv_iconst (v := 0) hx hb dX6_load_56 (by decide) ?_
      refine vz_zast tn_1 hx hb hK hP hD hS 1 3 rfl rfl vn_1_2 dX6_load_57 (fun H locs hP hD hS => ?_)
      have hP : va_P G vwCl [(a_text, av_I cy 120 g_text), (a_isKept, av_Z cy 2 (upd (upd c_g_isKept 0 (vp_nar .boolean 0)) 1 (vp_nar .boolean 0))), (a_0, mv a_text a_now a_trial a_diary a_kept a_isKept a_seen a_equations a_wanted (m_refusal r_1.2, m_size r_1.2, 0, m_rank r_1.2, m_spot r_1.2, m_out r_1.2)), (a_trial, av_J cy 11 c_g_trial), (a_now, av_J cy 11 r_3)] H := hP
      have hD : va_D A [(a_text, av_I cy 120 g_text), (a_isKept, av_Z cy 2 (upd (upd c_g_isKept 0 (vp_nar .boolean 0)) 1 (vp_nar .boolean 0))), (a_0, mv a_text a_now a_trial a_diary a_kept a_isKept a_seen a_equations a_wanted (m_refusal r_1.2, m_size r_1.2, 0, m_rank r_1.2, m_spot r_1.2, m_out r_1.2)), (a_trial, av_J cy 11 c_g_trial), (a_now, av_J cy 11 r_3)] := hD
      refine lv_aload_n hx hb dX6_load_58 rfl (lv_at hl 0 rfl) ?_
      refine va_get (D := G) (ci := 6) (v := .int (m_out r_1.2)) (C := RX6) (T := TX6) (N := 15) hx hb hts iw_X6_load_X6 hown hK hP 2 rfl rfl 14 (by decide) (hts (.fieldLink RX6 135 "PaneFrostModel" "out" "I") (by decide +kernel)) (fun _ h9 => h9) rfl dX6_load_59 ?_
      obtain rfl := Option.some.inj hf
      exact kr_i hx hb hr hlocks rfl (hP.sub (ws' := [(a_0, mv a_text a_now a_trial a_diary a_kept a_isKept a_seen a_equations a_wanted (m_refusal r_1.2, m_size r_1.2, 0, m_rank r_1.2, m_spot r_1.2, m_out r_1.2)), (a_text, av_I cy 120 g_text), (a_now, av_J cy 11 r_3), (a_trial, av_J cy 11 c_g_trial), (a_isKept, av_Z cy 2 (upd (upd c_g_isKept 0 (vp_nar .boolean 0)) 1 (vp_nar .boolean 0)))]) [2, 0, 4, 3, 1] rfl) hK (hD.sub (ws' := [(a_0, mv a_text a_now a_trial a_diary a_kept a_isKept a_seen a_equations a_wanted (m_refusal r_1.2, m_size r_1.2, 0, m_rank r_1.2, m_spot r_1.2, m_out r_1.2)), (a_text, av_I cy 120 g_text), (a_now, av_J cy 11 r_3), (a_trial, av_J cy 11 c_g_trial), (a_isKept, av_Z cy 2 (upd (upd c_g_isKept 0 (vp_nar .boolean 0)) 1 (vp_nar .boolean 0)))]) [2, 0, 4, 3, 1] rfl rfl) hN hS hS.2.2 dX6_load_62
    · have hf := ip_ (bI_n0 h_2) hf
      refine lv_iconst (v := 0) hx hb dX6_load_24 (by decide) ?_
      obtain rfl := Option.some.inj hf
      exact kr_i hx hb hr hlocks rfl (hP.sub (ws' := [(a_0, mv a_text a_now a_trial a_diary a_kept a_isKept a_seen a_equations a_wanted r_1.2), (a_text, av_I cy 120 g_text), (a_now, av_J cy 11 c_g_now), (a_trial, av_J cy 11 c_g_trial), (a_isKept, av_Z cy 2 c_g_isKept)]) [4, 0, 1, 2, 3] rfl) hK (hD.sub (ws' := [(a_0, mv a_text a_now a_trial a_diary a_kept a_isKept a_seen a_equations a_wanted r_1.2), (a_text, av_I cy 120 g_text), (a_now, av_J cy 11 c_g_now), (a_trial, av_J cy 11 c_g_trial), (a_isKept, av_Z cy 2 c_g_isKept)]) [4, 0, 1, 2, 3] rfl rfl) hN hS hS.2.2 dX6_load_25
  have hl := lv_entry [.ref a_0] (n := 1) (Nat.le_of_ble_eq_true rfl)
  rw [lg_entry_eq]
  generalize (lg_sl [.ref a_0] ++ List.replicate (1 - (lg_sl [.ref a_0]).length) Slot.unset).toArray = ls at hl ⊢
  have hl : lv_has ls 1 [(0, .ref a_0)] := hl
  unfold f_X6_load at hf
  refine lv_aload_n hx hb dX6_load_0 rfl (lv_at hl 0 rfl) ?_
  refine lv_aload_n hx hb dX6_load_1 rfl (lv_at hl 0 rfl) ?_
  refine lv_aload_n hx hb dX6_load_2 rfl (lv_at hl 0 rfl) ?_
  refine va_get (D := G) (ci := 6) (v := .ref a_trial) (C := RX6) (T := TX6) (N := 15) hx hb hts iw_X6_load_X6 hown hK hP 0 rfl rfl 4 (by decide) (hts (.fieldLink RX6 17 "PaneFrostModel" "trial" "[J") (by decide +kernel)) (fun _ h9 => h9) rfl dX6_load_3 ?_
  obtain ⟨r_4, hh_r_4, hf⟩ := obd_some hf
  refine kc_i (w1 := [(a_0, mv a_text a_now a_trial a_diary a_kept a_isKept a_seen a_equations a_wanted r_4.2.1), (a_text, av_I cy 120 g_text), (a_trial, av_J cy 11 r_4.2.2)]) (wr := [(a_now, av_J cy 11 g_now), (a_isKept, av_Z cy 2 g_isKept)]) hP hD hS hA [0, 1, 3] [2, 4] rfl rfl rfl (by decide) (va_runV (As := [.ref a_trial]) (rest := [.ref a_0]) ⟨hx, hb, hml, hown, hts⟩ (c_X6_readText (l := l) G cy a_0 a_text a_now a_trial a_diary a_kept a_isKept a_seen a_equations a_wanted a_trial s.heap.size s_0 g_text g_trial n r_4 hh_r_4) (cwV 1 hts gX6_load_X6_readText rfl rfl rfl ddV_X6_readText ⟨Nat.le_of_ble_eq_true rfl, Nat.le_of_ble_eq_true rfl⟩) (preV_ (ci := 6) (q0 := 0) rfl rfl (hP.sub (ws' := [(a_0, mv a_text a_now a_trial a_diary a_kept a_isKept a_seen a_equations a_wanted s_0), (a_text, av_I cy 120 g_text), (a_trial, av_J cy 11 g_trial)]) [0, 1, 3] rfl) hK (hD.sub (ws' := [(a_0, mv a_text a_now a_trial a_diary a_kept a_isKept a_seen a_equations a_wanted s_0), (a_text, av_I cy 120 g_text), (a_trial, av_J cy 11 g_trial)]) [0, 1, 3] rfl rfl) hN) rfl rfl hl.1 rfl (lv_room (Nat.le_of_ble_eq_true rfl)) dX6_load_6 ⟨Nat.le_of_ble_eq_true rfl, Nat.le_of_ble_eq_true rfl⟩) (fun H locs hP hD hS => ?_)
  have hP : va_P G vwCl [(a_now, av_J cy 11 g_now), (a_isKept, av_Z cy 2 g_isKept), (a_0, mv a_text a_now a_trial a_diary a_kept a_isKept a_seen a_equations a_wanted r_4.2.1), (a_text, av_I cy 120 g_text), (a_trial, av_J cy 11 r_4.2.2)] H := hP
  have hD : va_D A [(a_now, av_J cy 11 g_now), (a_isKept, av_Z cy 2 g_isKept), (a_0, mv a_text a_now a_trial a_diary a_kept a_isKept a_seen a_equations a_wanted r_4.2.1), (a_text, av_I cy 120 g_text), (a_trial, av_J cy 11 r_4.2.2)] := hD
  refine lv_iconst (v := (-1)) hx hb dX6_load_9 (by decide) ?_
  refine lv_icmp_ne (tgt := 17) hx hb dX6_load_10 (by decide) (fun h_5 => ?_) (fun h_5 => ?_)
  · have hf := in_ h_5 hf
    refine lv_iconst (v := 1) hx hb dX6_load_17 (by decide) ?_
    exact bl_18  r_4.2.1 g_now r_4.2.2 g_isKept 1 _ _ hf (hP.sub (ws' := [(a_0, mv a_text a_now a_trial a_diary a_kept a_isKept a_seen a_equations a_wanted r_4.2.1), (a_text, av_I cy 120 g_text), (a_now, av_J cy 11 g_now), (a_trial, av_J cy 11 r_4.2.2), (a_isKept, av_Z cy 2 g_isKept)]) [2, 3, 0, 4, 1] rfl) (hD.sub (ws' := [(a_0, mv a_text a_now a_trial a_diary a_kept a_isKept a_seen a_equations a_wanted r_4.2.1), (a_text, av_I cy 120 g_text), (a_now, av_J cy 11 g_now), (a_trial, av_J cy 11 r_4.2.2), (a_isKept, av_Z cy 2 g_isKept)]) [2, 3, 0, 4, 1] rfl rfl) hS ls (lv_sub hl [0] rfl)
  · have hf := ip_ h_5 hf
    refine lv_iconst (v := 0) hx hb dX6_load_13 (by decide) ?_
    refine lv_goto (tgt := 18) hx hb dX6_load_14 (by decide) ?_
    exact bl_18  r_4.2.1 g_now r_4.2.2 g_isKept 0 _ _ hf (hP.sub (ws' := [(a_0, mv a_text a_now a_trial a_diary a_kept a_isKept a_seen a_equations a_wanted r_4.2.1), (a_text, av_I cy 120 g_text), (a_now, av_J cy 11 g_now), (a_trial, av_J cy 11 r_4.2.2), (a_isKept, av_Z cy 2 g_isKept)]) [2, 3, 0, 4, 1] rfl) (hD.sub (ws' := [(a_0, mv a_text a_now a_trial a_diary a_kept a_isKept a_seen a_equations a_wanted r_4.2.1), (a_text, av_I cy 120 g_text), (a_now, av_J cy 11 g_now), (a_trial, av_J cy 11 r_4.2.2), (a_isKept, av_Z cy 2 g_isKept)]) [2, 3, 0, 4, 1] rfl rfl) hS ls (lv_sub hl [0] rfl)
set_option maxHeartbeats 4000000 in
set_option maxRecDepth 100000 in
theorem c_X6_about {l : Launch} (G : va_G) (cy : Nat → ClassId) (a_0 : Nat) (a_text : Nat) (a_now : Nat) (a_trial : Nat) (a_diary : Nat) (a_kept : Nat) (a_isKept : Nat) (a_seen : Nat) (a_equations : Nat) (a_wanted : Nat) (sz : Nat) (s_0 : MT) (g_now : Nat → Int64) (x1 : Int32) (n : Nat) (R : Int32 × MT) (hf : f_X6_about n s_0 g_now x1 = some R) : Met l yX6_about wsX6_about ({ frames := 8, cells := 0, slots := 0, locals := 197 } : Room) (va_Pc [.ref a_0, .int x1] (pcW G cy [(a_0, mv a_text a_now a_trial a_diary a_kept a_isKept a_seen a_equations a_wanted s_0), (a_now, av_J cy 11 g_now)] sz)) (va_Qi (fun r (_ : Unit) => r = R.1) (fun _ t => Wd G cy (va_A [(a_0, mv a_text a_now a_trial a_diary a_kept a_isKept a_seen a_equations a_wanted s_0), (a_now, av_J cy 11 g_now)] sz) [(a_0, mv a_text a_now a_trial a_diary a_kept a_isKept a_seen a_equations a_wanted R.2), (a_now, av_J cy 11 g_now)] t) (va_A [(a_0, mv a_text a_now a_trial a_diary a_kept a_isKept a_seen a_equations a_wanted s_0), (a_now, av_J cy 11 g_now)] sz)) 0 0 (va_A [(a_0, mv a_text a_now a_trial a_diary a_kept a_isKept a_seen a_equations a_wanted s_0), (a_now, av_J cy 11 g_now)] sz) := by
  refine Met.ofW (cc := cX6_about) (maxL := 5) (ret := (some .int)) (by decide) rfl ?_
  intro p e s m args below meth c s₁ B hml hv
  obtain ⟨rfl, hsz, hP, hK, hD0, hN⟩ := hv
  have hx := B.exec
  have hb := B.bytes
  have hr := B.returns
  have hts := atoms_spec (ws := wsX6_about) B.pre
  have hown : s.vm.findClass RX6 = some m.cls := findClass_of_methodNamed B.named
  have hlocks := B.notSynchronized
  subst hsz
  have hD := hD0.self (sz := s.heap.size)
  generalize hAe : va_A [(a_0, mv a_text a_now a_trial a_diary a_kept a_isKept a_seen a_equations a_wanted s_0), (a_now, av_J cy 11 g_now)] s.heap.size = A at hD ⊢
  have hA : ∀ q : Nat, s.heap.size ≤ q → A q := fun q h => by rw [← hAe]; exact Or.inr h
  have hS : va_S A s.heap s.heap [] := va_S.rf
  have hP : va_P G vwCl [(a_0, mv a_text a_now a_trial a_diary a_kept a_isKept a_seen a_equations a_wanted s_0), (a_now, av_J cy 11 g_now)] s.heap := hP
  have bl_39 : ∀ (y1 : Int32), ∀ (y3 : Int32), ∀ (k : Nat), ∀ (c_s_0 : MT) (y2 : Int32) (y4 : Int32) (H : Heap) (locs : List Loc), f_X6_about_b39 n g_now y1 y3 k c_s_0 y2 y4 = some R → va_P G vwCl [(a_0, mv a_text a_now a_trial a_diary a_kept a_isKept a_seen a_equations a_wanted c_s_0), (a_now, av_J cy 11 g_now)] H → va_D A [(a_0, mv a_text a_now a_trial a_diary a_kept a_isKept a_seen a_equations a_wanted c_s_0), (a_now, av_J cy 11 g_now)] → va_S A s.heap H locs → ∀ (ls : Array Slot), lv_has ls 5 [(0, .ref a_0), (1, .int y1), (2, .int y2), (3, .int y3), (4, .int y4)] → W p l e ({ frames := 8, cells := 0, slots := 0, locals := 197 } : Room) s m [.ref a_0, .int x1].toArray below meth c H locs 0 0 (MQ below (va_Qi (fun r (_ : Unit) => r = R.1) (fun _ t => Wd G cy A [(a_0, mv a_text a_now a_trial a_diary a_kept a_isKept a_seen a_equations a_wanted R.2), (a_now, av_J cy 11 g_now)] t) A) [.ref a_0, .int x1].toArray s 0 0 A) (F0 m 39 ls []) := by
    intro y1
    intro y3
    intro k
    induction k with
    | zero =>
      intro c_s_0 y2 y4 H locs hf; cases hf
    | succ k ih =>
      intro c_s_0 y2 y4 H locs hf hP hD hS ls hl
      have hf := (f_X6_about_b39_s n g_now y1 y3 k c_s_0 y2 y4).symm.trans hf
      refine lv_iload hx hb dX6_about_39 (lv_at hl 4 rfl) ?_
      refine lv_iload_n hx hb dX6_about_41 rfl (lv_at hl 3 rfl) ?_
      refine lv_icmp_ge (tgt := 91) hx hb dX6_about_42 (by decide) (fun h_1 => ?_) (fun h_1 => ?_)
      · have hf := ip_ h_1 hf
        refine lv_iload_n hx hb dX6_about_91 rfl (lv_at hl 1 rfl) ?_
        by_cases h_2 : y1 = 0
        · have hf := ip_ h_2 hf
          refine lv_tableIn (tgt := 136) (off := 44) hx hb dX6_about_92 (by show ¬ y1.toInt < 0; rw [h_2]; decide) (by show ¬ 6 < y1.toInt; rw [h_2]; decide) (by show (#[44, 44, 52, 63, 65, 65, 75] : Array Int)[(y1.toInt - 0).toNat]? = some 44; rw [h_2]; rfl) (by decide) ?_
          refine lv_aload_n hx hb dX6_about_136 rfl (lv_at hl 0 rfl) ?_
          refine va_get (D := G) (ci := 6) (v := .ref a_now) (C := RX6) (T := TX6) (N := 15) hx hb hts iw_X6_about_X6 hown hK hP 0 rfl rfl 3 (by decide) (hts (.fieldLink RX6 13 "PaneFrostModel" "now" "[J") (by decide +kernel)) (fun _ h9 => h9) rfl dX6_about_137 ?_
          refine lv_iload_n hx hb dX6_about_140 rfl (lv_at hl 1 rfl) ?_
          by_cases q_3 : y1 < 0 ∨ 11 ≤ y1.toNatClampNeg
          · have hf := ip_ q_3 hf; cases hf
          have hf := in_ q_3 hf
          refine vz_lald rfl hx hb hK hP 1 2 rfl rfl (vin q_3) dX6_about_141 ?_
          refine lv_l2i (v := (g_now y1.toNatClampNeg).toInt32) hx hb dX6_about_142 rfl ?_
          obtain rfl := Option.some.inj hf
          exact kr_i hx hb hr hlocks rfl hP hK hD hN hS hS.2.2 dX6_about_143
        have hf := in_ h_2 hf
        by_cases h_4 : y1 = 1
        · have hf := ip_ h_4 hf
          refine lv_tableIn (tgt := 136) (off := 44) hx hb dX6_about_92 (by show ¬ y1.toInt < 0; rw [h_4]; decide) (by show ¬ 6 < y1.toInt; rw [h_4]; decide) (by show (#[44, 44, 52, 63, 65, 65, 75] : Array Int)[(y1.toInt - 0).toNat]? = some 44; rw [h_4]; rfl) (by decide) ?_
          refine lv_aload_n hx hb dX6_about_136 rfl (lv_at hl 0 rfl) ?_
          refine va_get (D := G) (ci := 6) (v := .ref a_now) (C := RX6) (T := TX6) (N := 15) hx hb hts iw_X6_about_X6 hown hK hP 0 rfl rfl 3 (by decide) (hts (.fieldLink RX6 13 "PaneFrostModel" "now" "[J") (by decide +kernel)) (fun _ h9 => h9) rfl dX6_about_137 ?_
          refine lv_iload_n hx hb dX6_about_140 rfl (lv_at hl 1 rfl) ?_
          by_cases q_5 : y1 < 0 ∨ 11 ≤ y1.toNatClampNeg
          · have hf := ip_ q_5 hf; cases hf
          have hf := in_ q_5 hf
          refine vz_lald rfl hx hb hK hP 1 2 rfl rfl (vin q_5) dX6_about_141 ?_
          refine lv_l2i (v := (g_now y1.toNatClampNeg).toInt32) hx hb dX6_about_142 rfl ?_
          obtain rfl := Option.some.inj hf
          exact kr_i hx hb hr hlocks rfl hP hK hD hN hS hS.2.2 dX6_about_143
        have hf := in_ h_4 hf
        by_cases h_6 : y1 = 2
        · have hf := ip_ h_6 hf
          refine lv_tableIn (tgt := 144) (off := 52) hx hb dX6_about_92 (by show ¬ y1.toInt < 0; rw [h_6]; decide) (by show ¬ 6 < y1.toInt; rw [h_6]; decide) (by show (#[44, 44, 52, 63, 65, 65, 75] : Array Int)[(y1.toInt - 0).toNat]? = some 52; rw [h_6]; rfl) (by decide) ?_
          refine lv_aload_n hx hb dX6_about_144 rfl (lv_at hl 0 rfl) ?_
          refine va_get (D := G) (ci := 6) (v := .ref a_now) (C := RX6) (T := TX6) (N := 15) hx hb hts iw_X6_about_X6 hown hK hP 0 rfl rfl 3 (by decide) (hts (.fieldLink RX6 13 "PaneFrostModel" "now" "[J") (by decide +kernel)) (fun _ h9 => h9) rfl dX6_about_145 ?_
          refine lv_bipush (v := 8) hx hb dX6_about_148 (by decide) ?_
          refine vz_lald tn_8 hx hb hK hP 1 2 rfl rfl vn_8_11 dX6_about_150 ?_
          obtain ⟨r_7, hh_r_7, hf⟩ := obd_some hf
          refine kc_i (w1 := []) (wr := [(a_0, mv a_text a_now a_trial a_diary a_kept a_isKept a_seen a_equations a_wanted c_s_0), (a_now, av_J cy 11 g_now)]) hP hD hS hA [] [0, 1] rfl rfl rfl (by decide) (va_runS (As := [.long (g_now 8)]) (rest := []) ⟨hx, hb, hml, hown, hts⟩ (c_X6_bits (l := l) G cy  H.size (g_now 8) n r_7 hh_r_7) (va_cwS 1 hts gX6_about_X6_bits rfl rfl rfl ddN_X6_bits ⟨Nat.le_of_ble_eq_true rfl, Nat.le_of_ble_eq_true rfl⟩) (preS_ (hP.sub (ws' := []) [] rfl) hK (hD.sub (ws' := []) [] rfl rfl) hN) rfl rfl hl.1 rfl (lv_room (Nat.le_of_ble_eq_true rfl)) dX6_about_151 ⟨Nat.le_of_ble_eq_true rfl, Nat.le_of_ble_eq_true rfl⟩) (fun H locs hP hD hS => ?_)
          have hP : va_P G vwCl [(a_0, mv a_text a_now a_trial a_diary a_kept a_isKept a_seen a_equations a_wanted c_s_0), (a_now, av_J cy 11 g_now)] H := hP
          have hD : va_D A [(a_0, mv a_text a_now a_trial a_diary a_kept a_isKept a_seen a_equations a_wanted c_s_0), (a_now, av_J cy 11 g_now)] := hD
          obtain rfl := Option.some.inj hf
          exact kr_i hx hb hr hlocks rfl hP hK hD hN hS hS.2.2 dX6_about_154
        have hf := in_ h_6 hf
        by_cases h_8 : y1 = 3
        · have hf := ip_ h_8 hf
          refine lv_tableIn (tgt := 155) (off := 63) hx hb dX6_about_92 (by show ¬ y1.toInt < 0; rw [h_8]; decide) (by show ¬ 6 < y1.toInt; rw [h_8]; decide) (by show (#[44, 44, 52, 63, 65, 65, 75] : Array Int)[(y1.toInt - 0).toNat]? = some 63; rw [h_8]; rfl) (by decide) ?_
          refine lv_iload_n hx hb dX6_about_155 rfl (lv_at hl 2 rfl) ?_
          obtain rfl := Option.some.inj hf
          exact kr_i hx hb hr hlocks rfl hP hK hD hN hS hS.2.2 dX6_about_156
        have hf := in_ h_8 hf
        by_cases h_9 : y1 = 4
        · have hf := ip_ h_9 hf
          refine lv_tableIn (tgt := 157) (off := 65) hx hb dX6_about_92 (by show ¬ y1.toInt < 0; rw [h_9]; decide) (by show ¬ 6 < y1.toInt; rw [h_9]; decide) (by show (#[44, 44, 52, 63, 65, 65, 75] : Array Int)[(y1.toInt - 0).toNat]? = some 65; rw [h_9]; rfl) (by decide) ?_
          refine lv_aload_n hx hb dX6_about_157 rfl (lv_at hl 0 rfl) ?_
          refine va_get (D := G) (ci := 6) (v := .ref a_now) (C := RX6) (T := TX6) (N := 15) hx hb hts iw_X6_about_X6 hown hK hP 0 rfl rfl 3 (by decide) (hts (.fieldLink RX6 13 "PaneFrostModel" "now" "[J") (by decide +kernel)) (fun _ h9 => h9) rfl dX6_about_158 ?_
          refine lv_iload_n hx hb dX6_about_161 rfl (lv_at hl 1 rfl) ?_
          refine lv_iconst (v := 2) hx hb dX6_about_162 (by decide) ?_
          refine lv_isub hx hb dX6_about_163 ?_
          by_cases q_10 : (y1 - 2) < 0 ∨ 11 ≤ (y1 - 2).toNatClampNeg
          · have hf := ip_ q_10 hf; cases hf
          have hf := in_ q_10 hf
          refine vz_lald rfl hx hb hK hP 1 2 rfl rfl (vin q_10) dX6_about_164 ?_
          refine lv_l2i (v := (g_now (y1 - 2).toNatClampNeg).toInt32) hx hb dX6_about_165 rfl ?_
          obtain rfl := Option.some.inj hf
          exact kr_i hx hb hr hlocks rfl hP hK hD hN hS hS.2.2 dX6_about_166
        have hf := in_ h_9 hf
        by_cases h_11 : y1 = 5
        · have hf := ip_ h_11 hf
          refine lv_tableIn (tgt := 157) (off := 65) hx hb dX6_about_92 (by show ¬ y1.toInt < 0; rw [h_11]; decide) (by show ¬ 6 < y1.toInt; rw [h_11]; decide) (by show (#[44, 44, 52, 63, 65, 65, 75] : Array Int)[(y1.toInt - 0).toNat]? = some 65; rw [h_11]; rfl) (by decide) ?_
          refine lv_aload_n hx hb dX6_about_157 rfl (lv_at hl 0 rfl) ?_
          refine va_get (D := G) (ci := 6) (v := .ref a_now) (C := RX6) (T := TX6) (N := 15) hx hb hts iw_X6_about_X6 hown hK hP 0 rfl rfl 3 (by decide) (hts (.fieldLink RX6 13 "PaneFrostModel" "now" "[J") (by decide +kernel)) (fun _ h9 => h9) rfl dX6_about_158 ?_
          refine lv_iload_n hx hb dX6_about_161 rfl (lv_at hl 1 rfl) ?_
          refine lv_iconst (v := 2) hx hb dX6_about_162 (by decide) ?_
          refine lv_isub hx hb dX6_about_163 ?_
          by_cases q_12 : (y1 - 2) < 0 ∨ 11 ≤ (y1 - 2).toNatClampNeg
          · have hf := ip_ q_12 hf; cases hf
          have hf := in_ q_12 hf
          refine vz_lald rfl hx hb hK hP 1 2 rfl rfl (vin q_12) dX6_about_164 ?_
          refine lv_l2i (v := (g_now (y1 - 2).toNatClampNeg).toInt32) hx hb dX6_about_165 rfl ?_
          obtain rfl := Option.some.inj hf
          exact kr_i hx hb hr hlocks rfl hP hK hD hN hS hS.2.2 dX6_about_166
        have hf := in_ h_11 hf
        by_cases h_13 : y1 = 6
        · have hf := ip_ h_13 hf
          refine lv_tableIn (tgt := 167) (off := 75) hx hb dX6_about_92 (by show ¬ y1.toInt < 0; rw [h_13]; decide) (by show ¬ 6 < y1.toInt; rw [h_13]; decide) (by show (#[44, 44, 52, 63, 65, 65, 75] : Array Int)[(y1.toInt - 0).toNat]? = some 75; rw [h_13]; rfl) (by decide) ?_
          refine lv_aload_n hx hb dX6_about_167 rfl (lv_at hl 0 rfl) ?_
          refine va_get (D := G) (ci := 6) (v := .ref a_now) (C := RX6) (T := TX6) (N := 15) hx hb hts iw_X6_about_X6 hown hK hP 0 rfl rfl 3 (by decide) (hts (.fieldLink RX6 13 "PaneFrostModel" "now" "[J") (by decide +kernel)) (fun _ h9 => h9) rfl dX6_about_168 ?_
          obtain ⟨r_14, hh_r_14, hf⟩ := obd_some hf
          refine kc_i (w1 := [(a_now, av_J cy 11 g_now)]) (wr := [(a_0, mv a_text a_now a_trial a_diary a_kept a_isKept a_seen a_equations a_wanted c_s_0)]) hP hD hS hA [1] [0] rfl rfl rfl (by decide) (va_runS (As := [.ref a_now]) (rest := []) ⟨hx, hb, hml, hown, hts⟩ (c_X6_patches (l := l) G cy a_now H.size g_now n r_14 hh_r_14) (va_cwS 1 hts gX6_about_X6_patches rfl rfl rfl ddN_X6_patches ⟨Nat.le_of_ble_eq_true rfl, Nat.le_of_ble_eq_true rfl⟩) (preS_ (hP.sub (ws' := [(a_now, av_J cy 11 g_now)]) [1] rfl) hK (hD.sub (ws' := [(a_now, av_J cy 11 g_now)]) [1] rfl rfl) hN) rfl rfl hl.1 rfl (lv_room (Nat.le_of_ble_eq_true rfl)) dX6_about_171 ⟨Nat.le_of_ble_eq_true rfl, Nat.le_of_ble_eq_true rfl⟩) (fun H locs hP hD hS => ?_)
          have hP : va_P G vwCl [(a_0, mv a_text a_now a_trial a_diary a_kept a_isKept a_seen a_equations a_wanted c_s_0), (a_now, av_J cy 11 g_now)] H := hP
          have hD : va_D A [(a_0, mv a_text a_now a_trial a_diary a_kept a_isKept a_seen a_equations a_wanted c_s_0), (a_now, av_J cy 11 g_now)] := hD
          obtain rfl := Option.some.inj hf
          exact kr_i hx hb hr hlocks rfl hP hK hD hN hS hS.2.2 dX6_about_174
        have hf := in_ h_13 hf
        have th_2 : ¬ y1.toInt = 0 := fun q => h_2 (Int32.toInt_inj.mp (q.trans (by decide)))
        have th_4 : ¬ y1.toInt = 1 := fun q => h_4 (Int32.toInt_inj.mp (q.trans (by decide)))
        have th_6 : ¬ y1.toInt = 2 := fun q => h_6 (Int32.toInt_inj.mp (q.trans (by decide)))
        have th_8 : ¬ y1.toInt = 3 := fun q => h_8 (Int32.toInt_inj.mp (q.trans (by decide)))
        have th_9 : ¬ y1.toInt = 4 := fun q => h_9 (Int32.toInt_inj.mp (q.trans (by decide)))
        have th_11 : ¬ y1.toInt = 5 := fun q => h_11 (Int32.toInt_inj.mp (q.trans (by decide)))
        have th_13 : ¬ y1.toInt = 6 := fun q => h_13 (Int32.toInt_inj.mp (q.trans (by decide)))
        have hdf : (y1.toInt < 0 ∨ 6 < y1.toInt) := by omega
        refine lv_tableOut (tgt := 175) hx hb dX6_about_92 hdf (by decide) ?_
        refine lv_aload_n hx hb dX6_about_175 rfl (lv_at hl 0 rfl) ?_
        refine va_get (D := G) (ci := 6) (v := .ref a_now) (C := RX6) (T := TX6) (N := 15) hx hb hts iw_X6_about_X6 hown hK hP 0 rfl rfl 3 (by decide) (hts (.fieldLink RX6 13 "PaneFrostModel" "now" "[J") (by decide +kernel)) (fun _ h9 => h9) rfl dX6_about_176 ?_
        obtain ⟨r_15, hh_r_15, hf⟩ := obd_some hf
        refine kc_i (w1 := [(a_now, av_J cy 11 g_now)]) (wr := [(a_0, mv a_text a_now a_trial a_diary a_kept a_isKept a_seen a_equations a_wanted c_s_0)]) hP hD hS hA [1] [0] rfl rfl rfl (by decide) (va_runS (As := [.ref a_now]) (rest := []) ⟨hx, hb, hml, hown, hts⟩ (c_X6_largest (l := l) G cy a_now H.size g_now n r_15 hh_r_15) (va_cwS 1 hts gX6_about_X6_largest rfl rfl rfl ddN_X6_largest ⟨Nat.le_of_ble_eq_true rfl, Nat.le_of_ble_eq_true rfl⟩) (preS_ (hP.sub (ws' := [(a_now, av_J cy 11 g_now)]) [1] rfl) hK (hD.sub (ws' := [(a_now, av_J cy 11 g_now)]) [1] rfl rfl) hN) rfl rfl hl.1 rfl (lv_room (Nat.le_of_ble_eq_true rfl)) dX6_about_179 ⟨Nat.le_of_ble_eq_true rfl, Nat.le_of_ble_eq_true rfl⟩) (fun H locs hP hD hS => ?_)
        have hP : va_P G vwCl [(a_0, mv a_text a_now a_trial a_diary a_kept a_isKept a_seen a_equations a_wanted c_s_0), (a_now, av_J cy 11 g_now)] H := hP
        have hD : va_D A [(a_0, mv a_text a_now a_trial a_diary a_kept a_isKept a_seen a_equations a_wanted c_s_0), (a_now, av_J cy 11 g_now)] := hD
        obtain rfl := Option.some.inj hf
        exact kr_i hx hb hr hlocks rfl hP hK hD hN hS hS.2.2 dX6_about_182
      · have hf := in_ h_1 hf
        refine lv_iload_n hx hb dX6_about_45 rfl (lv_at hl 2 rfl) ?_
        refine lv_aload_n hx hb dX6_about_46 rfl (lv_at hl 0 rfl) ?_
        refine va_get (D := G) (ci := 6) (v := .ref a_now) (C := RX6) (T := TX6) (N := 15) hx hb hts iw_X6_about_X6 hown hK hP 0 rfl rfl 3 (by decide) (hts (.fieldLink RX6 13 "PaneFrostModel" "now" "[J") (by decide +kernel)) (fun _ h9 => h9) rfl dX6_about_47 ?_
        refine lv_iload hx hb dX6_about_50 (lv_at hl 4 rfl) ?_
        refine lv_iconst (v := 1) hx hb dX6_about_52 (by decide) ?_
        obtain ⟨r_16, hh_r_16, hf⟩ := obd_some hf
        refine kc_i (w1 := [(a_now, av_J cy 11 g_now)]) (wr := [(a_0, mv a_text a_now a_trial a_diary a_kept a_isKept a_seen a_equations a_wanted c_s_0)]) hP hD hS hA [1] [0] rfl rfl rfl (by decide) (va_runS (As := [.ref a_now, .int y4, .int 1]) (rest := [.int y2]) ⟨hx, hb, hml, hown, hts⟩ (c_X6_isScratched (l := l) G cy a_now H.size g_now y4 1  r_16 hh_r_16) (va_cwS 3 hts gX6_about_X6_isScratched rfl rfl rfl ddN_X6_isScratched ⟨Nat.le_of_ble_eq_true rfl, Nat.le_of_ble_eq_true rfl⟩) (preS_ (hP.sub (ws' := [(a_now, av_J cy 11 g_now)]) [1] rfl) hK (hD.sub (ws' := [(a_now, av_J cy 11 g_now)]) [1] rfl rfl) hN) rfl rfl hl.1 rfl (lv_room (Nat.le_of_ble_eq_true rfl)) dX6_about_53 ⟨Nat.le_of_ble_eq_true rfl, Nat.le_of_ble_eq_true rfl⟩) (fun H locs hP hD hS => ?_)
        have hP : va_P G vwCl [(a_0, mv a_text a_now a_trial a_diary a_kept a_isKept a_seen a_equations a_wanted c_s_0), (a_now, av_J cy 11 g_now)] H := hP
        have hD : va_D A [(a_0, mv a_text a_now a_trial a_diary a_kept a_isKept a_seen a_equations a_wanted c_s_0), (a_now, av_J cy 11 g_now)] := hD
        refine lv_if_eq (tgt := 63) hx hb dX6_about_56 (by decide) (fun h_17 => ?_) (fun h_17 => ?_)
        · have hf := in_ (bI_0 h_17) hf
          refine lv_iconst (v := 0) hx hb dX6_about_63 (by decide) ?_
          refine lv_aload_n hx hb dX6_about_64 rfl (lv_at hl 0 rfl) ?_
          refine va_get (D := G) (ci := 6) (v := .ref a_now) (C := RX6) (T := TX6) (N := 15) hx hb hts iw_X6_about_X6 hown hK hP 0 rfl rfl 3 (by decide) (hts (.fieldLink RX6 13 "PaneFrostModel" "now" "[J") (by decide +kernel)) (fun _ h9 => h9) rfl dX6_about_65 ?_
          refine lv_iload hx hb dX6_about_68 (lv_at hl 4 rfl) ?_
          refine lv_iconst (v := 2) hx hb dX6_about_70 (by decide) ?_
          obtain ⟨r_18, hh_r_18, hf⟩ := obd_some hf
          refine kc_i (w1 := [(a_now, av_J cy 11 g_now)]) (wr := [(a_0, mv a_text a_now a_trial a_diary a_kept a_isKept a_seen a_equations a_wanted c_s_0)]) hP hD hS hA [1] [0] rfl rfl rfl (by decide) (va_runS (As := [.ref a_now, .int y4, .int 2]) (rest := [.int 0, .int y2]) ⟨hx, hb, hml, hown, hts⟩ (c_X6_isScratched (l := l) G cy a_now H.size g_now y4 2  r_18 hh_r_18) (va_cwS 3 hts gX6_about_X6_isScratched rfl rfl rfl ddN_X6_isScratched ⟨Nat.le_of_ble_eq_true rfl, Nat.le_of_ble_eq_true rfl⟩) (preS_ (hP.sub (ws' := [(a_now, av_J cy 11 g_now)]) [1] rfl) hK (hD.sub (ws' := [(a_now, av_J cy 11 g_now)]) [1] rfl rfl) hN) rfl rfl hl.1 rfl (lv_room (Nat.le_of_ble_eq_true rfl)) dX6_about_71 ⟨Nat.le_of_ble_eq_true rfl, Nat.le_of_ble_eq_true rfl⟩) (fun H locs hP hD hS => ?_)
          have hP : va_P G vwCl [(a_0, mv a_text a_now a_trial a_diary a_kept a_isKept a_seen a_equations a_wanted c_s_0), (a_now, av_J cy 11 g_now)] H := hP
          have hD : va_D A [(a_0, mv a_text a_now a_trial a_diary a_kept a_isKept a_seen a_equations a_wanted c_s_0), (a_now, av_J cy 11 g_now)] := hD
          refine lv_if_eq (tgt := 81) hx hb dX6_about_74 (by decide) (fun h_19 => ?_) (fun h_19 => ?_)
          · have hf := in_ (bI_0 h_19) hf
            refine lv_iconst (v := 0) hx hb dX6_about_81 (by decide) ?_
            refine lv_iadd hx hb dX6_about_82 ?_
            refine lv_iadd hx hb dX6_about_83 ?_
            refine lv_istore_n (lv' := [(2, .int (y2 + (0 + 0))), (0, .ref a_0), (1, .int y1), (3, .int y3), (4, .int y4)]) hx hb dX6_about_84 rfl hl (by decide) rfl (fun ls hl => ?_)
            refine lv_iinc (v := (y4 + 1)) (lv' := [(4, .int (y4 + 1)), (2, .int (y2 + (0 + 0))), (0, .ref a_0), (1, .int y1), (3, .int y3)]) hx hb dX6_about_85 hl (k := 4) rfl rfl (by decide) rfl (fun ls hl => ?_)
            refine lv_goto (tgt := 39) hx hb dX6_about_88 (by decide) ?_
            exact ih c_s_0 (y2 + (0 + 0)) (y4 + 1) _ _ hf hP hD hS ls (lv_sub hl [2, 3, 1, 4, 0] rfl)
          · have hf := ip_ (bI_n0 h_19) hf
            refine lv_iconst (v := 1) hx hb dX6_about_77 (by decide) ?_
            refine lv_goto (tgt := 82) hx hb dX6_about_78 (by decide) ?_
            refine lv_iadd hx hb dX6_about_82 ?_
            refine lv_iadd hx hb dX6_about_83 ?_
            refine lv_istore_n (lv' := [(2, .int (y2 + (0 + 1))), (0, .ref a_0), (1, .int y1), (3, .int y3), (4, .int y4)]) hx hb dX6_about_84 rfl hl (by decide) rfl (fun ls hl => ?_)
            refine lv_iinc (v := (y4 + 1)) (lv' := [(4, .int (y4 + 1)), (2, .int (y2 + (0 + 1))), (0, .ref a_0), (1, .int y1), (3, .int y3)]) hx hb dX6_about_85 hl (k := 4) rfl rfl (by decide) rfl (fun ls hl => ?_)
            refine lv_goto (tgt := 39) hx hb dX6_about_88 (by decide) ?_
            exact ih c_s_0 (y2 + (0 + 1)) (y4 + 1) _ _ hf hP hD hS ls (lv_sub hl [2, 3, 1, 4, 0] rfl)
        · have hf := ip_ (bI_n0 h_17) hf
          refine lv_iconst (v := 1) hx hb dX6_about_59 (by decide) ?_
          refine lv_goto (tgt := 64) hx hb dX6_about_60 (by decide) ?_
          refine lv_aload_n hx hb dX6_about_64 rfl (lv_at hl 0 rfl) ?_
          refine va_get (D := G) (ci := 6) (v := .ref a_now) (C := RX6) (T := TX6) (N := 15) hx hb hts iw_X6_about_X6 hown hK hP 0 rfl rfl 3 (by decide) (hts (.fieldLink RX6 13 "PaneFrostModel" "now" "[J") (by decide +kernel)) (fun _ h9 => h9) rfl dX6_about_65 ?_
          refine lv_iload hx hb dX6_about_68 (lv_at hl 4 rfl) ?_
          refine lv_iconst (v := 2) hx hb dX6_about_70 (by decide) ?_
          obtain ⟨r_20, hh_r_20, hf⟩ := obd_some hf
          refine kc_i (w1 := [(a_now, av_J cy 11 g_now)]) (wr := [(a_0, mv a_text a_now a_trial a_diary a_kept a_isKept a_seen a_equations a_wanted c_s_0)]) hP hD hS hA [1] [0] rfl rfl rfl (by decide) (va_runS (As := [.ref a_now, .int y4, .int 2]) (rest := [.int 1, .int y2]) ⟨hx, hb, hml, hown, hts⟩ (c_X6_isScratched (l := l) G cy a_now H.size g_now y4 2  r_20 hh_r_20) (va_cwS 3 hts gX6_about_X6_isScratched rfl rfl rfl ddN_X6_isScratched ⟨Nat.le_of_ble_eq_true rfl, Nat.le_of_ble_eq_true rfl⟩) (preS_ (hP.sub (ws' := [(a_now, av_J cy 11 g_now)]) [1] rfl) hK (hD.sub (ws' := [(a_now, av_J cy 11 g_now)]) [1] rfl rfl) hN) rfl rfl hl.1 rfl (lv_room (Nat.le_of_ble_eq_true rfl)) dX6_about_71 ⟨Nat.le_of_ble_eq_true rfl, Nat.le_of_ble_eq_true rfl⟩) (fun H locs hP hD hS => ?_)
          have hP : va_P G vwCl [(a_0, mv a_text a_now a_trial a_diary a_kept a_isKept a_seen a_equations a_wanted c_s_0), (a_now, av_J cy 11 g_now)] H := hP
          have hD : va_D A [(a_0, mv a_text a_now a_trial a_diary a_kept a_isKept a_seen a_equations a_wanted c_s_0), (a_now, av_J cy 11 g_now)] := hD
          refine lv_if_eq (tgt := 81) hx hb dX6_about_74 (by decide) (fun h_21 => ?_) (fun h_21 => ?_)
          · have hf := in_ (bI_0 h_21) hf
            refine lv_iconst (v := 0) hx hb dX6_about_81 (by decide) ?_
            refine lv_iadd hx hb dX6_about_82 ?_
            refine lv_iadd hx hb dX6_about_83 ?_
            refine lv_istore_n (lv' := [(2, .int (y2 + (1 + 0))), (0, .ref a_0), (1, .int y1), (3, .int y3), (4, .int y4)]) hx hb dX6_about_84 rfl hl (by decide) rfl (fun ls hl => ?_)
            refine lv_iinc (v := (y4 + 1)) (lv' := [(4, .int (y4 + 1)), (2, .int (y2 + (1 + 0))), (0, .ref a_0), (1, .int y1), (3, .int y3)]) hx hb dX6_about_85 hl (k := 4) rfl rfl (by decide) rfl (fun ls hl => ?_)
            refine lv_goto (tgt := 39) hx hb dX6_about_88 (by decide) ?_
            exact ih c_s_0 (y2 + (1 + 0)) (y4 + 1) _ _ hf hP hD hS ls (lv_sub hl [2, 3, 1, 4, 0] rfl)
          · have hf := ip_ (bI_n0 h_21) hf
            refine lv_iconst (v := 1) hx hb dX6_about_77 (by decide) ?_
            refine lv_goto (tgt := 82) hx hb dX6_about_78 (by decide) ?_
            refine lv_iadd hx hb dX6_about_82 ?_
            refine lv_iadd hx hb dX6_about_83 ?_
            refine lv_istore_n (lv' := [(2, .int (y2 + (1 + 1))), (0, .ref a_0), (1, .int y1), (3, .int y3), (4, .int y4)]) hx hb dX6_about_84 rfl hl (by decide) rfl (fun ls hl => ?_)
            refine lv_iinc (v := (y4 + 1)) (lv' := [(4, .int (y4 + 1)), (2, .int (y2 + (1 + 1))), (0, .ref a_0), (1, .int y1), (3, .int y3)]) hx hb dX6_about_85 hl (k := 4) rfl rfl (by decide) rfl (fun ls hl => ?_)
            refine lv_goto (tgt := 39) hx hb dX6_about_88 (by decide) ?_
            exact ih c_s_0 (y2 + (1 + 1)) (y4 + 1) _ _ hf hP hD hS ls (lv_sub hl [2, 3, 1, 4, 0] rfl)
  have hl := lv_entry [.ref a_0, .int x1] (n := 5) (Nat.le_of_ble_eq_true rfl)
  rw [lg_entry_eq]
  generalize (lg_sl [.ref a_0, .int x1] ++ List.replicate (5 - (lg_sl [.ref a_0, .int x1]).length) Slot.unset).toArray = ls at hl ⊢
  have hl : lv_has ls 5 [(0, .ref a_0), (1, .int x1)] := hl
  unfold f_X6_about at hf
  refine lv_aload_n hx hb dX6_about_0 rfl (lv_at hl 0 rfl) ?_
  refine lv_iload_n hx hb dX6_about_1 rfl (lv_at hl 1 rfl) ?_
  refine lv_i2l (v := x1.toInt64) hx hb dX6_about_2 rfl ?_
  refine lv_lconst (v := 0) hx hb dX6_about_3 rfl ?_
  refine lv_ldc2 (v := 7) hx hb hown (hts (.constantLong RX6 181 (7)) (by decide +kernel)) dX6_about_4 ?_
  refine kc_i (w1 := []) (wr := [(a_0, mv a_text a_now a_trial a_diary a_kept a_isKept a_seen a_equations a_wanted s_0), (a_now, av_J cy 11 g_now)]) hP hD hS hA [] [0, 1] rfl rfl rfl (by decide) (va_runS (As := [.long x1.toInt64, .long 0, .long 7]) (rest := [.ref a_0]) ⟨hx, hb, hml, hown, hts⟩ (c_X6_in (l := l) G cy  s.heap.size x1.toInt64 0 7  (f_X6_in x1.toInt64 0 7) rfl) (va_cwS 3 hts gX6_about_X6_in rfl rfl rfl ddN_X6_in ⟨Nat.le_of_ble_eq_true rfl, Nat.le_of_ble_eq_true rfl⟩) (preS_ (hP.sub (ws' := []) [] rfl) hK (hD.sub (ws' := []) [] rfl rfl) hN) rfl rfl hl.1 rfl (lv_room (Nat.le_of_ble_eq_true rfl)) dX6_about_7 ⟨Nat.le_of_ble_eq_true rfl, Nat.le_of_ble_eq_true rfl⟩) (fun H locs hP hD hS => ?_)
  have hP : va_P G vwCl [(a_0, mv a_text a_now a_trial a_diary a_kept a_isKept a_seen a_equations a_wanted s_0), (a_now, av_J cy 11 g_now)] H := hP
  have hD : va_D A [(a_0, mv a_text a_now a_trial a_diary a_kept a_isKept a_seen a_equations a_wanted s_0), (a_now, av_J cy 11 g_now)] := hD
  refine lv_if_eq (tgt := 17) hx hb dX6_about_10 (by decide) (fun h_22 => ?_) (fun h_22 => ?_)
  · have hf := in_ (bI_0 h_22) hf
    refine lv_iconst (v := 1) hx hb dX6_about_17 (by decide) ?_
    obtain ⟨r_23, hh_r_23⟩ : ∃ z, z = f_X6_refused s_0 1 := ⟨_, rfl⟩
    have hf := lt_e hh_r_23 hf
    refine kc_i (w1 := [(a_0, mv a_text a_now a_trial a_diary a_kept a_isKept a_seen a_equations a_wanted r_23.2)]) (wr := [(a_now, av_J cy 11 g_now)]) hP hD hS hA [0] [1] rfl rfl rfl (by decide) (va_runV (As := [.int 1]) (rest := []) ⟨hx, hb, hml, hown, hts⟩ (c_X6_refused (l := l) G cy a_0 a_text a_now a_trial a_diary a_kept a_isKept a_seen a_equations a_wanted H.size s_0 1  r_23 hh_r_23.symm) (cwV 1 hts gX6_about_X6_refused rfl rfl rfl ddV_X6_refused ⟨Nat.le_of_ble_eq_true rfl, Nat.le_of_ble_eq_true rfl⟩) (preV_ (ci := 6) (q0 := 0) rfl rfl (hP.sub (ws' := [(a_0, mv a_text a_now a_trial a_diary a_kept a_isKept a_seen a_equations a_wanted s_0)]) [0] rfl) hK (hD.sub (ws' := [(a_0, mv a_text a_now a_trial a_diary a_kept a_isKept a_seen a_equations a_wanted s_0)]) [0] rfl rfl) hN) rfl rfl hl.1 rfl (lv_room (Nat.le_of_ble_eq_true rfl)) dX6_about_18 ⟨Nat.le_of_ble_eq_true rfl, Nat.le_of_ble_eq_true rfl⟩) (fun H locs hP hD hS => ?_)
    have hP : va_P G vwCl [(a_now, av_J cy 11 g_now), (a_0, mv a_text a_now a_trial a_diary a_kept a_isKept a_seen a_equations a_wanted r_23.2)] H := hP
    have hD : va_D A [(a_now, av_J cy 11 g_now), (a_0, mv a_text a_now a_trial a_diary a_kept a_isKept a_seen a_equations a_wanted r_23.2)] := hD
    refine lv_if_eq (tgt := 26) hx hb dX6_about_21 (by decide) (fun h_24 => ?_) (fun h_24 => ?_)
    · have hf := in_ (bI_0 h_24) hf
      refine lv_iconst (v := 0) hx hb dX6_about_26 (by decide) ?_
      refine lv_istore_n (lv' := [(2, .int 0), (0, .ref a_0), (1, .int x1)]) hx hb dX6_about_27 rfl hl (by decide) rfl (fun ls hl => ?_)
      refine lv_aload_n hx hb dX6_about_28 rfl (lv_at hl 1 rfl) ?_
      refine va_get (D := G) (ci := 6) (v := .ref a_now) (C := RX6) (T := TX6) (N := 15) hx hb hts iw_X6_about_X6 hown hK hP 1 rfl rfl 3 (by decide) (hts (.fieldLink RX6 13 "PaneFrostModel" "now" "[J") (by decide +kernel)) (fun _ h9 => h9) rfl dX6_about_29 ?_
      refine kc_i (w1 := [(a_now, av_J cy 11 g_now)]) (wr := [(a_0, mv a_text a_now a_trial a_diary a_kept a_isKept a_seen a_equations a_wanted r_23.2)]) hP hD hS hA [0] [1] rfl rfl rfl (by decide) (va_runS (As := [.ref a_now]) (rest := []) ⟨hx, hb, hml, hown, hts⟩ (c_X6_many (l := l) G cy a_now H.size g_now  (f_X6_many g_now) rfl) (va_cwS 1 hts gX6_about_X6_many rfl rfl rfl ddN_X6_many ⟨Nat.le_of_ble_eq_true rfl, Nat.le_of_ble_eq_true rfl⟩) (preS_ (hP.sub (ws' := [(a_now, av_J cy 11 g_now)]) [0] rfl) hK (hD.sub (ws' := [(a_now, av_J cy 11 g_now)]) [0] rfl rfl) hN) rfl rfl hl.1 rfl (lv_room (Nat.le_of_ble_eq_true rfl)) dX6_about_32 ⟨Nat.le_of_ble_eq_true rfl, Nat.le_of_ble_eq_true rfl⟩) (fun H locs hP hD hS => ?_)
      have hP : va_P G vwCl [(a_0, mv a_text a_now a_trial a_diary a_kept a_isKept a_seen a_equations a_wanted r_23.2), (a_now, av_J cy 11 g_now)] H := hP
      have hD : va_D A [(a_0, mv a_text a_now a_trial a_diary a_kept a_isKept a_seen a_equations a_wanted r_23.2), (a_now, av_J cy 11 g_now)] := hD
      refine lv_istore_n (lv' := [(3, .int (f_X6_many g_now)), (2, .int 0), (0, .ref a_0), (1, .int x1)]) hx hb dX6_about_35 rfl hl (by decide) rfl (fun ls hl => ?_)
      refine lv_iconst (v := 0) hx hb dX6_about_36 (by decide) ?_
      refine lv_istore (lv' := [(4, .int 0), (3, .int (f_X6_many g_now)), (2, .int 0), (0, .ref a_0), (1, .int x1)]) hx hb dX6_about_37 hl (by decide) rfl (fun ls hl => ?_)
      exact bl_39 x1 (f_X6_many g_now) n r_23.2 0 0 _ _ hf hP hD hS ls (lv_sub hl [3, 4, 2, 1, 0] rfl)
    · have hf := ip_ (bI_n0 h_24) hf
      refine lv_iconst (v := 0) hx hb dX6_about_24 (by decide) ?_
      obtain rfl := Option.some.inj hf
      exact kr_i hx hb hr hlocks rfl (hP.sub (ws' := [(a_0, mv a_text a_now a_trial a_diary a_kept a_isKept a_seen a_equations a_wanted r_23.2), (a_now, av_J cy 11 g_now)]) [1, 0] rfl) hK (hD.sub (ws' := [(a_0, mv a_text a_now a_trial a_diary a_kept a_isKept a_seen a_equations a_wanted r_23.2), (a_now, av_J cy 11 g_now)]) [1, 0] rfl rfl) hN hS hS.2.2 dX6_about_25
  · have hf := ip_ (bI_n0 h_22) hf
    refine lv_iconst (v := 0) hx hb dX6_about_13 (by decide) ?_
    refine lv_goto (tgt := 18) hx hb dX6_about_14 (by decide) ?_
    obtain ⟨r_25, hh_r_25⟩ : ∃ z, z = f_X6_refused s_0 0 := ⟨_, rfl⟩
    have hf := lt_e hh_r_25 hf
    refine kc_i (w1 := [(a_0, mv a_text a_now a_trial a_diary a_kept a_isKept a_seen a_equations a_wanted r_25.2)]) (wr := [(a_now, av_J cy 11 g_now)]) hP hD hS hA [0] [1] rfl rfl rfl (by decide) (va_runV (As := [.int 0]) (rest := []) ⟨hx, hb, hml, hown, hts⟩ (c_X6_refused (l := l) G cy a_0 a_text a_now a_trial a_diary a_kept a_isKept a_seen a_equations a_wanted H.size s_0 0  r_25 hh_r_25.symm) (cwV 1 hts gX6_about_X6_refused rfl rfl rfl ddV_X6_refused ⟨Nat.le_of_ble_eq_true rfl, Nat.le_of_ble_eq_true rfl⟩) (preV_ (ci := 6) (q0 := 0) rfl rfl (hP.sub (ws' := [(a_0, mv a_text a_now a_trial a_diary a_kept a_isKept a_seen a_equations a_wanted s_0)]) [0] rfl) hK (hD.sub (ws' := [(a_0, mv a_text a_now a_trial a_diary a_kept a_isKept a_seen a_equations a_wanted s_0)]) [0] rfl rfl) hN) rfl rfl hl.1 rfl (lv_room (Nat.le_of_ble_eq_true rfl)) dX6_about_18 ⟨Nat.le_of_ble_eq_true rfl, Nat.le_of_ble_eq_true rfl⟩) (fun H locs hP hD hS => ?_)
    have hP : va_P G vwCl [(a_now, av_J cy 11 g_now), (a_0, mv a_text a_now a_trial a_diary a_kept a_isKept a_seen a_equations a_wanted r_25.2)] H := hP
    have hD : va_D A [(a_now, av_J cy 11 g_now), (a_0, mv a_text a_now a_trial a_diary a_kept a_isKept a_seen a_equations a_wanted r_25.2)] := hD
    refine lv_if_eq (tgt := 26) hx hb dX6_about_21 (by decide) (fun h_26 => ?_) (fun h_26 => ?_)
    · have hf := in_ (bI_0 h_26) hf
      refine lv_iconst (v := 0) hx hb dX6_about_26 (by decide) ?_
      refine lv_istore_n (lv' := [(2, .int 0), (0, .ref a_0), (1, .int x1)]) hx hb dX6_about_27 rfl hl (by decide) rfl (fun ls hl => ?_)
      refine lv_aload_n hx hb dX6_about_28 rfl (lv_at hl 1 rfl) ?_
      refine va_get (D := G) (ci := 6) (v := .ref a_now) (C := RX6) (T := TX6) (N := 15) hx hb hts iw_X6_about_X6 hown hK hP 1 rfl rfl 3 (by decide) (hts (.fieldLink RX6 13 "PaneFrostModel" "now" "[J") (by decide +kernel)) (fun _ h9 => h9) rfl dX6_about_29 ?_
      refine kc_i (w1 := [(a_now, av_J cy 11 g_now)]) (wr := [(a_0, mv a_text a_now a_trial a_diary a_kept a_isKept a_seen a_equations a_wanted r_25.2)]) hP hD hS hA [0] [1] rfl rfl rfl (by decide) (va_runS (As := [.ref a_now]) (rest := []) ⟨hx, hb, hml, hown, hts⟩ (c_X6_many (l := l) G cy a_now H.size g_now  (f_X6_many g_now) rfl) (va_cwS 1 hts gX6_about_X6_many rfl rfl rfl ddN_X6_many ⟨Nat.le_of_ble_eq_true rfl, Nat.le_of_ble_eq_true rfl⟩) (preS_ (hP.sub (ws' := [(a_now, av_J cy 11 g_now)]) [0] rfl) hK (hD.sub (ws' := [(a_now, av_J cy 11 g_now)]) [0] rfl rfl) hN) rfl rfl hl.1 rfl (lv_room (Nat.le_of_ble_eq_true rfl)) dX6_about_32 ⟨Nat.le_of_ble_eq_true rfl, Nat.le_of_ble_eq_true rfl⟩) (fun H locs hP hD hS => ?_)
      have hP : va_P G vwCl [(a_0, mv a_text a_now a_trial a_diary a_kept a_isKept a_seen a_equations a_wanted r_25.2), (a_now, av_J cy 11 g_now)] H := hP
      have hD : va_D A [(a_0, mv a_text a_now a_trial a_diary a_kept a_isKept a_seen a_equations a_wanted r_25.2), (a_now, av_J cy 11 g_now)] := hD
      refine lv_istore_n (lv' := [(3, .int (f_X6_many g_now)), (2, .int 0), (0, .ref a_0), (1, .int x1)]) hx hb dX6_about_35 rfl hl (by decide) rfl (fun ls hl => ?_)
      refine lv_iconst (v := 0) hx hb dX6_about_36 (by decide) ?_
      refine lv_istore (lv' := [(4, .int 0), (3, .int (f_X6_many g_now)), (2, .int 0), (0, .ref a_0), (1, .int x1)]) hx hb dX6_about_37 hl (by decide) rfl (fun ls hl => ?_)
      exact bl_39 x1 (f_X6_many g_now) n r_25.2 0 0 _ _ hf hP hD hS ls (lv_sub hl [3, 4, 2, 1, 0] rfl)
    · have hf := ip_ (bI_n0 h_26) hf
      refine lv_iconst (v := 0) hx hb dX6_about_24 (by decide) ?_
      obtain rfl := Option.some.inj hf
      exact kr_i hx hb hr hlocks rfl (hP.sub (ws' := [(a_0, mv a_text a_now a_trial a_diary a_kept a_isKept a_seen a_equations a_wanted r_25.2), (a_now, av_J cy 11 g_now)]) [1, 0] rfl) hK (hD.sub (ws' := [(a_0, mv a_text a_now a_trial a_diary a_kept a_isKept a_seen a_equations a_wanted r_25.2), (a_now, av_J cy 11 g_now)]) [1, 0] rfl rfl) hN hS hS.2.2 dX6_about_25
set_option maxHeartbeats 4000000 in
set_option maxRecDepth 100000 in
theorem c_X6_frozen {l : Launch} (G : va_G) (cy : Nat → ClassId) (a_0 : Nat) (a_text : Nat) (a_now : Nat) (a_trial : Nat) (a_diary : Nat) (a_kept : Nat) (a_isKept : Nat) (a_seen : Nat) (a_equations : Nat) (a_wanted : Nat) (sz : Nat) (s_0 : MT) (g_now : Nat → Int64)  (R : Int64 × MT) (hf : f_X6_frozen s_0 g_now = R) : Met l yX6_frozen wsX6_frozen ({ frames := 0, cells := 0, slots := 0, locals := 0 } : Room) (va_Pc [.ref a_0] (pcW G cy [(a_0, mv a_text a_now a_trial a_diary a_kept a_isKept a_seen a_equations a_wanted s_0), (a_now, av_J cy 11 g_now)] sz)) (va_Ql (fun r (_ : Unit) => r = R.1) (fun _ t => Wd G cy (va_A [(a_0, mv a_text a_now a_trial a_diary a_kept a_isKept a_seen a_equations a_wanted s_0), (a_now, av_J cy 11 g_now)] sz) [(a_0, mv a_text a_now a_trial a_diary a_kept a_isKept a_seen a_equations a_wanted R.2), (a_now, av_J cy 11 g_now)] t) (va_A [(a_0, mv a_text a_now a_trial a_diary a_kept a_isKept a_seen a_equations a_wanted s_0), (a_now, av_J cy 11 g_now)] sz)) 0 0 (va_A [(a_0, mv a_text a_now a_trial a_diary a_kept a_isKept a_seen a_equations a_wanted s_0), (a_now, av_J cy 11 g_now)] sz) := by
  refine Met.ofW (cc := cX6_frozen) (maxL := 1) (ret := (some .long)) (by decide) rfl ?_
  intro p e s m args below meth c s₁ B hml hv
  obtain ⟨rfl, hsz, hP, hK, hD0, hN⟩ := hv
  have hx := B.exec
  have hb := B.bytes
  have hr := B.returns
  have hts := atoms_spec (ws := wsX6_frozen) B.pre
  have hown : s.vm.findClass RX6 = some m.cls := findClass_of_methodNamed B.named
  have hlocks := B.notSynchronized
  subst hsz
  have hD := hD0.self (sz := s.heap.size)
  generalize hAe : va_A [(a_0, mv a_text a_now a_trial a_diary a_kept a_isKept a_seen a_equations a_wanted s_0), (a_now, av_J cy 11 g_now)] s.heap.size = A at hD ⊢
  have hA : ∀ q : Nat, s.heap.size ≤ q → A q := fun q h => by rw [← hAe]; exact Or.inr h
  have hS : va_S A s.heap s.heap [] := va_S.rf
  have hP : va_P G vwCl [(a_0, mv a_text a_now a_trial a_diary a_kept a_isKept a_seen a_equations a_wanted s_0), (a_now, av_J cy 11 g_now)] s.heap := hP
  have hl := lv_entry [.ref a_0] (n := 1) (Nat.le_of_ble_eq_true rfl)
  rw [lg_entry_eq]
  generalize (lg_sl [.ref a_0] ++ List.replicate (1 - (lg_sl [.ref a_0]).length) Slot.unset).toArray = ls at hl ⊢
  have hl : lv_has ls 1 [(0, .ref a_0)] := hl
  unfold f_X6_frozen at hf
  refine lv_aload_n hx hb dX6_frozen_0 rfl (lv_at hl 0 rfl) ?_
  refine lv_iconst (v := 0) hx hb dX6_frozen_1 (by decide) ?_
  refine va_put (D := G) (ci := 6) (v := .int 0) (ty := .int) (C := RX6) (T := TX6) (N := 15) hx hb hts iw_X6_frozen_X6 tyX6 tyX6_ok nmX6 hown hK hP hD hS 0 rfl rfl 0 (by decide) (hts (.fieldLink RX6 43 "PaneFrostModel" "refusal" "I") (by decide +kernel)) (fun _ h9 => h9) rfl (by decide +kernel) rfl rfl (Nat.le_of_ble_eq_true rfl) dX6_frozen_2 (fun H locs hP hD hS => ?_)
  have hP : va_P G vwCl [(a_0, mv a_text a_now a_trial a_diary a_kept a_isKept a_seen a_equations a_wanted (0, m_size s_0, m_acts s_0, m_rank s_0, m_spot s_0, m_out s_0)), (a_now, av_J cy 11 g_now)] H := hP
  have hD : va_D A [(a_0, mv a_text a_now a_trial a_diary a_kept a_isKept a_seen a_equations a_wanted (0, m_size s_0, m_acts s_0, m_rank s_0, m_spot s_0, m_out s_0)), (a_now, av_J cy 11 g_now)] := hD
  refine lv_aload_n hx hb dX6_frozen_5 rfl (lv_at hl 0 rfl) ?_
  refine va_get (D := G) (ci := 6) (v := .ref a_now) (C := RX6) (T := TX6) (N := 15) hx hb hts iw_X6_frozen_X6 hown hK hP 0 rfl rfl 3 (by decide) (hts (.fieldLink RX6 13 "PaneFrostModel" "now" "[J") (by decide +kernel)) (fun _ h9 => h9) rfl dX6_frozen_6 ?_
  refine lv_bipush (v := 8) hx hb dX6_frozen_9 (by decide) ?_
  refine vz_lald tn_8 hx hb hK hP 1 2 rfl rfl vn_8_11 dX6_frozen_11 ?_
  subst hf
  exact kr_l hx hb hr hlocks rfl hP hK hD hN hS hS.2.2 dX6_frozen_12
set_option maxHeartbeats 4000000 in
set_option maxRecDepth 100000 in
theorem c_X6_cell {l : Launch} (G : va_G) (cy : Nat → ClassId) (a_0 : Nat) (a_text : Nat) (a_now : Nat) (a_trial : Nat) (a_diary : Nat) (a_kept : Nat) (a_isKept : Nat) (a_seen : Nat) (a_equations : Nat) (a_wanted : Nat) (sz : Nat) (s_0 : MT) (g_now : Nat → Int64) (x1 : Int32) (x2 : Int32) (n : Nat) (R : Int32 × MT) (hf : f_X6_cell n s_0 g_now x1 x2 = some R) : Met l yX6_cell wsX6_cell ({ frames := 7, cells := 0, slots := 0, locals := 170 } : Room) (va_Pc [.ref a_0, .int x1, .int x2] (pcW G cy [(a_0, mv a_text a_now a_trial a_diary a_kept a_isKept a_seen a_equations a_wanted s_0), (a_now, av_J cy 11 g_now)] sz)) (va_Qi (fun r (_ : Unit) => r = R.1) (fun _ t => Wd G cy (va_A [(a_0, mv a_text a_now a_trial a_diary a_kept a_isKept a_seen a_equations a_wanted s_0), (a_now, av_J cy 11 g_now)] sz) [(a_0, mv a_text a_now a_trial a_diary a_kept a_isKept a_seen a_equations a_wanted R.2), (a_now, av_J cy 11 g_now)] t) (va_A [(a_0, mv a_text a_now a_trial a_diary a_kept a_isKept a_seen a_equations a_wanted s_0), (a_now, av_J cy 11 g_now)] sz)) 0 0 (va_A [(a_0, mv a_text a_now a_trial a_diary a_kept a_isKept a_seen a_equations a_wanted s_0), (a_now, av_J cy 11 g_now)] sz) := by
  refine Met.ofW (cc := cX6_cell) (maxL := 6) (ret := (some .int)) (by decide) rfl ?_
  intro p e s m args below meth c s₁ B hml hv
  obtain ⟨rfl, hsz, hP, hK, hD0, hN⟩ := hv
  have hx := B.exec
  have hb := B.bytes
  have hr := B.returns
  have hts := atoms_spec (ws := wsX6_cell) B.pre
  have hown : s.vm.findClass RX6 = some m.cls := findClass_of_methodNamed B.named
  have hlocks := B.notSynchronized
  subst hsz
  have hD := hD0.self (sz := s.heap.size)
  generalize hAe : va_A [(a_0, mv a_text a_now a_trial a_diary a_kept a_isKept a_seen a_equations a_wanted s_0), (a_now, av_J cy 11 g_now)] s.heap.size = A at hD ⊢
  have hA : ∀ q : Nat, s.heap.size ≤ q → A q := fun q h => by rw [← hAe]; exact Or.inr h
  have hS : va_S A s.heap s.heap [] := va_S.rf
  have hP : va_P G vwCl [(a_0, mv a_text a_now a_trial a_diary a_kept a_isKept a_seen a_equations a_wanted s_0), (a_now, av_J cy 11 g_now)] s.heap := hP
  have bl_59 : ∀ (y1 : Int32), ∀ (y2 : Int32), ∀ (y3 : Int32), ∀ (k : Nat), ∀ (c_s_0 : MT) (y4 : Int32) (y5 : Int32) (H : Heap) (locs : List Loc), f_X6_cell_b59 n g_now y1 y2 y3 k c_s_0 y4 y5 = some R → va_P G vwCl [(a_0, mv a_text a_now a_trial a_diary a_kept a_isKept a_seen a_equations a_wanted c_s_0), (a_now, av_J cy 11 g_now)] H → va_D A [(a_0, mv a_text a_now a_trial a_diary a_kept a_isKept a_seen a_equations a_wanted c_s_0), (a_now, av_J cy 11 g_now)] → va_S A s.heap H locs → ∀ (ls : Array Slot), lv_has ls 6 [(0, .ref a_0), (1, .int y1), (2, .int y2), (3, .int y3), (4, .int y4), (5, .int y5)] → W p l e ({ frames := 7, cells := 0, slots := 0, locals := 170 } : Room) s m [.ref a_0, .int x1, .int x2].toArray below meth c H locs 0 0 (MQ below (va_Qi (fun r (_ : Unit) => r = R.1) (fun _ t => Wd G cy A [(a_0, mv a_text a_now a_trial a_diary a_kept a_isKept a_seen a_equations a_wanted R.2), (a_now, av_J cy 11 g_now)] t) A) [.ref a_0, .int x1, .int x2].toArray s 0 0 A) (F0 m 59 ls []) := by
    intro y1
    intro y2
    intro y3
    intro k
    induction k with
    | zero =>
      intro c_s_0 y4 y5 H locs hf; cases hf
    | succ k ih =>
      intro c_s_0 y4 y5 H locs hf hP hD hS ls hl
      have hf := (f_X6_cell_b59_s n g_now y1 y2 y3 k c_s_0 y4 y5).symm.trans hf
      refine lv_iload hx hb dX6_cell_59 (lv_at hl 5 rfl) ?_
      refine lv_iconst (v := 4) hx hb dX6_cell_61 (by decide) ?_
      refine lv_icmp_ge (tgt := 97) hx hb dX6_cell_62 (by decide) (fun h_1 => ?_) (fun h_1 => ?_)
      · have hf := ip_ h_1 hf
        refine lv_iload_n hx hb dX6_cell_97 rfl (lv_at hl 2 rfl) ?_
        refine lv_if_ne (tgt := 113) hx hb dX6_cell_98 (by decide) (fun h_2 => ?_) (fun h_2 => ?_)
        · have hf := in_ h_2 hf
          refine lv_iload_n hx hb dX6_cell_113 rfl (lv_at hl 2 rfl) ?_
          refine lv_iconst (v := 1) hx hb dX6_cell_114 (by decide) ?_
          refine lv_icmp_ne (tgt := 129) hx hb dX6_cell_115 (by decide) (fun h_3 => ?_) (fun h_3 => ?_)
          · have hf := in_ h_3 hf
            refine lv_iload_n hx hb dX6_cell_129 rfl (lv_at hl 2 rfl) ?_
            refine lv_iconst (v := 3) hx hb dX6_cell_130 (by decide) ?_
            refine lv_icmp_ne (tgt := 139) hx hb dX6_cell_131 (by decide) (fun h_4 => ?_) (fun h_4 => ?_)
            · have hf := in_ h_4 hf
              refine lv_iload_n hx hb dX6_cell_139 rfl (lv_at hl 3 rfl) ?_
              refine lv_if_eq (tgt := 157) hx hb dX6_cell_140 (by decide) (fun h_5 => ?_) (fun h_5 => ?_)
              · have hf := ip_ h_5 hf
                refine lv_iconst (v := 0) hx hb dX6_cell_157 (by decide) ?_
                obtain rfl := Option.some.inj hf
                exact kr_i hx hb hr hlocks rfl hP hK hD hN hS hS.2.2 dX6_cell_158
              · have hf := in_ h_5 hf
                refine lv_aload_n hx hb dX6_cell_143 rfl (lv_at hl 0 rfl) ?_
                refine va_get (D := G) (ci := 6) (v := .ref a_now) (C := RX6) (T := TX6) (N := 15) hx hb hts iw_X6_cell_X6 hown hK hP 0 rfl rfl 3 (by decide) (hts (.fieldLink RX6 13 "PaneFrostModel" "now" "[J") (by decide +kernel)) (fun _ h9 => h9) rfl dX6_cell_144 ?_
                refine lv_iload_n hx hb dX6_cell_147 rfl (lv_at hl 1 rfl) ?_
                obtain ⟨r_6, hh_r_6, hf⟩ := obd_some hf
                refine kc_l (w1 := [(a_now, av_J cy 11 g_now)]) (wr := [(a_0, mv a_text a_now a_trial a_diary a_kept a_isKept a_seen a_equations a_wanted c_s_0)]) hP hD hS hA [1] [0] rfl rfl rfl (by decide) (va_runS (As := [.ref a_now, .int y1]) (rest := []) ⟨hx, hb, hml, hown, hts⟩ (c_X6_patchOf (l := l) G cy a_now H.size g_now y1 n r_6 hh_r_6) (va_cwS 2 hts gX6_cell_X6_patchOf rfl rfl rfl ddN_X6_patchOf ⟨Nat.le_of_ble_eq_true rfl, Nat.le_of_ble_eq_true rfl⟩) (preS_ (hP.sub (ws' := [(a_now, av_J cy 11 g_now)]) [1] rfl) hK (hD.sub (ws' := [(a_now, av_J cy 11 g_now)]) [1] rfl rfl) hN) rfl rfl hl.1 rfl (lv_room (Nat.le_of_ble_eq_true rfl)) dX6_cell_148 ⟨Nat.le_of_ble_eq_true rfl, Nat.le_of_ble_eq_true rfl⟩) (fun H locs hP hD hS => ?_)
                have hP : va_P G vwCl [(a_0, mv a_text a_now a_trial a_diary a_kept a_isKept a_seen a_equations a_wanted c_s_0), (a_now, av_J cy 11 g_now)] H := hP
                have hD : va_D A [(a_0, mv a_text a_now a_trial a_diary a_kept a_isKept a_seen a_equations a_wanted c_s_0), (a_now, av_J cy 11 g_now)] := hD
                obtain ⟨r_7, hh_r_7, hf⟩ := obd_some hf
                refine kc_i (w1 := []) (wr := [(a_0, mv a_text a_now a_trial a_diary a_kept a_isKept a_seen a_equations a_wanted c_s_0), (a_now, av_J cy 11 g_now)]) hP hD hS hA [] [0, 1] rfl rfl rfl (by decide) (va_runS (As := [.long r_6]) (rest := []) ⟨hx, hb, hml, hown, hts⟩ (c_X6_bits (l := l) G cy  H.size r_6 n r_7 hh_r_7) (va_cwS 1 hts gX6_cell_X6_bits rfl rfl rfl ddN_X6_bits ⟨Nat.le_of_ble_eq_true rfl, Nat.le_of_ble_eq_true rfl⟩) (preS_ (hP.sub (ws' := []) [] rfl) hK (hD.sub (ws' := []) [] rfl rfl) hN) rfl rfl hl.1 rfl (lv_room (Nat.le_of_ble_eq_true rfl)) dX6_cell_151 ⟨Nat.le_of_ble_eq_true rfl, Nat.le_of_ble_eq_true rfl⟩) (fun H locs hP hD hS => ?_)
                have hP : va_P G vwCl [(a_0, mv a_text a_now a_trial a_diary a_kept a_isKept a_seen a_equations a_wanted c_s_0), (a_now, av_J cy 11 g_now)] H := hP
                have hD : va_D A [(a_0, mv a_text a_now a_trial a_diary a_kept a_isKept a_seen a_equations a_wanted c_s_0), (a_now, av_J cy 11 g_now)] := hD
                refine lv_goto (tgt := 158) hx hb dX6_cell_154 (by decide) ?_
                obtain rfl := Option.some.inj hf
                exact kr_i hx hb hr hlocks rfl hP hK hD hN hS hS.2.2 dX6_cell_158
            · have hf := ip_ h_4 hf
              refine lv_iload hx hb dX6_cell_134 (lv_at hl 4 rfl) ?_
              refine lv_goto (tgt := 158) hx hb dX6_cell_136 (by decide) ?_
              obtain rfl := Option.some.inj hf
              exact kr_i hx hb hr hlocks rfl hP hK hD hN hS hS.2.2 dX6_cell_158
          · have hf := ip_ h_3 hf
            refine lv_aload_n hx hb dX6_cell_118 rfl (lv_at hl 0 rfl) ?_
            refine va_get (D := G) (ci := 6) (v := .ref a_now) (C := RX6) (T := TX6) (N := 15) hx hb hts iw_X6_cell_X6 hown hK hP 0 rfl rfl 3 (by decide) (hts (.fieldLink RX6 13 "PaneFrostModel" "now" "[J") (by decide +kernel)) (fun _ h9 => h9) rfl dX6_cell_119 ?_
            refine lv_iload_n hx hb dX6_cell_122 rfl (lv_at hl 1 rfl) ?_
            obtain ⟨r_8, hh_r_8, hf⟩ := obd_some hf
            refine kc_i (w1 := [(a_now, av_J cy 11 g_now)]) (wr := [(a_0, mv a_text a_now a_trial a_diary a_kept a_isKept a_seen a_equations a_wanted c_s_0)]) hP hD hS hA [1] [0] rfl rfl rfl (by decide) (va_runS (As := [.ref a_now, .int y1]) (rest := []) ⟨hx, hb, hml, hown, hts⟩ (c_X6_cold (l := l) G cy a_now H.size g_now y1 n r_8 hh_r_8) (va_cwS 2 hts gX6_cell_X6_cold rfl rfl rfl ddN_X6_cold ⟨Nat.le_of_ble_eq_true rfl, Nat.le_of_ble_eq_true rfl⟩) (preS_ (hP.sub (ws' := [(a_now, av_J cy 11 g_now)]) [1] rfl) hK (hD.sub (ws' := [(a_now, av_J cy 11 g_now)]) [1] rfl rfl) hN) rfl rfl hl.1 rfl (lv_room (Nat.le_of_ble_eq_true rfl)) dX6_cell_123 ⟨Nat.le_of_ble_eq_true rfl, Nat.le_of_ble_eq_true rfl⟩) (fun H locs hP hD hS => ?_)
            have hP : va_P G vwCl [(a_0, mv a_text a_now a_trial a_diary a_kept a_isKept a_seen a_equations a_wanted c_s_0), (a_now, av_J cy 11 g_now)] H := hP
            have hD : va_D A [(a_0, mv a_text a_now a_trial a_diary a_kept a_isKept a_seen a_equations a_wanted c_s_0), (a_now, av_J cy 11 g_now)] := hD
            refine lv_goto (tgt := 158) hx hb dX6_cell_126 (by decide) ?_
            obtain rfl := Option.some.inj hf
            exact kr_i hx hb hr hlocks rfl hP hK hD hN hS hS.2.2 dX6_cell_158
        · have hf := ip_ h_2 hf
          refine lv_iload_n hx hb dX6_cell_101 rfl (lv_at hl 3 rfl) ?_
          refine lv_if_eq (tgt := 109) hx hb dX6_cell_102 (by decide) (fun h_9 => ?_) (fun h_9 => ?_)
          · have hf := ip_ h_9 hf
            refine lv_iconst (v := 0) hx hb dX6_cell_109 (by decide) ?_
            refine lv_goto (tgt := 158) hx hb dX6_cell_110 (by decide) ?_
            obtain rfl := Option.some.inj hf
            exact kr_i hx hb hr hlocks rfl hP hK hD hN hS hS.2.2 dX6_cell_158
          · have hf := in_ h_9 hf
            refine lv_iconst (v := 1) hx hb dX6_cell_105 (by decide) ?_
            refine lv_goto (tgt := 158) hx hb dX6_cell_106 (by decide) ?_
            obtain rfl := Option.some.inj hf
            exact kr_i hx hb hr hlocks rfl hP hK hD hN hS hS.2.2 dX6_cell_158
      · have hf := in_ h_1 hf
        refine lv_iload hx hb dX6_cell_65 (lv_at hl 4 rfl) ?_
        refine lv_aload_n hx hb dX6_cell_67 rfl (lv_at hl 0 rfl) ?_
        refine va_get (D := G) (ci := 6) (v := .ref a_now) (C := RX6) (T := TX6) (N := 15) hx hb hts iw_X6_cell_X6 hown hK hP 0 rfl rfl 3 (by decide) (hts (.fieldLink RX6 13 "PaneFrostModel" "now" "[J") (by decide +kernel)) (fun _ h9 => h9) rfl dX6_cell_68 ?_
        refine lv_iload_n hx hb dX6_cell_71 rfl (lv_at hl 1 rfl) ?_
        refine lv_iload hx hb dX6_cell_72 (lv_at hl 5 rfl) ?_
        obtain ⟨r_10, hh_r_10, hf⟩ := obd_some hf
        refine kc_i (w1 := [(a_now, av_J cy 11 g_now)]) (wr := [(a_0, mv a_text a_now a_trial a_diary a_kept a_isKept a_seen a_equations a_wanted c_s_0)]) hP hD hS hA [1] [0] rfl rfl rfl (by decide) (va_runS (As := [.ref a_now, .int y1, .int y5]) (rest := [.int y4]) ⟨hx, hb, hml, hown, hts⟩ (c_X6_isScratched (l := l) G cy a_now H.size g_now y1 y5  r_10 hh_r_10) (va_cwS 3 hts gX6_cell_X6_isScratched rfl rfl rfl ddN_X6_isScratched ⟨Nat.le_of_ble_eq_true rfl, Nat.le_of_ble_eq_true rfl⟩) (preS_ (hP.sub (ws' := [(a_now, av_J cy 11 g_now)]) [1] rfl) hK (hD.sub (ws' := [(a_now, av_J cy 11 g_now)]) [1] rfl rfl) hN) rfl rfl hl.1 rfl (lv_room (Nat.le_of_ble_eq_true rfl)) dX6_cell_74 ⟨Nat.le_of_ble_eq_true rfl, Nat.le_of_ble_eq_true rfl⟩) (fun H locs hP hD hS => ?_)
        have hP : va_P G vwCl [(a_0, mv a_text a_now a_trial a_diary a_kept a_isKept a_seen a_equations a_wanted c_s_0), (a_now, av_J cy 11 g_now)] H := hP
        have hD : va_D A [(a_0, mv a_text a_now a_trial a_diary a_kept a_isKept a_seen a_equations a_wanted c_s_0), (a_now, av_J cy 11 g_now)] := hD
        refine lv_if_eq (tgt := 87) hx hb dX6_cell_77 (by decide) (fun h_11 => ?_) (fun h_11 => ?_)
        · have hf := in_ (bI_0 h_11) hf
          refine lv_iconst (v := 0) hx hb dX6_cell_87 (by decide) ?_
          refine lv_ior hx hb dX6_cell_88 ?_
          refine lv_istore (lv' := [(4, .int (y4 ||| 0)), (0, .ref a_0), (1, .int y1), (2, .int y2), (3, .int y3), (5, .int y5)]) hx hb dX6_cell_89 hl (by decide) rfl (fun ls hl => ?_)
          refine lv_iinc (v := (y5 + 1)) (lv' := [(5, .int (y5 + 1)), (4, .int (y4 ||| 0)), (0, .ref a_0), (1, .int y1), (2, .int y2), (3, .int y3)]) hx hb dX6_cell_91 hl (k := 5) rfl rfl (by decide) rfl (fun ls hl => ?_)
          refine lv_goto (tgt := 59) hx hb dX6_cell_94 (by decide) ?_
          exact ih c_s_0 (y4 ||| 0) (y5 + 1) _ _ hf hP hD hS ls (lv_sub hl [2, 3, 4, 5, 1, 0] rfl)
        · have hf := ip_ (bI_n0 h_11) hf
          refine lv_iconst (v := 1) hx hb dX6_cell_80 (by decide) ?_
          refine lv_iload hx hb dX6_cell_81 (lv_at hl 5 rfl) ?_
          refine lv_ishl hx hb dX6_cell_83 ?_
          refine lv_goto (tgt := 88) hx hb dX6_cell_84 (by decide) ?_
          refine lv_ior hx hb dX6_cell_88 ?_
          refine lv_istore (lv' := [(4, .int (y4 ||| (isl 1 y5))), (0, .ref a_0), (1, .int y1), (2, .int y2), (3, .int y3), (5, .int y5)]) hx hb dX6_cell_89 hl (by decide) rfl (fun ls hl => ?_)
          refine lv_iinc (v := (y5 + 1)) (lv' := [(5, .int (y5 + 1)), (4, .int (y4 ||| (isl 1 y5))), (0, .ref a_0), (1, .int y1), (2, .int y2), (3, .int y3)]) hx hb dX6_cell_91 hl (k := 5) rfl rfl (by decide) rfl (fun ls hl => ?_)
          refine lv_goto (tgt := 59) hx hb dX6_cell_94 (by decide) ?_
          exact ih c_s_0 (y4 ||| (isl 1 y5)) (y5 + 1) _ _ hf hP hD hS ls (lv_sub hl [2, 3, 4, 5, 1, 0] rfl)
  have bl_33 : ∀ (c_s_0 : MT) (y1 : Int32) (y2 : Int32) (z1 : Int32) (H : Heap) (locs : List Loc), f_X6_cell_b33 n g_now c_s_0 y1 y2 z1 = some R → va_P G vwCl [(a_0, mv a_text a_now a_trial a_diary a_kept a_isKept a_seen a_equations a_wanted c_s_0), (a_now, av_J cy 11 g_now)] H → va_D A [(a_0, mv a_text a_now a_trial a_diary a_kept a_isKept a_seen a_equations a_wanted c_s_0), (a_now, av_J cy 11 g_now)] → va_S A s.heap H locs → ∀ (ls : Array Slot), lv_has ls 6 [(0, .ref a_0), (1, .int y1), (2, .int y2)] → W p l e ({ frames := 7, cells := 0, slots := 0, locals := 170 } : Room) s m [.ref a_0, .int x1, .int x2].toArray below meth c H locs 0 0 (MQ below (va_Qi (fun r (_ : Unit) => r = R.1) (fun _ t => Wd G cy A [(a_0, mv a_text a_now a_trial a_diary a_kept a_isKept a_seen a_equations a_wanted R.2), (a_now, av_J cy 11 g_now)] t) A) [.ref a_0, .int x1, .int x2].toArray s 0 0 A) (F0 m 33 ls [.int z1, .ref a_0]) := by
    intro c_s_0 y1 y2 z1 H locs hf hP hD hS ls hl
    unfold f_X6_cell_b33 at hf
    obtain ⟨r_12, hh_r_12⟩ : ∃ z, z = f_X6_refused c_s_0 z1 := ⟨_, rfl⟩
    have hf := lt_e hh_r_12 hf
    refine kc_i (w1 := [(a_0, mv a_text a_now a_trial a_diary a_kept a_isKept a_seen a_equations a_wanted r_12.2)]) (wr := [(a_now, av_J cy 11 g_now)]) hP hD hS hA [0] [1] rfl rfl rfl (by decide) (va_runV (As := [.int z1]) (rest := []) ⟨hx, hb, hml, hown, hts⟩ (c_X6_refused (l := l) G cy a_0 a_text a_now a_trial a_diary a_kept a_isKept a_seen a_equations a_wanted H.size c_s_0 z1  r_12 hh_r_12.symm) (cwV 1 hts gX6_cell_X6_refused rfl rfl rfl ddV_X6_refused ⟨Nat.le_of_ble_eq_true rfl, Nat.le_of_ble_eq_true rfl⟩) (preV_ (ci := 6) (q0 := 0) rfl rfl (hP.sub (ws' := [(a_0, mv a_text a_now a_trial a_diary a_kept a_isKept a_seen a_equations a_wanted c_s_0)]) [0] rfl) hK (hD.sub (ws' := [(a_0, mv a_text a_now a_trial a_diary a_kept a_isKept a_seen a_equations a_wanted c_s_0)]) [0] rfl rfl) hN) rfl rfl hl.1 rfl (lv_room (Nat.le_of_ble_eq_true rfl)) dX6_cell_33 ⟨Nat.le_of_ble_eq_true rfl, Nat.le_of_ble_eq_true rfl⟩) (fun H locs hP hD hS => ?_)
    have hP : va_P G vwCl [(a_now, av_J cy 11 g_now), (a_0, mv a_text a_now a_trial a_diary a_kept a_isKept a_seen a_equations a_wanted r_12.2)] H := hP
    have hD : va_D A [(a_now, av_J cy 11 g_now), (a_0, mv a_text a_now a_trial a_diary a_kept a_isKept a_seen a_equations a_wanted r_12.2)] := hD
    refine lv_if_eq (tgt := 41) hx hb dX6_cell_36 (by decide) (fun h_13 => ?_) (fun h_13 => ?_)
    · have hf := in_ (bI_0 h_13) hf
      refine lv_aload_n hx hb dX6_cell_41 rfl (lv_at hl 0 rfl) ?_
      refine va_get (D := G) (ci := 6) (v := .ref a_now) (C := RX6) (T := TX6) (N := 15) hx hb hts iw_X6_cell_X6 hown hK hP 1 rfl rfl 3 (by decide) (hts (.fieldLink RX6 13 "PaneFrostModel" "now" "[J") (by decide +kernel)) (fun _ h9 => h9) rfl dX6_cell_42 ?_
      refine lv_bipush (v := 8) hx hb dX6_cell_45 (by decide) ?_
      refine vz_lald tn_8 hx hb hK hP 0 2 rfl rfl vn_8_11 dX6_cell_47 ?_
      refine lv_iload_n hx hb dX6_cell_48 rfl (lv_at hl 1 rfl) ?_
      refine kc_i (w1 := []) (wr := [(a_now, av_J cy 11 g_now), (a_0, mv a_text a_now a_trial a_diary a_kept a_isKept a_seen a_equations a_wanted r_12.2)]) hP hD hS hA [] [0, 1] rfl rfl rfl (by decide) (va_runS (As := [.long (g_now 8), .int y1]) (rest := []) ⟨hx, hb, hml, hown, hts⟩ (c_X6_has (l := l) G cy  H.size (g_now 8) y1  (f_X6_has (g_now 8) y1) rfl) (va_cwS 2 hts gX6_cell_X6_has rfl rfl rfl ddN_X6_has ⟨Nat.le_of_ble_eq_true rfl, Nat.le_of_ble_eq_true rfl⟩) (preS_ (hP.sub (ws' := []) [] rfl) hK (hD.sub (ws' := []) [] rfl rfl) hN) rfl rfl hl.1 rfl (lv_room (Nat.le_of_ble_eq_true rfl)) dX6_cell_49 ⟨Nat.le_of_ble_eq_true rfl, Nat.le_of_ble_eq_true rfl⟩) (fun H locs hP hD hS => ?_)
      have hP : va_P G vwCl [(a_now, av_J cy 11 g_now), (a_0, mv a_text a_now a_trial a_diary a_kept a_isKept a_seen a_equations a_wanted r_12.2)] H := hP
      have hD : va_D A [(a_now, av_J cy 11 g_now), (a_0, mv a_text a_now a_trial a_diary a_kept a_isKept a_seen a_equations a_wanted r_12.2)] := hD
      refine lv_istore_n (lv' := [(3, .int (bI (f_X6_has (g_now 8) y1))), (0, .ref a_0), (1, .int y1), (2, .int y2)]) hx hb dX6_cell_52 rfl hl (by decide) rfl (fun ls hl => ?_)
      refine lv_iconst (v := 0) hx hb dX6_cell_53 (by decide) ?_
      refine lv_istore (lv' := [(4, .int 0), (3, .int (bI (f_X6_has (g_now 8) y1))), (0, .ref a_0), (1, .int y1), (2, .int y2)]) hx hb dX6_cell_54 hl (by decide) rfl (fun ls hl => ?_)
      refine lv_iconst (v := 0) hx hb dX6_cell_56 (by decide) ?_
      refine lv_istore (lv' := [(5, .int 0), (4, .int 0), (3, .int (bI (f_X6_has (g_now 8) y1))), (0, .ref a_0), (1, .int y1), (2, .int y2)]) hx hb dX6_cell_57 hl (by decide) rfl (fun ls hl => ?_)
      exact bl_59 y1 y2 (bI (f_X6_has (g_now 8) y1)) n r_12.2 0 0 _ _ hf (hP.sub (ws' := [(a_0, mv a_text a_now a_trial a_diary a_kept a_isKept a_seen a_equations a_wanted r_12.2), (a_now, av_J cy 11 g_now)]) [1, 0] rfl) (hD.sub (ws' := [(a_0, mv a_text a_now a_trial a_diary a_kept a_isKept a_seen a_equations a_wanted r_12.2), (a_now, av_J cy 11 g_now)]) [1, 0] rfl rfl) hS ls (lv_sub hl [3, 4, 5, 2, 1, 0] rfl)
    · have hf := ip_ (bI_n0 h_13) hf
      refine lv_iconst (v := 0) hx hb dX6_cell_39 (by decide) ?_
      obtain rfl := Option.some.inj hf
      exact kr_i hx hb hr hlocks rfl (hP.sub (ws' := [(a_0, mv a_text a_now a_trial a_diary a_kept a_isKept a_seen a_equations a_wanted r_12.2), (a_now, av_J cy 11 g_now)]) [1, 0] rfl) hK (hD.sub (ws' := [(a_0, mv a_text a_now a_trial a_diary a_kept a_isKept a_seen a_equations a_wanted r_12.2), (a_now, av_J cy 11 g_now)]) [1, 0] rfl rfl) hN hS hS.2.2 dX6_cell_40
  have hl := lv_entry [.ref a_0, .int x1, .int x2] (n := 6) (Nat.le_of_ble_eq_true rfl)
  rw [lg_entry_eq]
  generalize (lg_sl [.ref a_0, .int x1, .int x2] ++ List.replicate (6 - (lg_sl [.ref a_0, .int x1, .int x2]).length) Slot.unset).toArray = ls at hl ⊢
  have hl : lv_has ls 6 [(0, .ref a_0), (1, .int x1), (2, .int x2)] := hl
  unfold f_X6_cell at hf
  refine lv_aload_n hx hb dX6_cell_0 rfl (lv_at hl 0 rfl) ?_
  refine lv_aload_n hx hb dX6_cell_1 rfl (lv_at hl 0 rfl) ?_
  refine va_get (D := G) (ci := 6) (v := .ref a_now) (C := RX6) (T := TX6) (N := 15) hx hb hts iw_X6_cell_X6 hown hK hP 0 rfl rfl 3 (by decide) (hts (.fieldLink RX6 13 "PaneFrostModel" "now" "[J") (by decide +kernel)) (fun _ h9 => h9) rfl dX6_cell_2 ?_
  refine lv_iload_n hx hb dX6_cell_5 rfl (lv_at hl 1 rfl) ?_
  refine kc_i (w1 := [(a_now, av_J cy 11 g_now)]) (wr := [(a_0, mv a_text a_now a_trial a_diary a_kept a_isKept a_seen a_equations a_wanted s_0)]) hP hD hS hA [1] [0] rfl rfl rfl (by decide) (va_runS (As := [.ref a_now, .int x1]) (rest := [.ref a_0]) ⟨hx, hb, hml, hown, hts⟩ (c_X6_isCell (l := l) G cy a_now s.heap.size g_now x1  (f_X6_isCell g_now x1) rfl) (va_cwS 2 hts gX6_cell_X6_isCell rfl rfl rfl ddN_X6_isCell ⟨Nat.le_of_ble_eq_true rfl, Nat.le_of_ble_eq_true rfl⟩) (preS_ (hP.sub (ws' := [(a_now, av_J cy 11 g_now)]) [1] rfl) hK (hD.sub (ws' := [(a_now, av_J cy 11 g_now)]) [1] rfl rfl) hN) rfl rfl hl.1 rfl (lv_room (Nat.le_of_ble_eq_true rfl)) dX6_cell_6 ⟨Nat.le_of_ble_eq_true rfl, Nat.le_of_ble_eq_true rfl⟩) (fun H locs hP hD hS => ?_)
  have hP : va_P G vwCl [(a_0, mv a_text a_now a_trial a_diary a_kept a_isKept a_seen a_equations a_wanted s_0), (a_now, av_J cy 11 g_now)] H := hP
  have hD : va_D A [(a_0, mv a_text a_now a_trial a_diary a_kept a_isKept a_seen a_equations a_wanted s_0), (a_now, av_J cy 11 g_now)] := hD
  refine lv_if_ne (tgt := 16) hx hb dX6_cell_9 (by decide) (fun h_14 => ?_) (fun h_14 => ?_)
  · have hf := ip_ (bI_n0 h_14) hf
    refine lv_iload_n hx hb dX6_cell_16 rfl (lv_at hl 2 rfl) ?_
    refine lv_i2l (v := x2.toInt64) hx hb dX6_cell_17 rfl ?_
    refine lv_lconst (v := 0) hx hb dX6_cell_18 rfl ?_
    refine lv_ldc2 (v := 3) hx hb hown (hts (.constantLong RX6 59 (3)) (by decide +kernel)) dX6_cell_19 ?_
    refine kc_i (w1 := []) (wr := [(a_0, mv a_text a_now a_trial a_diary a_kept a_isKept a_seen a_equations a_wanted s_0), (a_now, av_J cy 11 g_now)]) hP hD hS hA [] [0, 1] rfl rfl rfl (by decide) (va_runS (As := [.long x2.toInt64, .long 0, .long 3]) (rest := [.ref a_0]) ⟨hx, hb, hml, hown, hts⟩ (c_X6_in (l := l) G cy  H.size x2.toInt64 0 3  (f_X6_in x2.toInt64 0 3) rfl) (va_cwS 3 hts gX6_cell_X6_in rfl rfl rfl ddN_X6_in ⟨Nat.le_of_ble_eq_true rfl, Nat.le_of_ble_eq_true rfl⟩) (preS_ (hP.sub (ws' := []) [] rfl) hK (hD.sub (ws' := []) [] rfl rfl) hN) rfl rfl hl.1 rfl (lv_room (Nat.le_of_ble_eq_true rfl)) dX6_cell_22 ⟨Nat.le_of_ble_eq_true rfl, Nat.le_of_ble_eq_true rfl⟩) (fun H locs hP hD hS => ?_)
    have hP : va_P G vwCl [(a_0, mv a_text a_now a_trial a_diary a_kept a_isKept a_seen a_equations a_wanted s_0), (a_now, av_J cy 11 g_now)] H := hP
    have hD : va_D A [(a_0, mv a_text a_now a_trial a_diary a_kept a_isKept a_seen a_equations a_wanted s_0), (a_now, av_J cy 11 g_now)] := hD
    refine lv_if_eq (tgt := 32) hx hb dX6_cell_25 (by decide) (fun h_15 => ?_) (fun h_15 => ?_)
    · have hf := in_ (bI_0 h_15) hf
      refine lv_iconst (v := 2) hx hb dX6_cell_32 (by decide) ?_
      exact bl_33  s_0 x1 x2 2 _ _ hf hP hD hS ls (lv_sub hl [0, 1, 2] rfl)
    · have hf := ip_ (bI_n0 h_15) hf
      refine lv_iconst (v := 0) hx hb dX6_cell_28 (by decide) ?_
      refine lv_goto (tgt := 33) hx hb dX6_cell_29 (by decide) ?_
      exact bl_33  s_0 x1 x2 0 _ _ hf hP hD hS ls (lv_sub hl [0, 1, 2] rfl)
  · have hf := in_ (bI_0 h_14) hf
    refine lv_iconst (v := 1) hx hb dX6_cell_12 (by decide) ?_
    refine lv_goto (tgt := 33) hx hb dX6_cell_13 (by decide) ?_
    exact bl_33  s_0 x1 x2 1 _ _ hf hP hD hS ls (lv_sub hl [0, 1, 2] rfl)
set_option maxHeartbeats 4000000 in
set_option maxRecDepth 100000 in
theorem c_X6_neighbour {l : Launch} (G : va_G) (cy : Nat → ClassId) (a_0 : Nat) (a_text : Nat) (a_now : Nat) (a_trial : Nat) (a_diary : Nat) (a_kept : Nat) (a_isKept : Nat) (a_seen : Nat) (a_equations : Nat) (a_wanted : Nat) (sz : Nat) (s_0 : MT) (g_now : Nat → Int64) (x1 : Int32) (x2 : Int32)  (R : Int32 × MT) (hf : f_X6_neighbour s_0 g_now x1 x2 = some R) : Met l yX6_neighbour wsX6_neighbour ({ frames := 2, cells := 0, slots := 0, locals := 49 } : Room) (va_Pc [.ref a_0, .int x1, .int x2] (pcW G cy [(a_0, mv a_text a_now a_trial a_diary a_kept a_isKept a_seen a_equations a_wanted s_0), (a_now, av_J cy 11 g_now)] sz)) (va_Qi (fun r (_ : Unit) => r = R.1) (fun _ t => Wd G cy (va_A [(a_0, mv a_text a_now a_trial a_diary a_kept a_isKept a_seen a_equations a_wanted s_0), (a_now, av_J cy 11 g_now)] sz) [(a_0, mv a_text a_now a_trial a_diary a_kept a_isKept a_seen a_equations a_wanted R.2), (a_now, av_J cy 11 g_now)] t) (va_A [(a_0, mv a_text a_now a_trial a_diary a_kept a_isKept a_seen a_equations a_wanted s_0), (a_now, av_J cy 11 g_now)] sz)) 0 0 (va_A [(a_0, mv a_text a_now a_trial a_diary a_kept a_isKept a_seen a_equations a_wanted s_0), (a_now, av_J cy 11 g_now)] sz) := by
  refine Met.ofW (cc := cX6_neighbour) (maxL := 3) (ret := (some .int)) (by decide) rfl ?_
  intro p e s m args below meth c s₁ B hml hv
  obtain ⟨rfl, hsz, hP, hK, hD0, hN⟩ := hv
  have hx := B.exec
  have hb := B.bytes
  have hr := B.returns
  have hts := atoms_spec (ws := wsX6_neighbour) B.pre
  have hown : s.vm.findClass RX6 = some m.cls := findClass_of_methodNamed B.named
  have hlocks := B.notSynchronized
  subst hsz
  have hD := hD0.self (sz := s.heap.size)
  generalize hAe : va_A [(a_0, mv a_text a_now a_trial a_diary a_kept a_isKept a_seen a_equations a_wanted s_0), (a_now, av_J cy 11 g_now)] s.heap.size = A at hD ⊢
  have hA : ∀ q : Nat, s.heap.size ≤ q → A q := fun q h => by rw [← hAe]; exact Or.inr h
  have hS : va_S A s.heap s.heap [] := va_S.rf
  have hP : va_P G vwCl [(a_0, mv a_text a_now a_trial a_diary a_kept a_isKept a_seen a_equations a_wanted s_0), (a_now, av_J cy 11 g_now)] s.heap := hP
  have hl := lv_entry [.ref a_0, .int x1, .int x2] (n := 3) (Nat.le_of_ble_eq_true rfl)
  rw [lg_entry_eq]
  generalize (lg_sl [.ref a_0, .int x1, .int x2] ++ List.replicate (3 - (lg_sl [.ref a_0, .int x1, .int x2]).length) Slot.unset).toArray = ls at hl ⊢
  have hl : lv_has ls 3 [(0, .ref a_0), (1, .int x1), (2, .int x2)] := hl
  unfold f_X6_neighbour at hf
  refine lv_aload_n hx hb dX6_neighbour_0 rfl (lv_at hl 0 rfl) ?_
  refine lv_aload_n hx hb dX6_neighbour_1 rfl (lv_at hl 0 rfl) ?_
  refine va_get (D := G) (ci := 6) (v := .ref a_now) (C := RX6) (T := TX6) (N := 15) hx hb hts iw_X6_neighbour_X6 hown hK hP 0 rfl rfl 3 (by decide) (hts (.fieldLink RX6 13 "PaneFrostModel" "now" "[J") (by decide +kernel)) (fun _ h9 => h9) rfl dX6_neighbour_2 ?_
  refine lv_iload_n hx hb dX6_neighbour_5 rfl (lv_at hl 1 rfl) ?_
  refine kc_i (w1 := [(a_now, av_J cy 11 g_now)]) (wr := [(a_0, mv a_text a_now a_trial a_diary a_kept a_isKept a_seen a_equations a_wanted s_0)]) hP hD hS hA [1] [0] rfl rfl rfl (by decide) (va_runS (As := [.ref a_now, .int x1]) (rest := [.ref a_0]) ⟨hx, hb, hml, hown, hts⟩ (c_X6_isCell (l := l) G cy a_now s.heap.size g_now x1  (f_X6_isCell g_now x1) rfl) (va_cwS 2 hts gX6_neighbour_X6_isCell rfl rfl rfl ddN_X6_isCell ⟨Nat.le_of_ble_eq_true rfl, Nat.le_of_ble_eq_true rfl⟩) (preS_ (hP.sub (ws' := [(a_now, av_J cy 11 g_now)]) [1] rfl) hK (hD.sub (ws' := [(a_now, av_J cy 11 g_now)]) [1] rfl rfl) hN) rfl rfl hl.1 rfl (lv_room (Nat.le_of_ble_eq_true rfl)) dX6_neighbour_6 ⟨Nat.le_of_ble_eq_true rfl, Nat.le_of_ble_eq_true rfl⟩) (fun H locs hP hD hS => ?_)
  have hP : va_P G vwCl [(a_0, mv a_text a_now a_trial a_diary a_kept a_isKept a_seen a_equations a_wanted s_0), (a_now, av_J cy 11 g_now)] H := hP
  have hD : va_D A [(a_0, mv a_text a_now a_trial a_diary a_kept a_isKept a_seen a_equations a_wanted s_0), (a_now, av_J cy 11 g_now)] := hD
  refine lv_if_ne (tgt := 16) hx hb dX6_neighbour_9 (by decide) (fun h_1 => ?_) (fun h_1 => ?_)
  · have hf := ip_ (bI_n0 h_1) hf
    refine lv_iload_n hx hb dX6_neighbour_16 rfl (lv_at hl 2 rfl) ?_
    refine kc_i (w1 := []) (wr := [(a_0, mv a_text a_now a_trial a_diary a_kept a_isKept a_seen a_equations a_wanted s_0), (a_now, av_J cy 11 g_now)]) hP hD hS hA [] [0, 1] rfl rfl rfl (by decide) (va_runS (As := [.int x2]) (rest := [.ref a_0]) ⟨hx, hb, hml, hown, hts⟩ (c_X6_isDirection (l := l) G cy  H.size x2  (f_X6_isDirection x2) rfl) (va_cwS 1 hts gX6_neighbour_X6_isDirection rfl rfl rfl ddN_X6_isDirection ⟨Nat.le_of_ble_eq_true rfl, Nat.le_of_ble_eq_true rfl⟩) (preS_ (hP.sub (ws' := []) [] rfl) hK (hD.sub (ws' := []) [] rfl rfl) hN) rfl rfl hl.1 rfl (lv_room (Nat.le_of_ble_eq_true rfl)) dX6_neighbour_17 ⟨Nat.le_of_ble_eq_true rfl, Nat.le_of_ble_eq_true rfl⟩) (fun H locs hP hD hS => ?_)
    have hP : va_P G vwCl [(a_0, mv a_text a_now a_trial a_diary a_kept a_isKept a_seen a_equations a_wanted s_0), (a_now, av_J cy 11 g_now)] H := hP
    have hD : va_D A [(a_0, mv a_text a_now a_trial a_diary a_kept a_isKept a_seen a_equations a_wanted s_0), (a_now, av_J cy 11 g_now)] := hD
    refine lv_if_eq (tgt := 27) hx hb dX6_neighbour_20 (by decide) (fun h_2 => ?_) (fun h_2 => ?_)
    · have hf := in_ (bI_0 h_2) hf
      refine lv_iconst (v := 2) hx hb dX6_neighbour_27 (by decide) ?_
      obtain ⟨r_3, hh_r_3⟩ : ∃ z, z = f_X6_refused s_0 2 := ⟨_, rfl⟩
      have hf := lt_e hh_r_3 hf
      refine kc_i (w1 := [(a_0, mv a_text a_now a_trial a_diary a_kept a_isKept a_seen a_equations a_wanted r_3.2)]) (wr := [(a_now, av_J cy 11 g_now)]) hP hD hS hA [0] [1] rfl rfl rfl (by decide) (va_runV (As := [.int 2]) (rest := []) ⟨hx, hb, hml, hown, hts⟩ (c_X6_refused (l := l) G cy a_0 a_text a_now a_trial a_diary a_kept a_isKept a_seen a_equations a_wanted H.size s_0 2  r_3 hh_r_3.symm) (cwV 1 hts gX6_neighbour_X6_refused rfl rfl rfl ddV_X6_refused ⟨Nat.le_of_ble_eq_true rfl, Nat.le_of_ble_eq_true rfl⟩) (preV_ (ci := 6) (q0 := 0) rfl rfl (hP.sub (ws' := [(a_0, mv a_text a_now a_trial a_diary a_kept a_isKept a_seen a_equations a_wanted s_0)]) [0] rfl) hK (hD.sub (ws' := [(a_0, mv a_text a_now a_trial a_diary a_kept a_isKept a_seen a_equations a_wanted s_0)]) [0] rfl rfl) hN) rfl rfl hl.1 rfl (lv_room (Nat.le_of_ble_eq_true rfl)) dX6_neighbour_28 ⟨Nat.le_of_ble_eq_true rfl, Nat.le_of_ble_eq_true rfl⟩) (fun H locs hP hD hS => ?_)
      have hP : va_P G vwCl [(a_now, av_J cy 11 g_now), (a_0, mv a_text a_now a_trial a_diary a_kept a_isKept a_seen a_equations a_wanted r_3.2)] H := hP
      have hD : va_D A [(a_now, av_J cy 11 g_now), (a_0, mv a_text a_now a_trial a_diary a_kept a_isKept a_seen a_equations a_wanted r_3.2)] := hD
      refine lv_if_eq (tgt := 36) hx hb dX6_neighbour_31 (by decide) (fun h_4 => ?_) (fun h_4 => ?_)
      · have hf := in_ (bI_0 h_4) hf
        refine lv_aload_n hx hb dX6_neighbour_36 rfl (lv_at hl 0 rfl) ?_
        refine va_get (D := G) (ci := 6) (v := .ref a_now) (C := RX6) (T := TX6) (N := 15) hx hb hts iw_X6_neighbour_X6 hown hK hP 1 rfl rfl 3 (by decide) (hts (.fieldLink RX6 13 "PaneFrostModel" "now" "[J") (by decide +kernel)) (fun _ h9 => h9) rfl dX6_neighbour_37 ?_
        refine lv_iload_n hx hb dX6_neighbour_40 rfl (lv_at hl 1 rfl) ?_
        refine lv_iload_n hx hb dX6_neighbour_41 rfl (lv_at hl 2 rfl) ?_
        obtain ⟨r_5, hh_r_5, hf⟩ := obd_some hf
        refine kc_i (w1 := [(a_now, av_J cy 11 g_now)]) (wr := [(a_0, mv a_text a_now a_trial a_diary a_kept a_isKept a_seen a_equations a_wanted r_3.2)]) hP hD hS hA [0] [1] rfl rfl rfl (by decide) (va_runS (As := [.ref a_now, .int x1, .int x2]) (rest := []) ⟨hx, hb, hml, hown, hts⟩ (c_X6_neighbourOf (l := l) G cy a_now H.size g_now x1 x2  r_5 hh_r_5) (va_cwS 3 hts gX6_neighbour_X6_neighbourOf rfl rfl rfl ddN_X6_neighbourOf ⟨Nat.le_of_ble_eq_true rfl, Nat.le_of_ble_eq_true rfl⟩) (preS_ (hP.sub (ws' := [(a_now, av_J cy 11 g_now)]) [0] rfl) hK (hD.sub (ws' := [(a_now, av_J cy 11 g_now)]) [0] rfl rfl) hN) rfl rfl hl.1 rfl (lv_room (Nat.le_of_ble_eq_true rfl)) dX6_neighbour_42 ⟨Nat.le_of_ble_eq_true rfl, Nat.le_of_ble_eq_true rfl⟩) (fun H locs hP hD hS => ?_)
        have hP : va_P G vwCl [(a_0, mv a_text a_now a_trial a_diary a_kept a_isKept a_seen a_equations a_wanted r_3.2), (a_now, av_J cy 11 g_now)] H := hP
        have hD : va_D A [(a_0, mv a_text a_now a_trial a_diary a_kept a_isKept a_seen a_equations a_wanted r_3.2), (a_now, av_J cy 11 g_now)] := hD
        obtain rfl := Option.some.inj hf
        exact kr_i hx hb hr hlocks rfl hP hK hD hN hS hS.2.2 dX6_neighbour_45
      · have hf := ip_ (bI_n0 h_4) hf
        refine lv_iconst (v := 0) hx hb dX6_neighbour_34 (by decide) ?_
        obtain rfl := Option.some.inj hf
        exact kr_i hx hb hr hlocks rfl (hP.sub (ws' := [(a_0, mv a_text a_now a_trial a_diary a_kept a_isKept a_seen a_equations a_wanted r_3.2), (a_now, av_J cy 11 g_now)]) [1, 0] rfl) hK (hD.sub (ws' := [(a_0, mv a_text a_now a_trial a_diary a_kept a_isKept a_seen a_equations a_wanted r_3.2), (a_now, av_J cy 11 g_now)]) [1, 0] rfl rfl) hN hS hS.2.2 dX6_neighbour_35
    · have hf := ip_ (bI_n0 h_2) hf
      refine lv_iconst (v := 0) hx hb dX6_neighbour_23 (by decide) ?_
      refine lv_goto (tgt := 28) hx hb dX6_neighbour_24 (by decide) ?_
      obtain ⟨r_6, hh_r_6⟩ : ∃ z, z = f_X6_refused s_0 0 := ⟨_, rfl⟩
      have hf := lt_e hh_r_6 hf
      refine kc_i (w1 := [(a_0, mv a_text a_now a_trial a_diary a_kept a_isKept a_seen a_equations a_wanted r_6.2)]) (wr := [(a_now, av_J cy 11 g_now)]) hP hD hS hA [0] [1] rfl rfl rfl (by decide) (va_runV (As := [.int 0]) (rest := []) ⟨hx, hb, hml, hown, hts⟩ (c_X6_refused (l := l) G cy a_0 a_text a_now a_trial a_diary a_kept a_isKept a_seen a_equations a_wanted H.size s_0 0  r_6 hh_r_6.symm) (cwV 1 hts gX6_neighbour_X6_refused rfl rfl rfl ddV_X6_refused ⟨Nat.le_of_ble_eq_true rfl, Nat.le_of_ble_eq_true rfl⟩) (preV_ (ci := 6) (q0 := 0) rfl rfl (hP.sub (ws' := [(a_0, mv a_text a_now a_trial a_diary a_kept a_isKept a_seen a_equations a_wanted s_0)]) [0] rfl) hK (hD.sub (ws' := [(a_0, mv a_text a_now a_trial a_diary a_kept a_isKept a_seen a_equations a_wanted s_0)]) [0] rfl rfl) hN) rfl rfl hl.1 rfl (lv_room (Nat.le_of_ble_eq_true rfl)) dX6_neighbour_28 ⟨Nat.le_of_ble_eq_true rfl, Nat.le_of_ble_eq_true rfl⟩) (fun H locs hP hD hS => ?_)
      have hP : va_P G vwCl [(a_now, av_J cy 11 g_now), (a_0, mv a_text a_now a_trial a_diary a_kept a_isKept a_seen a_equations a_wanted r_6.2)] H := hP
      have hD : va_D A [(a_now, av_J cy 11 g_now), (a_0, mv a_text a_now a_trial a_diary a_kept a_isKept a_seen a_equations a_wanted r_6.2)] := hD
      refine lv_if_eq (tgt := 36) hx hb dX6_neighbour_31 (by decide) (fun h_7 => ?_) (fun h_7 => ?_)
      · have hf := in_ (bI_0 h_7) hf
        refine lv_aload_n hx hb dX6_neighbour_36 rfl (lv_at hl 0 rfl) ?_
        refine va_get (D := G) (ci := 6) (v := .ref a_now) (C := RX6) (T := TX6) (N := 15) hx hb hts iw_X6_neighbour_X6 hown hK hP 1 rfl rfl 3 (by decide) (hts (.fieldLink RX6 13 "PaneFrostModel" "now" "[J") (by decide +kernel)) (fun _ h9 => h9) rfl dX6_neighbour_37 ?_
        refine lv_iload_n hx hb dX6_neighbour_40 rfl (lv_at hl 1 rfl) ?_
        refine lv_iload_n hx hb dX6_neighbour_41 rfl (lv_at hl 2 rfl) ?_
        obtain ⟨r_8, hh_r_8, hf⟩ := obd_some hf
        refine kc_i (w1 := [(a_now, av_J cy 11 g_now)]) (wr := [(a_0, mv a_text a_now a_trial a_diary a_kept a_isKept a_seen a_equations a_wanted r_6.2)]) hP hD hS hA [0] [1] rfl rfl rfl (by decide) (va_runS (As := [.ref a_now, .int x1, .int x2]) (rest := []) ⟨hx, hb, hml, hown, hts⟩ (c_X6_neighbourOf (l := l) G cy a_now H.size g_now x1 x2  r_8 hh_r_8) (va_cwS 3 hts gX6_neighbour_X6_neighbourOf rfl rfl rfl ddN_X6_neighbourOf ⟨Nat.le_of_ble_eq_true rfl, Nat.le_of_ble_eq_true rfl⟩) (preS_ (hP.sub (ws' := [(a_now, av_J cy 11 g_now)]) [0] rfl) hK (hD.sub (ws' := [(a_now, av_J cy 11 g_now)]) [0] rfl rfl) hN) rfl rfl hl.1 rfl (lv_room (Nat.le_of_ble_eq_true rfl)) dX6_neighbour_42 ⟨Nat.le_of_ble_eq_true rfl, Nat.le_of_ble_eq_true rfl⟩) (fun H locs hP hD hS => ?_)
        have hP : va_P G vwCl [(a_0, mv a_text a_now a_trial a_diary a_kept a_isKept a_seen a_equations a_wanted r_6.2), (a_now, av_J cy 11 g_now)] H := hP
        have hD : va_D A [(a_0, mv a_text a_now a_trial a_diary a_kept a_isKept a_seen a_equations a_wanted r_6.2), (a_now, av_J cy 11 g_now)] := hD
        obtain rfl := Option.some.inj hf
        exact kr_i hx hb hr hlocks rfl hP hK hD hN hS hS.2.2 dX6_neighbour_45
      · have hf := ip_ (bI_n0 h_7) hf
        refine lv_iconst (v := 0) hx hb dX6_neighbour_34 (by decide) ?_
        obtain rfl := Option.some.inj hf
        exact kr_i hx hb hr hlocks rfl (hP.sub (ws' := [(a_0, mv a_text a_now a_trial a_diary a_kept a_isKept a_seen a_equations a_wanted r_6.2), (a_now, av_J cy 11 g_now)]) [1, 0] rfl) hK (hD.sub (ws' := [(a_0, mv a_text a_now a_trial a_diary a_kept a_isKept a_seen a_equations a_wanted r_6.2), (a_now, av_J cy 11 g_now)]) [1, 0] rfl rfl) hN hS hS.2.2 dX6_neighbour_35
  · have hf := in_ (bI_0 h_1) hf
    refine lv_iconst (v := 1) hx hb dX6_neighbour_12 (by decide) ?_
    refine lv_goto (tgt := 28) hx hb dX6_neighbour_13 (by decide) ?_
    obtain ⟨r_9, hh_r_9⟩ : ∃ z, z = f_X6_refused s_0 1 := ⟨_, rfl⟩
    have hf := lt_e hh_r_9 hf
    refine kc_i (w1 := [(a_0, mv a_text a_now a_trial a_diary a_kept a_isKept a_seen a_equations a_wanted r_9.2)]) (wr := [(a_now, av_J cy 11 g_now)]) hP hD hS hA [0] [1] rfl rfl rfl (by decide) (va_runV (As := [.int 1]) (rest := []) ⟨hx, hb, hml, hown, hts⟩ (c_X6_refused (l := l) G cy a_0 a_text a_now a_trial a_diary a_kept a_isKept a_seen a_equations a_wanted H.size s_0 1  r_9 hh_r_9.symm) (cwV 1 hts gX6_neighbour_X6_refused rfl rfl rfl ddV_X6_refused ⟨Nat.le_of_ble_eq_true rfl, Nat.le_of_ble_eq_true rfl⟩) (preV_ (ci := 6) (q0 := 0) rfl rfl (hP.sub (ws' := [(a_0, mv a_text a_now a_trial a_diary a_kept a_isKept a_seen a_equations a_wanted s_0)]) [0] rfl) hK (hD.sub (ws' := [(a_0, mv a_text a_now a_trial a_diary a_kept a_isKept a_seen a_equations a_wanted s_0)]) [0] rfl rfl) hN) rfl rfl hl.1 rfl (lv_room (Nat.le_of_ble_eq_true rfl)) dX6_neighbour_28 ⟨Nat.le_of_ble_eq_true rfl, Nat.le_of_ble_eq_true rfl⟩) (fun H locs hP hD hS => ?_)
    have hP : va_P G vwCl [(a_now, av_J cy 11 g_now), (a_0, mv a_text a_now a_trial a_diary a_kept a_isKept a_seen a_equations a_wanted r_9.2)] H := hP
    have hD : va_D A [(a_now, av_J cy 11 g_now), (a_0, mv a_text a_now a_trial a_diary a_kept a_isKept a_seen a_equations a_wanted r_9.2)] := hD
    refine lv_if_eq (tgt := 36) hx hb dX6_neighbour_31 (by decide) (fun h_10 => ?_) (fun h_10 => ?_)
    · have hf := in_ (bI_0 h_10) hf
      refine lv_aload_n hx hb dX6_neighbour_36 rfl (lv_at hl 0 rfl) ?_
      refine va_get (D := G) (ci := 6) (v := .ref a_now) (C := RX6) (T := TX6) (N := 15) hx hb hts iw_X6_neighbour_X6 hown hK hP 1 rfl rfl 3 (by decide) (hts (.fieldLink RX6 13 "PaneFrostModel" "now" "[J") (by decide +kernel)) (fun _ h9 => h9) rfl dX6_neighbour_37 ?_
      refine lv_iload_n hx hb dX6_neighbour_40 rfl (lv_at hl 1 rfl) ?_
      refine lv_iload_n hx hb dX6_neighbour_41 rfl (lv_at hl 2 rfl) ?_
      obtain ⟨r_11, hh_r_11, hf⟩ := obd_some hf
      refine kc_i (w1 := [(a_now, av_J cy 11 g_now)]) (wr := [(a_0, mv a_text a_now a_trial a_diary a_kept a_isKept a_seen a_equations a_wanted r_9.2)]) hP hD hS hA [0] [1] rfl rfl rfl (by decide) (va_runS (As := [.ref a_now, .int x1, .int x2]) (rest := []) ⟨hx, hb, hml, hown, hts⟩ (c_X6_neighbourOf (l := l) G cy a_now H.size g_now x1 x2  r_11 hh_r_11) (va_cwS 3 hts gX6_neighbour_X6_neighbourOf rfl rfl rfl ddN_X6_neighbourOf ⟨Nat.le_of_ble_eq_true rfl, Nat.le_of_ble_eq_true rfl⟩) (preS_ (hP.sub (ws' := [(a_now, av_J cy 11 g_now)]) [0] rfl) hK (hD.sub (ws' := [(a_now, av_J cy 11 g_now)]) [0] rfl rfl) hN) rfl rfl hl.1 rfl (lv_room (Nat.le_of_ble_eq_true rfl)) dX6_neighbour_42 ⟨Nat.le_of_ble_eq_true rfl, Nat.le_of_ble_eq_true rfl⟩) (fun H locs hP hD hS => ?_)
      have hP : va_P G vwCl [(a_0, mv a_text a_now a_trial a_diary a_kept a_isKept a_seen a_equations a_wanted r_9.2), (a_now, av_J cy 11 g_now)] H := hP
      have hD : va_D A [(a_0, mv a_text a_now a_trial a_diary a_kept a_isKept a_seen a_equations a_wanted r_9.2), (a_now, av_J cy 11 g_now)] := hD
      obtain rfl := Option.some.inj hf
      exact kr_i hx hb hr hlocks rfl hP hK hD hN hS hS.2.2 dX6_neighbour_45
    · have hf := ip_ (bI_n0 h_10) hf
      refine lv_iconst (v := 0) hx hb dX6_neighbour_34 (by decide) ?_
      obtain rfl := Option.some.inj hf
      exact kr_i hx hb hr hlocks rfl (hP.sub (ws' := [(a_0, mv a_text a_now a_trial a_diary a_kept a_isKept a_seen a_equations a_wanted r_9.2), (a_now, av_J cy 11 g_now)]) [1, 0] rfl) hK (hD.sub (ws' := [(a_0, mv a_text a_now a_trial a_diary a_kept a_isKept a_seen a_equations a_wanted r_9.2), (a_now, av_J cy 11 g_now)]) [1, 0] rfl rfl) hN hS hS.2.2 dX6_neighbour_35
set_option maxHeartbeats 4000000 in
set_option maxRecDepth 100000 in
theorem c_X6_side {l : Launch} (G : va_G) (cy : Nat → ClassId) (a_0 : Nat) (a_text : Nat) (a_now : Nat) (a_trial : Nat) (a_diary : Nat) (a_kept : Nat) (a_isKept : Nat) (a_seen : Nat) (a_equations : Nat) (a_wanted : Nat) (sz : Nat) (s_0 : MT) (g_now : Nat → Int64) (x1 : Int32)  (R : Int32 × MT) (hf : f_X6_side s_0 g_now x1 = some R) : Met l yX6_side wsX6_side ({ frames := 2, cells := 0, slots := 0, locals := 45 } : Room) (va_Pc [.ref a_0, .int x1] (pcW G cy [(a_0, mv a_text a_now a_trial a_diary a_kept a_isKept a_seen a_equations a_wanted s_0), (a_now, av_J cy 11 g_now)] sz)) (va_Qi (fun r (_ : Unit) => r = R.1) (fun _ t => Wd G cy (va_A [(a_0, mv a_text a_now a_trial a_diary a_kept a_isKept a_seen a_equations a_wanted s_0), (a_now, av_J cy 11 g_now)] sz) [(a_0, mv a_text a_now a_trial a_diary a_kept a_isKept a_seen a_equations a_wanted R.2), (a_now, av_J cy 11 g_now)] t) (va_A [(a_0, mv a_text a_now a_trial a_diary a_kept a_isKept a_seen a_equations a_wanted s_0), (a_now, av_J cy 11 g_now)] sz)) 0 0 (va_A [(a_0, mv a_text a_now a_trial a_diary a_kept a_isKept a_seen a_equations a_wanted s_0), (a_now, av_J cy 11 g_now)] sz) := by
  refine Met.ofW (cc := cX6_side) (maxL := 2) (ret := (some .int)) (by decide) rfl ?_
  intro p e s m args below meth c s₁ B hml hv
  obtain ⟨rfl, hsz, hP, hK, hD0, hN⟩ := hv
  have hx := B.exec
  have hb := B.bytes
  have hr := B.returns
  have hts := atoms_spec (ws := wsX6_side) B.pre
  have hown : s.vm.findClass RX6 = some m.cls := findClass_of_methodNamed B.named
  have hlocks := B.notSynchronized
  subst hsz
  have hD := hD0.self (sz := s.heap.size)
  generalize hAe : va_A [(a_0, mv a_text a_now a_trial a_diary a_kept a_isKept a_seen a_equations a_wanted s_0), (a_now, av_J cy 11 g_now)] s.heap.size = A at hD ⊢
  have hA : ∀ q : Nat, s.heap.size ≤ q → A q := fun q h => by rw [← hAe]; exact Or.inr h
  have hS : va_S A s.heap s.heap [] := va_S.rf
  have hP : va_P G vwCl [(a_0, mv a_text a_now a_trial a_diary a_kept a_isKept a_seen a_equations a_wanted s_0), (a_now, av_J cy 11 g_now)] s.heap := hP
  have hl := lv_entry [.ref a_0, .int x1] (n := 2) (Nat.le_of_ble_eq_true rfl)
  rw [lg_entry_eq]
  generalize (lg_sl [.ref a_0, .int x1] ++ List.replicate (2 - (lg_sl [.ref a_0, .int x1]).length) Slot.unset).toArray = ls at hl ⊢
  have hl : lv_has ls 2 [(0, .ref a_0), (1, .int x1)] := hl
  unfold f_X6_side at hf
  refine lv_aload_n hx hb dX6_side_0 rfl (lv_at hl 0 rfl) ?_
  refine lv_iload_n hx hb dX6_side_1 rfl (lv_at hl 1 rfl) ?_
  refine kc_i (w1 := []) (wr := [(a_0, mv a_text a_now a_trial a_diary a_kept a_isKept a_seen a_equations a_wanted s_0), (a_now, av_J cy 11 g_now)]) hP hD hS hA [] [0, 1] rfl rfl rfl (by decide) (va_runS (As := [.int x1]) (rest := [.ref a_0]) ⟨hx, hb, hml, hown, hts⟩ (c_X6_isDirection (l := l) G cy  s.heap.size x1  (f_X6_isDirection x1) rfl) (va_cwS 1 hts gX6_side_X6_isDirection rfl rfl rfl ddN_X6_isDirection ⟨Nat.le_of_ble_eq_true rfl, Nat.le_of_ble_eq_true rfl⟩) (preS_ (hP.sub (ws' := []) [] rfl) hK (hD.sub (ws' := []) [] rfl rfl) hN) rfl rfl hl.1 rfl (lv_room (Nat.le_of_ble_eq_true rfl)) dX6_side_2 ⟨Nat.le_of_ble_eq_true rfl, Nat.le_of_ble_eq_true rfl⟩) (fun H locs hP hD hS => ?_)
  have hP : va_P G vwCl [(a_0, mv a_text a_now a_trial a_diary a_kept a_isKept a_seen a_equations a_wanted s_0), (a_now, av_J cy 11 g_now)] H := hP
  have hD : va_D A [(a_0, mv a_text a_now a_trial a_diary a_kept a_isKept a_seen a_equations a_wanted s_0), (a_now, av_J cy 11 g_now)] := hD
  refine lv_if_eq (tgt := 12) hx hb dX6_side_5 (by decide) (fun h_1 => ?_) (fun h_1 => ?_)
  · have hf := in_ (bI_0 h_1) hf
    refine lv_iconst (v := 1) hx hb dX6_side_12 (by decide) ?_
    obtain ⟨r_2, hh_r_2⟩ : ∃ z, z = f_X6_refused s_0 1 := ⟨_, rfl⟩
    have hf := lt_e hh_r_2 hf
    refine kc_i (w1 := [(a_0, mv a_text a_now a_trial a_diary a_kept a_isKept a_seen a_equations a_wanted r_2.2)]) (wr := [(a_now, av_J cy 11 g_now)]) hP hD hS hA [0] [1] rfl rfl rfl (by decide) (va_runV (As := [.int 1]) (rest := []) ⟨hx, hb, hml, hown, hts⟩ (c_X6_refused (l := l) G cy a_0 a_text a_now a_trial a_diary a_kept a_isKept a_seen a_equations a_wanted H.size s_0 1  r_2 hh_r_2.symm) (cwV 1 hts gX6_side_X6_refused rfl rfl rfl ddV_X6_refused ⟨Nat.le_of_ble_eq_true rfl, Nat.le_of_ble_eq_true rfl⟩) (preV_ (ci := 6) (q0 := 0) rfl rfl (hP.sub (ws' := [(a_0, mv a_text a_now a_trial a_diary a_kept a_isKept a_seen a_equations a_wanted s_0)]) [0] rfl) hK (hD.sub (ws' := [(a_0, mv a_text a_now a_trial a_diary a_kept a_isKept a_seen a_equations a_wanted s_0)]) [0] rfl rfl) hN) rfl rfl hl.1 rfl (lv_room (Nat.le_of_ble_eq_true rfl)) dX6_side_13 ⟨Nat.le_of_ble_eq_true rfl, Nat.le_of_ble_eq_true rfl⟩) (fun H locs hP hD hS => ?_)
    have hP : va_P G vwCl [(a_now, av_J cy 11 g_now), (a_0, mv a_text a_now a_trial a_diary a_kept a_isKept a_seen a_equations a_wanted r_2.2)] H := hP
    have hD : va_D A [(a_now, av_J cy 11 g_now), (a_0, mv a_text a_now a_trial a_diary a_kept a_isKept a_seen a_equations a_wanted r_2.2)] := hD
    refine lv_if_eq (tgt := 21) hx hb dX6_side_16 (by decide) (fun h_3 => ?_) (fun h_3 => ?_)
    · have hf := in_ (bI_0 h_3) hf
      refine lv_aload_n hx hb dX6_side_21 rfl (lv_at hl 0 rfl) ?_
      refine va_get (D := G) (ci := 6) (v := .ref a_now) (C := RX6) (T := TX6) (N := 15) hx hb hts iw_X6_side_X6 hown hK hP 1 rfl rfl 3 (by decide) (hts (.fieldLink RX6 13 "PaneFrostModel" "now" "[J") (by decide +kernel)) (fun _ h9 => h9) rfl dX6_side_22 ?_
      refine lv_iconst (v := 4) hx hb dX6_side_25 (by decide) ?_
      refine lv_iload_n hx hb dX6_side_26 rfl (lv_at hl 1 rfl) ?_
      refine lv_iadd hx hb dX6_side_27 ?_
      by_cases q_4 : (4 + x1) < 0 ∨ 11 ≤ (4 + x1).toNatClampNeg
      · have hf := ip_ q_4 hf; cases hf
      have hf := in_ q_4 hf
      refine vz_lald rfl hx hb hK hP 0 2 rfl rfl (vin q_4) dX6_side_28 ?_
      refine lv_l2i (v := (g_now (4 + x1).toNatClampNeg).toInt32) hx hb dX6_side_29 rfl ?_
      obtain rfl := Option.some.inj hf
      exact kr_i hx hb hr hlocks rfl (hP.sub (ws' := [(a_0, mv a_text a_now a_trial a_diary a_kept a_isKept a_seen a_equations a_wanted r_2.2), (a_now, av_J cy 11 g_now)]) [1, 0] rfl) hK (hD.sub (ws' := [(a_0, mv a_text a_now a_trial a_diary a_kept a_isKept a_seen a_equations a_wanted r_2.2), (a_now, av_J cy 11 g_now)]) [1, 0] rfl rfl) hN hS hS.2.2 dX6_side_30
    · have hf := ip_ (bI_n0 h_3) hf
      refine lv_iconst (v := 0) hx hb dX6_side_19 (by decide) ?_
      obtain rfl := Option.some.inj hf
      exact kr_i hx hb hr hlocks rfl (hP.sub (ws' := [(a_0, mv a_text a_now a_trial a_diary a_kept a_isKept a_seen a_equations a_wanted r_2.2), (a_now, av_J cy 11 g_now)]) [1, 0] rfl) hK (hD.sub (ws' := [(a_0, mv a_text a_now a_trial a_diary a_kept a_isKept a_seen a_equations a_wanted r_2.2), (a_now, av_J cy 11 g_now)]) [1, 0] rfl rfl) hN hS hS.2.2 dX6_side_20
  · have hf := ip_ (bI_n0 h_1) hf
    refine lv_iconst (v := 0) hx hb dX6_side_8 (by decide) ?_
    refine lv_goto (tgt := 13) hx hb dX6_side_9 (by decide) ?_
    obtain ⟨r_5, hh_r_5⟩ : ∃ z, z = f_X6_refused s_0 0 := ⟨_, rfl⟩
    have hf := lt_e hh_r_5 hf
    refine kc_i (w1 := [(a_0, mv a_text a_now a_trial a_diary a_kept a_isKept a_seen a_equations a_wanted r_5.2)]) (wr := [(a_now, av_J cy 11 g_now)]) hP hD hS hA [0] [1] rfl rfl rfl (by decide) (va_runV (As := [.int 0]) (rest := []) ⟨hx, hb, hml, hown, hts⟩ (c_X6_refused (l := l) G cy a_0 a_text a_now a_trial a_diary a_kept a_isKept a_seen a_equations a_wanted H.size s_0 0  r_5 hh_r_5.symm) (cwV 1 hts gX6_side_X6_refused rfl rfl rfl ddV_X6_refused ⟨Nat.le_of_ble_eq_true rfl, Nat.le_of_ble_eq_true rfl⟩) (preV_ (ci := 6) (q0 := 0) rfl rfl (hP.sub (ws' := [(a_0, mv a_text a_now a_trial a_diary a_kept a_isKept a_seen a_equations a_wanted s_0)]) [0] rfl) hK (hD.sub (ws' := [(a_0, mv a_text a_now a_trial a_diary a_kept a_isKept a_seen a_equations a_wanted s_0)]) [0] rfl rfl) hN) rfl rfl hl.1 rfl (lv_room (Nat.le_of_ble_eq_true rfl)) dX6_side_13 ⟨Nat.le_of_ble_eq_true rfl, Nat.le_of_ble_eq_true rfl⟩) (fun H locs hP hD hS => ?_)
    have hP : va_P G vwCl [(a_now, av_J cy 11 g_now), (a_0, mv a_text a_now a_trial a_diary a_kept a_isKept a_seen a_equations a_wanted r_5.2)] H := hP
    have hD : va_D A [(a_now, av_J cy 11 g_now), (a_0, mv a_text a_now a_trial a_diary a_kept a_isKept a_seen a_equations a_wanted r_5.2)] := hD
    refine lv_if_eq (tgt := 21) hx hb dX6_side_16 (by decide) (fun h_6 => ?_) (fun h_6 => ?_)
    · have hf := in_ (bI_0 h_6) hf
      refine lv_aload_n hx hb dX6_side_21 rfl (lv_at hl 0 rfl) ?_
      refine va_get (D := G) (ci := 6) (v := .ref a_now) (C := RX6) (T := TX6) (N := 15) hx hb hts iw_X6_side_X6 hown hK hP 1 rfl rfl 3 (by decide) (hts (.fieldLink RX6 13 "PaneFrostModel" "now" "[J") (by decide +kernel)) (fun _ h9 => h9) rfl dX6_side_22 ?_
      refine lv_iconst (v := 4) hx hb dX6_side_25 (by decide) ?_
      refine lv_iload_n hx hb dX6_side_26 rfl (lv_at hl 1 rfl) ?_
      refine lv_iadd hx hb dX6_side_27 ?_
      by_cases q_7 : (4 + x1) < 0 ∨ 11 ≤ (4 + x1).toNatClampNeg
      · have hf := ip_ q_7 hf; cases hf
      have hf := in_ q_7 hf
      refine vz_lald rfl hx hb hK hP 0 2 rfl rfl (vin q_7) dX6_side_28 ?_
      refine lv_l2i (v := (g_now (4 + x1).toNatClampNeg).toInt32) hx hb dX6_side_29 rfl ?_
      obtain rfl := Option.some.inj hf
      exact kr_i hx hb hr hlocks rfl (hP.sub (ws' := [(a_0, mv a_text a_now a_trial a_diary a_kept a_isKept a_seen a_equations a_wanted r_5.2), (a_now, av_J cy 11 g_now)]) [1, 0] rfl) hK (hD.sub (ws' := [(a_0, mv a_text a_now a_trial a_diary a_kept a_isKept a_seen a_equations a_wanted r_5.2), (a_now, av_J cy 11 g_now)]) [1, 0] rfl rfl) hN hS hS.2.2 dX6_side_30
    · have hf := ip_ (bI_n0 h_6) hf
      refine lv_iconst (v := 0) hx hb dX6_side_19 (by decide) ?_
      obtain rfl := Option.some.inj hf
      exact kr_i hx hb hr hlocks rfl (hP.sub (ws' := [(a_0, mv a_text a_now a_trial a_diary a_kept a_isKept a_seen a_equations a_wanted r_5.2), (a_now, av_J cy 11 g_now)]) [1, 0] rfl) hK (hD.sub (ws' := [(a_0, mv a_text a_now a_trial a_diary a_kept a_isKept a_seen a_equations a_wanted r_5.2), (a_now, av_J cy 11 g_now)]) [1, 0] rfl rfl) hN hS hS.2.2 dX6_side_20
set_option maxHeartbeats 4000000 in
set_option maxRecDepth 100000 in
theorem c_X6_remember {l : Launch} (G : va_G) (cy : Nat → ClassId) (a_0 : Nat) (a_text : Nat) (a_now : Nat) (a_trial : Nat) (a_diary : Nat) (a_kept : Nat) (a_isKept : Nat) (a_seen : Nat) (a_equations : Nat) (a_wanted : Nat) (sz : Nat) (s_0 : MT) (g_now : Nat → Int64) (g_diary : Nat → Int64) (n : Nat) (R : MT × (Nat → Int64)) (hf : f_X6_remember n s_0 g_now g_diary = some R) : Met l yX6_remember wsX6_remember ({ frames := 1, cells := 0, slots := 0, locals := 24 } : Room) (va_Pc [.ref a_0] (pcW G cy [(a_0, mv a_text a_now a_trial a_diary a_kept a_isKept a_seen a_equations a_wanted s_0), (a_now, av_J cy 11 g_now), (a_diary, av_J cy 154 g_diary)] sz)) (va_Qv (fun _ : Unit => True) (fun _ t => Wd G cy (va_A [(a_0, mv a_text a_now a_trial a_diary a_kept a_isKept a_seen a_equations a_wanted s_0), (a_now, av_J cy 11 g_now), (a_diary, av_J cy 154 g_diary)] sz) [(a_0, mv a_text a_now a_trial a_diary a_kept a_isKept a_seen a_equations a_wanted R.1), (a_now, av_J cy 11 g_now), (a_diary, av_J cy 154 R.2)] t) (va_A [(a_0, mv a_text a_now a_trial a_diary a_kept a_isKept a_seen a_equations a_wanted s_0), (a_now, av_J cy 11 g_now), (a_diary, av_J cy 154 g_diary)] sz)) 0 0 (va_A [(a_0, mv a_text a_now a_trial a_diary a_kept a_isKept a_seen a_equations a_wanted s_0), (a_now, av_J cy 11 g_now), (a_diary, av_J cy 154 g_diary)] sz) := by
  refine Met.ofW (cc := cX6_remember) (maxL := 2) (ret := none) (by decide) rfl ?_
  intro p e s m args below meth c s₁ B hml hv
  obtain ⟨rfl, hsz, hP, hK, hD0, hN⟩ := hv
  have hx := B.exec
  have hb := B.bytes
  have hr := B.returns
  have hts := atoms_spec (ws := wsX6_remember) B.pre
  have hown : s.vm.findClass RX6 = some m.cls := findClass_of_methodNamed B.named
  have hlocks := B.notSynchronized
  subst hsz
  have hD := hD0.self (sz := s.heap.size)
  generalize hAe : va_A [(a_0, mv a_text a_now a_trial a_diary a_kept a_isKept a_seen a_equations a_wanted s_0), (a_now, av_J cy 11 g_now), (a_diary, av_J cy 154 g_diary)] s.heap.size = A at hD ⊢
  have hA : ∀ q : Nat, s.heap.size ≤ q → A q := fun q h => by rw [← hAe]; exact Or.inr h
  have hS : va_S A s.heap s.heap [] := va_S.rf
  have hP : va_P G vwCl [(a_0, mv a_text a_now a_trial a_diary a_kept a_isKept a_seen a_equations a_wanted s_0), (a_now, av_J cy 11 g_now), (a_diary, av_J cy 154 g_diary)] s.heap := hP
  have bl_11 : ∀ (k : Nat), ∀ (c_s_0 : MT) (c_g_diary : Nat → Int64) (y1 : Int32) (H : Heap) (locs : List Loc), f_X6_remember_b11 n g_now k c_s_0 c_g_diary y1 = some R → va_P G vwCl [(a_0, mv a_text a_now a_trial a_diary a_kept a_isKept a_seen a_equations a_wanted c_s_0), (a_now, av_J cy 11 g_now), (a_diary, av_J cy 154 c_g_diary)] H → va_D A [(a_0, mv a_text a_now a_trial a_diary a_kept a_isKept a_seen a_equations a_wanted c_s_0), (a_now, av_J cy 11 g_now), (a_diary, av_J cy 154 c_g_diary)] → va_S A s.heap H locs → ∀ (ls : Array Slot), lv_has ls 2 [(0, .ref a_0), (1, .int y1)] → W p l e ({ frames := 1, cells := 0, slots := 0, locals := 24 } : Room) s m [.ref a_0].toArray below meth c H locs 0 0 (MQ below (va_Qv (fun _ : Unit => True) (fun _ t => Wd G cy A [(a_0, mv a_text a_now a_trial a_diary a_kept a_isKept a_seen a_equations a_wanted R.1), (a_now, av_J cy 11 g_now), (a_diary, av_J cy 154 R.2)] t) A) [.ref a_0].toArray s 0 0 A) (F0 m 11 ls []) := by
    intro k
    induction k with
    | zero =>
      intro c_s_0 c_g_diary y1 H locs hf; cases hf
    | succ k ih =>
      intro c_s_0 c_g_diary y1 H locs hf hP hD hS ls hl
      have hf := (f_X6_remember_b11_s n g_now k c_s_0 c_g_diary y1).symm.trans hf
      refine lv_iload_n hx hb dX6_remember_11 rfl (lv_at hl 1 rfl) ?_
      refine lv_sipush (v := 143) hx hb dX6_remember_12 (by decide) ?_
      refine lv_icmp_ge (tgt := 39) hx hb dX6_remember_15 (by decide) (fun h_1 => ?_) (fun h_1 => ?_)
      · have hf := ip_ h_1 hf
        refine lv_aload_n hx hb dX6_remember_39 rfl (lv_at hl 0 rfl) ?_
        refine lv_dup hx hb dX6_remember_40 rfl ?_
        refine va_get (D := G) (ci := 6) (v := .int (m_acts c_s_0)) (C := RX6) (T := TX6) (N := 15) hx hb hts iw_X6_remember_X6 hown hK hP 0 rfl rfl 6 (by decide) (hts (.fieldLink RX6 178 "PaneFrostModel" "acts" "I") (by decide +kernel)) (fun _ h9 => h9) rfl dX6_remember_41 ?_
        refine lv_iconst (v := 1) hx hb dX6_remember_44 (by decide) ?_
        refine lv_isub hx hb dX6_remember_45 ?_
        refine va_put (D := G) (ci := 6) (v := .int ((m_acts c_s_0) - 1)) (ty := .int) (C := RX6) (T := TX6) (N := 15) hx hb hts iw_X6_remember_X6 tyX6 tyX6_ok nmX6 hown hK hP hD hS 0 rfl rfl 6 (by decide) (hts (.fieldLink RX6 178 "PaneFrostModel" "acts" "I") (by decide +kernel)) (fun _ h9 => h9) rfl (by decide +kernel) rfl rfl (Nat.le_of_ble_eq_true rfl) dX6_remember_46 (fun H locs hP hD hS => ?_)
        have hP : va_P G vwCl [(a_0, mv a_text a_now a_trial a_diary a_kept a_isKept a_seen a_equations a_wanted (m_refusal c_s_0, m_size c_s_0, ((m_acts c_s_0) - 1), m_rank c_s_0, m_spot c_s_0, m_out c_s_0)), (a_now, av_J cy 11 g_now), (a_diary, av_J cy 154 c_g_diary)] H := hP
        have hD : va_D A [(a_0, mv a_text a_now a_trial a_diary a_kept a_isKept a_seen a_equations a_wanted (m_refusal c_s_0, m_size c_s_0, ((m_acts c_s_0) - 1), m_rank c_s_0, m_spot c_s_0, m_out c_s_0)), (a_now, av_J cy 11 g_now), (a_diary, av_J cy 154 c_g_diary)] := hD
        refine lv_aload_n hx hb dX6_remember_49 rfl (lv_at hl 0 rfl) ?_
        refine va_get (D := G) (ci := 6) (v := .ref a_now) (C := RX6) (T := TX6) (N := 15) hx hb hts iw_X6_remember_X6 hown hK hP 0 rfl rfl 3 (by decide) (hts (.fieldLink RX6 13 "PaneFrostModel" "now" "[J") (by decide +kernel)) (fun _ h9 => h9) rfl dX6_remember_50 ?_
        refine lv_iconst (v := 0) hx hb dX6_remember_53 (by decide) ?_
        refine lv_aload_n hx hb dX6_remember_54 rfl (lv_at hl 0 rfl) ?_
        refine va_get (D := G) (ci := 6) (v := .ref a_diary) (C := RX6) (T := TX6) (N := 15) hx hb hts iw_X6_remember_X6 hown hK hP 0 rfl rfl 5 (by decide) (hts (.fieldLink RX6 20 "PaneFrostModel" "diary" "[J") (by decide +kernel)) (fun _ h9 => h9) rfl dX6_remember_55 ?_
        refine lv_bipush (v := 11) hx hb dX6_remember_58 (by decide) ?_
        refine lv_aload_n hx hb dX6_remember_60 rfl (lv_at hl 0 rfl) ?_
        refine va_get (D := G) (ci := 6) (v := .int ((m_acts c_s_0) - 1)) (C := RX6) (T := TX6) (N := 15) hx hb hts iw_X6_remember_X6 hown hK hP 0 rfl rfl 6 (by decide) (hts (.fieldLink RX6 178 "PaneFrostModel" "acts" "I") (by decide +kernel)) (fun _ h9 => h9) rfl dX6_remember_61 ?_
        refine lv_imul hx hb dX6_remember_64 ?_
        obtain ⟨r_2, hh_r_2, hf⟩ := obd_some hf
        refine kc_v (w1 := [(a_now, av_J cy 11 g_now), (a_diary, av_J cy 154 r_2)]) (wr := [(a_0, mv a_text a_now a_trial a_diary a_kept a_isKept a_seen a_equations a_wanted (m_refusal c_s_0, m_size c_s_0, ((m_acts c_s_0) - 1), m_rank c_s_0, m_spot c_s_0, m_out c_s_0))]) hP hD hS hA [1, 2] [0] rfl rfl rfl (by decide) (va_runS (As := [.ref a_now, .int 0, .ref a_diary, .int (11 * ((m_acts c_s_0) - 1))]) (rest := []) ⟨hx, hb, hml, hown, hts⟩ (c_X6_copyState (l := l) G cy a_now a_diary H.size g_now c_g_diary 11 154 0 (11 * ((m_acts c_s_0) - 1)) n r_2 hh_r_2) (va_cwS 4 hts gX6_remember_X6_copyState rfl rfl rfl ddN_X6_copyState ⟨Nat.le_of_ble_eq_true rfl, Nat.le_of_ble_eq_true rfl⟩) (preS_ (hP.sub (ws' := [(a_now, av_J cy 11 g_now), (a_diary, av_J cy 154 c_g_diary)]) [1, 2] rfl) hK (hD.sub (ws' := [(a_now, av_J cy 11 g_now), (a_diary, av_J cy 154 c_g_diary)]) [1, 2] rfl rfl) hN) rfl rfl hl.1 rfl (lv_room (Nat.le_of_ble_eq_true rfl)) dX6_remember_65 ⟨Nat.le_of_ble_eq_true rfl, Nat.le_of_ble_eq_true rfl⟩) (fun H locs hP hD hS => ?_)
        have hP : va_P G vwCl [(a_0, mv a_text a_now a_trial a_diary a_kept a_isKept a_seen a_equations a_wanted (m_refusal c_s_0, m_size c_s_0, ((m_acts c_s_0) - 1), m_rank c_s_0, m_spot c_s_0, m_out c_s_0)), (a_now, av_J cy 11 g_now), (a_diary, av_J cy 154 r_2)] H := hP
        have hD : va_D A [(a_0, mv a_text a_now a_trial a_diary a_kept a_isKept a_seen a_equations a_wanted (m_refusal c_s_0, m_size c_s_0, ((m_acts c_s_0) - 1), m_rank c_s_0, m_spot c_s_0, m_out c_s_0)), (a_now, av_J cy 11 g_now), (a_diary, av_J cy 154 r_2)] := hD
        refine lv_aload_n hx hb dX6_remember_68 rfl (lv_at hl 0 rfl) ?_
        refine lv_dup hx hb dX6_remember_69 rfl ?_
        refine va_get (D := G) (ci := 6) (v := .int ((m_acts c_s_0) - 1)) (C := RX6) (T := TX6) (N := 15) hx hb hts iw_X6_remember_X6 hown hK hP 0 rfl rfl 6 (by decide) (hts (.fieldLink RX6 178 "PaneFrostModel" "acts" "I") (by decide +kernel)) (fun _ h9 => h9) rfl dX6_remember_70 ?_
        refine lv_iconst (v := 1) hx hb dX6_remember_73 (by decide) ?_
        refine lv_iadd hx hb dX6_remember_74 ?_
        refine va_put (D := G) (ci := 6) (v := .int (((m_acts c_s_0) - 1) + 1)) (ty := .int) (C := RX6) (T := TX6) (N := 15) hx hb hts iw_X6_remember_X6 tyX6 tyX6_ok nmX6 hown hK hP hD hS 0 rfl rfl 6 (by decide) (hts (.fieldLink RX6 178 "PaneFrostModel" "acts" "I") (by decide +kernel)) (fun _ h9 => h9) rfl (by decide +kernel) rfl rfl (Nat.le_of_ble_eq_true rfl) dX6_remember_75 (fun H locs hP hD hS => ?_)
        have hP : va_P G vwCl [(a_0, mv a_text a_now a_trial a_diary a_kept a_isKept a_seen a_equations a_wanted (m_refusal c_s_0, m_size c_s_0, (((m_acts c_s_0) - 1) + 1), m_rank c_s_0, m_spot c_s_0, m_out c_s_0)), (a_now, av_J cy 11 g_now), (a_diary, av_J cy 154 r_2)] H := hP
        have hD : va_D A [(a_0, mv a_text a_now a_trial a_diary a_kept a_isKept a_seen a_equations a_wanted (m_refusal c_s_0, m_size c_s_0, (((m_acts c_s_0) - 1) + 1), m_rank c_s_0, m_spot c_s_0, m_out c_s_0)), (a_now, av_J cy 11 g_now), (a_diary, av_J cy 154 r_2)] := hD
        obtain rfl := Option.some.inj hf
        exact kr_v hx hb hr hlocks hP hK hD hN hS hS.2.2 dX6_remember_78
      · have hf := in_ h_1 hf
        refine lv_aload_n hx hb dX6_remember_18 rfl (lv_at hl 0 rfl) ?_
        refine va_get (D := G) (ci := 6) (v := .ref a_diary) (C := RX6) (T := TX6) (N := 15) hx hb hts iw_X6_remember_X6 hown hK hP 0 rfl rfl 5 (by decide) (hts (.fieldLink RX6 20 "PaneFrostModel" "diary" "[J") (by decide +kernel)) (fun _ h9 => h9) rfl dX6_remember_19 ?_
        refine lv_iload_n hx hb dX6_remember_22 rfl (lv_at hl 1 rfl) ?_
        refine lv_aload_n hx hb dX6_remember_23 rfl (lv_at hl 0 rfl) ?_
        refine va_get (D := G) (ci := 6) (v := .ref a_diary) (C := RX6) (T := TX6) (N := 15) hx hb hts iw_X6_remember_X6 hown hK hP 0 rfl rfl 5 (by decide) (hts (.fieldLink RX6 20 "PaneFrostModel" "diary" "[J") (by decide +kernel)) (fun _ h9 => h9) rfl dX6_remember_24 ?_
        refine lv_iload_n hx hb dX6_remember_27 rfl (lv_at hl 1 rfl) ?_
        refine lv_bipush (v := 11) hx hb dX6_remember_28 (by decide) ?_
        refine lv_iadd hx hb dX6_remember_30 ?_
        by_cases q_3 : (y1 + 11) < 0 ∨ 154 ≤ (y1 + 11).toNatClampNeg
        · have hf := ip_ q_3 hf; cases hf
        have hf := in_ q_3 hf
        refine vz_lald rfl hx hb hK hP 2 2 rfl rfl (vin q_3) dX6_remember_31 ?_
        by_cases q_4 : y1 < 0 ∨ 154 ≤ y1.toNatClampNeg
        · have hf := ip_ q_4 hf; cases hf
        have hf := in_ q_4 hf
        refine vz_last rfl hx hb hK hP hD hS 2 2 rfl rfl (vin q_4) dX6_remember_32 (fun H locs hP hD hS => ?_)
        have hP : va_P G vwCl [(a_0, mv a_text a_now a_trial a_diary a_kept a_isKept a_seen a_equations a_wanted c_s_0), (a_now, av_J cy 11 g_now), (a_diary, av_J cy 154 (vp_updL c_g_diary y1.toNatClampNeg (c_g_diary (y1 + 11).toNatClampNeg)))] H := hP
        have hD : va_D A [(a_0, mv a_text a_now a_trial a_diary a_kept a_isKept a_seen a_equations a_wanted c_s_0), (a_now, av_J cy 11 g_now), (a_diary, av_J cy 154 (vp_updL c_g_diary y1.toNatClampNeg (c_g_diary (y1 + 11).toNatClampNeg)))] := hD
        refine lv_iinc (v := (y1 + 1)) (lv' := [(1, .int (y1 + 1)), (0, .ref a_0)]) hx hb dX6_remember_33 hl (k := 1) rfl rfl (by decide) rfl (fun ls hl => ?_)
        refine lv_goto (tgt := 11) hx hb dX6_remember_36 (by decide) ?_
        exact ih c_s_0 (vp_updL c_g_diary y1.toNatClampNeg (c_g_diary (y1 + 11).toNatClampNeg)) (y1 + 1) _ _ hf hP hD hS ls (lv_sub hl [1, 0] rfl)
  have hl := lv_entry [.ref a_0] (n := 2) (Nat.le_of_ble_eq_true rfl)
  rw [lg_entry_eq]
  generalize (lg_sl [.ref a_0] ++ List.replicate (2 - (lg_sl [.ref a_0]).length) Slot.unset).toArray = ls at hl ⊢
  have hl : lv_has ls 2 [(0, .ref a_0)] := hl
  unfold f_X6_remember at hf
  refine lv_aload_n hx hb dX6_remember_0 rfl (lv_at hl 0 rfl) ?_
  refine va_get (D := G) (ci := 6) (v := .int (m_acts s_0)) (C := RX6) (T := TX6) (N := 15) hx hb hts iw_X6_remember_X6 hown hK hP 0 rfl rfl 6 (by decide) (hts (.fieldLink RX6 178 "PaneFrostModel" "acts" "I") (by decide +kernel)) (fun _ h9 => h9) rfl dX6_remember_1 ?_
  refine lv_bipush (v := 14) hx hb dX6_remember_4 (by decide) ?_
  refine lv_icmp_ne (tgt := 49) hx hb dX6_remember_6 (by decide) (fun h_5 => ?_) (fun h_5 => ?_)
  · have hf := in_ h_5 hf
    refine lv_aload_n hx hb dX6_remember_49 rfl (lv_at hl 0 rfl) ?_
    refine va_get (D := G) (ci := 6) (v := .ref a_now) (C := RX6) (T := TX6) (N := 15) hx hb hts iw_X6_remember_X6 hown hK hP 0 rfl rfl 3 (by decide) (hts (.fieldLink RX6 13 "PaneFrostModel" "now" "[J") (by decide +kernel)) (fun _ h9 => h9) rfl dX6_remember_50 ?_
    refine lv_iconst (v := 0) hx hb dX6_remember_53 (by decide) ?_
    refine lv_aload_n hx hb dX6_remember_54 rfl (lv_at hl 0 rfl) ?_
    refine va_get (D := G) (ci := 6) (v := .ref a_diary) (C := RX6) (T := TX6) (N := 15) hx hb hts iw_X6_remember_X6 hown hK hP 0 rfl rfl 5 (by decide) (hts (.fieldLink RX6 20 "PaneFrostModel" "diary" "[J") (by decide +kernel)) (fun _ h9 => h9) rfl dX6_remember_55 ?_
    refine lv_bipush (v := 11) hx hb dX6_remember_58 (by decide) ?_
    refine lv_aload_n hx hb dX6_remember_60 rfl (lv_at hl 0 rfl) ?_
    refine va_get (D := G) (ci := 6) (v := .int (m_acts s_0)) (C := RX6) (T := TX6) (N := 15) hx hb hts iw_X6_remember_X6 hown hK hP 0 rfl rfl 6 (by decide) (hts (.fieldLink RX6 178 "PaneFrostModel" "acts" "I") (by decide +kernel)) (fun _ h9 => h9) rfl dX6_remember_61 ?_
    refine lv_imul hx hb dX6_remember_64 ?_
    obtain ⟨r_6, hh_r_6, hf⟩ := obd_some hf
    refine kc_v (w1 := [(a_now, av_J cy 11 g_now), (a_diary, av_J cy 154 r_6)]) (wr := [(a_0, mv a_text a_now a_trial a_diary a_kept a_isKept a_seen a_equations a_wanted s_0)]) hP hD hS hA [1, 2] [0] rfl rfl rfl (by decide) (va_runS (As := [.ref a_now, .int 0, .ref a_diary, .int (11 * (m_acts s_0))]) (rest := []) ⟨hx, hb, hml, hown, hts⟩ (c_X6_copyState (l := l) G cy a_now a_diary s.heap.size g_now g_diary 11 154 0 (11 * (m_acts s_0)) n r_6 hh_r_6) (va_cwS 4 hts gX6_remember_X6_copyState rfl rfl rfl ddN_X6_copyState ⟨Nat.le_of_ble_eq_true rfl, Nat.le_of_ble_eq_true rfl⟩) (preS_ (hP.sub (ws' := [(a_now, av_J cy 11 g_now), (a_diary, av_J cy 154 g_diary)]) [1, 2] rfl) hK (hD.sub (ws' := [(a_now, av_J cy 11 g_now), (a_diary, av_J cy 154 g_diary)]) [1, 2] rfl rfl) hN) rfl rfl hl.1 rfl (lv_room (Nat.le_of_ble_eq_true rfl)) dX6_remember_65 ⟨Nat.le_of_ble_eq_true rfl, Nat.le_of_ble_eq_true rfl⟩) (fun H locs hP hD hS => ?_)
    have hP : va_P G vwCl [(a_0, mv a_text a_now a_trial a_diary a_kept a_isKept a_seen a_equations a_wanted s_0), (a_now, av_J cy 11 g_now), (a_diary, av_J cy 154 r_6)] H := hP
    have hD : va_D A [(a_0, mv a_text a_now a_trial a_diary a_kept a_isKept a_seen a_equations a_wanted s_0), (a_now, av_J cy 11 g_now), (a_diary, av_J cy 154 r_6)] := hD
    refine lv_aload_n hx hb dX6_remember_68 rfl (lv_at hl 0 rfl) ?_
    refine lv_dup hx hb dX6_remember_69 rfl ?_
    refine va_get (D := G) (ci := 6) (v := .int (m_acts s_0)) (C := RX6) (T := TX6) (N := 15) hx hb hts iw_X6_remember_X6 hown hK hP 0 rfl rfl 6 (by decide) (hts (.fieldLink RX6 178 "PaneFrostModel" "acts" "I") (by decide +kernel)) (fun _ h9 => h9) rfl dX6_remember_70 ?_
    refine lv_iconst (v := 1) hx hb dX6_remember_73 (by decide) ?_
    refine lv_iadd hx hb dX6_remember_74 ?_
    refine va_put (D := G) (ci := 6) (v := .int ((m_acts s_0) + 1)) (ty := .int) (C := RX6) (T := TX6) (N := 15) hx hb hts iw_X6_remember_X6 tyX6 tyX6_ok nmX6 hown hK hP hD hS 0 rfl rfl 6 (by decide) (hts (.fieldLink RX6 178 "PaneFrostModel" "acts" "I") (by decide +kernel)) (fun _ h9 => h9) rfl (by decide +kernel) rfl rfl (Nat.le_of_ble_eq_true rfl) dX6_remember_75 (fun H locs hP hD hS => ?_)
    have hP : va_P G vwCl [(a_0, mv a_text a_now a_trial a_diary a_kept a_isKept a_seen a_equations a_wanted (m_refusal s_0, m_size s_0, ((m_acts s_0) + 1), m_rank s_0, m_spot s_0, m_out s_0)), (a_now, av_J cy 11 g_now), (a_diary, av_J cy 154 r_6)] H := hP
    have hD : va_D A [(a_0, mv a_text a_now a_trial a_diary a_kept a_isKept a_seen a_equations a_wanted (m_refusal s_0, m_size s_0, ((m_acts s_0) + 1), m_rank s_0, m_spot s_0, m_out s_0)), (a_now, av_J cy 11 g_now), (a_diary, av_J cy 154 r_6)] := hD
    obtain rfl := Option.some.inj hf
    exact kr_v hx hb hr hlocks hP hK hD hN hS hS.2.2 dX6_remember_78
  · have hf := ip_ h_5 hf
    refine lv_iconst (v := 0) hx hb dX6_remember_9 (by decide) ?_
    refine lv_istore_n (lv' := [(1, .int 0), (0, .ref a_0)]) hx hb dX6_remember_10 rfl hl (by decide) rfl (fun ls hl => ?_)
    exact bl_11 n s_0 g_diary 0 _ _ hf hP hD hS ls (lv_sub hl [1, 0] rfl)
