theorem ddN_X6_command : yX6_command.cls ≠ "java/lang/invoke/MethodHandle" ∧ yX6_command.cls ≠ "java/lang/invoke/VarHandle" ∧ (parseMethodDescriptor yX6_command.desc).map (fun d => d.parameters.length) = some 2 := by decide +kernel
theorem ddV_X6_command : yX6_command.cls = RX6 ∧ yX6_command.cls ≠ "java/lang/invoke/MethodHandle" ∧ yX6_command.cls ≠ "java/lang/invoke/VarHandle" ∧ (parseMethodDescriptor yX6_command.desc).map (fun d => d.parameters.length) = some 2 := by decide +kernel
theorem ddN_X6_isSize : yX6_isSize.cls ≠ "java/lang/invoke/MethodHandle" ∧ yX6_isSize.cls ≠ "java/lang/invoke/VarHandle" ∧ (parseMethodDescriptor yX6_isSize.desc).map (fun d => d.parameters.length) = some 1 := by decide +kernel
theorem ddV_X6_isSize : yX6_isSize.cls = RX6 ∧ yX6_isSize.cls ≠ "java/lang/invoke/MethodHandle" ∧ yX6_isSize.cls ≠ "java/lang/invoke/VarHandle" ∧ (parseMethodDescriptor yX6_isSize.desc).map (fun d => d.parameters.length) = some 1 := by decide +kernel
theorem ddN_X6_layEquations : yX6_layEquations.cls ≠ "java/lang/invoke/MethodHandle" ∧ yX6_layEquations.cls ≠ "java/lang/invoke/VarHandle" ∧ (parseMethodDescriptor yX6_layEquations.desc).map (fun d => d.parameters.length) = some 0 := by decide +kernel
theorem ddV_X6_layEquations : yX6_layEquations.cls = RX6 ∧ yX6_layEquations.cls ≠ "java/lang/invoke/MethodHandle" ∧ yX6_layEquations.cls ≠ "java/lang/invoke/VarHandle" ∧ (parseMethodDescriptor yX6_layEquations.desc).map (fun d => d.parameters.length) = some 0 := by decide +kernel
theorem ddN_X6_lowest : yX6_lowest.cls ≠ "java/lang/invoke/MethodHandle" ∧ yX6_lowest.cls ≠ "java/lang/invoke/VarHandle" ∧ (parseMethodDescriptor yX6_lowest.desc).map (fun d => d.parameters.length) = some 1 := by decide +kernel
theorem ddV_X6_lowest : yX6_lowest.cls = RX6 ∧ yX6_lowest.cls ≠ "java/lang/invoke/MethodHandle" ∧ yX6_lowest.cls ≠ "java/lang/invoke/VarHandle" ∧ (parseMethodDescriptor yX6_lowest.desc).map (fun d => d.parameters.length) = some 1 := by decide +kernel
theorem ddN_X6_remember : yX6_remember.cls ≠ "java/lang/invoke/MethodHandle" ∧ yX6_remember.cls ≠ "java/lang/invoke/VarHandle" ∧ (parseMethodDescriptor yX6_remember.desc).map (fun d => d.parameters.length) = some 0 := by decide +kernel
theorem ddV_X6_remember : yX6_remember.cls = RX6 ∧ yX6_remember.cls ≠ "java/lang/invoke/MethodHandle" ∧ yX6_remember.cls ≠ "java/lang/invoke/VarHandle" ∧ (parseMethodDescriptor yX6_remember.desc).map (fun d => d.parameters.length) = some 0 := by decide +kernel
theorem ddN_X6_solve : yX6_solve.cls ≠ "java/lang/invoke/MethodHandle" ∧ yX6_solve.cls ≠ "java/lang/invoke/VarHandle" ∧ (parseMethodDescriptor yX6_solve.desc).map (fun d => d.parameters.length) = some 0 := by decide +kernel
theorem ddV_X6_solve : yX6_solve.cls = RX6 ∧ yX6_solve.cls ≠ "java/lang/invoke/MethodHandle" ∧ yX6_solve.cls ≠ "java/lang/invoke/VarHandle" ∧ (parseMethodDescriptor yX6_solve.desc).map (fun d => d.parameters.length) = some 0 := by decide +kernel
theorem ddN_X6_staysClear : yX6_staysClear.cls ≠ "java/lang/invoke/MethodHandle" ∧ yX6_staysClear.cls ≠ "java/lang/invoke/VarHandle" ∧ (parseMethodDescriptor yX6_staysClear.desc).map (fun d => d.parameters.length) = some 3 := by decide +kernel
theorem ddV_X6_staysClear : yX6_staysClear.cls = RX6 ∧ yX6_staysClear.cls ≠ "java/lang/invoke/MethodHandle" ∧ yX6_staysClear.cls ≠ "java/lang/invoke/VarHandle" ∧ (parseMethodDescriptor yX6_staysClear.desc).map (fun d => d.parameters.length) = some 3 := by decide +kernel
theorem ddN_X6_turn : yX6_turn.cls ≠ "java/lang/invoke/MethodHandle" ∧ yX6_turn.cls ≠ "java/lang/invoke/VarHandle" ∧ (parseMethodDescriptor yX6_turn.desc).map (fun d => d.parameters.length) = some 2 := by decide +kernel
theorem ddV_X6_turn : yX6_turn.cls = RX6 ∧ yX6_turn.cls ≠ "java/lang/invoke/MethodHandle" ∧ yX6_turn.cls ≠ "java/lang/invoke/VarHandle" ∧ (parseMethodDescriptor yX6_turn.desc).map (fun d => d.parameters.length) = some 2 := by decide +kernel
theorem iw_X6_again_X6 : ∀ w ∈ u_ws RX6 TX6 15, w ∈ wsX6_again := by decide +kernel
theorem iw_X6_before_X6 : ∀ w ∈ u_ws RX6 TX6 15, w ∈ wsX6_before := by decide +kernel
theorem iw_X6_befores_X6 : ∀ w ∈ u_ws RX6 TX6 15, w ∈ wsX6_befores := by decide +kernel
theorem iw_X6_border_X6 : ∀ w ∈ u_ws RX6 TX6 15, w ∈ wsX6_border := by decide +kernel
theorem iw_X6_breathe_X6 : ∀ w ∈ u_ws RX6 TX6 15, w ∈ wsX6_breathe := by decide +kernel
theorem iw_X6_coming_X6 : ∀ w ∈ u_ws RX6 TX6 15, w ∈ wsX6_coming := by decide +kernel
theorem iw_X6_command_X6 : ∀ w ∈ u_ws RX6 TX6 15, w ∈ wsX6_command := by decide +kernel
theorem iw_X6_flip_X6 : ∀ w ∈ u_ws RX6 TX6 15, w ∈ wsX6_flip := by decide +kernel
theorem iw_X6_freezesIn_X6 : ∀ w ∈ u_ws RX6 TX6 15, w ∈ wsX6_freezesIn := by decide +kernel
theorem iw_X6_keeps_X6 : ∀ w ∈ u_ws RX6 TX6 15, w ∈ wsX6_keeps := by decide +kernel
theorem iw_X6_nights_X6 : ∀ w ∈ u_ws RX6 TX6 15, w ∈ wsX6_nights := by decide +kernel
theorem iw_X6_restore_X6 : ∀ w ∈ u_ws RX6 TX6 15, w ∈ wsX6_restore := by decide +kernel
theorem iw_X6_rule_X6 : ∀ w ∈ u_ws RX6 TX6 15, w ∈ wsX6_rule := by decide +kernel
theorem iw_X6_runScript_X6 : ∀ w ∈ u_ws RX6 TX6 15, w ∈ wsX6_runScript := by decide +kernel
theorem iw_X6_save_X6 : ∀ w ∈ u_ws RX6 TX6 15, w ∈ wsX6_save := by decide +kernel
theorem iw_X6_scratch_X6 : ∀ w ∈ u_ws RX6 TX6 15, w ∈ wsX6_scratch := by decide +kernel
theorem iw_X6_simulate_X6 : ∀ w ∈ u_ws RX6 TX6 15, w ∈ wsX6_simulate := by decide +kernel
theorem iw_X6_size_X6 : ∀ w ∈ u_ws RX6 TX6 15, w ∈ wsX6_size := by decide +kernel
theorem iw_X6_undo_X6 : ∀ w ∈ u_ws RX6 TX6 15, w ∈ wsX6_undo := by decide +kernel
set_option maxHeartbeats 4000000 in
set_option maxRecDepth 100000 in
theorem c_X6_size {l : Launch} (G : va_G) (cy : Nat → ClassId) (a_0 : Nat) (a_text : Nat) (a_now : Nat) (a_trial : Nat) (a_diary : Nat) (a_kept : Nat) (a_isKept : Nat) (a_seen : Nat) (a_equations : Nat) (a_wanted : Nat) (sz : Nat) (s_0 : MT) (g_now : Nat → Int64) (g_diary : Nat → Int64) (x1 : Int32) (x2 : Int32) (n : Nat) (R : Int32 × MT × (Nat → Int64) × (Nat → Int64)) (hf : f_X6_size n s_0 g_now g_diary x1 x2 = some R) : Met l yX6_size wsX6_size ({ frames := 2, cells := 0, slots := 0, locals := 45 } : Room) (va_Pc [.ref a_0, .int x1, .int x2] (pcW G cy [(a_0, mv a_text a_now a_trial a_diary a_kept a_isKept a_seen a_equations a_wanted s_0), (a_now, av_J cy 11 g_now), (a_diary, av_J cy 154 g_diary)] sz)) (va_Qi (fun r (_ : Unit) => r = R.1) (fun _ t => Wd G cy (va_A [(a_0, mv a_text a_now a_trial a_diary a_kept a_isKept a_seen a_equations a_wanted s_0), (a_now, av_J cy 11 g_now), (a_diary, av_J cy 154 g_diary)] sz) [(a_0, mv a_text a_now a_trial a_diary a_kept a_isKept a_seen a_equations a_wanted R.2.1), (a_now, av_J cy 11 R.2.2.1), (a_diary, av_J cy 154 R.2.2.2)] t) (va_A [(a_0, mv a_text a_now a_trial a_diary a_kept a_isKept a_seen a_equations a_wanted s_0), (a_now, av_J cy 11 g_now), (a_diary, av_J cy 154 g_diary)] sz)) 0 0 (va_A [(a_0, mv a_text a_now a_trial a_diary a_kept a_isKept a_seen a_equations a_wanted s_0), (a_now, av_J cy 11 g_now), (a_diary, av_J cy 154 g_diary)] sz) := by
  refine Met.ofW (cc := cX6_size) (maxL := 7) (ret := (some .int)) (by decide) rfl ?_
  intro p e s m args below meth c s₁ B hml hv
  obtain ⟨rfl, hsz, hP, hK, hD0, hN⟩ := hv
  have hx := B.exec
  have hb := B.bytes
  have hr := B.returns
  have hts := atoms_spec (ws := wsX6_size) B.pre
  have hown : s.vm.findClass RX6 = some m.cls := findClass_of_methodNamed B.named
  have hlocks := B.notSynchronized
  subst hsz
  have hD := hD0.self (sz := s.heap.size)
  generalize hAe : va_A [(a_0, mv a_text a_now a_trial a_diary a_kept a_isKept a_seen a_equations a_wanted s_0), (a_now, av_J cy 11 g_now), (a_diary, av_J cy 154 g_diary)] s.heap.size = A at hD ⊢
  have hA : ∀ q : Nat, s.heap.size ≤ q → A q := fun q h => by rw [← hAe]; exact Or.inr h
  have hS : va_S A s.heap s.heap [] := va_S.rf
  have hP : va_P G vwCl [(a_0, mv a_text a_now a_trial a_diary a_kept a_isKept a_seen a_equations a_wanted s_0), (a_now, av_J cy 11 g_now), (a_diary, av_J cy 154 g_diary)] s.heap := hP
  have bl_20 : ∀ (c_s_0 : MT) (c_g_now : Nat → Int64) (c_g_diary : Nat → Int64) (y1 : Int32) (y2 : Int32) (z1 : Int32) (H : Heap) (locs : List Loc), f_X6_size_b20 n c_s_0 c_g_now c_g_diary y1 y2 z1 = some R → va_P G vwCl [(a_0, mv a_text a_now a_trial a_diary a_kept a_isKept a_seen a_equations a_wanted c_s_0), (a_now, av_J cy 11 c_g_now), (a_diary, av_J cy 154 c_g_diary)] H → va_D A [(a_0, mv a_text a_now a_trial a_diary a_kept a_isKept a_seen a_equations a_wanted c_s_0), (a_now, av_J cy 11 c_g_now), (a_diary, av_J cy 154 c_g_diary)] → va_S A s.heap H locs → ∀ (ls : Array Slot), lv_has ls 7 [(0, .ref a_0), (1, .int y1), (2, .int y2)] → W p l e ({ frames := 2, cells := 0, slots := 0, locals := 45 } : Room) s m [.ref a_0, .int x1, .int x2].toArray below meth c H locs 0 0 (MQ below (va_Qi (fun r (_ : Unit) => r = R.1) (fun _ t => Wd G cy A [(a_0, mv a_text a_now a_trial a_diary a_kept a_isKept a_seen a_equations a_wanted R.2.1), (a_now, av_J cy 11 R.2.2.1), (a_diary, av_J cy 154 R.2.2.2)] t) A) [.ref a_0, .int x1, .int x2].toArray s 0 0 A) (F0 m 20 ls [.int z1, .ref a_0]) := by
    intro c_s_0 c_g_now c_g_diary y1 y2 z1 H locs hf hP hD hS ls hl
    unfold f_X6_size_b20 at hf
    obtain ⟨r_1, hh_r_1⟩ : ∃ z, z = f_X6_refused c_s_0 z1 := ⟨_, rfl⟩
    have hf := lt_e hh_r_1 hf
    refine kc_i (w1 := [(a_0, mv a_text a_now a_trial a_diary a_kept a_isKept a_seen a_equations a_wanted r_1.2)]) (wr := [(a_now, av_J cy 11 c_g_now), (a_diary, av_J cy 154 c_g_diary)]) hP hD hS hA [0] [1, 2] rfl rfl rfl (by decide) (va_runV (As := [.int z1]) (rest := []) ⟨hx, hb, hml, hown, hts⟩ (c_X6_refused (l := l) G cy a_0 a_text a_now a_trial a_diary a_kept a_isKept a_seen a_equations a_wanted H.size c_s_0 z1  r_1 hh_r_1.symm) (cwV 1 hts gX6_size_X6_refused rfl rfl rfl ddV_X6_refused ⟨Nat.le_of_ble_eq_true rfl, Nat.le_of_ble_eq_true rfl⟩) (preV_ (ci := 6) (q0 := 0) rfl rfl (hP.sub (ws' := [(a_0, mv a_text a_now a_trial a_diary a_kept a_isKept a_seen a_equations a_wanted c_s_0)]) [0] rfl) hK (hD.sub (ws' := [(a_0, mv a_text a_now a_trial a_diary a_kept a_isKept a_seen a_equations a_wanted c_s_0)]) [0] rfl rfl) hN) rfl rfl hl.1 rfl (lv_room (Nat.le_of_ble_eq_true rfl)) dX6_size_20 ⟨Nat.le_of_ble_eq_true rfl, Nat.le_of_ble_eq_true rfl⟩) (fun H locs hP hD hS => ?_)
    have hP : va_P G vwCl [(a_now, av_J cy 11 c_g_now), (a_diary, av_J cy 154 c_g_diary), (a_0, mv a_text a_now a_trial a_diary a_kept a_isKept a_seen a_equations a_wanted r_1.2)] H := hP
    have hD : va_D A [(a_now, av_J cy 11 c_g_now), (a_diary, av_J cy 154 c_g_diary), (a_0, mv a_text a_now a_trial a_diary a_kept a_isKept a_seen a_equations a_wanted r_1.2)] := hD
    refine lv_if_eq (tgt := 28) hx hb dX6_size_23 (by decide) (fun h_2 => ?_) (fun h_2 => ?_)
    · have hf := in_ (bI_0 h_2) hf
      refine lv_aload_n hx hb dX6_size_28 rfl (lv_at hl 0 rfl) ?_
      obtain ⟨r_3, hh_r_3, hf⟩ := obd_some hf
      refine kc_v (w1 := [(a_0, mv a_text a_now a_trial a_diary a_kept a_isKept a_seen a_equations a_wanted r_3.1), (a_now, av_J cy 11 c_g_now), (a_diary, av_J cy 154 r_3.2)]) (wr := []) hP hD hS hA [2, 0, 1] [] rfl rfl rfl (by decide) (va_runV (As := []) (rest := []) ⟨hx, hb, hml, hown, hts⟩ (c_X6_remember (l := l) G cy a_0 a_text a_now a_trial a_diary a_kept a_isKept a_seen a_equations a_wanted H.size r_1.2 c_g_now c_g_diary n r_3 hh_r_3) (cwV 0 hts gX6_size_X6_remember rfl rfl rfl ddV_X6_remember ⟨Nat.le_of_ble_eq_true rfl, Nat.le_of_ble_eq_true rfl⟩) (preV_ (ci := 6) (q0 := 0) rfl rfl (hP.sub (ws' := [(a_0, mv a_text a_now a_trial a_diary a_kept a_isKept a_seen a_equations a_wanted r_1.2), (a_now, av_J cy 11 c_g_now), (a_diary, av_J cy 154 c_g_diary)]) [2, 0, 1] rfl) hK (hD.sub (ws' := [(a_0, mv a_text a_now a_trial a_diary a_kept a_isKept a_seen a_equations a_wanted r_1.2), (a_now, av_J cy 11 c_g_now), (a_diary, av_J cy 154 c_g_diary)]) [2, 0, 1] rfl rfl) hN) rfl rfl hl.1 rfl (lv_room (Nat.le_of_ble_eq_true rfl)) dX6_size_29 ⟨Nat.le_of_ble_eq_true rfl, Nat.le_of_ble_eq_true rfl⟩) (fun H locs hP hD hS => ?_)
      have hP : va_P G vwCl [(a_0, mv a_text a_now a_trial a_diary a_kept a_isKept a_seen a_equations a_wanted r_3.1), (a_now, av_J cy 11 c_g_now), (a_diary, av_J cy 154 r_3.2)] H := hP
      have hD : va_D A [(a_0, mv a_text a_now a_trial a_diary a_kept a_isKept a_seen a_equations a_wanted r_3.1), (a_now, av_J cy 11 c_g_now), (a_diary, av_J cy 154 r_3.2)] := hD
      refine lv_aload_n hx hb dX6_size_32 rfl (lv_at hl 0 rfl) ?_
      refine va_get (D := G) (ci := 6) (v := .ref a_now) (C := RX6) (T := TX6) (N := 15) hx hb hts iw_X6_size_X6 hown hK hP 0 rfl rfl 3 (by decide) (hts (.fieldLink RX6 13 "PaneFrostModel" "now" "[J") (by decide +kernel)) (fun _ h9 => h9) rfl dX6_size_33 ?_
      refine lv_iconst (v := 2) hx hb dX6_size_36 (by decide) ?_
      refine vz_lald tn_2 hx hb hK hP 1 2 rfl rfl vn_2_11 dX6_size_37 ?_
      refine lv_lstore_n (lv' := [(3, .long (c_g_now 2)), (0, .ref a_0), (1, .int y1), (2, .int y2)]) hx hb dX6_size_38 rfl hl (by decide) rfl (fun ls hl => ?_)
      refine lv_aload_n hx hb dX6_size_39 rfl (lv_at hl 1 rfl) ?_
      refine va_get (D := G) (ci := 6) (v := .ref a_now) (C := RX6) (T := TX6) (N := 15) hx hb hts iw_X6_size_X6 hown hK hP 0 rfl rfl 3 (by decide) (hts (.fieldLink RX6 13 "PaneFrostModel" "now" "[J") (by decide +kernel)) (fun _ h9 => h9) rfl dX6_size_40 ?_
      refine lv_iconst (v := 3) hx hb dX6_size_43 (by decide) ?_
      refine vz_lald tn_3 hx hb hK hP 1 2 rfl rfl vn_3_11 dX6_size_44 ?_
      refine lv_lstore (lv' := [(5, .long (c_g_now 3)), (3, .long (c_g_now 2)), (0, .ref a_0), (1, .int y1), (2, .int y2)]) hx hb dX6_size_45 hl (by decide) rfl (fun ls hl => ?_)
      refine lv_aload_n hx hb dX6_size_47 rfl (lv_at hl 2 rfl) ?_
      refine va_get (D := G) (ci := 6) (v := .ref a_now) (C := RX6) (T := TX6) (N := 15) hx hb hts iw_X6_size_X6 hown hK hP 0 rfl rfl 3 (by decide) (hts (.fieldLink RX6 13 "PaneFrostModel" "now" "[J") (by decide +kernel)) (fun _ h9 => h9) rfl dX6_size_48 ?_
      refine lv_iload_n hx hb dX6_size_51 rfl (lv_at hl 3 rfl) ?_
      refine lv_iload_n hx hb dX6_size_52 rfl (lv_at hl 4 rfl) ?_
      obtain ⟨r_4, hh_r_4, hf⟩ := obd_some hf
      refine kc_v (w1 := [(a_now, av_J cy 11 r_4)]) (wr := [(a_0, mv a_text a_now a_trial a_diary a_kept a_isKept a_seen a_equations a_wanted r_3.1), (a_diary, av_J cy 154 r_3.2)]) hP hD hS hA [1] [0, 2] rfl rfl rfl (by decide) (va_runS (As := [.ref a_now, .int y1, .int y2]) (rest := []) ⟨hx, hb, hml, hown, hts⟩ (c_X6_clear (l := l) G cy a_now H.size c_g_now y1 y2 n r_4 hh_r_4) (va_cwS 3 hts gX6_size_X6_clear rfl rfl rfl ddN_X6_clear ⟨Nat.le_of_ble_eq_true rfl, Nat.le_of_ble_eq_true rfl⟩) (preS_ (hP.sub (ws' := [(a_now, av_J cy 11 c_g_now)]) [1] rfl) hK (hD.sub (ws' := [(a_now, av_J cy 11 c_g_now)]) [1] rfl rfl) hN) rfl rfl hl.1 rfl (lv_room (Nat.le_of_ble_eq_true rfl)) dX6_size_53 ⟨Nat.le_of_ble_eq_true rfl, Nat.le_of_ble_eq_true rfl⟩) (fun H locs hP hD hS => ?_)
      have hP : va_P G vwCl [(a_0, mv a_text a_now a_trial a_diary a_kept a_isKept a_seen a_equations a_wanted r_3.1), (a_diary, av_J cy 154 r_3.2), (a_now, av_J cy 11 r_4)] H := hP
      have hD : va_D A [(a_0, mv a_text a_now a_trial a_diary a_kept a_isKept a_seen a_equations a_wanted r_3.1), (a_diary, av_J cy 154 r_3.2), (a_now, av_J cy 11 r_4)] := hD
      refine lv_aload_n hx hb dX6_size_56 rfl (lv_at hl 2 rfl) ?_
      refine va_get (D := G) (ci := 6) (v := .ref a_now) (C := RX6) (T := TX6) (N := 15) hx hb hts iw_X6_size_X6 hown hK hP 0 rfl rfl 3 (by decide) (hts (.fieldLink RX6 13 "PaneFrostModel" "now" "[J") (by decide +kernel)) (fun _ h9 => h9) rfl dX6_size_57 ?_
      refine lv_iconst (v := 2) hx hb dX6_size_60 (by decide) ?_
      refine lv_lload_n hx hb dX6_size_61 rfl (lv_at hl 1 rfl) ?_
      refine vz_last tn_2 hx hb hK hP hD hS 2 2 rfl rfl vn_2_11 dX6_size_62 (fun H locs hP hD hS => ?_)
      have hP : va_P G vwCl [(a_0, mv a_text a_now a_trial a_diary a_kept a_isKept a_seen a_equations a_wanted r_3.1), (a_diary, av_J cy 154 r_3.2), (a_now, av_J cy 11 (vp_updL r_4 2 (c_g_now 2)))] H := hP
      have hD : va_D A [(a_0, mv a_text a_now a_trial a_diary a_kept a_isKept a_seen a_equations a_wanted r_3.1), (a_diary, av_J cy 154 r_3.2), (a_now, av_J cy 11 (vp_updL r_4 2 (c_g_now 2)))] := hD
      refine lv_aload_n hx hb dX6_size_63 rfl (lv_at hl 2 rfl) ?_
      refine va_get (D := G) (ci := 6) (v := .ref a_now) (C := RX6) (T := TX6) (N := 15) hx hb hts iw_X6_size_X6 hown hK hP 0 rfl rfl 3 (by decide) (hts (.fieldLink RX6 13 "PaneFrostModel" "now" "[J") (by decide +kernel)) (fun _ h9 => h9) rfl dX6_size_64 ?_
      refine lv_iconst (v := 3) hx hb dX6_size_67 (by decide) ?_
      refine lv_lload hx hb dX6_size_68 (lv_at hl 0 rfl) ?_
      refine vz_last tn_3 hx hb hK hP hD hS 2 2 rfl rfl vn_3_11 dX6_size_70 (fun H locs hP hD hS => ?_)
      have hP : va_P G vwCl [(a_0, mv a_text a_now a_trial a_diary a_kept a_isKept a_seen a_equations a_wanted r_3.1), (a_diary, av_J cy 154 r_3.2), (a_now, av_J cy 11 (vp_updL (vp_updL r_4 2 (c_g_now 2)) 3 (c_g_now 3)))] H := hP
      have hD : va_D A [(a_0, mv a_text a_now a_trial a_diary a_kept a_isKept a_seen a_equations a_wanted r_3.1), (a_diary, av_J cy 154 r_3.2), (a_now, av_J cy 11 (vp_updL (vp_updL r_4 2 (c_g_now 2)) 3 (c_g_now 3)))] := hD
      refine lv_iload_n hx hb dX6_size_71 rfl (lv_at hl 3 rfl) ?_
      refine lv_iload_n hx hb dX6_size_72 rfl (lv_at hl 4 rfl) ?_
      refine lv_imul hx hb dX6_size_73 ?_
      obtain rfl := Option.some.inj hf
      exact kr_i hx hb hr hlocks rfl (hP.sub (ws' := [(a_0, mv a_text a_now a_trial a_diary a_kept a_isKept a_seen a_equations a_wanted r_3.1), (a_now, av_J cy 11 (vp_updL (vp_updL r_4 2 (c_g_now 2)) 3 (c_g_now 3))), (a_diary, av_J cy 154 r_3.2)]) [0, 2, 1] rfl) hK (hD.sub (ws' := [(a_0, mv a_text a_now a_trial a_diary a_kept a_isKept a_seen a_equations a_wanted r_3.1), (a_now, av_J cy 11 (vp_updL (vp_updL r_4 2 (c_g_now 2)) 3 (c_g_now 3))), (a_diary, av_J cy 154 r_3.2)]) [0, 2, 1] rfl rfl) hN hS hS.2.2 dX6_size_74
    · have hf := ip_ (bI_n0 h_2) hf
      refine lv_iconst (v := 0) hx hb dX6_size_26 (by decide) ?_
      obtain rfl := Option.some.inj hf
      exact kr_i hx hb hr hlocks rfl (hP.sub (ws' := [(a_0, mv a_text a_now a_trial a_diary a_kept a_isKept a_seen a_equations a_wanted r_1.2), (a_now, av_J cy 11 c_g_now), (a_diary, av_J cy 154 c_g_diary)]) [2, 0, 1] rfl) hK (hD.sub (ws' := [(a_0, mv a_text a_now a_trial a_diary a_kept a_isKept a_seen a_equations a_wanted r_1.2), (a_now, av_J cy 11 c_g_now), (a_diary, av_J cy 154 c_g_diary)]) [2, 0, 1] rfl rfl) hN hS hS.2.2 dX6_size_27
  have hl := lv_entry [.ref a_0, .int x1, .int x2] (n := 7) (Nat.le_of_ble_eq_true rfl)
  rw [lg_entry_eq]
  generalize (lg_sl [.ref a_0, .int x1, .int x2] ++ List.replicate (7 - (lg_sl [.ref a_0, .int x1, .int x2]).length) Slot.unset).toArray = ls at hl ⊢
  have hl : lv_has ls 7 [(0, .ref a_0), (1, .int x1), (2, .int x2)] := hl
  unfold f_X6_size at hf
  refine lv_aload_n hx hb dX6_size_0 rfl (lv_at hl 0 rfl) ?_
  refine lv_iload_n hx hb dX6_size_1 rfl (lv_at hl 1 rfl) ?_
  refine kc_i (w1 := []) (wr := [(a_0, mv a_text a_now a_trial a_diary a_kept a_isKept a_seen a_equations a_wanted s_0), (a_now, av_J cy 11 g_now), (a_diary, av_J cy 154 g_diary)]) hP hD hS hA [] [0, 1, 2] rfl rfl rfl (by decide) (va_runS (As := [.int x1]) (rest := [.ref a_0]) ⟨hx, hb, hml, hown, hts⟩ (c_X6_isSize (l := l) G cy  s.heap.size x1  (f_X6_isSize x1) rfl) (va_cwS 1 hts gX6_size_X6_isSize rfl rfl rfl ddN_X6_isSize ⟨Nat.le_of_ble_eq_true rfl, Nat.le_of_ble_eq_true rfl⟩) (preS_ (hP.sub (ws' := []) [] rfl) hK (hD.sub (ws' := []) [] rfl rfl) hN) rfl rfl hl.1 rfl (lv_room (Nat.le_of_ble_eq_true rfl)) dX6_size_2 ⟨Nat.le_of_ble_eq_true rfl, Nat.le_of_ble_eq_true rfl⟩) (fun H locs hP hD hS => ?_)
  have hP : va_P G vwCl [(a_0, mv a_text a_now a_trial a_diary a_kept a_isKept a_seen a_equations a_wanted s_0), (a_now, av_J cy 11 g_now), (a_diary, av_J cy 154 g_diary)] H := hP
  have hD : va_D A [(a_0, mv a_text a_now a_trial a_diary a_kept a_isKept a_seen a_equations a_wanted s_0), (a_now, av_J cy 11 g_now), (a_diary, av_J cy 154 g_diary)] := hD
  refine lv_if_eq (tgt := 19) hx hb dX6_size_5 (by decide) (fun h_5 => ?_) (fun h_5 => ?_)
  · have hf := in_ (bI_0 h_5) hf
    refine lv_iconst (v := 1) hx hb dX6_size_19 (by decide) ?_
    exact bl_20  s_0 g_now g_diary x1 x2 1 _ _ hf hP hD hS ls (lv_sub hl [0, 1, 2] rfl)
  · have hf := ip_ (bI_n0 h_5) hf
    refine lv_iload_n hx hb dX6_size_8 rfl (lv_at hl 2 rfl) ?_
    refine kc_i (w1 := []) (wr := [(a_0, mv a_text a_now a_trial a_diary a_kept a_isKept a_seen a_equations a_wanted s_0), (a_now, av_J cy 11 g_now), (a_diary, av_J cy 154 g_diary)]) hP hD hS hA [] [0, 1, 2] rfl rfl rfl (by decide) (va_runS (As := [.int x2]) (rest := [.ref a_0]) ⟨hx, hb, hml, hown, hts⟩ (c_X6_isSize (l := l) G cy  H.size x2  (f_X6_isSize x2) rfl) (va_cwS 1 hts gX6_size_X6_isSize rfl rfl rfl ddN_X6_isSize ⟨Nat.le_of_ble_eq_true rfl, Nat.le_of_ble_eq_true rfl⟩) (preS_ (hP.sub (ws' := []) [] rfl) hK (hD.sub (ws' := []) [] rfl rfl) hN) rfl rfl hl.1 rfl (lv_room (Nat.le_of_ble_eq_true rfl)) dX6_size_9 ⟨Nat.le_of_ble_eq_true rfl, Nat.le_of_ble_eq_true rfl⟩) (fun H locs hP hD hS => ?_)
    have hP : va_P G vwCl [(a_0, mv a_text a_now a_trial a_diary a_kept a_isKept a_seen a_equations a_wanted s_0), (a_now, av_J cy 11 g_now), (a_diary, av_J cy 154 g_diary)] H := hP
    have hD : va_D A [(a_0, mv a_text a_now a_trial a_diary a_kept a_isKept a_seen a_equations a_wanted s_0), (a_now, av_J cy 11 g_now), (a_diary, av_J cy 154 g_diary)] := hD
    refine lv_if_eq (tgt := 19) hx hb dX6_size_12 (by decide) (fun h_6 => ?_) (fun h_6 => ?_)
    · have hf := in_ (bI_0 h_6) hf
      refine lv_iconst (v := 1) hx hb dX6_size_19 (by decide) ?_
      exact bl_20  s_0 g_now g_diary x1 x2 1 _ _ hf hP hD hS ls (lv_sub hl [0, 1, 2] rfl)
    · have hf := ip_ (bI_n0 h_6) hf
      refine lv_iconst (v := 0) hx hb dX6_size_15 (by decide) ?_
      refine lv_goto (tgt := 20) hx hb dX6_size_16 (by decide) ?_
      exact bl_20  s_0 g_now g_diary x1 x2 0 _ _ hf hP hD hS ls (lv_sub hl [0, 1, 2] rfl)
set_option maxHeartbeats 4000000 in
set_option maxRecDepth 100000 in
theorem c_X6_flip {l : Launch} (G : va_G) (cy : Nat → ClassId) (a_0 : Nat) (a_text : Nat) (a_now : Nat) (a_trial : Nat) (a_diary : Nat) (a_kept : Nat) (a_isKept : Nat) (a_seen : Nat) (a_equations : Nat) (a_wanted : Nat) (sz : Nat) (s_0 : MT) (g_now : Nat → Int64) (g_diary : Nat → Int64) (x1 : Int32) (n : Nat) (R : Int32 × MT × (Nat → Int64) × (Nat → Int64)) (hf : f_X6_flip n s_0 g_now g_diary x1 = some R) : Met l yX6_flip wsX6_flip ({ frames := 2, cells := 0, slots := 0, locals := 46 } : Room) (va_Pc [.ref a_0, .int x1] (pcW G cy [(a_0, mv a_text a_now a_trial a_diary a_kept a_isKept a_seen a_equations a_wanted s_0), (a_now, av_J cy 11 g_now), (a_diary, av_J cy 154 g_diary)] sz)) (va_Qi (fun r (_ : Unit) => r = R.1) (fun _ t => Wd G cy (va_A [(a_0, mv a_text a_now a_trial a_diary a_kept a_isKept a_seen a_equations a_wanted s_0), (a_now, av_J cy 11 g_now), (a_diary, av_J cy 154 g_diary)] sz) [(a_0, mv a_text a_now a_trial a_diary a_kept a_isKept a_seen a_equations a_wanted R.2.1), (a_now, av_J cy 11 R.2.2.1), (a_diary, av_J cy 154 R.2.2.2)] t) (va_A [(a_0, mv a_text a_now a_trial a_diary a_kept a_isKept a_seen a_equations a_wanted s_0), (a_now, av_J cy 11 g_now), (a_diary, av_J cy 154 g_diary)] sz)) 0 0 (va_A [(a_0, mv a_text a_now a_trial a_diary a_kept a_isKept a_seen a_equations a_wanted s_0), (a_now, av_J cy 11 g_now), (a_diary, av_J cy 154 g_diary)] sz) := by
  refine Met.ofW (cc := cX6_flip) (maxL := 2) (ret := (some .int)) (by decide) rfl ?_
  intro p e s m args below meth c s₁ B hml hv
  obtain ⟨rfl, hsz, hP, hK, hD0, hN⟩ := hv
  have hx := B.exec
  have hb := B.bytes
  have hr := B.returns
  have hts := atoms_spec (ws := wsX6_flip) B.pre
  have hown : s.vm.findClass RX6 = some m.cls := findClass_of_methodNamed B.named
  have hlocks := B.notSynchronized
  subst hsz
  have hD := hD0.self (sz := s.heap.size)
  generalize hAe : va_A [(a_0, mv a_text a_now a_trial a_diary a_kept a_isKept a_seen a_equations a_wanted s_0), (a_now, av_J cy 11 g_now), (a_diary, av_J cy 154 g_diary)] s.heap.size = A at hD ⊢
  have hA : ∀ q : Nat, s.heap.size ≤ q → A q := fun q h => by rw [← hAe]; exact Or.inr h
  have hS : va_S A s.heap s.heap [] := va_S.rf
  have hP : va_P G vwCl [(a_0, mv a_text a_now a_trial a_diary a_kept a_isKept a_seen a_equations a_wanted s_0), (a_now, av_J cy 11 g_now), (a_diary, av_J cy 154 g_diary)] s.heap := hP
  have hl := lv_entry [.ref a_0, .int x1] (n := 2) (Nat.le_of_ble_eq_true rfl)
  rw [lg_entry_eq]
  generalize (lg_sl [.ref a_0, .int x1] ++ List.replicate (2 - (lg_sl [.ref a_0, .int x1]).length) Slot.unset).toArray = ls at hl ⊢
  have hl : lv_has ls 2 [(0, .ref a_0), (1, .int x1)] := hl
  unfold f_X6_flip at hf
  refine lv_aload_n hx hb dX6_flip_0 rfl (lv_at hl 0 rfl) ?_
  refine lv_aload_n hx hb dX6_flip_1 rfl (lv_at hl 0 rfl) ?_
  refine va_get (D := G) (ci := 6) (v := .ref a_now) (C := RX6) (T := TX6) (N := 15) hx hb hts iw_X6_flip_X6 hown hK hP 0 rfl rfl 3 (by decide) (hts (.fieldLink RX6 13 "PaneFrostModel" "now" "[J") (by decide +kernel)) (fun _ h9 => h9) rfl dX6_flip_2 ?_
  refine lv_iload_n hx hb dX6_flip_5 rfl (lv_at hl 1 rfl) ?_
  refine kc_i (w1 := [(a_now, av_J cy 11 g_now)]) (wr := [(a_0, mv a_text a_now a_trial a_diary a_kept a_isKept a_seen a_equations a_wanted s_0), (a_diary, av_J cy 154 g_diary)]) hP hD hS hA [1] [0, 2] rfl rfl rfl (by decide) (va_runS (As := [.ref a_now, .int x1]) (rest := [.ref a_0]) ⟨hx, hb, hml, hown, hts⟩ (c_X6_isCell (l := l) G cy a_now s.heap.size g_now x1  (f_X6_isCell g_now x1) rfl) (va_cwS 2 hts gX6_flip_X6_isCell rfl rfl rfl ddN_X6_isCell ⟨Nat.le_of_ble_eq_true rfl, Nat.le_of_ble_eq_true rfl⟩) (preS_ (hP.sub (ws' := [(a_now, av_J cy 11 g_now)]) [1] rfl) hK (hD.sub (ws' := [(a_now, av_J cy 11 g_now)]) [1] rfl rfl) hN) rfl rfl hl.1 rfl (lv_room (Nat.le_of_ble_eq_true rfl)) dX6_flip_6 ⟨Nat.le_of_ble_eq_true rfl, Nat.le_of_ble_eq_true rfl⟩) (fun H locs hP hD hS => ?_)
  have hP : va_P G vwCl [(a_0, mv a_text a_now a_trial a_diary a_kept a_isKept a_seen a_equations a_wanted s_0), (a_diary, av_J cy 154 g_diary), (a_now, av_J cy 11 g_now)] H := hP
  have hD : va_D A [(a_0, mv a_text a_now a_trial a_diary a_kept a_isKept a_seen a_equations a_wanted s_0), (a_diary, av_J cy 154 g_diary), (a_now, av_J cy 11 g_now)] := hD
  refine lv_if_eq (tgt := 16) hx hb dX6_flip_9 (by decide) (fun h_1 => ?_) (fun h_1 => ?_)
  · have hf := in_ (bI_0 h_1) hf
    refine lv_iconst (v := 1) hx hb dX6_flip_16 (by decide) ?_
    obtain ⟨r_2, hh_r_2⟩ : ∃ z, z = f_X6_refused s_0 1 := ⟨_, rfl⟩
    have hf := lt_e hh_r_2 hf
    refine kc_i (w1 := [(a_0, mv a_text a_now a_trial a_diary a_kept a_isKept a_seen a_equations a_wanted r_2.2)]) (wr := [(a_diary, av_J cy 154 g_diary), (a_now, av_J cy 11 g_now)]) hP hD hS hA [0] [1, 2] rfl rfl rfl (by decide) (va_runV (As := [.int 1]) (rest := []) ⟨hx, hb, hml, hown, hts⟩ (c_X6_refused (l := l) G cy a_0 a_text a_now a_trial a_diary a_kept a_isKept a_seen a_equations a_wanted H.size s_0 1  r_2 hh_r_2.symm) (cwV 1 hts gX6_flip_X6_refused rfl rfl rfl ddV_X6_refused ⟨Nat.le_of_ble_eq_true rfl, Nat.le_of_ble_eq_true rfl⟩) (preV_ (ci := 6) (q0 := 0) rfl rfl (hP.sub (ws' := [(a_0, mv a_text a_now a_trial a_diary a_kept a_isKept a_seen a_equations a_wanted s_0)]) [0] rfl) hK (hD.sub (ws' := [(a_0, mv a_text a_now a_trial a_diary a_kept a_isKept a_seen a_equations a_wanted s_0)]) [0] rfl rfl) hN) rfl rfl hl.1 rfl (lv_room (Nat.le_of_ble_eq_true rfl)) dX6_flip_17 ⟨Nat.le_of_ble_eq_true rfl, Nat.le_of_ble_eq_true rfl⟩) (fun H locs hP hD hS => ?_)
    have hP : va_P G vwCl [(a_diary, av_J cy 154 g_diary), (a_now, av_J cy 11 g_now), (a_0, mv a_text a_now a_trial a_diary a_kept a_isKept a_seen a_equations a_wanted r_2.2)] H := hP
    have hD : va_D A [(a_diary, av_J cy 154 g_diary), (a_now, av_J cy 11 g_now), (a_0, mv a_text a_now a_trial a_diary a_kept a_isKept a_seen a_equations a_wanted r_2.2)] := hD
    refine lv_if_eq (tgt := 25) hx hb dX6_flip_20 (by decide) (fun h_3 => ?_) (fun h_3 => ?_)
    · have hf := in_ (bI_0 h_3) hf
      refine lv_aload_n hx hb dX6_flip_25 rfl (lv_at hl 0 rfl) ?_
      obtain ⟨r_4, hh_r_4, hf⟩ := obd_some hf
      refine kc_v (w1 := [(a_0, mv a_text a_now a_trial a_diary a_kept a_isKept a_seen a_equations a_wanted r_4.1), (a_now, av_J cy 11 g_now), (a_diary, av_J cy 154 r_4.2)]) (wr := []) hP hD hS hA [2, 1, 0] [] rfl rfl rfl (by decide) (va_runV (As := []) (rest := []) ⟨hx, hb, hml, hown, hts⟩ (c_X6_remember (l := l) G cy a_0 a_text a_now a_trial a_diary a_kept a_isKept a_seen a_equations a_wanted H.size r_2.2 g_now g_diary n r_4 hh_r_4) (cwV 0 hts gX6_flip_X6_remember rfl rfl rfl ddV_X6_remember ⟨Nat.le_of_ble_eq_true rfl, Nat.le_of_ble_eq_true rfl⟩) (preV_ (ci := 6) (q0 := 0) rfl rfl (hP.sub (ws' := [(a_0, mv a_text a_now a_trial a_diary a_kept a_isKept a_seen a_equations a_wanted r_2.2), (a_now, av_J cy 11 g_now), (a_diary, av_J cy 154 g_diary)]) [2, 1, 0] rfl) hK (hD.sub (ws' := [(a_0, mv a_text a_now a_trial a_diary a_kept a_isKept a_seen a_equations a_wanted r_2.2), (a_now, av_J cy 11 g_now), (a_diary, av_J cy 154 g_diary)]) [2, 1, 0] rfl rfl) hN) rfl rfl hl.1 rfl (lv_room (Nat.le_of_ble_eq_true rfl)) dX6_flip_26 ⟨Nat.le_of_ble_eq_true rfl, Nat.le_of_ble_eq_true rfl⟩) (fun H locs hP hD hS => ?_)
      have hP : va_P G vwCl [(a_0, mv a_text a_now a_trial a_diary a_kept a_isKept a_seen a_equations a_wanted r_4.1), (a_now, av_J cy 11 g_now), (a_diary, av_J cy 154 r_4.2)] H := hP
      have hD : va_D A [(a_0, mv a_text a_now a_trial a_diary a_kept a_isKept a_seen a_equations a_wanted r_4.1), (a_now, av_J cy 11 g_now), (a_diary, av_J cy 154 r_4.2)] := hD
      refine lv_aload_n hx hb dX6_flip_29 rfl (lv_at hl 0 rfl) ?_
      refine va_get (D := G) (ci := 6) (v := .ref a_now) (C := RX6) (T := TX6) (N := 15) hx hb hts iw_X6_flip_X6 hown hK hP 0 rfl rfl 3 (by decide) (hts (.fieldLink RX6 13 "PaneFrostModel" "now" "[J") (by decide +kernel)) (fun _ h9 => h9) rfl dX6_flip_30 ?_
      refine lv_iload_n hx hb dX6_flip_33 rfl (lv_at hl 1 rfl) ?_
      obtain ⟨r_5, hh_r_5⟩ : ∃ z, z = f_X6_flipOn g_now x1 := ⟨_, rfl⟩
      have hf := lt_e hh_r_5 hf
      refine kc_i (w1 := [(a_now, av_J cy 11 r_5.2)]) (wr := [(a_0, mv a_text a_now a_trial a_diary a_kept a_isKept a_seen a_equations a_wanted r_4.1), (a_diary, av_J cy 154 r_4.2)]) hP hD hS hA [1] [0, 2] rfl rfl rfl (by decide) (va_runS (As := [.ref a_now, .int x1]) (rest := []) ⟨hx, hb, hml, hown, hts⟩ (c_X6_flipOn (l := l) G cy a_now H.size g_now x1  r_5 hh_r_5.symm) (va_cwS 2 hts gX6_flip_X6_flipOn rfl rfl rfl ddN_X6_flipOn ⟨Nat.le_of_ble_eq_true rfl, Nat.le_of_ble_eq_true rfl⟩) (preS_ (hP.sub (ws' := [(a_now, av_J cy 11 g_now)]) [1] rfl) hK (hD.sub (ws' := [(a_now, av_J cy 11 g_now)]) [1] rfl rfl) hN) rfl rfl hl.1 rfl (lv_room (Nat.le_of_ble_eq_true rfl)) dX6_flip_34 ⟨Nat.le_of_ble_eq_true rfl, Nat.le_of_ble_eq_true rfl⟩) (fun H locs hP hD hS => ?_)
      have hP : va_P G vwCl [(a_0, mv a_text a_now a_trial a_diary a_kept a_isKept a_seen a_equations a_wanted r_4.1), (a_diary, av_J cy 154 r_4.2), (a_now, av_J cy 11 r_5.2)] H := hP
      have hD : va_D A [(a_0, mv a_text a_now a_trial a_diary a_kept a_isKept a_seen a_equations a_wanted r_4.1), (a_diary, av_J cy 154 r_4.2), (a_now, av_J cy 11 r_5.2)] := hD
      obtain rfl := Option.some.inj hf
      exact kr_i hx hb hr hlocks rfl (hP.sub (ws' := [(a_0, mv a_text a_now a_trial a_diary a_kept a_isKept a_seen a_equations a_wanted r_4.1), (a_now, av_J cy 11 r_5.2), (a_diary, av_J cy 154 r_4.2)]) [0, 2, 1] rfl) hK (hD.sub (ws' := [(a_0, mv a_text a_now a_trial a_diary a_kept a_isKept a_seen a_equations a_wanted r_4.1), (a_now, av_J cy 11 r_5.2), (a_diary, av_J cy 154 r_4.2)]) [0, 2, 1] rfl rfl) hN hS hS.2.2 dX6_flip_37
    · have hf := ip_ (bI_n0 h_3) hf
      refine lv_iconst (v := 0) hx hb dX6_flip_23 (by decide) ?_
      obtain rfl := Option.some.inj hf
      exact kr_i hx hb hr hlocks rfl (hP.sub (ws' := [(a_0, mv a_text a_now a_trial a_diary a_kept a_isKept a_seen a_equations a_wanted r_2.2), (a_now, av_J cy 11 g_now), (a_diary, av_J cy 154 g_diary)]) [2, 1, 0] rfl) hK (hD.sub (ws' := [(a_0, mv a_text a_now a_trial a_diary a_kept a_isKept a_seen a_equations a_wanted r_2.2), (a_now, av_J cy 11 g_now), (a_diary, av_J cy 154 g_diary)]) [2, 1, 0] rfl rfl) hN hS hS.2.2 dX6_flip_24
  · have hf := ip_ (bI_n0 h_1) hf
    refine lv_iconst (v := 0) hx hb dX6_flip_12 (by decide) ?_
    refine lv_goto (tgt := 17) hx hb dX6_flip_13 (by decide) ?_
    obtain ⟨r_6, hh_r_6⟩ : ∃ z, z = f_X6_refused s_0 0 := ⟨_, rfl⟩
    have hf := lt_e hh_r_6 hf
    refine kc_i (w1 := [(a_0, mv a_text a_now a_trial a_diary a_kept a_isKept a_seen a_equations a_wanted r_6.2)]) (wr := [(a_diary, av_J cy 154 g_diary), (a_now, av_J cy 11 g_now)]) hP hD hS hA [0] [1, 2] rfl rfl rfl (by decide) (va_runV (As := [.int 0]) (rest := []) ⟨hx, hb, hml, hown, hts⟩ (c_X6_refused (l := l) G cy a_0 a_text a_now a_trial a_diary a_kept a_isKept a_seen a_equations a_wanted H.size s_0 0  r_6 hh_r_6.symm) (cwV 1 hts gX6_flip_X6_refused rfl rfl rfl ddV_X6_refused ⟨Nat.le_of_ble_eq_true rfl, Nat.le_of_ble_eq_true rfl⟩) (preV_ (ci := 6) (q0 := 0) rfl rfl (hP.sub (ws' := [(a_0, mv a_text a_now a_trial a_diary a_kept a_isKept a_seen a_equations a_wanted s_0)]) [0] rfl) hK (hD.sub (ws' := [(a_0, mv a_text a_now a_trial a_diary a_kept a_isKept a_seen a_equations a_wanted s_0)]) [0] rfl rfl) hN) rfl rfl hl.1 rfl (lv_room (Nat.le_of_ble_eq_true rfl)) dX6_flip_17 ⟨Nat.le_of_ble_eq_true rfl, Nat.le_of_ble_eq_true rfl⟩) (fun H locs hP hD hS => ?_)
    have hP : va_P G vwCl [(a_diary, av_J cy 154 g_diary), (a_now, av_J cy 11 g_now), (a_0, mv a_text a_now a_trial a_diary a_kept a_isKept a_seen a_equations a_wanted r_6.2)] H := hP
    have hD : va_D A [(a_diary, av_J cy 154 g_diary), (a_now, av_J cy 11 g_now), (a_0, mv a_text a_now a_trial a_diary a_kept a_isKept a_seen a_equations a_wanted r_6.2)] := hD
    refine lv_if_eq (tgt := 25) hx hb dX6_flip_20 (by decide) (fun h_7 => ?_) (fun h_7 => ?_)
    · have hf := in_ (bI_0 h_7) hf
      refine lv_aload_n hx hb dX6_flip_25 rfl (lv_at hl 0 rfl) ?_
      obtain ⟨r_8, hh_r_8, hf⟩ := obd_some hf
      refine kc_v (w1 := [(a_0, mv a_text a_now a_trial a_diary a_kept a_isKept a_seen a_equations a_wanted r_8.1), (a_now, av_J cy 11 g_now), (a_diary, av_J cy 154 r_8.2)]) (wr := []) hP hD hS hA [2, 1, 0] [] rfl rfl rfl (by decide) (va_runV (As := []) (rest := []) ⟨hx, hb, hml, hown, hts⟩ (c_X6_remember (l := l) G cy a_0 a_text a_now a_trial a_diary a_kept a_isKept a_seen a_equations a_wanted H.size r_6.2 g_now g_diary n r_8 hh_r_8) (cwV 0 hts gX6_flip_X6_remember rfl rfl rfl ddV_X6_remember ⟨Nat.le_of_ble_eq_true rfl, Nat.le_of_ble_eq_true rfl⟩) (preV_ (ci := 6) (q0 := 0) rfl rfl (hP.sub (ws' := [(a_0, mv a_text a_now a_trial a_diary a_kept a_isKept a_seen a_equations a_wanted r_6.2), (a_now, av_J cy 11 g_now), (a_diary, av_J cy 154 g_diary)]) [2, 1, 0] rfl) hK (hD.sub (ws' := [(a_0, mv a_text a_now a_trial a_diary a_kept a_isKept a_seen a_equations a_wanted r_6.2), (a_now, av_J cy 11 g_now), (a_diary, av_J cy 154 g_diary)]) [2, 1, 0] rfl rfl) hN) rfl rfl hl.1 rfl (lv_room (Nat.le_of_ble_eq_true rfl)) dX6_flip_26 ⟨Nat.le_of_ble_eq_true rfl, Nat.le_of_ble_eq_true rfl⟩) (fun H locs hP hD hS => ?_)
      have hP : va_P G vwCl [(a_0, mv a_text a_now a_trial a_diary a_kept a_isKept a_seen a_equations a_wanted r_8.1), (a_now, av_J cy 11 g_now), (a_diary, av_J cy 154 r_8.2)] H := hP
      have hD : va_D A [(a_0, mv a_text a_now a_trial a_diary a_kept a_isKept a_seen a_equations a_wanted r_8.1), (a_now, av_J cy 11 g_now), (a_diary, av_J cy 154 r_8.2)] := hD
      refine lv_aload_n hx hb dX6_flip_29 rfl (lv_at hl 0 rfl) ?_
      refine va_get (D := G) (ci := 6) (v := .ref a_now) (C := RX6) (T := TX6) (N := 15) hx hb hts iw_X6_flip_X6 hown hK hP 0 rfl rfl 3 (by decide) (hts (.fieldLink RX6 13 "PaneFrostModel" "now" "[J") (by decide +kernel)) (fun _ h9 => h9) rfl dX6_flip_30 ?_
      refine lv_iload_n hx hb dX6_flip_33 rfl (lv_at hl 1 rfl) ?_
      obtain ⟨r_9, hh_r_9⟩ : ∃ z, z = f_X6_flipOn g_now x1 := ⟨_, rfl⟩
      have hf := lt_e hh_r_9 hf
      refine kc_i (w1 := [(a_now, av_J cy 11 r_9.2)]) (wr := [(a_0, mv a_text a_now a_trial a_diary a_kept a_isKept a_seen a_equations a_wanted r_8.1), (a_diary, av_J cy 154 r_8.2)]) hP hD hS hA [1] [0, 2] rfl rfl rfl (by decide) (va_runS (As := [.ref a_now, .int x1]) (rest := []) ⟨hx, hb, hml, hown, hts⟩ (c_X6_flipOn (l := l) G cy a_now H.size g_now x1  r_9 hh_r_9.symm) (va_cwS 2 hts gX6_flip_X6_flipOn rfl rfl rfl ddN_X6_flipOn ⟨Nat.le_of_ble_eq_true rfl, Nat.le_of_ble_eq_true rfl⟩) (preS_ (hP.sub (ws' := [(a_now, av_J cy 11 g_now)]) [1] rfl) hK (hD.sub (ws' := [(a_now, av_J cy 11 g_now)]) [1] rfl rfl) hN) rfl rfl hl.1 rfl (lv_room (Nat.le_of_ble_eq_true rfl)) dX6_flip_34 ⟨Nat.le_of_ble_eq_true rfl, Nat.le_of_ble_eq_true rfl⟩) (fun H locs hP hD hS => ?_)
      have hP : va_P G vwCl [(a_0, mv a_text a_now a_trial a_diary a_kept a_isKept a_seen a_equations a_wanted r_8.1), (a_diary, av_J cy 154 r_8.2), (a_now, av_J cy 11 r_9.2)] H := hP
      have hD : va_D A [(a_0, mv a_text a_now a_trial a_diary a_kept a_isKept a_seen a_equations a_wanted r_8.1), (a_diary, av_J cy 154 r_8.2), (a_now, av_J cy 11 r_9.2)] := hD
      obtain rfl := Option.some.inj hf
      exact kr_i hx hb hr hlocks rfl (hP.sub (ws' := [(a_0, mv a_text a_now a_trial a_diary a_kept a_isKept a_seen a_equations a_wanted r_8.1), (a_now, av_J cy 11 r_9.2), (a_diary, av_J cy 154 r_8.2)]) [0, 2, 1] rfl) hK (hD.sub (ws' := [(a_0, mv a_text a_now a_trial a_diary a_kept a_isKept a_seen a_equations a_wanted r_8.1), (a_now, av_J cy 11 r_9.2), (a_diary, av_J cy 154 r_8.2)]) [0, 2, 1] rfl rfl) hN hS hS.2.2 dX6_flip_37
    · have hf := ip_ (bI_n0 h_7) hf
      refine lv_iconst (v := 0) hx hb dX6_flip_23 (by decide) ?_
      obtain rfl := Option.some.inj hf
      exact kr_i hx hb hr hlocks rfl (hP.sub (ws' := [(a_0, mv a_text a_now a_trial a_diary a_kept a_isKept a_seen a_equations a_wanted r_6.2), (a_now, av_J cy 11 g_now), (a_diary, av_J cy 154 g_diary)]) [2, 1, 0] rfl) hK (hD.sub (ws' := [(a_0, mv a_text a_now a_trial a_diary a_kept a_isKept a_seen a_equations a_wanted r_6.2), (a_now, av_J cy 11 g_now), (a_diary, av_J cy 154 g_diary)]) [2, 1, 0] rfl rfl) hN hS hS.2.2 dX6_flip_24
set_option maxHeartbeats 4000000 in
set_option maxRecDepth 100000 in
theorem c_X6_scratch {l : Launch} (G : va_G) (cy : Nat → ClassId) (a_0 : Nat) (a_text : Nat) (a_now : Nat) (a_trial : Nat) (a_diary : Nat) (a_kept : Nat) (a_isKept : Nat) (a_seen : Nat) (a_equations : Nat) (a_wanted : Nat) (sz : Nat) (s_0 : MT) (g_now : Nat → Int64) (g_diary : Nat → Int64) (x1 : Int32) (x2 : Int32) (n : Nat) (R : Int32 × MT × (Nat → Int64) × (Nat → Int64)) (hf : f_X6_scratch n s_0 g_now g_diary x1 x2 = some R) : Met l yX6_scratch wsX6_scratch ({ frames := 5, cells := 0, slots := 0, locals := 115 } : Room) (va_Pc [.ref a_0, .int x1, .int x2] (pcW G cy [(a_0, mv a_text a_now a_trial a_diary a_kept a_isKept a_seen a_equations a_wanted s_0), (a_now, av_J cy 11 g_now), (a_diary, av_J cy 154 g_diary)] sz)) (va_Qi (fun r (_ : Unit) => r = R.1) (fun _ t => Wd G cy (va_A [(a_0, mv a_text a_now a_trial a_diary a_kept a_isKept a_seen a_equations a_wanted s_0), (a_now, av_J cy 11 g_now), (a_diary, av_J cy 154 g_diary)] sz) [(a_0, mv a_text a_now a_trial a_diary a_kept a_isKept a_seen a_equations a_wanted R.2.1), (a_now, av_J cy 11 R.2.2.1), (a_diary, av_J cy 154 R.2.2.2)] t) (va_A [(a_0, mv a_text a_now a_trial a_diary a_kept a_isKept a_seen a_equations a_wanted s_0), (a_now, av_J cy 11 g_now), (a_diary, av_J cy 154 g_diary)] sz)) 0 0 (va_A [(a_0, mv a_text a_now a_trial a_diary a_kept a_isKept a_seen a_equations a_wanted s_0), (a_now, av_J cy 11 g_now), (a_diary, av_J cy 154 g_diary)] sz) := by
  refine Met.ofW (cc := cX6_scratch) (maxL := 3) (ret := (some .int)) (by decide) rfl ?_
  intro p e s m args below meth c s₁ B hml hv
  obtain ⟨rfl, hsz, hP, hK, hD0, hN⟩ := hv
  have hx := B.exec
  have hb := B.bytes
  have hr := B.returns
  have hts := atoms_spec (ws := wsX6_scratch) B.pre
  have hown : s.vm.findClass RX6 = some m.cls := findClass_of_methodNamed B.named
  have hlocks := B.notSynchronized
  subst hsz
  have hD := hD0.self (sz := s.heap.size)
  generalize hAe : va_A [(a_0, mv a_text a_now a_trial a_diary a_kept a_isKept a_seen a_equations a_wanted s_0), (a_now, av_J cy 11 g_now), (a_diary, av_J cy 154 g_diary)] s.heap.size = A at hD ⊢
  have hA : ∀ q : Nat, s.heap.size ≤ q → A q := fun q h => by rw [← hAe]; exact Or.inr h
  have hS : va_S A s.heap s.heap [] := va_S.rf
  have hP : va_P G vwCl [(a_0, mv a_text a_now a_trial a_diary a_kept a_isKept a_seen a_equations a_wanted s_0), (a_now, av_J cy 11 g_now), (a_diary, av_J cy 154 g_diary)] s.heap := hP
  have bl_44 : ∀ (c_s_0 : MT) (c_g_now : Nat → Int64) (c_g_diary : Nat → Int64) (y1 : Int32) (y2 : Int32) (z1 : Int32) (H : Heap) (locs : List Loc), f_X6_scratch_b44 n c_s_0 c_g_now c_g_diary y1 y2 z1 = some R → va_P G vwCl [(a_0, mv a_text a_now a_trial a_diary a_kept a_isKept a_seen a_equations a_wanted c_s_0), (a_now, av_J cy 11 c_g_now), (a_diary, av_J cy 154 c_g_diary)] H → va_D A [(a_0, mv a_text a_now a_trial a_diary a_kept a_isKept a_seen a_equations a_wanted c_s_0), (a_now, av_J cy 11 c_g_now), (a_diary, av_J cy 154 c_g_diary)] → va_S A s.heap H locs → ∀ (ls : Array Slot), lv_has ls 3 [(0, .ref a_0), (1, .int y1), (2, .int y2)] → W p l e ({ frames := 5, cells := 0, slots := 0, locals := 115 } : Room) s m [.ref a_0, .int x1, .int x2].toArray below meth c H locs 0 0 (MQ below (va_Qi (fun r (_ : Unit) => r = R.1) (fun _ t => Wd G cy A [(a_0, mv a_text a_now a_trial a_diary a_kept a_isKept a_seen a_equations a_wanted R.2.1), (a_now, av_J cy 11 R.2.2.1), (a_diary, av_J cy 154 R.2.2.2)] t) A) [.ref a_0, .int x1, .int x2].toArray s 0 0 A) (F0 m 44 ls [.int z1, .ref a_0]) := by
    intro c_s_0 c_g_now c_g_diary y1 y2 z1 H locs hf hP hD hS ls hl
    unfold f_X6_scratch_b44 at hf
    obtain ⟨r_1, hh_r_1⟩ : ∃ z, z = f_X6_refused c_s_0 z1 := ⟨_, rfl⟩
    have hf := lt_e hh_r_1 hf
    refine kc_i (w1 := [(a_0, mv a_text a_now a_trial a_diary a_kept a_isKept a_seen a_equations a_wanted r_1.2)]) (wr := [(a_now, av_J cy 11 c_g_now), (a_diary, av_J cy 154 c_g_diary)]) hP hD hS hA [0] [1, 2] rfl rfl rfl (by decide) (va_runV (As := [.int z1]) (rest := []) ⟨hx, hb, hml, hown, hts⟩ (c_X6_refused (l := l) G cy a_0 a_text a_now a_trial a_diary a_kept a_isKept a_seen a_equations a_wanted H.size c_s_0 z1  r_1 hh_r_1.symm) (cwV 1 hts gX6_scratch_X6_refused rfl rfl rfl ddV_X6_refused ⟨Nat.le_of_ble_eq_true rfl, Nat.le_of_ble_eq_true rfl⟩) (preV_ (ci := 6) (q0 := 0) rfl rfl (hP.sub (ws' := [(a_0, mv a_text a_now a_trial a_diary a_kept a_isKept a_seen a_equations a_wanted c_s_0)]) [0] rfl) hK (hD.sub (ws' := [(a_0, mv a_text a_now a_trial a_diary a_kept a_isKept a_seen a_equations a_wanted c_s_0)]) [0] rfl rfl) hN) rfl rfl hl.1 rfl (lv_room (Nat.le_of_ble_eq_true rfl)) dX6_scratch_44 ⟨Nat.le_of_ble_eq_true rfl, Nat.le_of_ble_eq_true rfl⟩) (fun H locs hP hD hS => ?_)
    have hP : va_P G vwCl [(a_now, av_J cy 11 c_g_now), (a_diary, av_J cy 154 c_g_diary), (a_0, mv a_text a_now a_trial a_diary a_kept a_isKept a_seen a_equations a_wanted r_1.2)] H := hP
    have hD : va_D A [(a_now, av_J cy 11 c_g_now), (a_diary, av_J cy 154 c_g_diary), (a_0, mv a_text a_now a_trial a_diary a_kept a_isKept a_seen a_equations a_wanted r_1.2)] := hD
    refine lv_if_eq (tgt := 52) hx hb dX6_scratch_47 (by decide) (fun h_2 => ?_) (fun h_2 => ?_)
    · have hf := in_ (bI_0 h_2) hf
      refine lv_aload_n hx hb dX6_scratch_52 rfl (lv_at hl 0 rfl) ?_
      obtain ⟨r_3, hh_r_3, hf⟩ := obd_some hf
      refine kc_v (w1 := [(a_0, mv a_text a_now a_trial a_diary a_kept a_isKept a_seen a_equations a_wanted r_3.1), (a_now, av_J cy 11 c_g_now), (a_diary, av_J cy 154 r_3.2)]) (wr := []) hP hD hS hA [2, 0, 1] [] rfl rfl rfl (by decide) (va_runV (As := []) (rest := []) ⟨hx, hb, hml, hown, hts⟩ (c_X6_remember (l := l) G cy a_0 a_text a_now a_trial a_diary a_kept a_isKept a_seen a_equations a_wanted H.size r_1.2 c_g_now c_g_diary n r_3 hh_r_3) (cwV 0 hts gX6_scratch_X6_remember rfl rfl rfl ddV_X6_remember ⟨Nat.le_of_ble_eq_true rfl, Nat.le_of_ble_eq_true rfl⟩) (preV_ (ci := 6) (q0 := 0) rfl rfl (hP.sub (ws' := [(a_0, mv a_text a_now a_trial a_diary a_kept a_isKept a_seen a_equations a_wanted r_1.2), (a_now, av_J cy 11 c_g_now), (a_diary, av_J cy 154 c_g_diary)]) [2, 0, 1] rfl) hK (hD.sub (ws' := [(a_0, mv a_text a_now a_trial a_diary a_kept a_isKept a_seen a_equations a_wanted r_1.2), (a_now, av_J cy 11 c_g_now), (a_diary, av_J cy 154 c_g_diary)]) [2, 0, 1] rfl rfl) hN) rfl rfl hl.1 rfl (lv_room (Nat.le_of_ble_eq_true rfl)) dX6_scratch_53 ⟨Nat.le_of_ble_eq_true rfl, Nat.le_of_ble_eq_true rfl⟩) (fun H locs hP hD hS => ?_)
      have hP : va_P G vwCl [(a_0, mv a_text a_now a_trial a_diary a_kept a_isKept a_seen a_equations a_wanted r_3.1), (a_now, av_J cy 11 c_g_now), (a_diary, av_J cy 154 r_3.2)] H := hP
      have hD : va_D A [(a_0, mv a_text a_now a_trial a_diary a_kept a_isKept a_seen a_equations a_wanted r_3.1), (a_now, av_J cy 11 c_g_now), (a_diary, av_J cy 154 r_3.2)] := hD
      refine lv_aload_n hx hb dX6_scratch_56 rfl (lv_at hl 0 rfl) ?_
      refine va_get (D := G) (ci := 6) (v := .ref a_now) (C := RX6) (T := TX6) (N := 15) hx hb hts iw_X6_scratch_X6 hown hK hP 0 rfl rfl 3 (by decide) (hts (.fieldLink RX6 13 "PaneFrostModel" "now" "[J") (by decide +kernel)) (fun _ h9 => h9) rfl dX6_scratch_57 ?_
      refine lv_iload_n hx hb dX6_scratch_60 rfl (lv_at hl 1 rfl) ?_
      refine lv_iload_n hx hb dX6_scratch_61 rfl (lv_at hl 2 rfl) ?_
      obtain ⟨r_4, hh_r_4, hf⟩ := obd_some hf
      refine kc_i (w1 := [(a_now, av_J cy 11 r_4.2)]) (wr := [(a_0, mv a_text a_now a_trial a_diary a_kept a_isKept a_seen a_equations a_wanted r_3.1), (a_diary, av_J cy 154 r_3.2)]) hP hD hS hA [1] [0, 2] rfl rfl rfl (by decide) (va_runS (As := [.ref a_now, .int y1, .int y2]) (rest := []) ⟨hx, hb, hml, hown, hts⟩ (c_X6_scratchOn (l := l) G cy a_now H.size c_g_now y1 y2  r_4 hh_r_4) (va_cwS 3 hts gX6_scratch_X6_scratchOn rfl rfl rfl ddN_X6_scratchOn ⟨Nat.le_of_ble_eq_true rfl, Nat.le_of_ble_eq_true rfl⟩) (preS_ (hP.sub (ws' := [(a_now, av_J cy 11 c_g_now)]) [1] rfl) hK (hD.sub (ws' := [(a_now, av_J cy 11 c_g_now)]) [1] rfl rfl) hN) rfl rfl hl.1 rfl (lv_room (Nat.le_of_ble_eq_true rfl)) dX6_scratch_62 ⟨Nat.le_of_ble_eq_true rfl, Nat.le_of_ble_eq_true rfl⟩) (fun H locs hP hD hS => ?_)
      have hP : va_P G vwCl [(a_0, mv a_text a_now a_trial a_diary a_kept a_isKept a_seen a_equations a_wanted r_3.1), (a_diary, av_J cy 154 r_3.2), (a_now, av_J cy 11 r_4.2)] H := hP
      have hD : va_D A [(a_0, mv a_text a_now a_trial a_diary a_kept a_isKept a_seen a_equations a_wanted r_3.1), (a_diary, av_J cy 154 r_3.2), (a_now, av_J cy 11 r_4.2)] := hD
      obtain rfl := Option.some.inj hf
      exact kr_i hx hb hr hlocks rfl (hP.sub (ws' := [(a_0, mv a_text a_now a_trial a_diary a_kept a_isKept a_seen a_equations a_wanted r_3.1), (a_now, av_J cy 11 r_4.2), (a_diary, av_J cy 154 r_3.2)]) [0, 2, 1] rfl) hK (hD.sub (ws' := [(a_0, mv a_text a_now a_trial a_diary a_kept a_isKept a_seen a_equations a_wanted r_3.1), (a_now, av_J cy 11 r_4.2), (a_diary, av_J cy 154 r_3.2)]) [0, 2, 1] rfl rfl) hN hS hS.2.2 dX6_scratch_65
    · have hf := ip_ (bI_n0 h_2) hf
      refine lv_iconst (v := 0) hx hb dX6_scratch_50 (by decide) ?_
      obtain rfl := Option.some.inj hf
      exact kr_i hx hb hr hlocks rfl (hP.sub (ws' := [(a_0, mv a_text a_now a_trial a_diary a_kept a_isKept a_seen a_equations a_wanted r_1.2), (a_now, av_J cy 11 c_g_now), (a_diary, av_J cy 154 c_g_diary)]) [2, 0, 1] rfl) hK (hD.sub (ws' := [(a_0, mv a_text a_now a_trial a_diary a_kept a_isKept a_seen a_equations a_wanted r_1.2), (a_now, av_J cy 11 c_g_now), (a_diary, av_J cy 154 c_g_diary)]) [2, 0, 1] rfl rfl) hN hS hS.2.2 dX6_scratch_51
  have hl := lv_entry [.ref a_0, .int x1, .int x2] (n := 3) (Nat.le_of_ble_eq_true rfl)
  rw [lg_entry_eq]
  generalize (lg_sl [.ref a_0, .int x1, .int x2] ++ List.replicate (3 - (lg_sl [.ref a_0, .int x1, .int x2]).length) Slot.unset).toArray = ls at hl ⊢
  have hl : lv_has ls 3 [(0, .ref a_0), (1, .int x1), (2, .int x2)] := hl
  unfold f_X6_scratch at hf
  refine lv_aload_n hx hb dX6_scratch_0 rfl (lv_at hl 0 rfl) ?_
  refine lv_aload_n hx hb dX6_scratch_1 rfl (lv_at hl 0 rfl) ?_
  refine va_get (D := G) (ci := 6) (v := .ref a_now) (C := RX6) (T := TX6) (N := 15) hx hb hts iw_X6_scratch_X6 hown hK hP 0 rfl rfl 3 (by decide) (hts (.fieldLink RX6 13 "PaneFrostModel" "now" "[J") (by decide +kernel)) (fun _ h9 => h9) rfl dX6_scratch_2 ?_
  refine lv_iload_n hx hb dX6_scratch_5 rfl (lv_at hl 1 rfl) ?_
  refine kc_i (w1 := [(a_now, av_J cy 11 g_now)]) (wr := [(a_0, mv a_text a_now a_trial a_diary a_kept a_isKept a_seen a_equations a_wanted s_0), (a_diary, av_J cy 154 g_diary)]) hP hD hS hA [1] [0, 2] rfl rfl rfl (by decide) (va_runS (As := [.ref a_now, .int x1]) (rest := [.ref a_0]) ⟨hx, hb, hml, hown, hts⟩ (c_X6_isCell (l := l) G cy a_now s.heap.size g_now x1  (f_X6_isCell g_now x1) rfl) (va_cwS 2 hts gX6_scratch_X6_isCell rfl rfl rfl ddN_X6_isCell ⟨Nat.le_of_ble_eq_true rfl, Nat.le_of_ble_eq_true rfl⟩) (preS_ (hP.sub (ws' := [(a_now, av_J cy 11 g_now)]) [1] rfl) hK (hD.sub (ws' := [(a_now, av_J cy 11 g_now)]) [1] rfl rfl) hN) rfl rfl hl.1 rfl (lv_room (Nat.le_of_ble_eq_true rfl)) dX6_scratch_6 ⟨Nat.le_of_ble_eq_true rfl, Nat.le_of_ble_eq_true rfl⟩) (fun H locs hP hD hS => ?_)
  have hP : va_P G vwCl [(a_0, mv a_text a_now a_trial a_diary a_kept a_isKept a_seen a_equations a_wanted s_0), (a_diary, av_J cy 154 g_diary), (a_now, av_J cy 11 g_now)] H := hP
  have hD : va_D A [(a_0, mv a_text a_now a_trial a_diary a_kept a_isKept a_seen a_equations a_wanted s_0), (a_diary, av_J cy 154 g_diary), (a_now, av_J cy 11 g_now)] := hD
  refine lv_if_ne (tgt := 16) hx hb dX6_scratch_9 (by decide) (fun h_5 => ?_) (fun h_5 => ?_)
  · have hf := ip_ (bI_n0 h_5) hf
    refine lv_iload_n hx hb dX6_scratch_16 rfl (lv_at hl 2 rfl) ?_
    refine kc_i (w1 := []) (wr := [(a_0, mv a_text a_now a_trial a_diary a_kept a_isKept a_seen a_equations a_wanted s_0), (a_diary, av_J cy 154 g_diary), (a_now, av_J cy 11 g_now)]) hP hD hS hA [] [0, 1, 2] rfl rfl rfl (by decide) (va_runS (As := [.int x2]) (rest := [.ref a_0]) ⟨hx, hb, hml, hown, hts⟩ (c_X6_isDirection (l := l) G cy  H.size x2  (f_X6_isDirection x2) rfl) (va_cwS 1 hts gX6_scratch_X6_isDirection rfl rfl rfl ddN_X6_isDirection ⟨Nat.le_of_ble_eq_true rfl, Nat.le_of_ble_eq_true rfl⟩) (preS_ (hP.sub (ws' := []) [] rfl) hK (hD.sub (ws' := []) [] rfl rfl) hN) rfl rfl hl.1 rfl (lv_room (Nat.le_of_ble_eq_true rfl)) dX6_scratch_17 ⟨Nat.le_of_ble_eq_true rfl, Nat.le_of_ble_eq_true rfl⟩) (fun H locs hP hD hS => ?_)
    have hP : va_P G vwCl [(a_0, mv a_text a_now a_trial a_diary a_kept a_isKept a_seen a_equations a_wanted s_0), (a_diary, av_J cy 154 g_diary), (a_now, av_J cy 11 g_now)] H := hP
    have hD : va_D A [(a_0, mv a_text a_now a_trial a_diary a_kept a_isKept a_seen a_equations a_wanted s_0), (a_diary, av_J cy 154 g_diary), (a_now, av_J cy 11 g_now)] := hD
    refine lv_if_ne (tgt := 27) hx hb dX6_scratch_20 (by decide) (fun h_6 => ?_) (fun h_6 => ?_)
    · have hf := ip_ (bI_n0 h_6) hf
      refine lv_aload_n hx hb dX6_scratch_27 rfl (lv_at hl 0 rfl) ?_
      refine va_get (D := G) (ci := 6) (v := .ref a_now) (C := RX6) (T := TX6) (N := 15) hx hb hts iw_X6_scratch_X6 hown hK hP 0 rfl rfl 3 (by decide) (hts (.fieldLink RX6 13 "PaneFrostModel" "now" "[J") (by decide +kernel)) (fun _ h9 => h9) rfl dX6_scratch_28 ?_
      refine lv_iload_n hx hb dX6_scratch_31 rfl (lv_at hl 1 rfl) ?_
      refine lv_iload_n hx hb dX6_scratch_32 rfl (lv_at hl 2 rfl) ?_
      obtain ⟨r_7, hh_r_7, hf⟩ := obd_some hf
      refine kc_i (w1 := [(a_now, av_J cy 11 g_now)]) (wr := [(a_0, mv a_text a_now a_trial a_diary a_kept a_isKept a_seen a_equations a_wanted s_0), (a_diary, av_J cy 154 g_diary)]) hP hD hS hA [2] [0, 1] rfl rfl rfl (by decide) (va_runS (As := [.ref a_now, .int x1, .int x2]) (rest := [.ref a_0]) ⟨hx, hb, hml, hown, hts⟩ (c_X6_canScratch (l := l) G cy a_now H.size g_now x1 x2  r_7 hh_r_7) (va_cwS 3 hts gX6_scratch_X6_canScratch rfl rfl rfl ddN_X6_canScratch ⟨Nat.le_of_ble_eq_true rfl, Nat.le_of_ble_eq_true rfl⟩) (preS_ (hP.sub (ws' := [(a_now, av_J cy 11 g_now)]) [2] rfl) hK (hD.sub (ws' := [(a_now, av_J cy 11 g_now)]) [2] rfl rfl) hN) rfl rfl hl.1 rfl (lv_room (Nat.le_of_ble_eq_true rfl)) dX6_scratch_33 ⟨Nat.le_of_ble_eq_true rfl, Nat.le_of_ble_eq_true rfl⟩) (fun H locs hP hD hS => ?_)
      have hP : va_P G vwCl [(a_0, mv a_text a_now a_trial a_diary a_kept a_isKept a_seen a_equations a_wanted s_0), (a_diary, av_J cy 154 g_diary), (a_now, av_J cy 11 g_now)] H := hP
      have hD : va_D A [(a_0, mv a_text a_now a_trial a_diary a_kept a_isKept a_seen a_equations a_wanted s_0), (a_diary, av_J cy 154 g_diary), (a_now, av_J cy 11 g_now)] := hD
      refine lv_if_eq (tgt := 43) hx hb dX6_scratch_36 (by decide) (fun h_8 => ?_) (fun h_8 => ?_)
      · have hf := in_ (bI_0 h_8) hf
        refine lv_iconst (v := 3) hx hb dX6_scratch_43 (by decide) ?_
        exact bl_44  s_0 g_now g_diary x1 x2 3 _ _ hf (hP.sub (ws' := [(a_0, mv a_text a_now a_trial a_diary a_kept a_isKept a_seen a_equations a_wanted s_0), (a_now, av_J cy 11 g_now), (a_diary, av_J cy 154 g_diary)]) [0, 2, 1] rfl) (hD.sub (ws' := [(a_0, mv a_text a_now a_trial a_diary a_kept a_isKept a_seen a_equations a_wanted s_0), (a_now, av_J cy 11 g_now), (a_diary, av_J cy 154 g_diary)]) [0, 2, 1] rfl rfl) hS ls (lv_sub hl [0, 1, 2] rfl)
      · have hf := ip_ (bI_n0 h_8) hf
        refine lv_iconst (v := 0) hx hb dX6_scratch_39 (by decide) ?_
        refine lv_goto (tgt := 44) hx hb dX6_scratch_40 (by decide) ?_
        exact bl_44  s_0 g_now g_diary x1 x2 0 _ _ hf (hP.sub (ws' := [(a_0, mv a_text a_now a_trial a_diary a_kept a_isKept a_seen a_equations a_wanted s_0), (a_now, av_J cy 11 g_now), (a_diary, av_J cy 154 g_diary)]) [0, 2, 1] rfl) (hD.sub (ws' := [(a_0, mv a_text a_now a_trial a_diary a_kept a_isKept a_seen a_equations a_wanted s_0), (a_now, av_J cy 11 g_now), (a_diary, av_J cy 154 g_diary)]) [0, 2, 1] rfl rfl) hS ls (lv_sub hl [0, 1, 2] rfl)
    · have hf := in_ (bI_0 h_6) hf
      refine lv_iconst (v := 2) hx hb dX6_scratch_23 (by decide) ?_
      refine lv_goto (tgt := 44) hx hb dX6_scratch_24 (by decide) ?_
      exact bl_44  s_0 g_now g_diary x1 x2 2 _ _ hf (hP.sub (ws' := [(a_0, mv a_text a_now a_trial a_diary a_kept a_isKept a_seen a_equations a_wanted s_0), (a_now, av_J cy 11 g_now), (a_diary, av_J cy 154 g_diary)]) [0, 2, 1] rfl) (hD.sub (ws' := [(a_0, mv a_text a_now a_trial a_diary a_kept a_isKept a_seen a_equations a_wanted s_0), (a_now, av_J cy 11 g_now), (a_diary, av_J cy 154 g_diary)]) [0, 2, 1] rfl rfl) hS ls (lv_sub hl [0, 1, 2] rfl)
  · have hf := in_ (bI_0 h_5) hf
    refine lv_iconst (v := 1) hx hb dX6_scratch_12 (by decide) ?_
    refine lv_goto (tgt := 44) hx hb dX6_scratch_13 (by decide) ?_
    exact bl_44  s_0 g_now g_diary x1 x2 1 _ _ hf (hP.sub (ws' := [(a_0, mv a_text a_now a_trial a_diary a_kept a_isKept a_seen a_equations a_wanted s_0), (a_now, av_J cy 11 g_now), (a_diary, av_J cy 154 g_diary)]) [0, 2, 1] rfl) (hD.sub (ws' := [(a_0, mv a_text a_now a_trial a_diary a_kept a_isKept a_seen a_equations a_wanted s_0), (a_now, av_J cy 11 g_now), (a_diary, av_J cy 154 g_diary)]) [0, 2, 1] rfl rfl) hS ls (lv_sub hl [0, 1, 2] rfl)
set_option maxHeartbeats 4000000 in
set_option maxRecDepth 100000 in
theorem c_X6_border {l : Launch} (G : va_G) (cy : Nat → ClassId) (a_0 : Nat) (a_text : Nat) (a_now : Nat) (a_trial : Nat) (a_diary : Nat) (a_kept : Nat) (a_isKept : Nat) (a_seen : Nat) (a_equations : Nat) (a_wanted : Nat) (sz : Nat) (s_0 : MT) (g_now : Nat → Int64) (g_diary : Nat → Int64) (x1 : Int32) (x2 : Int32) (n : Nat) (R : Int32 × MT × (Nat → Int64) × (Nat → Int64)) (hf : f_X6_border n s_0 g_now g_diary x1 x2 = some R) : Met l yX6_border wsX6_border ({ frames := 2, cells := 0, slots := 0, locals := 45 } : Room) (va_Pc [.ref a_0, .int x1, .int x2] (pcW G cy [(a_0, mv a_text a_now a_trial a_diary a_kept a_isKept a_seen a_equations a_wanted s_0), (a_now, av_J cy 11 g_now), (a_diary, av_J cy 154 g_diary)] sz)) (va_Qi (fun r (_ : Unit) => r = R.1) (fun _ t => Wd G cy (va_A [(a_0, mv a_text a_now a_trial a_diary a_kept a_isKept a_seen a_equations a_wanted s_0), (a_now, av_J cy 11 g_now), (a_diary, av_J cy 154 g_diary)] sz) [(a_0, mv a_text a_now a_trial a_diary a_kept a_isKept a_seen a_equations a_wanted R.2.1), (a_now, av_J cy 11 R.2.2.1), (a_diary, av_J cy 154 R.2.2.2)] t) (va_A [(a_0, mv a_text a_now a_trial a_diary a_kept a_isKept a_seen a_equations a_wanted s_0), (a_now, av_J cy 11 g_now), (a_diary, av_J cy 154 g_diary)] sz)) 0 0 (va_A [(a_0, mv a_text a_now a_trial a_diary a_kept a_isKept a_seen a_equations a_wanted s_0), (a_now, av_J cy 11 g_now), (a_diary, av_J cy 154 g_diary)] sz) := by
  refine Met.ofW (cc := cX6_border) (maxL := 3) (ret := (some .int)) (by decide) rfl ?_
  intro p e s m args below meth c s₁ B hml hv
  obtain ⟨rfl, hsz, hP, hK, hD0, hN⟩ := hv
  have hx := B.exec
  have hb := B.bytes
  have hr := B.returns
  have hts := atoms_spec (ws := wsX6_border) B.pre
  have hown : s.vm.findClass RX6 = some m.cls := findClass_of_methodNamed B.named
  have hlocks := B.notSynchronized
  subst hsz
  have hD := hD0.self (sz := s.heap.size)
  generalize hAe : va_A [(a_0, mv a_text a_now a_trial a_diary a_kept a_isKept a_seen a_equations a_wanted s_0), (a_now, av_J cy 11 g_now), (a_diary, av_J cy 154 g_diary)] s.heap.size = A at hD ⊢
  have hA : ∀ q : Nat, s.heap.size ≤ q → A q := fun q h => by rw [← hAe]; exact Or.inr h
  have hS : va_S A s.heap s.heap [] := va_S.rf
  have hP : va_P G vwCl [(a_0, mv a_text a_now a_trial a_diary a_kept a_isKept a_seen a_equations a_wanted s_0), (a_now, av_J cy 11 g_now), (a_diary, av_J cy 154 g_diary)] s.heap := hP
  have hl := lv_entry [.ref a_0, .int x1, .int x2] (n := 3) (Nat.le_of_ble_eq_true rfl)
  rw [lg_entry_eq]
  generalize (lg_sl [.ref a_0, .int x1, .int x2] ++ List.replicate (3 - (lg_sl [.ref a_0, .int x1, .int x2]).length) Slot.unset).toArray = ls at hl ⊢
  have hl : lv_has ls 3 [(0, .ref a_0), (1, .int x1), (2, .int x2)] := hl
  unfold f_X6_border at hf
  refine lv_aload_n hx hb dX6_border_0 rfl (lv_at hl 0 rfl) ?_
  refine lv_iload_n hx hb dX6_border_1 rfl (lv_at hl 1 rfl) ?_
  refine kc_i (w1 := []) (wr := [(a_0, mv a_text a_now a_trial a_diary a_kept a_isKept a_seen a_equations a_wanted s_0), (a_now, av_J cy 11 g_now), (a_diary, av_J cy 154 g_diary)]) hP hD hS hA [] [0, 1, 2] rfl rfl rfl (by decide) (va_runS (As := [.int x1]) (rest := [.ref a_0]) ⟨hx, hb, hml, hown, hts⟩ (c_X6_isDirection (l := l) G cy  s.heap.size x1  (f_X6_isDirection x1) rfl) (va_cwS 1 hts gX6_border_X6_isDirection rfl rfl rfl ddN_X6_isDirection ⟨Nat.le_of_ble_eq_true rfl, Nat.le_of_ble_eq_true rfl⟩) (preS_ (hP.sub (ws' := []) [] rfl) hK (hD.sub (ws' := []) [] rfl rfl) hN) rfl rfl hl.1 rfl (lv_room (Nat.le_of_ble_eq_true rfl)) dX6_border_2 ⟨Nat.le_of_ble_eq_true rfl, Nat.le_of_ble_eq_true rfl⟩) (fun H locs hP hD hS => ?_)
  have hP : va_P G vwCl [(a_0, mv a_text a_now a_trial a_diary a_kept a_isKept a_seen a_equations a_wanted s_0), (a_now, av_J cy 11 g_now), (a_diary, av_J cy 154 g_diary)] H := hP
  have hD : va_D A [(a_0, mv a_text a_now a_trial a_diary a_kept a_isKept a_seen a_equations a_wanted s_0), (a_now, av_J cy 11 g_now), (a_diary, av_J cy 154 g_diary)] := hD
  refine lv_if_eq (tgt := 24) hx hb dX6_border_5 (by decide) (fun h_1 => ?_) (fun h_1 => ?_)
  · have hf := in_ (bI_0 h_1) hf
    refine lv_iconst (v := 1) hx hb dX6_border_24 (by decide) ?_
    obtain ⟨r_2, hh_r_2⟩ : ∃ z, z = f_X6_refused s_0 1 := ⟨_, rfl⟩
    have hf := lt_e hh_r_2 hf
    refine kc_i (w1 := [(a_0, mv a_text a_now a_trial a_diary a_kept a_isKept a_seen a_equations a_wanted r_2.2)]) (wr := [(a_now, av_J cy 11 g_now), (a_diary, av_J cy 154 g_diary)]) hP hD hS hA [0] [1, 2] rfl rfl rfl (by decide) (va_runV (As := [.int 1]) (rest := []) ⟨hx, hb, hml, hown, hts⟩ (c_X6_refused (l := l) G cy a_0 a_text a_now a_trial a_diary a_kept a_isKept a_seen a_equations a_wanted H.size s_0 1  r_2 hh_r_2.symm) (cwV 1 hts gX6_border_X6_refused rfl rfl rfl ddV_X6_refused ⟨Nat.le_of_ble_eq_true rfl, Nat.le_of_ble_eq_true rfl⟩) (preV_ (ci := 6) (q0 := 0) rfl rfl (hP.sub (ws' := [(a_0, mv a_text a_now a_trial a_diary a_kept a_isKept a_seen a_equations a_wanted s_0)]) [0] rfl) hK (hD.sub (ws' := [(a_0, mv a_text a_now a_trial a_diary a_kept a_isKept a_seen a_equations a_wanted s_0)]) [0] rfl rfl) hN) rfl rfl hl.1 rfl (lv_room (Nat.le_of_ble_eq_true rfl)) dX6_border_25 ⟨Nat.le_of_ble_eq_true rfl, Nat.le_of_ble_eq_true rfl⟩) (fun H locs hP hD hS => ?_)
    have hP : va_P G vwCl [(a_now, av_J cy 11 g_now), (a_diary, av_J cy 154 g_diary), (a_0, mv a_text a_now a_trial a_diary a_kept a_isKept a_seen a_equations a_wanted r_2.2)] H := hP
    have hD : va_D A [(a_now, av_J cy 11 g_now), (a_diary, av_J cy 154 g_diary), (a_0, mv a_text a_now a_trial a_diary a_kept a_isKept a_seen a_equations a_wanted r_2.2)] := hD
    refine lv_if_eq (tgt := 33) hx hb dX6_border_28 (by decide) (fun h_3 => ?_) (fun h_3 => ?_)
    · have hf := in_ (bI_0 h_3) hf
      refine lv_aload_n hx hb dX6_border_33 rfl (lv_at hl 0 rfl) ?_
      obtain ⟨r_4, hh_r_4, hf⟩ := obd_some hf
      refine kc_v (w1 := [(a_0, mv a_text a_now a_trial a_diary a_kept a_isKept a_seen a_equations a_wanted r_4.1), (a_now, av_J cy 11 g_now), (a_diary, av_J cy 154 r_4.2)]) (wr := []) hP hD hS hA [2, 0, 1] [] rfl rfl rfl (by decide) (va_runV (As := []) (rest := []) ⟨hx, hb, hml, hown, hts⟩ (c_X6_remember (l := l) G cy a_0 a_text a_now a_trial a_diary a_kept a_isKept a_seen a_equations a_wanted H.size r_2.2 g_now g_diary n r_4 hh_r_4) (cwV 0 hts gX6_border_X6_remember rfl rfl rfl ddV_X6_remember ⟨Nat.le_of_ble_eq_true rfl, Nat.le_of_ble_eq_true rfl⟩) (preV_ (ci := 6) (q0 := 0) rfl rfl (hP.sub (ws' := [(a_0, mv a_text a_now a_trial a_diary a_kept a_isKept a_seen a_equations a_wanted r_2.2), (a_now, av_J cy 11 g_now), (a_diary, av_J cy 154 g_diary)]) [2, 0, 1] rfl) hK (hD.sub (ws' := [(a_0, mv a_text a_now a_trial a_diary a_kept a_isKept a_seen a_equations a_wanted r_2.2), (a_now, av_J cy 11 g_now), (a_diary, av_J cy 154 g_diary)]) [2, 0, 1] rfl rfl) hN) rfl rfl hl.1 rfl (lv_room (Nat.le_of_ble_eq_true rfl)) dX6_border_34 ⟨Nat.le_of_ble_eq_true rfl, Nat.le_of_ble_eq_true rfl⟩) (fun H locs hP hD hS => ?_)
      have hP : va_P G vwCl [(a_0, mv a_text a_now a_trial a_diary a_kept a_isKept a_seen a_equations a_wanted r_4.1), (a_now, av_J cy 11 g_now), (a_diary, av_J cy 154 r_4.2)] H := hP
      have hD : va_D A [(a_0, mv a_text a_now a_trial a_diary a_kept a_isKept a_seen a_equations a_wanted r_4.1), (a_now, av_J cy 11 g_now), (a_diary, av_J cy 154 r_4.2)] := hD
      refine lv_aload_n hx hb dX6_border_37 rfl (lv_at hl 0 rfl) ?_
      refine va_get (D := G) (ci := 6) (v := .ref a_now) (C := RX6) (T := TX6) (N := 15) hx hb hts iw_X6_border_X6 hown hK hP 0 rfl rfl 3 (by decide) (hts (.fieldLink RX6 13 "PaneFrostModel" "now" "[J") (by decide +kernel)) (fun _ h9 => h9) rfl dX6_border_38 ?_
      refine lv_iload_n hx hb dX6_border_41 rfl (lv_at hl 1 rfl) ?_
      refine lv_iload_n hx hb dX6_border_42 rfl (lv_at hl 2 rfl) ?_
      obtain ⟨r_5, hh_r_5, hf⟩ := obd_some hf
      refine kc_i (w1 := [(a_now, av_J cy 11 r_5.2)]) (wr := [(a_0, mv a_text a_now a_trial a_diary a_kept a_isKept a_seen a_equations a_wanted r_4.1), (a_diary, av_J cy 154 r_4.2)]) hP hD hS hA [1] [0, 2] rfl rfl rfl (by decide) (va_runS (As := [.ref a_now, .int x1, .int x2]) (rest := []) ⟨hx, hb, hml, hown, hts⟩ (c_X6_borderOn (l := l) G cy a_now H.size g_now x1 x2  r_5 hh_r_5) (va_cwS 3 hts gX6_border_X6_borderOn rfl rfl rfl ddN_X6_borderOn ⟨Nat.le_of_ble_eq_true rfl, Nat.le_of_ble_eq_true rfl⟩) (preS_ (hP.sub (ws' := [(a_now, av_J cy 11 g_now)]) [1] rfl) hK (hD.sub (ws' := [(a_now, av_J cy 11 g_now)]) [1] rfl rfl) hN) rfl rfl hl.1 rfl (lv_room (Nat.le_of_ble_eq_true rfl)) dX6_border_43 ⟨Nat.le_of_ble_eq_true rfl, Nat.le_of_ble_eq_true rfl⟩) (fun H locs hP hD hS => ?_)
      have hP : va_P G vwCl [(a_0, mv a_text a_now a_trial a_diary a_kept a_isKept a_seen a_equations a_wanted r_4.1), (a_diary, av_J cy 154 r_4.2), (a_now, av_J cy 11 r_5.2)] H := hP
      have hD : va_D A [(a_0, mv a_text a_now a_trial a_diary a_kept a_isKept a_seen a_equations a_wanted r_4.1), (a_diary, av_J cy 154 r_4.2), (a_now, av_J cy 11 r_5.2)] := hD
      obtain rfl := Option.some.inj hf
      exact kr_i hx hb hr hlocks rfl (hP.sub (ws' := [(a_0, mv a_text a_now a_trial a_diary a_kept a_isKept a_seen a_equations a_wanted r_4.1), (a_now, av_J cy 11 r_5.2), (a_diary, av_J cy 154 r_4.2)]) [0, 2, 1] rfl) hK (hD.sub (ws' := [(a_0, mv a_text a_now a_trial a_diary a_kept a_isKept a_seen a_equations a_wanted r_4.1), (a_now, av_J cy 11 r_5.2), (a_diary, av_J cy 154 r_4.2)]) [0, 2, 1] rfl rfl) hN hS hS.2.2 dX6_border_46
    · have hf := ip_ (bI_n0 h_3) hf
      refine lv_iconst (v := 0) hx hb dX6_border_31 (by decide) ?_
      obtain rfl := Option.some.inj hf
      exact kr_i hx hb hr hlocks rfl (hP.sub (ws' := [(a_0, mv a_text a_now a_trial a_diary a_kept a_isKept a_seen a_equations a_wanted r_2.2), (a_now, av_J cy 11 g_now), (a_diary, av_J cy 154 g_diary)]) [2, 0, 1] rfl) hK (hD.sub (ws' := [(a_0, mv a_text a_now a_trial a_diary a_kept a_isKept a_seen a_equations a_wanted r_2.2), (a_now, av_J cy 11 g_now), (a_diary, av_J cy 154 g_diary)]) [2, 0, 1] rfl rfl) hN hS hS.2.2 dX6_border_32
  · have hf := ip_ (bI_n0 h_1) hf
    refine lv_iload_n hx hb dX6_border_8 rfl (lv_at hl 2 rfl) ?_
    refine lv_i2l (v := x2.toInt64) hx hb dX6_border_9 rfl ?_
    refine lv_lconst (v := 0) hx hb dX6_border_10 rfl ?_
    refine lv_ldc2 (v := 2) hx hb hown (hts (.constantLong RX6 55 (2)) (by decide +kernel)) dX6_border_11 ?_
    refine kc_i (w1 := []) (wr := [(a_0, mv a_text a_now a_trial a_diary a_kept a_isKept a_seen a_equations a_wanted s_0), (a_now, av_J cy 11 g_now), (a_diary, av_J cy 154 g_diary)]) hP hD hS hA [] [0, 1, 2] rfl rfl rfl (by decide) (va_runS (As := [.long x2.toInt64, .long 0, .long 2]) (rest := [.ref a_0]) ⟨hx, hb, hml, hown, hts⟩ (c_X6_in (l := l) G cy  H.size x2.toInt64 0 2  (f_X6_in x2.toInt64 0 2) rfl) (va_cwS 3 hts gX6_border_X6_in rfl rfl rfl ddN_X6_in ⟨Nat.le_of_ble_eq_true rfl, Nat.le_of_ble_eq_true rfl⟩) (preS_ (hP.sub (ws' := []) [] rfl) hK (hD.sub (ws' := []) [] rfl rfl) hN) rfl rfl hl.1 rfl (lv_room (Nat.le_of_ble_eq_true rfl)) dX6_border_14 ⟨Nat.le_of_ble_eq_true rfl, Nat.le_of_ble_eq_true rfl⟩) (fun H locs hP hD hS => ?_)
    have hP : va_P G vwCl [(a_0, mv a_text a_now a_trial a_diary a_kept a_isKept a_seen a_equations a_wanted s_0), (a_now, av_J cy 11 g_now), (a_diary, av_J cy 154 g_diary)] H := hP
    have hD : va_D A [(a_0, mv a_text a_now a_trial a_diary a_kept a_isKept a_seen a_equations a_wanted s_0), (a_now, av_J cy 11 g_now), (a_diary, av_J cy 154 g_diary)] := hD
    refine lv_if_eq (tgt := 24) hx hb dX6_border_17 (by decide) (fun h_6 => ?_) (fun h_6 => ?_)
    · have hf := in_ (bI_0 h_6) hf
      refine lv_iconst (v := 1) hx hb dX6_border_24 (by decide) ?_
      obtain ⟨r_7, hh_r_7⟩ : ∃ z, z = f_X6_refused s_0 1 := ⟨_, rfl⟩
      have hf := lt_e hh_r_7 hf
      refine kc_i (w1 := [(a_0, mv a_text a_now a_trial a_diary a_kept a_isKept a_seen a_equations a_wanted r_7.2)]) (wr := [(a_now, av_J cy 11 g_now), (a_diary, av_J cy 154 g_diary)]) hP hD hS hA [0] [1, 2] rfl rfl rfl (by decide) (va_runV (As := [.int 1]) (rest := []) ⟨hx, hb, hml, hown, hts⟩ (c_X6_refused (l := l) G cy a_0 a_text a_now a_trial a_diary a_kept a_isKept a_seen a_equations a_wanted H.size s_0 1  r_7 hh_r_7.symm) (cwV 1 hts gX6_border_X6_refused rfl rfl rfl ddV_X6_refused ⟨Nat.le_of_ble_eq_true rfl, Nat.le_of_ble_eq_true rfl⟩) (preV_ (ci := 6) (q0 := 0) rfl rfl (hP.sub (ws' := [(a_0, mv a_text a_now a_trial a_diary a_kept a_isKept a_seen a_equations a_wanted s_0)]) [0] rfl) hK (hD.sub (ws' := [(a_0, mv a_text a_now a_trial a_diary a_kept a_isKept a_seen a_equations a_wanted s_0)]) [0] rfl rfl) hN) rfl rfl hl.1 rfl (lv_room (Nat.le_of_ble_eq_true rfl)) dX6_border_25 ⟨Nat.le_of_ble_eq_true rfl, Nat.le_of_ble_eq_true rfl⟩) (fun H locs hP hD hS => ?_)
      have hP : va_P G vwCl [(a_now, av_J cy 11 g_now), (a_diary, av_J cy 154 g_diary), (a_0, mv a_text a_now a_trial a_diary a_kept a_isKept a_seen a_equations a_wanted r_7.2)] H := hP
      have hD : va_D A [(a_now, av_J cy 11 g_now), (a_diary, av_J cy 154 g_diary), (a_0, mv a_text a_now a_trial a_diary a_kept a_isKept a_seen a_equations a_wanted r_7.2)] := hD
      refine lv_if_eq (tgt := 33) hx hb dX6_border_28 (by decide) (fun h_8 => ?_) (fun h_8 => ?_)
      · have hf := in_ (bI_0 h_8) hf
        refine lv_aload_n hx hb dX6_border_33 rfl (lv_at hl 0 rfl) ?_
        obtain ⟨r_9, hh_r_9, hf⟩ := obd_some hf
        refine kc_v (w1 := [(a_0, mv a_text a_now a_trial a_diary a_kept a_isKept a_seen a_equations a_wanted r_9.1), (a_now, av_J cy 11 g_now), (a_diary, av_J cy 154 r_9.2)]) (wr := []) hP hD hS hA [2, 0, 1] [] rfl rfl rfl (by decide) (va_runV (As := []) (rest := []) ⟨hx, hb, hml, hown, hts⟩ (c_X6_remember (l := l) G cy a_0 a_text a_now a_trial a_diary a_kept a_isKept a_seen a_equations a_wanted H.size r_7.2 g_now g_diary n r_9 hh_r_9) (cwV 0 hts gX6_border_X6_remember rfl rfl rfl ddV_X6_remember ⟨Nat.le_of_ble_eq_true rfl, Nat.le_of_ble_eq_true rfl⟩) (preV_ (ci := 6) (q0 := 0) rfl rfl (hP.sub (ws' := [(a_0, mv a_text a_now a_trial a_diary a_kept a_isKept a_seen a_equations a_wanted r_7.2), (a_now, av_J cy 11 g_now), (a_diary, av_J cy 154 g_diary)]) [2, 0, 1] rfl) hK (hD.sub (ws' := [(a_0, mv a_text a_now a_trial a_diary a_kept a_isKept a_seen a_equations a_wanted r_7.2), (a_now, av_J cy 11 g_now), (a_diary, av_J cy 154 g_diary)]) [2, 0, 1] rfl rfl) hN) rfl rfl hl.1 rfl (lv_room (Nat.le_of_ble_eq_true rfl)) dX6_border_34 ⟨Nat.le_of_ble_eq_true rfl, Nat.le_of_ble_eq_true rfl⟩) (fun H locs hP hD hS => ?_)
        have hP : va_P G vwCl [(a_0, mv a_text a_now a_trial a_diary a_kept a_isKept a_seen a_equations a_wanted r_9.1), (a_now, av_J cy 11 g_now), (a_diary, av_J cy 154 r_9.2)] H := hP
        have hD : va_D A [(a_0, mv a_text a_now a_trial a_diary a_kept a_isKept a_seen a_equations a_wanted r_9.1), (a_now, av_J cy 11 g_now), (a_diary, av_J cy 154 r_9.2)] := hD
        refine lv_aload_n hx hb dX6_border_37 rfl (lv_at hl 0 rfl) ?_
        refine va_get (D := G) (ci := 6) (v := .ref a_now) (C := RX6) (T := TX6) (N := 15) hx hb hts iw_X6_border_X6 hown hK hP 0 rfl rfl 3 (by decide) (hts (.fieldLink RX6 13 "PaneFrostModel" "now" "[J") (by decide +kernel)) (fun _ h9 => h9) rfl dX6_border_38 ?_
        refine lv_iload_n hx hb dX6_border_41 rfl (lv_at hl 1 rfl) ?_
        refine lv_iload_n hx hb dX6_border_42 rfl (lv_at hl 2 rfl) ?_
        obtain ⟨r_10, hh_r_10, hf⟩ := obd_some hf
        refine kc_i (w1 := [(a_now, av_J cy 11 r_10.2)]) (wr := [(a_0, mv a_text a_now a_trial a_diary a_kept a_isKept a_seen a_equations a_wanted r_9.1), (a_diary, av_J cy 154 r_9.2)]) hP hD hS hA [1] [0, 2] rfl rfl rfl (by decide) (va_runS (As := [.ref a_now, .int x1, .int x2]) (rest := []) ⟨hx, hb, hml, hown, hts⟩ (c_X6_borderOn (l := l) G cy a_now H.size g_now x1 x2  r_10 hh_r_10) (va_cwS 3 hts gX6_border_X6_borderOn rfl rfl rfl ddN_X6_borderOn ⟨Nat.le_of_ble_eq_true rfl, Nat.le_of_ble_eq_true rfl⟩) (preS_ (hP.sub (ws' := [(a_now, av_J cy 11 g_now)]) [1] rfl) hK (hD.sub (ws' := [(a_now, av_J cy 11 g_now)]) [1] rfl rfl) hN) rfl rfl hl.1 rfl (lv_room (Nat.le_of_ble_eq_true rfl)) dX6_border_43 ⟨Nat.le_of_ble_eq_true rfl, Nat.le_of_ble_eq_true rfl⟩) (fun H locs hP hD hS => ?_)
        have hP : va_P G vwCl [(a_0, mv a_text a_now a_trial a_diary a_kept a_isKept a_seen a_equations a_wanted r_9.1), (a_diary, av_J cy 154 r_9.2), (a_now, av_J cy 11 r_10.2)] H := hP
        have hD : va_D A [(a_0, mv a_text a_now a_trial a_diary a_kept a_isKept a_seen a_equations a_wanted r_9.1), (a_diary, av_J cy 154 r_9.2), (a_now, av_J cy 11 r_10.2)] := hD
        obtain rfl := Option.some.inj hf
        exact kr_i hx hb hr hlocks rfl (hP.sub (ws' := [(a_0, mv a_text a_now a_trial a_diary a_kept a_isKept a_seen a_equations a_wanted r_9.1), (a_now, av_J cy 11 r_10.2), (a_diary, av_J cy 154 r_9.2)]) [0, 2, 1] rfl) hK (hD.sub (ws' := [(a_0, mv a_text a_now a_trial a_diary a_kept a_isKept a_seen a_equations a_wanted r_9.1), (a_now, av_J cy 11 r_10.2), (a_diary, av_J cy 154 r_9.2)]) [0, 2, 1] rfl rfl) hN hS hS.2.2 dX6_border_46
      · have hf := ip_ (bI_n0 h_8) hf
        refine lv_iconst (v := 0) hx hb dX6_border_31 (by decide) ?_
        obtain rfl := Option.some.inj hf
        exact kr_i hx hb hr hlocks rfl (hP.sub (ws' := [(a_0, mv a_text a_now a_trial a_diary a_kept a_isKept a_seen a_equations a_wanted r_7.2), (a_now, av_J cy 11 g_now), (a_diary, av_J cy 154 g_diary)]) [2, 0, 1] rfl) hK (hD.sub (ws' := [(a_0, mv a_text a_now a_trial a_diary a_kept a_isKept a_seen a_equations a_wanted r_7.2), (a_now, av_J cy 11 g_now), (a_diary, av_J cy 154 g_diary)]) [2, 0, 1] rfl rfl) hN hS hS.2.2 dX6_border_32
    · have hf := ip_ (bI_n0 h_6) hf
      refine lv_iconst (v := 0) hx hb dX6_border_20 (by decide) ?_
      refine lv_goto (tgt := 25) hx hb dX6_border_21 (by decide) ?_
      obtain ⟨r_11, hh_r_11⟩ : ∃ z, z = f_X6_refused s_0 0 := ⟨_, rfl⟩
      have hf := lt_e hh_r_11 hf
      refine kc_i (w1 := [(a_0, mv a_text a_now a_trial a_diary a_kept a_isKept a_seen a_equations a_wanted r_11.2)]) (wr := [(a_now, av_J cy 11 g_now), (a_diary, av_J cy 154 g_diary)]) hP hD hS hA [0] [1, 2] rfl rfl rfl (by decide) (va_runV (As := [.int 0]) (rest := []) ⟨hx, hb, hml, hown, hts⟩ (c_X6_refused (l := l) G cy a_0 a_text a_now a_trial a_diary a_kept a_isKept a_seen a_equations a_wanted H.size s_0 0  r_11 hh_r_11.symm) (cwV 1 hts gX6_border_X6_refused rfl rfl rfl ddV_X6_refused ⟨Nat.le_of_ble_eq_true rfl, Nat.le_of_ble_eq_true rfl⟩) (preV_ (ci := 6) (q0 := 0) rfl rfl (hP.sub (ws' := [(a_0, mv a_text a_now a_trial a_diary a_kept a_isKept a_seen a_equations a_wanted s_0)]) [0] rfl) hK (hD.sub (ws' := [(a_0, mv a_text a_now a_trial a_diary a_kept a_isKept a_seen a_equations a_wanted s_0)]) [0] rfl rfl) hN) rfl rfl hl.1 rfl (lv_room (Nat.le_of_ble_eq_true rfl)) dX6_border_25 ⟨Nat.le_of_ble_eq_true rfl, Nat.le_of_ble_eq_true rfl⟩) (fun H locs hP hD hS => ?_)
      have hP : va_P G vwCl [(a_now, av_J cy 11 g_now), (a_diary, av_J cy 154 g_diary), (a_0, mv a_text a_now a_trial a_diary a_kept a_isKept a_seen a_equations a_wanted r_11.2)] H := hP
      have hD : va_D A [(a_now, av_J cy 11 g_now), (a_diary, av_J cy 154 g_diary), (a_0, mv a_text a_now a_trial a_diary a_kept a_isKept a_seen a_equations a_wanted r_11.2)] := hD
      refine lv_if_eq (tgt := 33) hx hb dX6_border_28 (by decide) (fun h_12 => ?_) (fun h_12 => ?_)
      · have hf := in_ (bI_0 h_12) hf
        refine lv_aload_n hx hb dX6_border_33 rfl (lv_at hl 0 rfl) ?_
        obtain ⟨r_13, hh_r_13, hf⟩ := obd_some hf
        refine kc_v (w1 := [(a_0, mv a_text a_now a_trial a_diary a_kept a_isKept a_seen a_equations a_wanted r_13.1), (a_now, av_J cy 11 g_now), (a_diary, av_J cy 154 r_13.2)]) (wr := []) hP hD hS hA [2, 0, 1] [] rfl rfl rfl (by decide) (va_runV (As := []) (rest := []) ⟨hx, hb, hml, hown, hts⟩ (c_X6_remember (l := l) G cy a_0 a_text a_now a_trial a_diary a_kept a_isKept a_seen a_equations a_wanted H.size r_11.2 g_now g_diary n r_13 hh_r_13) (cwV 0 hts gX6_border_X6_remember rfl rfl rfl ddV_X6_remember ⟨Nat.le_of_ble_eq_true rfl, Nat.le_of_ble_eq_true rfl⟩) (preV_ (ci := 6) (q0 := 0) rfl rfl (hP.sub (ws' := [(a_0, mv a_text a_now a_trial a_diary a_kept a_isKept a_seen a_equations a_wanted r_11.2), (a_now, av_J cy 11 g_now), (a_diary, av_J cy 154 g_diary)]) [2, 0, 1] rfl) hK (hD.sub (ws' := [(a_0, mv a_text a_now a_trial a_diary a_kept a_isKept a_seen a_equations a_wanted r_11.2), (a_now, av_J cy 11 g_now), (a_diary, av_J cy 154 g_diary)]) [2, 0, 1] rfl rfl) hN) rfl rfl hl.1 rfl (lv_room (Nat.le_of_ble_eq_true rfl)) dX6_border_34 ⟨Nat.le_of_ble_eq_true rfl, Nat.le_of_ble_eq_true rfl⟩) (fun H locs hP hD hS => ?_)
        have hP : va_P G vwCl [(a_0, mv a_text a_now a_trial a_diary a_kept a_isKept a_seen a_equations a_wanted r_13.1), (a_now, av_J cy 11 g_now), (a_diary, av_J cy 154 r_13.2)] H := hP
        have hD : va_D A [(a_0, mv a_text a_now a_trial a_diary a_kept a_isKept a_seen a_equations a_wanted r_13.1), (a_now, av_J cy 11 g_now), (a_diary, av_J cy 154 r_13.2)] := hD
        refine lv_aload_n hx hb dX6_border_37 rfl (lv_at hl 0 rfl) ?_
        refine va_get (D := G) (ci := 6) (v := .ref a_now) (C := RX6) (T := TX6) (N := 15) hx hb hts iw_X6_border_X6 hown hK hP 0 rfl rfl 3 (by decide) (hts (.fieldLink RX6 13 "PaneFrostModel" "now" "[J") (by decide +kernel)) (fun _ h9 => h9) rfl dX6_border_38 ?_
        refine lv_iload_n hx hb dX6_border_41 rfl (lv_at hl 1 rfl) ?_
        refine lv_iload_n hx hb dX6_border_42 rfl (lv_at hl 2 rfl) ?_
        obtain ⟨r_14, hh_r_14, hf⟩ := obd_some hf
        refine kc_i (w1 := [(a_now, av_J cy 11 r_14.2)]) (wr := [(a_0, mv a_text a_now a_trial a_diary a_kept a_isKept a_seen a_equations a_wanted r_13.1), (a_diary, av_J cy 154 r_13.2)]) hP hD hS hA [1] [0, 2] rfl rfl rfl (by decide) (va_runS (As := [.ref a_now, .int x1, .int x2]) (rest := []) ⟨hx, hb, hml, hown, hts⟩ (c_X6_borderOn (l := l) G cy a_now H.size g_now x1 x2  r_14 hh_r_14) (va_cwS 3 hts gX6_border_X6_borderOn rfl rfl rfl ddN_X6_borderOn ⟨Nat.le_of_ble_eq_true rfl, Nat.le_of_ble_eq_true rfl⟩) (preS_ (hP.sub (ws' := [(a_now, av_J cy 11 g_now)]) [1] rfl) hK (hD.sub (ws' := [(a_now, av_J cy 11 g_now)]) [1] rfl rfl) hN) rfl rfl hl.1 rfl (lv_room (Nat.le_of_ble_eq_true rfl)) dX6_border_43 ⟨Nat.le_of_ble_eq_true rfl, Nat.le_of_ble_eq_true rfl⟩) (fun H locs hP hD hS => ?_)
        have hP : va_P G vwCl [(a_0, mv a_text a_now a_trial a_diary a_kept a_isKept a_seen a_equations a_wanted r_13.1), (a_diary, av_J cy 154 r_13.2), (a_now, av_J cy 11 r_14.2)] H := hP
        have hD : va_D A [(a_0, mv a_text a_now a_trial a_diary a_kept a_isKept a_seen a_equations a_wanted r_13.1), (a_diary, av_J cy 154 r_13.2), (a_now, av_J cy 11 r_14.2)] := hD
        obtain rfl := Option.some.inj hf
        exact kr_i hx hb hr hlocks rfl (hP.sub (ws' := [(a_0, mv a_text a_now a_trial a_diary a_kept a_isKept a_seen a_equations a_wanted r_13.1), (a_now, av_J cy 11 r_14.2), (a_diary, av_J cy 154 r_13.2)]) [0, 2, 1] rfl) hK (hD.sub (ws' := [(a_0, mv a_text a_now a_trial a_diary a_kept a_isKept a_seen a_equations a_wanted r_13.1), (a_now, av_J cy 11 r_14.2), (a_diary, av_J cy 154 r_13.2)]) [0, 2, 1] rfl rfl) hN hS hS.2.2 dX6_border_46
      · have hf := ip_ (bI_n0 h_12) hf
        refine lv_iconst (v := 0) hx hb dX6_border_31 (by decide) ?_
        obtain rfl := Option.some.inj hf
        exact kr_i hx hb hr hlocks rfl (hP.sub (ws' := [(a_0, mv a_text a_now a_trial a_diary a_kept a_isKept a_seen a_equations a_wanted r_11.2), (a_now, av_J cy 11 g_now), (a_diary, av_J cy 154 g_diary)]) [2, 0, 1] rfl) hK (hD.sub (ws' := [(a_0, mv a_text a_now a_trial a_diary a_kept a_isKept a_seen a_equations a_wanted r_11.2), (a_now, av_J cy 11 g_now), (a_diary, av_J cy 154 g_diary)]) [2, 0, 1] rfl rfl) hN hS hS.2.2 dX6_border_32
set_option maxHeartbeats 4000000 in
set_option maxRecDepth 100000 in
theorem c_X6_rule {l : Launch} (G : va_G) (cy : Nat → ClassId) (a_0 : Nat) (a_text : Nat) (a_now : Nat) (a_trial : Nat) (a_diary : Nat) (a_kept : Nat) (a_isKept : Nat) (a_seen : Nat) (a_equations : Nat) (a_wanted : Nat) (sz : Nat) (s_0 : MT) (g_now : Nat → Int64) (g_diary : Nat → Int64) (x1 : Int32) (n : Nat) (R : Int32 × MT × (Nat → Int64) × (Nat → Int64)) (hf : f_X6_rule n s_0 g_now g_diary x1 = some R) : Met l yX6_rule wsX6_rule ({ frames := 2, cells := 0, slots := 0, locals := 45 } : Room) (va_Pc [.ref a_0, .int x1] (pcW G cy [(a_0, mv a_text a_now a_trial a_diary a_kept a_isKept a_seen a_equations a_wanted s_0), (a_now, av_J cy 11 g_now), (a_diary, av_J cy 154 g_diary)] sz)) (va_Qi (fun r (_ : Unit) => r = R.1) (fun _ t => Wd G cy (va_A [(a_0, mv a_text a_now a_trial a_diary a_kept a_isKept a_seen a_equations a_wanted s_0), (a_now, av_J cy 11 g_now), (a_diary, av_J cy 154 g_diary)] sz) [(a_0, mv a_text a_now a_trial a_diary a_kept a_isKept a_seen a_equations a_wanted R.2.1), (a_now, av_J cy 11 R.2.2.1), (a_diary, av_J cy 154 R.2.2.2)] t) (va_A [(a_0, mv a_text a_now a_trial a_diary a_kept a_isKept a_seen a_equations a_wanted s_0), (a_now, av_J cy 11 g_now), (a_diary, av_J cy 154 g_diary)] sz)) 0 0 (va_A [(a_0, mv a_text a_now a_trial a_diary a_kept a_isKept a_seen a_equations a_wanted s_0), (a_now, av_J cy 11 g_now), (a_diary, av_J cy 154 g_diary)] sz) := by
  refine Met.ofW (cc := cX6_rule) (maxL := 2) (ret := (some .int)) (by decide) rfl ?_
  intro p e s m args below meth c s₁ B hml hv
  obtain ⟨rfl, hsz, hP, hK, hD0, hN⟩ := hv
  have hx := B.exec
  have hb := B.bytes
  have hr := B.returns
  have hts := atoms_spec (ws := wsX6_rule) B.pre
  have hown : s.vm.findClass RX6 = some m.cls := findClass_of_methodNamed B.named
  have hlocks := B.notSynchronized
  subst hsz
  have hD := hD0.self (sz := s.heap.size)
  generalize hAe : va_A [(a_0, mv a_text a_now a_trial a_diary a_kept a_isKept a_seen a_equations a_wanted s_0), (a_now, av_J cy 11 g_now), (a_diary, av_J cy 154 g_diary)] s.heap.size = A at hD ⊢
  have hA : ∀ q : Nat, s.heap.size ≤ q → A q := fun q h => by rw [← hAe]; exact Or.inr h
  have hS : va_S A s.heap s.heap [] := va_S.rf
  have hP : va_P G vwCl [(a_0, mv a_text a_now a_trial a_diary a_kept a_isKept a_seen a_equations a_wanted s_0), (a_now, av_J cy 11 g_now), (a_diary, av_J cy 154 g_diary)] s.heap := hP
  have hl := lv_entry [.ref a_0, .int x1] (n := 2) (Nat.le_of_ble_eq_true rfl)
  rw [lg_entry_eq]
  generalize (lg_sl [.ref a_0, .int x1] ++ List.replicate (2 - (lg_sl [.ref a_0, .int x1]).length) Slot.unset).toArray = ls at hl ⊢
  have hl : lv_has ls 2 [(0, .ref a_0), (1, .int x1)] := hl
  unfold f_X6_rule at hf
  refine lv_aload_n hx hb dX6_rule_0 rfl (lv_at hl 0 rfl) ?_
  refine lv_iload_n hx hb dX6_rule_1 rfl (lv_at hl 1 rfl) ?_
  refine lv_i2l (v := x1.toInt64) hx hb dX6_rule_2 rfl ?_
  refine lv_lconst (v := 0) hx hb dX6_rule_3 rfl ?_
  refine lv_ldc2 (v := 2) hx hb hown (hts (.constantLong RX6 55 (2)) (by decide +kernel)) dX6_rule_4 ?_
  refine kc_i (w1 := []) (wr := [(a_0, mv a_text a_now a_trial a_diary a_kept a_isKept a_seen a_equations a_wanted s_0), (a_now, av_J cy 11 g_now), (a_diary, av_J cy 154 g_diary)]) hP hD hS hA [] [0, 1, 2] rfl rfl rfl (by decide) (va_runS (As := [.long x1.toInt64, .long 0, .long 2]) (rest := [.ref a_0]) ⟨hx, hb, hml, hown, hts⟩ (c_X6_in (l := l) G cy  s.heap.size x1.toInt64 0 2  (f_X6_in x1.toInt64 0 2) rfl) (va_cwS 3 hts gX6_rule_X6_in rfl rfl rfl ddN_X6_in ⟨Nat.le_of_ble_eq_true rfl, Nat.le_of_ble_eq_true rfl⟩) (preS_ (hP.sub (ws' := []) [] rfl) hK (hD.sub (ws' := []) [] rfl rfl) hN) rfl rfl hl.1 rfl (lv_room (Nat.le_of_ble_eq_true rfl)) dX6_rule_7 ⟨Nat.le_of_ble_eq_true rfl, Nat.le_of_ble_eq_true rfl⟩) (fun H locs hP hD hS => ?_)
  have hP : va_P G vwCl [(a_0, mv a_text a_now a_trial a_diary a_kept a_isKept a_seen a_equations a_wanted s_0), (a_now, av_J cy 11 g_now), (a_diary, av_J cy 154 g_diary)] H := hP
  have hD : va_D A [(a_0, mv a_text a_now a_trial a_diary a_kept a_isKept a_seen a_equations a_wanted s_0), (a_now, av_J cy 11 g_now), (a_diary, av_J cy 154 g_diary)] := hD
  refine lv_if_eq (tgt := 17) hx hb dX6_rule_10 (by decide) (fun h_1 => ?_) (fun h_1 => ?_)
  · have hf := in_ (bI_0 h_1) hf
    refine lv_iconst (v := 1) hx hb dX6_rule_17 (by decide) ?_
    obtain ⟨r_2, hh_r_2⟩ : ∃ z, z = f_X6_refused s_0 1 := ⟨_, rfl⟩
    have hf := lt_e hh_r_2 hf
    refine kc_i (w1 := [(a_0, mv a_text a_now a_trial a_diary a_kept a_isKept a_seen a_equations a_wanted r_2.2)]) (wr := [(a_now, av_J cy 11 g_now), (a_diary, av_J cy 154 g_diary)]) hP hD hS hA [0] [1, 2] rfl rfl rfl (by decide) (va_runV (As := [.int 1]) (rest := []) ⟨hx, hb, hml, hown, hts⟩ (c_X6_refused (l := l) G cy a_0 a_text a_now a_trial a_diary a_kept a_isKept a_seen a_equations a_wanted H.size s_0 1  r_2 hh_r_2.symm) (cwV 1 hts gX6_rule_X6_refused rfl rfl rfl ddV_X6_refused ⟨Nat.le_of_ble_eq_true rfl, Nat.le_of_ble_eq_true rfl⟩) (preV_ (ci := 6) (q0 := 0) rfl rfl (hP.sub (ws' := [(a_0, mv a_text a_now a_trial a_diary a_kept a_isKept a_seen a_equations a_wanted s_0)]) [0] rfl) hK (hD.sub (ws' := [(a_0, mv a_text a_now a_trial a_diary a_kept a_isKept a_seen a_equations a_wanted s_0)]) [0] rfl rfl) hN) rfl rfl hl.1 rfl (lv_room (Nat.le_of_ble_eq_true rfl)) dX6_rule_18 ⟨Nat.le_of_ble_eq_true rfl, Nat.le_of_ble_eq_true rfl⟩) (fun H locs hP hD hS => ?_)
    have hP : va_P G vwCl [(a_now, av_J cy 11 g_now), (a_diary, av_J cy 154 g_diary), (a_0, mv a_text a_now a_trial a_diary a_kept a_isKept a_seen a_equations a_wanted r_2.2)] H := hP
    have hD : va_D A [(a_now, av_J cy 11 g_now), (a_diary, av_J cy 154 g_diary), (a_0, mv a_text a_now a_trial a_diary a_kept a_isKept a_seen a_equations a_wanted r_2.2)] := hD
    refine lv_if_eq (tgt := 26) hx hb dX6_rule_21 (by decide) (fun h_3 => ?_) (fun h_3 => ?_)
    · have hf := in_ (bI_0 h_3) hf
      refine lv_aload_n hx hb dX6_rule_26 rfl (lv_at hl 0 rfl) ?_
      obtain ⟨r_4, hh_r_4, hf⟩ := obd_some hf
      refine kc_v (w1 := [(a_0, mv a_text a_now a_trial a_diary a_kept a_isKept a_seen a_equations a_wanted r_4.1), (a_now, av_J cy 11 g_now), (a_diary, av_J cy 154 r_4.2)]) (wr := []) hP hD hS hA [2, 0, 1] [] rfl rfl rfl (by decide) (va_runV (As := []) (rest := []) ⟨hx, hb, hml, hown, hts⟩ (c_X6_remember (l := l) G cy a_0 a_text a_now a_trial a_diary a_kept a_isKept a_seen a_equations a_wanted H.size r_2.2 g_now g_diary n r_4 hh_r_4) (cwV 0 hts gX6_rule_X6_remember rfl rfl rfl ddV_X6_remember ⟨Nat.le_of_ble_eq_true rfl, Nat.le_of_ble_eq_true rfl⟩) (preV_ (ci := 6) (q0 := 0) rfl rfl (hP.sub (ws' := [(a_0, mv a_text a_now a_trial a_diary a_kept a_isKept a_seen a_equations a_wanted r_2.2), (a_now, av_J cy 11 g_now), (a_diary, av_J cy 154 g_diary)]) [2, 0, 1] rfl) hK (hD.sub (ws' := [(a_0, mv a_text a_now a_trial a_diary a_kept a_isKept a_seen a_equations a_wanted r_2.2), (a_now, av_J cy 11 g_now), (a_diary, av_J cy 154 g_diary)]) [2, 0, 1] rfl rfl) hN) rfl rfl hl.1 rfl (lv_room (Nat.le_of_ble_eq_true rfl)) dX6_rule_27 ⟨Nat.le_of_ble_eq_true rfl, Nat.le_of_ble_eq_true rfl⟩) (fun H locs hP hD hS => ?_)
      have hP : va_P G vwCl [(a_0, mv a_text a_now a_trial a_diary a_kept a_isKept a_seen a_equations a_wanted r_4.1), (a_now, av_J cy 11 g_now), (a_diary, av_J cy 154 r_4.2)] H := hP
      have hD : va_D A [(a_0, mv a_text a_now a_trial a_diary a_kept a_isKept a_seen a_equations a_wanted r_4.1), (a_now, av_J cy 11 g_now), (a_diary, av_J cy 154 r_4.2)] := hD
      refine lv_aload_n hx hb dX6_rule_30 rfl (lv_at hl 0 rfl) ?_
      refine va_get (D := G) (ci := 6) (v := .ref a_now) (C := RX6) (T := TX6) (N := 15) hx hb hts iw_X6_rule_X6 hown hK hP 0 rfl rfl 3 (by decide) (hts (.fieldLink RX6 13 "PaneFrostModel" "now" "[J") (by decide +kernel)) (fun _ h9 => h9) rfl dX6_rule_31 ?_
      refine lv_iload_n hx hb dX6_rule_34 rfl (lv_at hl 1 rfl) ?_
      obtain ⟨r_5, hh_r_5⟩ : ∃ z, z = f_X6_ruleOn g_now x1 := ⟨_, rfl⟩
      have hf := lt_e hh_r_5 hf
      refine kc_i (w1 := [(a_now, av_J cy 11 r_5.2)]) (wr := [(a_0, mv a_text a_now a_trial a_diary a_kept a_isKept a_seen a_equations a_wanted r_4.1), (a_diary, av_J cy 154 r_4.2)]) hP hD hS hA [1] [0, 2] rfl rfl rfl (by decide) (va_runS (As := [.ref a_now, .int x1]) (rest := []) ⟨hx, hb, hml, hown, hts⟩ (c_X6_ruleOn (l := l) G cy a_now H.size g_now x1  r_5 hh_r_5.symm) (va_cwS 2 hts gX6_rule_X6_ruleOn rfl rfl rfl ddN_X6_ruleOn ⟨Nat.le_of_ble_eq_true rfl, Nat.le_of_ble_eq_true rfl⟩) (preS_ (hP.sub (ws' := [(a_now, av_J cy 11 g_now)]) [1] rfl) hK (hD.sub (ws' := [(a_now, av_J cy 11 g_now)]) [1] rfl rfl) hN) rfl rfl hl.1 rfl (lv_room (Nat.le_of_ble_eq_true rfl)) dX6_rule_35 ⟨Nat.le_of_ble_eq_true rfl, Nat.le_of_ble_eq_true rfl⟩) (fun H locs hP hD hS => ?_)
      have hP : va_P G vwCl [(a_0, mv a_text a_now a_trial a_diary a_kept a_isKept a_seen a_equations a_wanted r_4.1), (a_diary, av_J cy 154 r_4.2), (a_now, av_J cy 11 r_5.2)] H := hP
      have hD : va_D A [(a_0, mv a_text a_now a_trial a_diary a_kept a_isKept a_seen a_equations a_wanted r_4.1), (a_diary, av_J cy 154 r_4.2), (a_now, av_J cy 11 r_5.2)] := hD
      obtain rfl := Option.some.inj hf
      exact kr_i hx hb hr hlocks rfl (hP.sub (ws' := [(a_0, mv a_text a_now a_trial a_diary a_kept a_isKept a_seen a_equations a_wanted r_4.1), (a_now, av_J cy 11 r_5.2), (a_diary, av_J cy 154 r_4.2)]) [0, 2, 1] rfl) hK (hD.sub (ws' := [(a_0, mv a_text a_now a_trial a_diary a_kept a_isKept a_seen a_equations a_wanted r_4.1), (a_now, av_J cy 11 r_5.2), (a_diary, av_J cy 154 r_4.2)]) [0, 2, 1] rfl rfl) hN hS hS.2.2 dX6_rule_38
    · have hf := ip_ (bI_n0 h_3) hf
      refine lv_iconst (v := 0) hx hb dX6_rule_24 (by decide) ?_
      obtain rfl := Option.some.inj hf
      exact kr_i hx hb hr hlocks rfl (hP.sub (ws' := [(a_0, mv a_text a_now a_trial a_diary a_kept a_isKept a_seen a_equations a_wanted r_2.2), (a_now, av_J cy 11 g_now), (a_diary, av_J cy 154 g_diary)]) [2, 0, 1] rfl) hK (hD.sub (ws' := [(a_0, mv a_text a_now a_trial a_diary a_kept a_isKept a_seen a_equations a_wanted r_2.2), (a_now, av_J cy 11 g_now), (a_diary, av_J cy 154 g_diary)]) [2, 0, 1] rfl rfl) hN hS hS.2.2 dX6_rule_25
  · have hf := ip_ (bI_n0 h_1) hf
    refine lv_iconst (v := 0) hx hb dX6_rule_13 (by decide) ?_
    refine lv_goto (tgt := 18) hx hb dX6_rule_14 (by decide) ?_
    obtain ⟨r_6, hh_r_6⟩ : ∃ z, z = f_X6_refused s_0 0 := ⟨_, rfl⟩
    have hf := lt_e hh_r_6 hf
    refine kc_i (w1 := [(a_0, mv a_text a_now a_trial a_diary a_kept a_isKept a_seen a_equations a_wanted r_6.2)]) (wr := [(a_now, av_J cy 11 g_now), (a_diary, av_J cy 154 g_diary)]) hP hD hS hA [0] [1, 2] rfl rfl rfl (by decide) (va_runV (As := [.int 0]) (rest := []) ⟨hx, hb, hml, hown, hts⟩ (c_X6_refused (l := l) G cy a_0 a_text a_now a_trial a_diary a_kept a_isKept a_seen a_equations a_wanted H.size s_0 0  r_6 hh_r_6.symm) (cwV 1 hts gX6_rule_X6_refused rfl rfl rfl ddV_X6_refused ⟨Nat.le_of_ble_eq_true rfl, Nat.le_of_ble_eq_true rfl⟩) (preV_ (ci := 6) (q0 := 0) rfl rfl (hP.sub (ws' := [(a_0, mv a_text a_now a_trial a_diary a_kept a_isKept a_seen a_equations a_wanted s_0)]) [0] rfl) hK (hD.sub (ws' := [(a_0, mv a_text a_now a_trial a_diary a_kept a_isKept a_seen a_equations a_wanted s_0)]) [0] rfl rfl) hN) rfl rfl hl.1 rfl (lv_room (Nat.le_of_ble_eq_true rfl)) dX6_rule_18 ⟨Nat.le_of_ble_eq_true rfl, Nat.le_of_ble_eq_true rfl⟩) (fun H locs hP hD hS => ?_)
    have hP : va_P G vwCl [(a_now, av_J cy 11 g_now), (a_diary, av_J cy 154 g_diary), (a_0, mv a_text a_now a_trial a_diary a_kept a_isKept a_seen a_equations a_wanted r_6.2)] H := hP
    have hD : va_D A [(a_now, av_J cy 11 g_now), (a_diary, av_J cy 154 g_diary), (a_0, mv a_text a_now a_trial a_diary a_kept a_isKept a_seen a_equations a_wanted r_6.2)] := hD
    refine lv_if_eq (tgt := 26) hx hb dX6_rule_21 (by decide) (fun h_7 => ?_) (fun h_7 => ?_)
    · have hf := in_ (bI_0 h_7) hf
      refine lv_aload_n hx hb dX6_rule_26 rfl (lv_at hl 0 rfl) ?_
      obtain ⟨r_8, hh_r_8, hf⟩ := obd_some hf
      refine kc_v (w1 := [(a_0, mv a_text a_now a_trial a_diary a_kept a_isKept a_seen a_equations a_wanted r_8.1), (a_now, av_J cy 11 g_now), (a_diary, av_J cy 154 r_8.2)]) (wr := []) hP hD hS hA [2, 0, 1] [] rfl rfl rfl (by decide) (va_runV (As := []) (rest := []) ⟨hx, hb, hml, hown, hts⟩ (c_X6_remember (l := l) G cy a_0 a_text a_now a_trial a_diary a_kept a_isKept a_seen a_equations a_wanted H.size r_6.2 g_now g_diary n r_8 hh_r_8) (cwV 0 hts gX6_rule_X6_remember rfl rfl rfl ddV_X6_remember ⟨Nat.le_of_ble_eq_true rfl, Nat.le_of_ble_eq_true rfl⟩) (preV_ (ci := 6) (q0 := 0) rfl rfl (hP.sub (ws' := [(a_0, mv a_text a_now a_trial a_diary a_kept a_isKept a_seen a_equations a_wanted r_6.2), (a_now, av_J cy 11 g_now), (a_diary, av_J cy 154 g_diary)]) [2, 0, 1] rfl) hK (hD.sub (ws' := [(a_0, mv a_text a_now a_trial a_diary a_kept a_isKept a_seen a_equations a_wanted r_6.2), (a_now, av_J cy 11 g_now), (a_diary, av_J cy 154 g_diary)]) [2, 0, 1] rfl rfl) hN) rfl rfl hl.1 rfl (lv_room (Nat.le_of_ble_eq_true rfl)) dX6_rule_27 ⟨Nat.le_of_ble_eq_true rfl, Nat.le_of_ble_eq_true rfl⟩) (fun H locs hP hD hS => ?_)
      have hP : va_P G vwCl [(a_0, mv a_text a_now a_trial a_diary a_kept a_isKept a_seen a_equations a_wanted r_8.1), (a_now, av_J cy 11 g_now), (a_diary, av_J cy 154 r_8.2)] H := hP
      have hD : va_D A [(a_0, mv a_text a_now a_trial a_diary a_kept a_isKept a_seen a_equations a_wanted r_8.1), (a_now, av_J cy 11 g_now), (a_diary, av_J cy 154 r_8.2)] := hD
      refine lv_aload_n hx hb dX6_rule_30 rfl (lv_at hl 0 rfl) ?_
      refine va_get (D := G) (ci := 6) (v := .ref a_now) (C := RX6) (T := TX6) (N := 15) hx hb hts iw_X6_rule_X6 hown hK hP 0 rfl rfl 3 (by decide) (hts (.fieldLink RX6 13 "PaneFrostModel" "now" "[J") (by decide +kernel)) (fun _ h9 => h9) rfl dX6_rule_31 ?_
      refine lv_iload_n hx hb dX6_rule_34 rfl (lv_at hl 1 rfl) ?_
      obtain ⟨r_9, hh_r_9⟩ : ∃ z, z = f_X6_ruleOn g_now x1 := ⟨_, rfl⟩
      have hf := lt_e hh_r_9 hf
      refine kc_i (w1 := [(a_now, av_J cy 11 r_9.2)]) (wr := [(a_0, mv a_text a_now a_trial a_diary a_kept a_isKept a_seen a_equations a_wanted r_8.1), (a_diary, av_J cy 154 r_8.2)]) hP hD hS hA [1] [0, 2] rfl rfl rfl (by decide) (va_runS (As := [.ref a_now, .int x1]) (rest := []) ⟨hx, hb, hml, hown, hts⟩ (c_X6_ruleOn (l := l) G cy a_now H.size g_now x1  r_9 hh_r_9.symm) (va_cwS 2 hts gX6_rule_X6_ruleOn rfl rfl rfl ddN_X6_ruleOn ⟨Nat.le_of_ble_eq_true rfl, Nat.le_of_ble_eq_true rfl⟩) (preS_ (hP.sub (ws' := [(a_now, av_J cy 11 g_now)]) [1] rfl) hK (hD.sub (ws' := [(a_now, av_J cy 11 g_now)]) [1] rfl rfl) hN) rfl rfl hl.1 rfl (lv_room (Nat.le_of_ble_eq_true rfl)) dX6_rule_35 ⟨Nat.le_of_ble_eq_true rfl, Nat.le_of_ble_eq_true rfl⟩) (fun H locs hP hD hS => ?_)
      have hP : va_P G vwCl [(a_0, mv a_text a_now a_trial a_diary a_kept a_isKept a_seen a_equations a_wanted r_8.1), (a_diary, av_J cy 154 r_8.2), (a_now, av_J cy 11 r_9.2)] H := hP
      have hD : va_D A [(a_0, mv a_text a_now a_trial a_diary a_kept a_isKept a_seen a_equations a_wanted r_8.1), (a_diary, av_J cy 154 r_8.2), (a_now, av_J cy 11 r_9.2)] := hD
      obtain rfl := Option.some.inj hf
      exact kr_i hx hb hr hlocks rfl (hP.sub (ws' := [(a_0, mv a_text a_now a_trial a_diary a_kept a_isKept a_seen a_equations a_wanted r_8.1), (a_now, av_J cy 11 r_9.2), (a_diary, av_J cy 154 r_8.2)]) [0, 2, 1] rfl) hK (hD.sub (ws' := [(a_0, mv a_text a_now a_trial a_diary a_kept a_isKept a_seen a_equations a_wanted r_8.1), (a_now, av_J cy 11 r_9.2), (a_diary, av_J cy 154 r_8.2)]) [0, 2, 1] rfl rfl) hN hS hS.2.2 dX6_rule_38
    · have hf := ip_ (bI_n0 h_7) hf
      refine lv_iconst (v := 0) hx hb dX6_rule_24 (by decide) ?_
      obtain rfl := Option.some.inj hf
      exact kr_i hx hb hr hlocks rfl (hP.sub (ws' := [(a_0, mv a_text a_now a_trial a_diary a_kept a_isKept a_seen a_equations a_wanted r_6.2), (a_now, av_J cy 11 g_now), (a_diary, av_J cy 154 g_diary)]) [2, 0, 1] rfl) hK (hD.sub (ws' := [(a_0, mv a_text a_now a_trial a_diary a_kept a_isKept a_seen a_equations a_wanted r_6.2), (a_now, av_J cy 11 g_now), (a_diary, av_J cy 154 g_diary)]) [2, 0, 1] rfl rfl) hN hS hS.2.2 dX6_rule_25
set_option maxHeartbeats 4000000 in
set_option maxRecDepth 100000 in
theorem c_X6_breathe {l : Launch} (G : va_G) (cy : Nat → ClassId) (a_0 : Nat) (a_text : Nat) (a_now : Nat) (a_trial : Nat) (a_diary : Nat) (a_kept : Nat) (a_isKept : Nat) (a_seen : Nat) (a_equations : Nat) (a_wanted : Nat) (sz : Nat) (s_0 : MT) (g_now : Nat → Int64) (g_diary : Nat → Int64) (x1 : Int32) (x2 : Int32) (n : Nat) (R : Int32 × MT × (Nat → Int64) × (Nat → Int64)) (hf : f_X6_breathe n s_0 g_now g_diary x1 x2 = some R) : Met l yX6_breathe wsX6_breathe ({ frames := 7, cells := 0, slots := 0, locals := 170 } : Room) (va_Pc [.ref a_0, .int x1, .int x2] (pcW G cy [(a_0, mv a_text a_now a_trial a_diary a_kept a_isKept a_seen a_equations a_wanted s_0), (a_now, av_J cy 11 g_now), (a_diary, av_J cy 154 g_diary)] sz)) (va_Qi (fun r (_ : Unit) => r = R.1) (fun _ t => Wd G cy (va_A [(a_0, mv a_text a_now a_trial a_diary a_kept a_isKept a_seen a_equations a_wanted s_0), (a_now, av_J cy 11 g_now), (a_diary, av_J cy 154 g_diary)] sz) [(a_0, mv a_text a_now a_trial a_diary a_kept a_isKept a_seen a_equations a_wanted R.2.1), (a_now, av_J cy 11 R.2.2.1), (a_diary, av_J cy 154 R.2.2.2)] t) (va_A [(a_0, mv a_text a_now a_trial a_diary a_kept a_isKept a_seen a_equations a_wanted s_0), (a_now, av_J cy 11 g_now), (a_diary, av_J cy 154 g_diary)] sz)) 0 0 (va_A [(a_0, mv a_text a_now a_trial a_diary a_kept a_isKept a_seen a_equations a_wanted s_0), (a_now, av_J cy 11 g_now), (a_diary, av_J cy 154 g_diary)] sz) := by
  refine Met.ofW (cc := cX6_breathe) (maxL := 3) (ret := (some .int)) (by decide) rfl ?_
  intro p e s m args below meth c s₁ B hml hv
  obtain ⟨rfl, hsz, hP, hK, hD0, hN⟩ := hv
  have hx := B.exec
  have hb := B.bytes
  have hr := B.returns
  have hts := atoms_spec (ws := wsX6_breathe) B.pre
  have hown : s.vm.findClass RX6 = some m.cls := findClass_of_methodNamed B.named
  have hlocks := B.notSynchronized
  subst hsz
  have hD := hD0.self (sz := s.heap.size)
  generalize hAe : va_A [(a_0, mv a_text a_now a_trial a_diary a_kept a_isKept a_seen a_equations a_wanted s_0), (a_now, av_J cy 11 g_now), (a_diary, av_J cy 154 g_diary)] s.heap.size = A at hD ⊢
  have hA : ∀ q : Nat, s.heap.size ≤ q → A q := fun q h => by rw [← hAe]; exact Or.inr h
  have hS : va_S A s.heap s.heap [] := va_S.rf
  have hP : va_P G vwCl [(a_0, mv a_text a_now a_trial a_diary a_kept a_isKept a_seen a_equations a_wanted s_0), (a_now, av_J cy 11 g_now), (a_diary, av_J cy 154 g_diary)] s.heap := hP
  have hl := lv_entry [.ref a_0, .int x1, .int x2] (n := 3) (Nat.le_of_ble_eq_true rfl)
  rw [lg_entry_eq]
  generalize (lg_sl [.ref a_0, .int x1, .int x2] ++ List.replicate (3 - (lg_sl [.ref a_0, .int x1, .int x2]).length) Slot.unset).toArray = ls at hl ⊢
  have hl : lv_has ls 3 [(0, .ref a_0), (1, .int x1), (2, .int x2)] := hl
  unfold f_X6_breathe at hf
  refine lv_aload_n hx hb dX6_breathe_0 rfl (lv_at hl 0 rfl) ?_
  refine lv_aload_n hx hb dX6_breathe_1 rfl (lv_at hl 0 rfl) ?_
  refine va_get (D := G) (ci := 6) (v := .ref a_now) (C := RX6) (T := TX6) (N := 15) hx hb hts iw_X6_breathe_X6 hown hK hP 0 rfl rfl 3 (by decide) (hts (.fieldLink RX6 13 "PaneFrostModel" "now" "[J") (by decide +kernel)) (fun _ h9 => h9) rfl dX6_breathe_2 ?_
  refine lv_iload_n hx hb dX6_breathe_5 rfl (lv_at hl 1 rfl) ?_
  refine kc_i (w1 := [(a_now, av_J cy 11 g_now)]) (wr := [(a_0, mv a_text a_now a_trial a_diary a_kept a_isKept a_seen a_equations a_wanted s_0), (a_diary, av_J cy 154 g_diary)]) hP hD hS hA [1] [0, 2] rfl rfl rfl (by decide) (va_runS (As := [.ref a_now, .int x1]) (rest := [.ref a_0]) ⟨hx, hb, hml, hown, hts⟩ (c_X6_isCell (l := l) G cy a_now s.heap.size g_now x1  (f_X6_isCell g_now x1) rfl) (va_cwS 2 hts gX6_breathe_X6_isCell rfl rfl rfl ddN_X6_isCell ⟨Nat.le_of_ble_eq_true rfl, Nat.le_of_ble_eq_true rfl⟩) (preS_ (hP.sub (ws' := [(a_now, av_J cy 11 g_now)]) [1] rfl) hK (hD.sub (ws' := [(a_now, av_J cy 11 g_now)]) [1] rfl rfl) hN) rfl rfl hl.1 rfl (lv_room (Nat.le_of_ble_eq_true rfl)) dX6_breathe_6 ⟨Nat.le_of_ble_eq_true rfl, Nat.le_of_ble_eq_true rfl⟩) (fun H locs hP hD hS => ?_)
  have hP : va_P G vwCl [(a_0, mv a_text a_now a_trial a_diary a_kept a_isKept a_seen a_equations a_wanted s_0), (a_diary, av_J cy 154 g_diary), (a_now, av_J cy 11 g_now)] H := hP
  have hD : va_D A [(a_0, mv a_text a_now a_trial a_diary a_kept a_isKept a_seen a_equations a_wanted s_0), (a_diary, av_J cy 154 g_diary), (a_now, av_J cy 11 g_now)] := hD
  refine lv_if_ne (tgt := 16) hx hb dX6_breathe_9 (by decide) (fun h_1 => ?_) (fun h_1 => ?_)
  · have hf := ip_ (bI_n0 h_1) hf
    refine lv_iload_n hx hb dX6_breathe_16 rfl (lv_at hl 2 rfl) ?_
    refine lv_i2l (v := x2.toInt64) hx hb dX6_breathe_17 rfl ?_
    refine lv_lconst (v := 0) hx hb dX6_breathe_18 rfl ?_
    refine lv_ldc2 (v := 9) hx hb hown (hts (.constantLong RX6 133 (9)) (by decide +kernel)) dX6_breathe_19 ?_
    refine kc_i (w1 := []) (wr := [(a_0, mv a_text a_now a_trial a_diary a_kept a_isKept a_seen a_equations a_wanted s_0), (a_diary, av_J cy 154 g_diary), (a_now, av_J cy 11 g_now)]) hP hD hS hA [] [0, 1, 2] rfl rfl rfl (by decide) (va_runS (As := [.long x2.toInt64, .long 0, .long 9]) (rest := [.ref a_0]) ⟨hx, hb, hml, hown, hts⟩ (c_X6_in (l := l) G cy  H.size x2.toInt64 0 9  (f_X6_in x2.toInt64 0 9) rfl) (va_cwS 3 hts gX6_breathe_X6_in rfl rfl rfl ddN_X6_in ⟨Nat.le_of_ble_eq_true rfl, Nat.le_of_ble_eq_true rfl⟩) (preS_ (hP.sub (ws' := []) [] rfl) hK (hD.sub (ws' := []) [] rfl rfl) hN) rfl rfl hl.1 rfl (lv_room (Nat.le_of_ble_eq_true rfl)) dX6_breathe_22 ⟨Nat.le_of_ble_eq_true rfl, Nat.le_of_ble_eq_true rfl⟩) (fun H locs hP hD hS => ?_)
    have hP : va_P G vwCl [(a_0, mv a_text a_now a_trial a_diary a_kept a_isKept a_seen a_equations a_wanted s_0), (a_diary, av_J cy 154 g_diary), (a_now, av_J cy 11 g_now)] H := hP
    have hD : va_D A [(a_0, mv a_text a_now a_trial a_diary a_kept a_isKept a_seen a_equations a_wanted s_0), (a_diary, av_J cy 154 g_diary), (a_now, av_J cy 11 g_now)] := hD
    refine lv_if_eq (tgt := 32) hx hb dX6_breathe_25 (by decide) (fun h_2 => ?_) (fun h_2 => ?_)
    · have hf := in_ (bI_0 h_2) hf
      refine lv_iconst (v := 2) hx hb dX6_breathe_32 (by decide) ?_
      obtain ⟨r_3, hh_r_3⟩ : ∃ z, z = f_X6_refused s_0 2 := ⟨_, rfl⟩
      have hf := lt_e hh_r_3 hf
      refine kc_i (w1 := [(a_0, mv a_text a_now a_trial a_diary a_kept a_isKept a_seen a_equations a_wanted r_3.2)]) (wr := [(a_diary, av_J cy 154 g_diary), (a_now, av_J cy 11 g_now)]) hP hD hS hA [0] [1, 2] rfl rfl rfl (by decide) (va_runV (As := [.int 2]) (rest := []) ⟨hx, hb, hml, hown, hts⟩ (c_X6_refused (l := l) G cy a_0 a_text a_now a_trial a_diary a_kept a_isKept a_seen a_equations a_wanted H.size s_0 2  r_3 hh_r_3.symm) (cwV 1 hts gX6_breathe_X6_refused rfl rfl rfl ddV_X6_refused ⟨Nat.le_of_ble_eq_true rfl, Nat.le_of_ble_eq_true rfl⟩) (preV_ (ci := 6) (q0 := 0) rfl rfl (hP.sub (ws' := [(a_0, mv a_text a_now a_trial a_diary a_kept a_isKept a_seen a_equations a_wanted s_0)]) [0] rfl) hK (hD.sub (ws' := [(a_0, mv a_text a_now a_trial a_diary a_kept a_isKept a_seen a_equations a_wanted s_0)]) [0] rfl rfl) hN) rfl rfl hl.1 rfl (lv_room (Nat.le_of_ble_eq_true rfl)) dX6_breathe_33 ⟨Nat.le_of_ble_eq_true rfl, Nat.le_of_ble_eq_true rfl⟩) (fun H locs hP hD hS => ?_)
      have hP : va_P G vwCl [(a_diary, av_J cy 154 g_diary), (a_now, av_J cy 11 g_now), (a_0, mv a_text a_now a_trial a_diary a_kept a_isKept a_seen a_equations a_wanted r_3.2)] H := hP
      have hD : va_D A [(a_diary, av_J cy 154 g_diary), (a_now, av_J cy 11 g_now), (a_0, mv a_text a_now a_trial a_diary a_kept a_isKept a_seen a_equations a_wanted r_3.2)] := hD
      refine lv_if_eq (tgt := 41) hx hb dX6_breathe_36 (by decide) (fun h_4 => ?_) (fun h_4 => ?_)
      · have hf := in_ (bI_0 h_4) hf
        refine lv_aload_n hx hb dX6_breathe_41 rfl (lv_at hl 0 rfl) ?_
        obtain ⟨r_5, hh_r_5, hf⟩ := obd_some hf
        refine kc_v (w1 := [(a_0, mv a_text a_now a_trial a_diary a_kept a_isKept a_seen a_equations a_wanted r_5.1), (a_now, av_J cy 11 g_now), (a_diary, av_J cy 154 r_5.2)]) (wr := []) hP hD hS hA [2, 1, 0] [] rfl rfl rfl (by decide) (va_runV (As := []) (rest := []) ⟨hx, hb, hml, hown, hts⟩ (c_X6_remember (l := l) G cy a_0 a_text a_now a_trial a_diary a_kept a_isKept a_seen a_equations a_wanted H.size r_3.2 g_now g_diary n r_5 hh_r_5) (cwV 0 hts gX6_breathe_X6_remember rfl rfl rfl ddV_X6_remember ⟨Nat.le_of_ble_eq_true rfl, Nat.le_of_ble_eq_true rfl⟩) (preV_ (ci := 6) (q0 := 0) rfl rfl (hP.sub (ws' := [(a_0, mv a_text a_now a_trial a_diary a_kept a_isKept a_seen a_equations a_wanted r_3.2), (a_now, av_J cy 11 g_now), (a_diary, av_J cy 154 g_diary)]) [2, 1, 0] rfl) hK (hD.sub (ws' := [(a_0, mv a_text a_now a_trial a_diary a_kept a_isKept a_seen a_equations a_wanted r_3.2), (a_now, av_J cy 11 g_now), (a_diary, av_J cy 154 g_diary)]) [2, 1, 0] rfl rfl) hN) rfl rfl hl.1 rfl (lv_room (Nat.le_of_ble_eq_true rfl)) dX6_breathe_42 ⟨Nat.le_of_ble_eq_true rfl, Nat.le_of_ble_eq_true rfl⟩) (fun H locs hP hD hS => ?_)
        have hP : va_P G vwCl [(a_0, mv a_text a_now a_trial a_diary a_kept a_isKept a_seen a_equations a_wanted r_5.1), (a_now, av_J cy 11 g_now), (a_diary, av_J cy 154 r_5.2)] H := hP
        have hD : va_D A [(a_0, mv a_text a_now a_trial a_diary a_kept a_isKept a_seen a_equations a_wanted r_5.1), (a_now, av_J cy 11 g_now), (a_diary, av_J cy 154 r_5.2)] := hD
        refine lv_aload_n hx hb dX6_breathe_45 rfl (lv_at hl 0 rfl) ?_
        refine va_get (D := G) (ci := 6) (v := .ref a_now) (C := RX6) (T := TX6) (N := 15) hx hb hts iw_X6_breathe_X6 hown hK hP 0 rfl rfl 3 (by decide) (hts (.fieldLink RX6 13 "PaneFrostModel" "now" "[J") (by decide +kernel)) (fun _ h9 => h9) rfl dX6_breathe_46 ?_
        refine lv_iload_n hx hb dX6_breathe_49 rfl (lv_at hl 1 rfl) ?_
        refine lv_iload_n hx hb dX6_breathe_50 rfl (lv_at hl 2 rfl) ?_
        obtain ⟨r_6, hh_r_6, hf⟩ := obd_some hf
        refine kc_i (w1 := [(a_now, av_J cy 11 r_6.2)]) (wr := [(a_0, mv a_text a_now a_trial a_diary a_kept a_isKept a_seen a_equations a_wanted r_5.1), (a_diary, av_J cy 154 r_5.2)]) hP hD hS hA [1] [0, 2] rfl rfl rfl (by decide) (va_runS (As := [.ref a_now, .int x1, .int x2]) (rest := []) ⟨hx, hb, hml, hown, hts⟩ (c_X6_breatheOn (l := l) G cy a_now H.size g_now x1 x2 n r_6 hh_r_6) (va_cwS 3 hts gX6_breathe_X6_breatheOn rfl rfl rfl ddN_X6_breatheOn ⟨Nat.le_of_ble_eq_true rfl, Nat.le_of_ble_eq_true rfl⟩) (preS_ (hP.sub (ws' := [(a_now, av_J cy 11 g_now)]) [1] rfl) hK (hD.sub (ws' := [(a_now, av_J cy 11 g_now)]) [1] rfl rfl) hN) rfl rfl hl.1 rfl (lv_room (Nat.le_of_ble_eq_true rfl)) dX6_breathe_51 ⟨Nat.le_of_ble_eq_true rfl, Nat.le_of_ble_eq_true rfl⟩) (fun H locs hP hD hS => ?_)
        have hP : va_P G vwCl [(a_0, mv a_text a_now a_trial a_diary a_kept a_isKept a_seen a_equations a_wanted r_5.1), (a_diary, av_J cy 154 r_5.2), (a_now, av_J cy 11 r_6.2)] H := hP
        have hD : va_D A [(a_0, mv a_text a_now a_trial a_diary a_kept a_isKept a_seen a_equations a_wanted r_5.1), (a_diary, av_J cy 154 r_5.2), (a_now, av_J cy 11 r_6.2)] := hD
        obtain rfl := Option.some.inj hf
        exact kr_i hx hb hr hlocks rfl (hP.sub (ws' := [(a_0, mv a_text a_now a_trial a_diary a_kept a_isKept a_seen a_equations a_wanted r_5.1), (a_now, av_J cy 11 r_6.2), (a_diary, av_J cy 154 r_5.2)]) [0, 2, 1] rfl) hK (hD.sub (ws' := [(a_0, mv a_text a_now a_trial a_diary a_kept a_isKept a_seen a_equations a_wanted r_5.1), (a_now, av_J cy 11 r_6.2), (a_diary, av_J cy 154 r_5.2)]) [0, 2, 1] rfl rfl) hN hS hS.2.2 dX6_breathe_54
      · have hf := ip_ (bI_n0 h_4) hf
        refine lv_iconst (v := 0) hx hb dX6_breathe_39 (by decide) ?_
        obtain rfl := Option.some.inj hf
        exact kr_i hx hb hr hlocks rfl (hP.sub (ws' := [(a_0, mv a_text a_now a_trial a_diary a_kept a_isKept a_seen a_equations a_wanted r_3.2), (a_now, av_J cy 11 g_now), (a_diary, av_J cy 154 g_diary)]) [2, 1, 0] rfl) hK (hD.sub (ws' := [(a_0, mv a_text a_now a_trial a_diary a_kept a_isKept a_seen a_equations a_wanted r_3.2), (a_now, av_J cy 11 g_now), (a_diary, av_J cy 154 g_diary)]) [2, 1, 0] rfl rfl) hN hS hS.2.2 dX6_breathe_40
    · have hf := ip_ (bI_n0 h_2) hf
      refine lv_iconst (v := 0) hx hb dX6_breathe_28 (by decide) ?_
      refine lv_goto (tgt := 33) hx hb dX6_breathe_29 (by decide) ?_
      obtain ⟨r_7, hh_r_7⟩ : ∃ z, z = f_X6_refused s_0 0 := ⟨_, rfl⟩
      have hf := lt_e hh_r_7 hf
      refine kc_i (w1 := [(a_0, mv a_text a_now a_trial a_diary a_kept a_isKept a_seen a_equations a_wanted r_7.2)]) (wr := [(a_diary, av_J cy 154 g_diary), (a_now, av_J cy 11 g_now)]) hP hD hS hA [0] [1, 2] rfl rfl rfl (by decide) (va_runV (As := [.int 0]) (rest := []) ⟨hx, hb, hml, hown, hts⟩ (c_X6_refused (l := l) G cy a_0 a_text a_now a_trial a_diary a_kept a_isKept a_seen a_equations a_wanted H.size s_0 0  r_7 hh_r_7.symm) (cwV 1 hts gX6_breathe_X6_refused rfl rfl rfl ddV_X6_refused ⟨Nat.le_of_ble_eq_true rfl, Nat.le_of_ble_eq_true rfl⟩) (preV_ (ci := 6) (q0 := 0) rfl rfl (hP.sub (ws' := [(a_0, mv a_text a_now a_trial a_diary a_kept a_isKept a_seen a_equations a_wanted s_0)]) [0] rfl) hK (hD.sub (ws' := [(a_0, mv a_text a_now a_trial a_diary a_kept a_isKept a_seen a_equations a_wanted s_0)]) [0] rfl rfl) hN) rfl rfl hl.1 rfl (lv_room (Nat.le_of_ble_eq_true rfl)) dX6_breathe_33 ⟨Nat.le_of_ble_eq_true rfl, Nat.le_of_ble_eq_true rfl⟩) (fun H locs hP hD hS => ?_)
      have hP : va_P G vwCl [(a_diary, av_J cy 154 g_diary), (a_now, av_J cy 11 g_now), (a_0, mv a_text a_now a_trial a_diary a_kept a_isKept a_seen a_equations a_wanted r_7.2)] H := hP
      have hD : va_D A [(a_diary, av_J cy 154 g_diary), (a_now, av_J cy 11 g_now), (a_0, mv a_text a_now a_trial a_diary a_kept a_isKept a_seen a_equations a_wanted r_7.2)] := hD
      refine lv_if_eq (tgt := 41) hx hb dX6_breathe_36 (by decide) (fun h_8 => ?_) (fun h_8 => ?_)
      · have hf := in_ (bI_0 h_8) hf
        refine lv_aload_n hx hb dX6_breathe_41 rfl (lv_at hl 0 rfl) ?_
        obtain ⟨r_9, hh_r_9, hf⟩ := obd_some hf
        refine kc_v (w1 := [(a_0, mv a_text a_now a_trial a_diary a_kept a_isKept a_seen a_equations a_wanted r_9.1), (a_now, av_J cy 11 g_now), (a_diary, av_J cy 154 r_9.2)]) (wr := []) hP hD hS hA [2, 1, 0] [] rfl rfl rfl (by decide) (va_runV (As := []) (rest := []) ⟨hx, hb, hml, hown, hts⟩ (c_X6_remember (l := l) G cy a_0 a_text a_now a_trial a_diary a_kept a_isKept a_seen a_equations a_wanted H.size r_7.2 g_now g_diary n r_9 hh_r_9) (cwV 0 hts gX6_breathe_X6_remember rfl rfl rfl ddV_X6_remember ⟨Nat.le_of_ble_eq_true rfl, Nat.le_of_ble_eq_true rfl⟩) (preV_ (ci := 6) (q0 := 0) rfl rfl (hP.sub (ws' := [(a_0, mv a_text a_now a_trial a_diary a_kept a_isKept a_seen a_equations a_wanted r_7.2), (a_now, av_J cy 11 g_now), (a_diary, av_J cy 154 g_diary)]) [2, 1, 0] rfl) hK (hD.sub (ws' := [(a_0, mv a_text a_now a_trial a_diary a_kept a_isKept a_seen a_equations a_wanted r_7.2), (a_now, av_J cy 11 g_now), (a_diary, av_J cy 154 g_diary)]) [2, 1, 0] rfl rfl) hN) rfl rfl hl.1 rfl (lv_room (Nat.le_of_ble_eq_true rfl)) dX6_breathe_42 ⟨Nat.le_of_ble_eq_true rfl, Nat.le_of_ble_eq_true rfl⟩) (fun H locs hP hD hS => ?_)
        have hP : va_P G vwCl [(a_0, mv a_text a_now a_trial a_diary a_kept a_isKept a_seen a_equations a_wanted r_9.1), (a_now, av_J cy 11 g_now), (a_diary, av_J cy 154 r_9.2)] H := hP
        have hD : va_D A [(a_0, mv a_text a_now a_trial a_diary a_kept a_isKept a_seen a_equations a_wanted r_9.1), (a_now, av_J cy 11 g_now), (a_diary, av_J cy 154 r_9.2)] := hD
        refine lv_aload_n hx hb dX6_breathe_45 rfl (lv_at hl 0 rfl) ?_
        refine va_get (D := G) (ci := 6) (v := .ref a_now) (C := RX6) (T := TX6) (N := 15) hx hb hts iw_X6_breathe_X6 hown hK hP 0 rfl rfl 3 (by decide) (hts (.fieldLink RX6 13 "PaneFrostModel" "now" "[J") (by decide +kernel)) (fun _ h9 => h9) rfl dX6_breathe_46 ?_
        refine lv_iload_n hx hb dX6_breathe_49 rfl (lv_at hl 1 rfl) ?_
        refine lv_iload_n hx hb dX6_breathe_50 rfl (lv_at hl 2 rfl) ?_
        obtain ⟨r_10, hh_r_10, hf⟩ := obd_some hf
        refine kc_i (w1 := [(a_now, av_J cy 11 r_10.2)]) (wr := [(a_0, mv a_text a_now a_trial a_diary a_kept a_isKept a_seen a_equations a_wanted r_9.1), (a_diary, av_J cy 154 r_9.2)]) hP hD hS hA [1] [0, 2] rfl rfl rfl (by decide) (va_runS (As := [.ref a_now, .int x1, .int x2]) (rest := []) ⟨hx, hb, hml, hown, hts⟩ (c_X6_breatheOn (l := l) G cy a_now H.size g_now x1 x2 n r_10 hh_r_10) (va_cwS 3 hts gX6_breathe_X6_breatheOn rfl rfl rfl ddN_X6_breatheOn ⟨Nat.le_of_ble_eq_true rfl, Nat.le_of_ble_eq_true rfl⟩) (preS_ (hP.sub (ws' := [(a_now, av_J cy 11 g_now)]) [1] rfl) hK (hD.sub (ws' := [(a_now, av_J cy 11 g_now)]) [1] rfl rfl) hN) rfl rfl hl.1 rfl (lv_room (Nat.le_of_ble_eq_true rfl)) dX6_breathe_51 ⟨Nat.le_of_ble_eq_true rfl, Nat.le_of_ble_eq_true rfl⟩) (fun H locs hP hD hS => ?_)
        have hP : va_P G vwCl [(a_0, mv a_text a_now a_trial a_diary a_kept a_isKept a_seen a_equations a_wanted r_9.1), (a_diary, av_J cy 154 r_9.2), (a_now, av_J cy 11 r_10.2)] H := hP
        have hD : va_D A [(a_0, mv a_text a_now a_trial a_diary a_kept a_isKept a_seen a_equations a_wanted r_9.1), (a_diary, av_J cy 154 r_9.2), (a_now, av_J cy 11 r_10.2)] := hD
        obtain rfl := Option.some.inj hf
        exact kr_i hx hb hr hlocks rfl (hP.sub (ws' := [(a_0, mv a_text a_now a_trial a_diary a_kept a_isKept a_seen a_equations a_wanted r_9.1), (a_now, av_J cy 11 r_10.2), (a_diary, av_J cy 154 r_9.2)]) [0, 2, 1] rfl) hK (hD.sub (ws' := [(a_0, mv a_text a_now a_trial a_diary a_kept a_isKept a_seen a_equations a_wanted r_9.1), (a_now, av_J cy 11 r_10.2), (a_diary, av_J cy 154 r_9.2)]) [0, 2, 1] rfl rfl) hN hS hS.2.2 dX6_breathe_54
      · have hf := ip_ (bI_n0 h_8) hf
        refine lv_iconst (v := 0) hx hb dX6_breathe_39 (by decide) ?_
        obtain rfl := Option.some.inj hf
        exact kr_i hx hb hr hlocks rfl (hP.sub (ws' := [(a_0, mv a_text a_now a_trial a_diary a_kept a_isKept a_seen a_equations a_wanted r_7.2), (a_now, av_J cy 11 g_now), (a_diary, av_J cy 154 g_diary)]) [2, 1, 0] rfl) hK (hD.sub (ws' := [(a_0, mv a_text a_now a_trial a_diary a_kept a_isKept a_seen a_equations a_wanted r_7.2), (a_now, av_J cy 11 g_now), (a_diary, av_J cy 154 g_diary)]) [2, 1, 0] rfl rfl) hN hS hS.2.2 dX6_breathe_40
  · have hf := in_ (bI_0 h_1) hf
    refine lv_iconst (v := 1) hx hb dX6_breathe_12 (by decide) ?_
    refine lv_goto (tgt := 33) hx hb dX6_breathe_13 (by decide) ?_
    obtain ⟨r_11, hh_r_11⟩ : ∃ z, z = f_X6_refused s_0 1 := ⟨_, rfl⟩
    have hf := lt_e hh_r_11 hf
    refine kc_i (w1 := [(a_0, mv a_text a_now a_trial a_diary a_kept a_isKept a_seen a_equations a_wanted r_11.2)]) (wr := [(a_diary, av_J cy 154 g_diary), (a_now, av_J cy 11 g_now)]) hP hD hS hA [0] [1, 2] rfl rfl rfl (by decide) (va_runV (As := [.int 1]) (rest := []) ⟨hx, hb, hml, hown, hts⟩ (c_X6_refused (l := l) G cy a_0 a_text a_now a_trial a_diary a_kept a_isKept a_seen a_equations a_wanted H.size s_0 1  r_11 hh_r_11.symm) (cwV 1 hts gX6_breathe_X6_refused rfl rfl rfl ddV_X6_refused ⟨Nat.le_of_ble_eq_true rfl, Nat.le_of_ble_eq_true rfl⟩) (preV_ (ci := 6) (q0 := 0) rfl rfl (hP.sub (ws' := [(a_0, mv a_text a_now a_trial a_diary a_kept a_isKept a_seen a_equations a_wanted s_0)]) [0] rfl) hK (hD.sub (ws' := [(a_0, mv a_text a_now a_trial a_diary a_kept a_isKept a_seen a_equations a_wanted s_0)]) [0] rfl rfl) hN) rfl rfl hl.1 rfl (lv_room (Nat.le_of_ble_eq_true rfl)) dX6_breathe_33 ⟨Nat.le_of_ble_eq_true rfl, Nat.le_of_ble_eq_true rfl⟩) (fun H locs hP hD hS => ?_)
    have hP : va_P G vwCl [(a_diary, av_J cy 154 g_diary), (a_now, av_J cy 11 g_now), (a_0, mv a_text a_now a_trial a_diary a_kept a_isKept a_seen a_equations a_wanted r_11.2)] H := hP
    have hD : va_D A [(a_diary, av_J cy 154 g_diary), (a_now, av_J cy 11 g_now), (a_0, mv a_text a_now a_trial a_diary a_kept a_isKept a_seen a_equations a_wanted r_11.2)] := hD
    refine lv_if_eq (tgt := 41) hx hb dX6_breathe_36 (by decide) (fun h_12 => ?_) (fun h_12 => ?_)
    · have hf := in_ (bI_0 h_12) hf
      refine lv_aload_n hx hb dX6_breathe_41 rfl (lv_at hl 0 rfl) ?_
      obtain ⟨r_13, hh_r_13, hf⟩ := obd_some hf
      refine kc_v (w1 := [(a_0, mv a_text a_now a_trial a_diary a_kept a_isKept a_seen a_equations a_wanted r_13.1), (a_now, av_J cy 11 g_now), (a_diary, av_J cy 154 r_13.2)]) (wr := []) hP hD hS hA [2, 1, 0] [] rfl rfl rfl (by decide) (va_runV (As := []) (rest := []) ⟨hx, hb, hml, hown, hts⟩ (c_X6_remember (l := l) G cy a_0 a_text a_now a_trial a_diary a_kept a_isKept a_seen a_equations a_wanted H.size r_11.2 g_now g_diary n r_13 hh_r_13) (cwV 0 hts gX6_breathe_X6_remember rfl rfl rfl ddV_X6_remember ⟨Nat.le_of_ble_eq_true rfl, Nat.le_of_ble_eq_true rfl⟩) (preV_ (ci := 6) (q0 := 0) rfl rfl (hP.sub (ws' := [(a_0, mv a_text a_now a_trial a_diary a_kept a_isKept a_seen a_equations a_wanted r_11.2), (a_now, av_J cy 11 g_now), (a_diary, av_J cy 154 g_diary)]) [2, 1, 0] rfl) hK (hD.sub (ws' := [(a_0, mv a_text a_now a_trial a_diary a_kept a_isKept a_seen a_equations a_wanted r_11.2), (a_now, av_J cy 11 g_now), (a_diary, av_J cy 154 g_diary)]) [2, 1, 0] rfl rfl) hN) rfl rfl hl.1 rfl (lv_room (Nat.le_of_ble_eq_true rfl)) dX6_breathe_42 ⟨Nat.le_of_ble_eq_true rfl, Nat.le_of_ble_eq_true rfl⟩) (fun H locs hP hD hS => ?_)
      have hP : va_P G vwCl [(a_0, mv a_text a_now a_trial a_diary a_kept a_isKept a_seen a_equations a_wanted r_13.1), (a_now, av_J cy 11 g_now), (a_diary, av_J cy 154 r_13.2)] H := hP
      have hD : va_D A [(a_0, mv a_text a_now a_trial a_diary a_kept a_isKept a_seen a_equations a_wanted r_13.1), (a_now, av_J cy 11 g_now), (a_diary, av_J cy 154 r_13.2)] := hD
      refine lv_aload_n hx hb dX6_breathe_45 rfl (lv_at hl 0 rfl) ?_
      refine va_get (D := G) (ci := 6) (v := .ref a_now) (C := RX6) (T := TX6) (N := 15) hx hb hts iw_X6_breathe_X6 hown hK hP 0 rfl rfl 3 (by decide) (hts (.fieldLink RX6 13 "PaneFrostModel" "now" "[J") (by decide +kernel)) (fun _ h9 => h9) rfl dX6_breathe_46 ?_
      refine lv_iload_n hx hb dX6_breathe_49 rfl (lv_at hl 1 rfl) ?_
      refine lv_iload_n hx hb dX6_breathe_50 rfl (lv_at hl 2 rfl) ?_
      obtain ⟨r_14, hh_r_14, hf⟩ := obd_some hf
      refine kc_i (w1 := [(a_now, av_J cy 11 r_14.2)]) (wr := [(a_0, mv a_text a_now a_trial a_diary a_kept a_isKept a_seen a_equations a_wanted r_13.1), (a_diary, av_J cy 154 r_13.2)]) hP hD hS hA [1] [0, 2] rfl rfl rfl (by decide) (va_runS (As := [.ref a_now, .int x1, .int x2]) (rest := []) ⟨hx, hb, hml, hown, hts⟩ (c_X6_breatheOn (l := l) G cy a_now H.size g_now x1 x2 n r_14 hh_r_14) (va_cwS 3 hts gX6_breathe_X6_breatheOn rfl rfl rfl ddN_X6_breatheOn ⟨Nat.le_of_ble_eq_true rfl, Nat.le_of_ble_eq_true rfl⟩) (preS_ (hP.sub (ws' := [(a_now, av_J cy 11 g_now)]) [1] rfl) hK (hD.sub (ws' := [(a_now, av_J cy 11 g_now)]) [1] rfl rfl) hN) rfl rfl hl.1 rfl (lv_room (Nat.le_of_ble_eq_true rfl)) dX6_breathe_51 ⟨Nat.le_of_ble_eq_true rfl, Nat.le_of_ble_eq_true rfl⟩) (fun H locs hP hD hS => ?_)
      have hP : va_P G vwCl [(a_0, mv a_text a_now a_trial a_diary a_kept a_isKept a_seen a_equations a_wanted r_13.1), (a_diary, av_J cy 154 r_13.2), (a_now, av_J cy 11 r_14.2)] H := hP
      have hD : va_D A [(a_0, mv a_text a_now a_trial a_diary a_kept a_isKept a_seen a_equations a_wanted r_13.1), (a_diary, av_J cy 154 r_13.2), (a_now, av_J cy 11 r_14.2)] := hD
      obtain rfl := Option.some.inj hf
      exact kr_i hx hb hr hlocks rfl (hP.sub (ws' := [(a_0, mv a_text a_now a_trial a_diary a_kept a_isKept a_seen a_equations a_wanted r_13.1), (a_now, av_J cy 11 r_14.2), (a_diary, av_J cy 154 r_13.2)]) [0, 2, 1] rfl) hK (hD.sub (ws' := [(a_0, mv a_text a_now a_trial a_diary a_kept a_isKept a_seen a_equations a_wanted r_13.1), (a_now, av_J cy 11 r_14.2), (a_diary, av_J cy 154 r_13.2)]) [0, 2, 1] rfl rfl) hN hS hS.2.2 dX6_breathe_54
    · have hf := ip_ (bI_n0 h_12) hf
      refine lv_iconst (v := 0) hx hb dX6_breathe_39 (by decide) ?_
      obtain rfl := Option.some.inj hf
      exact kr_i hx hb hr hlocks rfl (hP.sub (ws' := [(a_0, mv a_text a_now a_trial a_diary a_kept a_isKept a_seen a_equations a_wanted r_11.2), (a_now, av_J cy 11 g_now), (a_diary, av_J cy 154 g_diary)]) [2, 1, 0] rfl) hK (hD.sub (ws' := [(a_0, mv a_text a_now a_trial a_diary a_kept a_isKept a_seen a_equations a_wanted r_11.2), (a_now, av_J cy 11 g_now), (a_diary, av_J cy 154 g_diary)]) [2, 1, 0] rfl rfl) hN hS hS.2.2 dX6_breathe_40
set_option maxHeartbeats 4000000 in
set_option maxRecDepth 100000 in
theorem c_X6_nights {l : Launch} (G : va_G) (cy : Nat → ClassId) (a_0 : Nat) (a_text : Nat) (a_now : Nat) (a_trial : Nat) (a_diary : Nat) (a_kept : Nat) (a_isKept : Nat) (a_seen : Nat) (a_equations : Nat) (a_wanted : Nat) (sz : Nat) (s_0 : MT) (g_now : Nat → Int64) (g_diary : Nat → Int64) (x1 : Int32) (n : Nat) (R : Int32 × MT × (Nat → Int64) × (Nat → Int64)) (hf : f_X6_nights n s_0 g_now g_diary x1 = some R) : Met l yX6_nights wsX6_nights ({ frames := 8, cells := 0, slots := 0, locals := 188 } : Room) (va_Pc [.ref a_0, .int x1] (pcW G cy [(a_0, mv a_text a_now a_trial a_diary a_kept a_isKept a_seen a_equations a_wanted s_0), (a_now, av_J cy 11 g_now), (a_diary, av_J cy 154 g_diary)] sz)) (va_Qi (fun r (_ : Unit) => r = R.1) (fun _ t => Wd G cy (va_A [(a_0, mv a_text a_now a_trial a_diary a_kept a_isKept a_seen a_equations a_wanted s_0), (a_now, av_J cy 11 g_now), (a_diary, av_J cy 154 g_diary)] sz) [(a_0, mv a_text a_now a_trial a_diary a_kept a_isKept a_seen a_equations a_wanted R.2.1), (a_now, av_J cy 11 R.2.2.1), (a_diary, av_J cy 154 R.2.2.2)] t) (va_A [(a_0, mv a_text a_now a_trial a_diary a_kept a_isKept a_seen a_equations a_wanted s_0), (a_now, av_J cy 11 g_now), (a_diary, av_J cy 154 g_diary)] sz)) 0 0 (va_A [(a_0, mv a_text a_now a_trial a_diary a_kept a_isKept a_seen a_equations a_wanted s_0), (a_now, av_J cy 11 g_now), (a_diary, av_J cy 154 g_diary)] sz) := by
  refine Met.ofW (cc := cX6_nights) (maxL := 2) (ret := (some .int)) (by decide) rfl ?_
  intro p e s m args below meth c s₁ B hml hv
  obtain ⟨rfl, hsz, hP, hK, hD0, hN⟩ := hv
  have hx := B.exec
  have hb := B.bytes
  have hr := B.returns
  have hts := atoms_spec (ws := wsX6_nights) B.pre
  have hown : s.vm.findClass RX6 = some m.cls := findClass_of_methodNamed B.named
  have hlocks := B.notSynchronized
  subst hsz
  have hD := hD0.self (sz := s.heap.size)
  generalize hAe : va_A [(a_0, mv a_text a_now a_trial a_diary a_kept a_isKept a_seen a_equations a_wanted s_0), (a_now, av_J cy 11 g_now), (a_diary, av_J cy 154 g_diary)] s.heap.size = A at hD ⊢
  have hA : ∀ q : Nat, s.heap.size ≤ q → A q := fun q h => by rw [← hAe]; exact Or.inr h
  have hS : va_S A s.heap s.heap [] := va_S.rf
  have hP : va_P G vwCl [(a_0, mv a_text a_now a_trial a_diary a_kept a_isKept a_seen a_equations a_wanted s_0), (a_now, av_J cy 11 g_now), (a_diary, av_J cy 154 g_diary)] s.heap := hP
  have hl := lv_entry [.ref a_0, .int x1] (n := 2) (Nat.le_of_ble_eq_true rfl)
  rw [lg_entry_eq]
  generalize (lg_sl [.ref a_0, .int x1] ++ List.replicate (2 - (lg_sl [.ref a_0, .int x1]).length) Slot.unset).toArray = ls at hl ⊢
  have hl : lv_has ls 2 [(0, .ref a_0), (1, .int x1)] := hl
  unfold f_X6_nights at hf
  refine lv_aload_n hx hb dX6_nights_0 rfl (lv_at hl 0 rfl) ?_
  refine lv_iload_n hx hb dX6_nights_1 rfl (lv_at hl 1 rfl) ?_
  refine lv_i2l (v := x1.toInt64) hx hb dX6_nights_2 rfl ?_
  refine lv_lconst (v := 1) hx hb dX6_nights_3 rfl ?_
  refine lv_ldc2 (v := 60) hx hb hown (hts (.constantLong RX6 195 (60)) (by decide +kernel)) dX6_nights_4 ?_
  refine kc_i (w1 := []) (wr := [(a_0, mv a_text a_now a_trial a_diary a_kept a_isKept a_seen a_equations a_wanted s_0), (a_now, av_J cy 11 g_now), (a_diary, av_J cy 154 g_diary)]) hP hD hS hA [] [0, 1, 2] rfl rfl rfl (by decide) (va_runS (As := [.long x1.toInt64, .long 1, .long 60]) (rest := [.ref a_0]) ⟨hx, hb, hml, hown, hts⟩ (c_X6_in (l := l) G cy  s.heap.size x1.toInt64 1 60  (f_X6_in x1.toInt64 1 60) rfl) (va_cwS 3 hts gX6_nights_X6_in rfl rfl rfl ddN_X6_in ⟨Nat.le_of_ble_eq_true rfl, Nat.le_of_ble_eq_true rfl⟩) (preS_ (hP.sub (ws' := []) [] rfl) hK (hD.sub (ws' := []) [] rfl rfl) hN) rfl rfl hl.1 rfl (lv_room (Nat.le_of_ble_eq_true rfl)) dX6_nights_7 ⟨Nat.le_of_ble_eq_true rfl, Nat.le_of_ble_eq_true rfl⟩) (fun H locs hP hD hS => ?_)
  have hP : va_P G vwCl [(a_0, mv a_text a_now a_trial a_diary a_kept a_isKept a_seen a_equations a_wanted s_0), (a_now, av_J cy 11 g_now), (a_diary, av_J cy 154 g_diary)] H := hP
  have hD : va_D A [(a_0, mv a_text a_now a_trial a_diary a_kept a_isKept a_seen a_equations a_wanted s_0), (a_now, av_J cy 11 g_now), (a_diary, av_J cy 154 g_diary)] := hD
  refine lv_if_eq (tgt := 17) hx hb dX6_nights_10 (by decide) (fun h_1 => ?_) (fun h_1 => ?_)
  · have hf := in_ (bI_0 h_1) hf
    refine lv_iconst (v := 1) hx hb dX6_nights_17 (by decide) ?_
    obtain ⟨r_2, hh_r_2⟩ : ∃ z, z = f_X6_refused s_0 1 := ⟨_, rfl⟩
    have hf := lt_e hh_r_2 hf
    refine kc_i (w1 := [(a_0, mv a_text a_now a_trial a_diary a_kept a_isKept a_seen a_equations a_wanted r_2.2)]) (wr := [(a_now, av_J cy 11 g_now), (a_diary, av_J cy 154 g_diary)]) hP hD hS hA [0] [1, 2] rfl rfl rfl (by decide) (va_runV (As := [.int 1]) (rest := []) ⟨hx, hb, hml, hown, hts⟩ (c_X6_refused (l := l) G cy a_0 a_text a_now a_trial a_diary a_kept a_isKept a_seen a_equations a_wanted H.size s_0 1  r_2 hh_r_2.symm) (cwV 1 hts gX6_nights_X6_refused rfl rfl rfl ddV_X6_refused ⟨Nat.le_of_ble_eq_true rfl, Nat.le_of_ble_eq_true rfl⟩) (preV_ (ci := 6) (q0 := 0) rfl rfl (hP.sub (ws' := [(a_0, mv a_text a_now a_trial a_diary a_kept a_isKept a_seen a_equations a_wanted s_0)]) [0] rfl) hK (hD.sub (ws' := [(a_0, mv a_text a_now a_trial a_diary a_kept a_isKept a_seen a_equations a_wanted s_0)]) [0] rfl rfl) hN) rfl rfl hl.1 rfl (lv_room (Nat.le_of_ble_eq_true rfl)) dX6_nights_18 ⟨Nat.le_of_ble_eq_true rfl, Nat.le_of_ble_eq_true rfl⟩) (fun H locs hP hD hS => ?_)
    have hP : va_P G vwCl [(a_now, av_J cy 11 g_now), (a_diary, av_J cy 154 g_diary), (a_0, mv a_text a_now a_trial a_diary a_kept a_isKept a_seen a_equations a_wanted r_2.2)] H := hP
    have hD : va_D A [(a_now, av_J cy 11 g_now), (a_diary, av_J cy 154 g_diary), (a_0, mv a_text a_now a_trial a_diary a_kept a_isKept a_seen a_equations a_wanted r_2.2)] := hD
    refine lv_if_eq (tgt := 26) hx hb dX6_nights_21 (by decide) (fun h_3 => ?_) (fun h_3 => ?_)
    · have hf := in_ (bI_0 h_3) hf
      refine lv_aload_n hx hb dX6_nights_26 rfl (lv_at hl 0 rfl) ?_
      obtain ⟨r_4, hh_r_4, hf⟩ := obd_some hf
      refine kc_v (w1 := [(a_0, mv a_text a_now a_trial a_diary a_kept a_isKept a_seen a_equations a_wanted r_4.1), (a_now, av_J cy 11 g_now), (a_diary, av_J cy 154 r_4.2)]) (wr := []) hP hD hS hA [2, 0, 1] [] rfl rfl rfl (by decide) (va_runV (As := []) (rest := []) ⟨hx, hb, hml, hown, hts⟩ (c_X6_remember (l := l) G cy a_0 a_text a_now a_trial a_diary a_kept a_isKept a_seen a_equations a_wanted H.size r_2.2 g_now g_diary n r_4 hh_r_4) (cwV 0 hts gX6_nights_X6_remember rfl rfl rfl ddV_X6_remember ⟨Nat.le_of_ble_eq_true rfl, Nat.le_of_ble_eq_true rfl⟩) (preV_ (ci := 6) (q0 := 0) rfl rfl (hP.sub (ws' := [(a_0, mv a_text a_now a_trial a_diary a_kept a_isKept a_seen a_equations a_wanted r_2.2), (a_now, av_J cy 11 g_now), (a_diary, av_J cy 154 g_diary)]) [2, 0, 1] rfl) hK (hD.sub (ws' := [(a_0, mv a_text a_now a_trial a_diary a_kept a_isKept a_seen a_equations a_wanted r_2.2), (a_now, av_J cy 11 g_now), (a_diary, av_J cy 154 g_diary)]) [2, 0, 1] rfl rfl) hN) rfl rfl hl.1 rfl (lv_room (Nat.le_of_ble_eq_true rfl)) dX6_nights_27 ⟨Nat.le_of_ble_eq_true rfl, Nat.le_of_ble_eq_true rfl⟩) (fun H locs hP hD hS => ?_)
      have hP : va_P G vwCl [(a_0, mv a_text a_now a_trial a_diary a_kept a_isKept a_seen a_equations a_wanted r_4.1), (a_now, av_J cy 11 g_now), (a_diary, av_J cy 154 r_4.2)] H := hP
      have hD : va_D A [(a_0, mv a_text a_now a_trial a_diary a_kept a_isKept a_seen a_equations a_wanted r_4.1), (a_now, av_J cy 11 g_now), (a_diary, av_J cy 154 r_4.2)] := hD
      refine lv_aload_n hx hb dX6_nights_30 rfl (lv_at hl 0 rfl) ?_
      refine va_get (D := G) (ci := 6) (v := .ref a_now) (C := RX6) (T := TX6) (N := 15) hx hb hts iw_X6_nights_X6 hown hK hP 0 rfl rfl 3 (by decide) (hts (.fieldLink RX6 13 "PaneFrostModel" "now" "[J") (by decide +kernel)) (fun _ h9 => h9) rfl dX6_nights_31 ?_
      refine lv_iload_n hx hb dX6_nights_34 rfl (lv_at hl 1 rfl) ?_
      obtain ⟨r_5, hh_r_5, hf⟩ := obd_some hf
      refine kc_i (w1 := [(a_now, av_J cy 11 r_5.2)]) (wr := [(a_0, mv a_text a_now a_trial a_diary a_kept a_isKept a_seen a_equations a_wanted r_4.1), (a_diary, av_J cy 154 r_4.2)]) hP hD hS hA [1] [0, 2] rfl rfl rfl (by decide) (va_runS (As := [.ref a_now, .int x1]) (rest := []) ⟨hx, hb, hml, hown, hts⟩ (c_X6_nightsOn (l := l) G cy a_now H.size g_now x1 n r_5 hh_r_5) (va_cwS 2 hts gX6_nights_X6_nightsOn rfl rfl rfl ddN_X6_nightsOn ⟨Nat.le_of_ble_eq_true rfl, Nat.le_of_ble_eq_true rfl⟩) (preS_ (hP.sub (ws' := [(a_now, av_J cy 11 g_now)]) [1] rfl) hK (hD.sub (ws' := [(a_now, av_J cy 11 g_now)]) [1] rfl rfl) hN) rfl rfl hl.1 rfl (lv_room (Nat.le_of_ble_eq_true rfl)) dX6_nights_35 ⟨Nat.le_of_ble_eq_true rfl, Nat.le_of_ble_eq_true rfl⟩) (fun H locs hP hD hS => ?_)
      have hP : va_P G vwCl [(a_0, mv a_text a_now a_trial a_diary a_kept a_isKept a_seen a_equations a_wanted r_4.1), (a_diary, av_J cy 154 r_4.2), (a_now, av_J cy 11 r_5.2)] H := hP
      have hD : va_D A [(a_0, mv a_text a_now a_trial a_diary a_kept a_isKept a_seen a_equations a_wanted r_4.1), (a_diary, av_J cy 154 r_4.2), (a_now, av_J cy 11 r_5.2)] := hD
      obtain rfl := Option.some.inj hf
      exact kr_i hx hb hr hlocks rfl (hP.sub (ws' := [(a_0, mv a_text a_now a_trial a_diary a_kept a_isKept a_seen a_equations a_wanted r_4.1), (a_now, av_J cy 11 r_5.2), (a_diary, av_J cy 154 r_4.2)]) [0, 2, 1] rfl) hK (hD.sub (ws' := [(a_0, mv a_text a_now a_trial a_diary a_kept a_isKept a_seen a_equations a_wanted r_4.1), (a_now, av_J cy 11 r_5.2), (a_diary, av_J cy 154 r_4.2)]) [0, 2, 1] rfl rfl) hN hS hS.2.2 dX6_nights_38
    · have hf := ip_ (bI_n0 h_3) hf
      refine lv_iconst (v := 0) hx hb dX6_nights_24 (by decide) ?_
      obtain rfl := Option.some.inj hf
      exact kr_i hx hb hr hlocks rfl (hP.sub (ws' := [(a_0, mv a_text a_now a_trial a_diary a_kept a_isKept a_seen a_equations a_wanted r_2.2), (a_now, av_J cy 11 g_now), (a_diary, av_J cy 154 g_diary)]) [2, 0, 1] rfl) hK (hD.sub (ws' := [(a_0, mv a_text a_now a_trial a_diary a_kept a_isKept a_seen a_equations a_wanted r_2.2), (a_now, av_J cy 11 g_now), (a_diary, av_J cy 154 g_diary)]) [2, 0, 1] rfl rfl) hN hS hS.2.2 dX6_nights_25
  · have hf := ip_ (bI_n0 h_1) hf
    refine lv_iconst (v := 0) hx hb dX6_nights_13 (by decide) ?_
    refine lv_goto (tgt := 18) hx hb dX6_nights_14 (by decide) ?_
    obtain ⟨r_6, hh_r_6⟩ : ∃ z, z = f_X6_refused s_0 0 := ⟨_, rfl⟩
    have hf := lt_e hh_r_6 hf
    refine kc_i (w1 := [(a_0, mv a_text a_now a_trial a_diary a_kept a_isKept a_seen a_equations a_wanted r_6.2)]) (wr := [(a_now, av_J cy 11 g_now), (a_diary, av_J cy 154 g_diary)]) hP hD hS hA [0] [1, 2] rfl rfl rfl (by decide) (va_runV (As := [.int 0]) (rest := []) ⟨hx, hb, hml, hown, hts⟩ (c_X6_refused (l := l) G cy a_0 a_text a_now a_trial a_diary a_kept a_isKept a_seen a_equations a_wanted H.size s_0 0  r_6 hh_r_6.symm) (cwV 1 hts gX6_nights_X6_refused rfl rfl rfl ddV_X6_refused ⟨Nat.le_of_ble_eq_true rfl, Nat.le_of_ble_eq_true rfl⟩) (preV_ (ci := 6) (q0 := 0) rfl rfl (hP.sub (ws' := [(a_0, mv a_text a_now a_trial a_diary a_kept a_isKept a_seen a_equations a_wanted s_0)]) [0] rfl) hK (hD.sub (ws' := [(a_0, mv a_text a_now a_trial a_diary a_kept a_isKept a_seen a_equations a_wanted s_0)]) [0] rfl rfl) hN) rfl rfl hl.1 rfl (lv_room (Nat.le_of_ble_eq_true rfl)) dX6_nights_18 ⟨Nat.le_of_ble_eq_true rfl, Nat.le_of_ble_eq_true rfl⟩) (fun H locs hP hD hS => ?_)
    have hP : va_P G vwCl [(a_now, av_J cy 11 g_now), (a_diary, av_J cy 154 g_diary), (a_0, mv a_text a_now a_trial a_diary a_kept a_isKept a_seen a_equations a_wanted r_6.2)] H := hP
    have hD : va_D A [(a_now, av_J cy 11 g_now), (a_diary, av_J cy 154 g_diary), (a_0, mv a_text a_now a_trial a_diary a_kept a_isKept a_seen a_equations a_wanted r_6.2)] := hD
    refine lv_if_eq (tgt := 26) hx hb dX6_nights_21 (by decide) (fun h_7 => ?_) (fun h_7 => ?_)
    · have hf := in_ (bI_0 h_7) hf
      refine lv_aload_n hx hb dX6_nights_26 rfl (lv_at hl 0 rfl) ?_
      obtain ⟨r_8, hh_r_8, hf⟩ := obd_some hf
      refine kc_v (w1 := [(a_0, mv a_text a_now a_trial a_diary a_kept a_isKept a_seen a_equations a_wanted r_8.1), (a_now, av_J cy 11 g_now), (a_diary, av_J cy 154 r_8.2)]) (wr := []) hP hD hS hA [2, 0, 1] [] rfl rfl rfl (by decide) (va_runV (As := []) (rest := []) ⟨hx, hb, hml, hown, hts⟩ (c_X6_remember (l := l) G cy a_0 a_text a_now a_trial a_diary a_kept a_isKept a_seen a_equations a_wanted H.size r_6.2 g_now g_diary n r_8 hh_r_8) (cwV 0 hts gX6_nights_X6_remember rfl rfl rfl ddV_X6_remember ⟨Nat.le_of_ble_eq_true rfl, Nat.le_of_ble_eq_true rfl⟩) (preV_ (ci := 6) (q0 := 0) rfl rfl (hP.sub (ws' := [(a_0, mv a_text a_now a_trial a_diary a_kept a_isKept a_seen a_equations a_wanted r_6.2), (a_now, av_J cy 11 g_now), (a_diary, av_J cy 154 g_diary)]) [2, 0, 1] rfl) hK (hD.sub (ws' := [(a_0, mv a_text a_now a_trial a_diary a_kept a_isKept a_seen a_equations a_wanted r_6.2), (a_now, av_J cy 11 g_now), (a_diary, av_J cy 154 g_diary)]) [2, 0, 1] rfl rfl) hN) rfl rfl hl.1 rfl (lv_room (Nat.le_of_ble_eq_true rfl)) dX6_nights_27 ⟨Nat.le_of_ble_eq_true rfl, Nat.le_of_ble_eq_true rfl⟩) (fun H locs hP hD hS => ?_)
      have hP : va_P G vwCl [(a_0, mv a_text a_now a_trial a_diary a_kept a_isKept a_seen a_equations a_wanted r_8.1), (a_now, av_J cy 11 g_now), (a_diary, av_J cy 154 r_8.2)] H := hP
      have hD : va_D A [(a_0, mv a_text a_now a_trial a_diary a_kept a_isKept a_seen a_equations a_wanted r_8.1), (a_now, av_J cy 11 g_now), (a_diary, av_J cy 154 r_8.2)] := hD
      refine lv_aload_n hx hb dX6_nights_30 rfl (lv_at hl 0 rfl) ?_
      refine va_get (D := G) (ci := 6) (v := .ref a_now) (C := RX6) (T := TX6) (N := 15) hx hb hts iw_X6_nights_X6 hown hK hP 0 rfl rfl 3 (by decide) (hts (.fieldLink RX6 13 "PaneFrostModel" "now" "[J") (by decide +kernel)) (fun _ h9 => h9) rfl dX6_nights_31 ?_
      refine lv_iload_n hx hb dX6_nights_34 rfl (lv_at hl 1 rfl) ?_
      obtain ⟨r_9, hh_r_9, hf⟩ := obd_some hf
      refine kc_i (w1 := [(a_now, av_J cy 11 r_9.2)]) (wr := [(a_0, mv a_text a_now a_trial a_diary a_kept a_isKept a_seen a_equations a_wanted r_8.1), (a_diary, av_J cy 154 r_8.2)]) hP hD hS hA [1] [0, 2] rfl rfl rfl (by decide) (va_runS (As := [.ref a_now, .int x1]) (rest := []) ⟨hx, hb, hml, hown, hts⟩ (c_X6_nightsOn (l := l) G cy a_now H.size g_now x1 n r_9 hh_r_9) (va_cwS 2 hts gX6_nights_X6_nightsOn rfl rfl rfl ddN_X6_nightsOn ⟨Nat.le_of_ble_eq_true rfl, Nat.le_of_ble_eq_true rfl⟩) (preS_ (hP.sub (ws' := [(a_now, av_J cy 11 g_now)]) [1] rfl) hK (hD.sub (ws' := [(a_now, av_J cy 11 g_now)]) [1] rfl rfl) hN) rfl rfl hl.1 rfl (lv_room (Nat.le_of_ble_eq_true rfl)) dX6_nights_35 ⟨Nat.le_of_ble_eq_true rfl, Nat.le_of_ble_eq_true rfl⟩) (fun H locs hP hD hS => ?_)
      have hP : va_P G vwCl [(a_0, mv a_text a_now a_trial a_diary a_kept a_isKept a_seen a_equations a_wanted r_8.1), (a_diary, av_J cy 154 r_8.2), (a_now, av_J cy 11 r_9.2)] H := hP
      have hD : va_D A [(a_0, mv a_text a_now a_trial a_diary a_kept a_isKept a_seen a_equations a_wanted r_8.1), (a_diary, av_J cy 154 r_8.2), (a_now, av_J cy 11 r_9.2)] := hD
      obtain rfl := Option.some.inj hf
      exact kr_i hx hb hr hlocks rfl (hP.sub (ws' := [(a_0, mv a_text a_now a_trial a_diary a_kept a_isKept a_seen a_equations a_wanted r_8.1), (a_now, av_J cy 11 r_9.2), (a_diary, av_J cy 154 r_8.2)]) [0, 2, 1] rfl) hK (hD.sub (ws' := [(a_0, mv a_text a_now a_trial a_diary a_kept a_isKept a_seen a_equations a_wanted r_8.1), (a_now, av_J cy 11 r_9.2), (a_diary, av_J cy 154 r_8.2)]) [0, 2, 1] rfl rfl) hN hS hS.2.2 dX6_nights_38
    · have hf := ip_ (bI_n0 h_7) hf
      refine lv_iconst (v := 0) hx hb dX6_nights_24 (by decide) ?_
      obtain rfl := Option.some.inj hf
      exact kr_i hx hb hr hlocks rfl (hP.sub (ws' := [(a_0, mv a_text a_now a_trial a_diary a_kept a_isKept a_seen a_equations a_wanted r_6.2), (a_now, av_J cy 11 g_now), (a_diary, av_J cy 154 g_diary)]) [2, 0, 1] rfl) hK (hD.sub (ws' := [(a_0, mv a_text a_now a_trial a_diary a_kept a_isKept a_seen a_equations a_wanted r_6.2), (a_now, av_J cy 11 g_now), (a_diary, av_J cy 154 g_diary)]) [2, 0, 1] rfl rfl) hN hS hS.2.2 dX6_nights_25
set_option maxHeartbeats 4000000 in
set_option maxRecDepth 100000 in
theorem c_X6_undo {l : Launch} (G : va_G) (cy : Nat → ClassId) (a_0 : Nat) (a_text : Nat) (a_now : Nat) (a_trial : Nat) (a_diary : Nat) (a_kept : Nat) (a_isKept : Nat) (a_seen : Nat) (a_equations : Nat) (a_wanted : Nat) (sz : Nat) (s_0 : MT) (g_now : Nat → Int64) (g_diary : Nat → Int64) (n : Nat) (R : Int32 × MT × (Nat → Int64)) (hf : f_X6_undo n s_0 g_now g_diary = some R) : Met l yX6_undo wsX6_undo ({ frames := 1, cells := 0, slots := 0, locals := 24 } : Room) (va_Pc [.ref a_0] (pcW G cy [(a_0, mv a_text a_now a_trial a_diary a_kept a_isKept a_seen a_equations a_wanted s_0), (a_now, av_J cy 11 g_now), (a_diary, av_J cy 154 g_diary)] sz)) (va_Qi (fun r (_ : Unit) => r = R.1) (fun _ t => Wd G cy (va_A [(a_0, mv a_text a_now a_trial a_diary a_kept a_isKept a_seen a_equations a_wanted s_0), (a_now, av_J cy 11 g_now), (a_diary, av_J cy 154 g_diary)] sz) [(a_0, mv a_text a_now a_trial a_diary a_kept a_isKept a_seen a_equations a_wanted R.2.1), (a_now, av_J cy 11 R.2.2), (a_diary, av_J cy 154 g_diary)] t) (va_A [(a_0, mv a_text a_now a_trial a_diary a_kept a_isKept a_seen a_equations a_wanted s_0), (a_now, av_J cy 11 g_now), (a_diary, av_J cy 154 g_diary)] sz)) 0 0 (va_A [(a_0, mv a_text a_now a_trial a_diary a_kept a_isKept a_seen a_equations a_wanted s_0), (a_now, av_J cy 11 g_now), (a_diary, av_J cy 154 g_diary)] sz) := by
  refine Met.ofW (cc := cX6_undo) (maxL := 1) (ret := (some .int)) (by decide) rfl ?_
  intro p e s m args below meth c s₁ B hml hv
  obtain ⟨rfl, hsz, hP, hK, hD0, hN⟩ := hv
  have hx := B.exec
  have hb := B.bytes
  have hr := B.returns
  have hts := atoms_spec (ws := wsX6_undo) B.pre
  have hown : s.vm.findClass RX6 = some m.cls := findClass_of_methodNamed B.named
  have hlocks := B.notSynchronized
  subst hsz
  have hD := hD0.self (sz := s.heap.size)
  generalize hAe : va_A [(a_0, mv a_text a_now a_trial a_diary a_kept a_isKept a_seen a_equations a_wanted s_0), (a_now, av_J cy 11 g_now), (a_diary, av_J cy 154 g_diary)] s.heap.size = A at hD ⊢
  have hA : ∀ q : Nat, s.heap.size ≤ q → A q := fun q h => by rw [← hAe]; exact Or.inr h
  have hS : va_S A s.heap s.heap [] := va_S.rf
  have hP : va_P G vwCl [(a_0, mv a_text a_now a_trial a_diary a_kept a_isKept a_seen a_equations a_wanted s_0), (a_now, av_J cy 11 g_now), (a_diary, av_J cy 154 g_diary)] s.heap := hP
  have hl := lv_entry [.ref a_0] (n := 1) (Nat.le_of_ble_eq_true rfl)
  rw [lg_entry_eq]
  generalize (lg_sl [.ref a_0] ++ List.replicate (1 - (lg_sl [.ref a_0]).length) Slot.unset).toArray = ls at hl ⊢
  have hl : lv_has ls 1 [(0, .ref a_0)] := hl
  unfold f_X6_undo at hf
  refine lv_aload_n hx hb dX6_undo_0 rfl (lv_at hl 0 rfl) ?_
  refine lv_aload_n hx hb dX6_undo_1 rfl (lv_at hl 0 rfl) ?_
  refine va_get (D := G) (ci := 6) (v := .int (m_acts s_0)) (C := RX6) (T := TX6) (N := 15) hx hb hts iw_X6_undo_X6 hown hK hP 0 rfl rfl 6 (by decide) (hts (.fieldLink RX6 178 "PaneFrostModel" "acts" "I") (by decide +kernel)) (fun _ h9 => h9) rfl dX6_undo_2 ?_
  refine lv_if_ne (tgt := 12) hx hb dX6_undo_5 (by decide) (fun h_1 => ?_) (fun h_1 => ?_)
  · have hf := in_ h_1 hf
    refine lv_iconst (v := 0) hx hb dX6_undo_12 (by decide) ?_
    obtain ⟨r_2, hh_r_2⟩ : ∃ z, z = f_X6_refused s_0 0 := ⟨_, rfl⟩
    have hf := lt_e hh_r_2 hf
    refine kc_i (w1 := [(a_0, mv a_text a_now a_trial a_diary a_kept a_isKept a_seen a_equations a_wanted r_2.2)]) (wr := [(a_now, av_J cy 11 g_now), (a_diary, av_J cy 154 g_diary)]) hP hD hS hA [0] [1, 2] rfl rfl rfl (by decide) (va_runV (As := [.int 0]) (rest := []) ⟨hx, hb, hml, hown, hts⟩ (c_X6_refused (l := l) G cy a_0 a_text a_now a_trial a_diary a_kept a_isKept a_seen a_equations a_wanted s.heap.size s_0 0  r_2 hh_r_2.symm) (cwV 1 hts gX6_undo_X6_refused rfl rfl rfl ddV_X6_refused ⟨Nat.le_of_ble_eq_true rfl, Nat.le_of_ble_eq_true rfl⟩) (preV_ (ci := 6) (q0 := 0) rfl rfl (hP.sub (ws' := [(a_0, mv a_text a_now a_trial a_diary a_kept a_isKept a_seen a_equations a_wanted s_0)]) [0] rfl) hK (hD.sub (ws' := [(a_0, mv a_text a_now a_trial a_diary a_kept a_isKept a_seen a_equations a_wanted s_0)]) [0] rfl rfl) hN) rfl rfl hl.1 rfl (lv_room (Nat.le_of_ble_eq_true rfl)) dX6_undo_13 ⟨Nat.le_of_ble_eq_true rfl, Nat.le_of_ble_eq_true rfl⟩) (fun H locs hP hD hS => ?_)
    have hP : va_P G vwCl [(a_now, av_J cy 11 g_now), (a_diary, av_J cy 154 g_diary), (a_0, mv a_text a_now a_trial a_diary a_kept a_isKept a_seen a_equations a_wanted r_2.2)] H := hP
    have hD : va_D A [(a_now, av_J cy 11 g_now), (a_diary, av_J cy 154 g_diary), (a_0, mv a_text a_now a_trial a_diary a_kept a_isKept a_seen a_equations a_wanted r_2.2)] := hD
    refine lv_if_eq (tgt := 21) hx hb dX6_undo_16 (by decide) (fun h_3 => ?_) (fun h_3 => ?_)
    · have hf := in_ (bI_0 h_3) hf
      refine lv_aload_n hx hb dX6_undo_21 rfl (lv_at hl 0 rfl) ?_
      refine lv_dup hx hb dX6_undo_22 rfl ?_
      refine va_get (D := G) (ci := 6) (v := .int (m_acts r_2.2)) (C := RX6) (T := TX6) (N := 15) hx hb hts iw_X6_undo_X6 hown hK hP 2 rfl rfl 6 (by decide) (hts (.fieldLink RX6 178 "PaneFrostModel" "acts" "I") (by decide +kernel)) (fun _ h9 => h9) rfl dX6_undo_23 ?_
      refine lv_iconst (v := 1) hx hb dX6_undo_26 (by decide) ?_
      refine lv_isub hx hb dX6_undo_27 ?_
      refine va_put (D := G) (ci := 6) (v := .int ((m_acts r_2.2) - 1)) (ty := .int) (C := RX6) (T := TX6) (N := 15) hx hb hts iw_X6_undo_X6 tyX6 tyX6_ok nmX6 hown hK hP hD hS 2 rfl rfl 6 (by decide) (hts (.fieldLink RX6 178 "PaneFrostModel" "acts" "I") (by decide +kernel)) (fun _ h9 => h9) rfl (by decide +kernel) rfl rfl (Nat.le_of_ble_eq_true rfl) dX6_undo_28 (fun H locs hP hD hS => ?_)
      have hP : va_P G vwCl [(a_now, av_J cy 11 g_now), (a_diary, av_J cy 154 g_diary), (a_0, mv a_text a_now a_trial a_diary a_kept a_isKept a_seen a_equations a_wanted (m_refusal r_2.2, m_size r_2.2, ((m_acts r_2.2) - 1), m_rank r_2.2, m_spot r_2.2, m_out r_2.2))] H := hP
      have hD : va_D A [(a_now, av_J cy 11 g_now), (a_diary, av_J cy 154 g_diary), (a_0, mv a_text a_now a_trial a_diary a_kept a_isKept a_seen a_equations a_wanted (m_refusal r_2.2, m_size r_2.2, ((m_acts r_2.2) - 1), m_rank r_2.2, m_spot r_2.2, m_out r_2.2))] := hD
      refine lv_aload_n hx hb dX6_undo_31 rfl (lv_at hl 0 rfl) ?_
      refine va_get (D := G) (ci := 6) (v := .ref a_diary) (C := RX6) (T := TX6) (N := 15) hx hb hts iw_X6_undo_X6 hown hK hP 2 rfl rfl 5 (by decide) (hts (.fieldLink RX6 20 "PaneFrostModel" "diary" "[J") (by decide +kernel)) (fun _ h9 => h9) rfl dX6_undo_32 ?_
      refine lv_bipush (v := 11) hx hb dX6_undo_35 (by decide) ?_
      refine lv_aload_n hx hb dX6_undo_37 rfl (lv_at hl 0 rfl) ?_
      refine va_get (D := G) (ci := 6) (v := .int ((m_acts r_2.2) - 1)) (C := RX6) (T := TX6) (N := 15) hx hb hts iw_X6_undo_X6 hown hK hP 2 rfl rfl 6 (by decide) (hts (.fieldLink RX6 178 "PaneFrostModel" "acts" "I") (by decide +kernel)) (fun _ h9 => h9) rfl dX6_undo_38 ?_
      refine lv_imul hx hb dX6_undo_41 ?_
      refine lv_aload_n hx hb dX6_undo_42 rfl (lv_at hl 0 rfl) ?_
      refine va_get (D := G) (ci := 6) (v := .ref a_now) (C := RX6) (T := TX6) (N := 15) hx hb hts iw_X6_undo_X6 hown hK hP 2 rfl rfl 3 (by decide) (hts (.fieldLink RX6 13 "PaneFrostModel" "now" "[J") (by decide +kernel)) (fun _ h9 => h9) rfl dX6_undo_43 ?_
      refine lv_iconst (v := 0) hx hb dX6_undo_46 (by decide) ?_
      obtain ⟨r_4, hh_r_4, hf⟩ := obd_some hf
      refine kc_v (w1 := [(a_diary, av_J cy 154 g_diary), (a_now, av_J cy 11 r_4)]) (wr := [(a_0, mv a_text a_now a_trial a_diary a_kept a_isKept a_seen a_equations a_wanted (m_refusal r_2.2, m_size r_2.2, ((m_acts r_2.2) - 1), m_rank r_2.2, m_spot r_2.2, m_out r_2.2))]) hP hD hS hA [1, 0] [2] rfl rfl rfl (by decide) (va_runS (As := [.ref a_diary, .int (11 * ((m_acts r_2.2) - 1)), .ref a_now, .int 0]) (rest := []) ⟨hx, hb, hml, hown, hts⟩ (c_X6_copyState (l := l) G cy a_diary a_now H.size g_diary g_now 154 11 (11 * ((m_acts r_2.2) - 1)) 0 n r_4 hh_r_4) (va_cwS 4 hts gX6_undo_X6_copyState rfl rfl rfl ddN_X6_copyState ⟨Nat.le_of_ble_eq_true rfl, Nat.le_of_ble_eq_true rfl⟩) (preS_ (hP.sub (ws' := [(a_diary, av_J cy 154 g_diary), (a_now, av_J cy 11 g_now)]) [1, 0] rfl) hK (hD.sub (ws' := [(a_diary, av_J cy 154 g_diary), (a_now, av_J cy 11 g_now)]) [1, 0] rfl rfl) hN) rfl rfl hl.1 rfl (lv_room (Nat.le_of_ble_eq_true rfl)) dX6_undo_47 ⟨Nat.le_of_ble_eq_true rfl, Nat.le_of_ble_eq_true rfl⟩) (fun H locs hP hD hS => ?_)
      have hP : va_P G vwCl [(a_0, mv a_text a_now a_trial a_diary a_kept a_isKept a_seen a_equations a_wanted (m_refusal r_2.2, m_size r_2.2, ((m_acts r_2.2) - 1), m_rank r_2.2, m_spot r_2.2, m_out r_2.2)), (a_diary, av_J cy 154 g_diary), (a_now, av_J cy 11 r_4)] H := hP
      have hD : va_D A [(a_0, mv a_text a_now a_trial a_diary a_kept a_isKept a_seen a_equations a_wanted (m_refusal r_2.2, m_size r_2.2, ((m_acts r_2.2) - 1), m_rank r_2.2, m_spot r_2.2, m_out r_2.2)), (a_diary, av_J cy 154 g_diary), (a_now, av_J cy 11 r_4)] := hD
      refine lv_aload_n hx hb dX6_undo_50 rfl (lv_at hl 0 rfl) ?_
      refine va_get (D := G) (ci := 6) (v := .int ((m_acts r_2.2) - 1)) (C := RX6) (T := TX6) (N := 15) hx hb hts iw_X6_undo_X6 hown hK hP 0 rfl rfl 6 (by decide) (hts (.fieldLink RX6 178 "PaneFrostModel" "acts" "I") (by decide +kernel)) (fun _ h9 => h9) rfl dX6_undo_51 ?_
      obtain rfl := Option.some.inj hf
      exact kr_i hx hb hr hlocks rfl (hP.sub (ws' := [(a_0, mv a_text a_now a_trial a_diary a_kept a_isKept a_seen a_equations a_wanted (m_refusal r_2.2, m_size r_2.2, ((m_acts r_2.2) - 1), m_rank r_2.2, m_spot r_2.2, m_out r_2.2)), (a_now, av_J cy 11 r_4), (a_diary, av_J cy 154 g_diary)]) [0, 2, 1] rfl) hK (hD.sub (ws' := [(a_0, mv a_text a_now a_trial a_diary a_kept a_isKept a_seen a_equations a_wanted (m_refusal r_2.2, m_size r_2.2, ((m_acts r_2.2) - 1), m_rank r_2.2, m_spot r_2.2, m_out r_2.2)), (a_now, av_J cy 11 r_4), (a_diary, av_J cy 154 g_diary)]) [0, 2, 1] rfl rfl) hN hS hS.2.2 dX6_undo_54
    · have hf := ip_ (bI_n0 h_3) hf
      refine lv_iconst (v := 0) hx hb dX6_undo_19 (by decide) ?_
      obtain rfl := Option.some.inj hf
      exact kr_i hx hb hr hlocks rfl (hP.sub (ws' := [(a_0, mv a_text a_now a_trial a_diary a_kept a_isKept a_seen a_equations a_wanted r_2.2), (a_now, av_J cy 11 g_now), (a_diary, av_J cy 154 g_diary)]) [2, 0, 1] rfl) hK (hD.sub (ws' := [(a_0, mv a_text a_now a_trial a_diary a_kept a_isKept a_seen a_equations a_wanted r_2.2), (a_now, av_J cy 11 g_now), (a_diary, av_J cy 154 g_diary)]) [2, 0, 1] rfl rfl) hN hS hS.2.2 dX6_undo_20
  · have hf := ip_ h_1 hf
    refine lv_iconst (v := 1) hx hb dX6_undo_8 (by decide) ?_
    refine lv_goto (tgt := 13) hx hb dX6_undo_9 (by decide) ?_
    obtain ⟨r_5, hh_r_5⟩ : ∃ z, z = f_X6_refused s_0 1 := ⟨_, rfl⟩
    have hf := lt_e hh_r_5 hf
    refine kc_i (w1 := [(a_0, mv a_text a_now a_trial a_diary a_kept a_isKept a_seen a_equations a_wanted r_5.2)]) (wr := [(a_now, av_J cy 11 g_now), (a_diary, av_J cy 154 g_diary)]) hP hD hS hA [0] [1, 2] rfl rfl rfl (by decide) (va_runV (As := [.int 1]) (rest := []) ⟨hx, hb, hml, hown, hts⟩ (c_X6_refused (l := l) G cy a_0 a_text a_now a_trial a_diary a_kept a_isKept a_seen a_equations a_wanted s.heap.size s_0 1  r_5 hh_r_5.symm) (cwV 1 hts gX6_undo_X6_refused rfl rfl rfl ddV_X6_refused ⟨Nat.le_of_ble_eq_true rfl, Nat.le_of_ble_eq_true rfl⟩) (preV_ (ci := 6) (q0 := 0) rfl rfl (hP.sub (ws' := [(a_0, mv a_text a_now a_trial a_diary a_kept a_isKept a_seen a_equations a_wanted s_0)]) [0] rfl) hK (hD.sub (ws' := [(a_0, mv a_text a_now a_trial a_diary a_kept a_isKept a_seen a_equations a_wanted s_0)]) [0] rfl rfl) hN) rfl rfl hl.1 rfl (lv_room (Nat.le_of_ble_eq_true rfl)) dX6_undo_13 ⟨Nat.le_of_ble_eq_true rfl, Nat.le_of_ble_eq_true rfl⟩) (fun H locs hP hD hS => ?_)
    have hP : va_P G vwCl [(a_now, av_J cy 11 g_now), (a_diary, av_J cy 154 g_diary), (a_0, mv a_text a_now a_trial a_diary a_kept a_isKept a_seen a_equations a_wanted r_5.2)] H := hP
    have hD : va_D A [(a_now, av_J cy 11 g_now), (a_diary, av_J cy 154 g_diary), (a_0, mv a_text a_now a_trial a_diary a_kept a_isKept a_seen a_equations a_wanted r_5.2)] := hD
    refine lv_if_eq (tgt := 21) hx hb dX6_undo_16 (by decide) (fun h_6 => ?_) (fun h_6 => ?_)
    · have hf := in_ (bI_0 h_6) hf
      refine lv_aload_n hx hb dX6_undo_21 rfl (lv_at hl 0 rfl) ?_
      refine lv_dup hx hb dX6_undo_22 rfl ?_
      refine va_get (D := G) (ci := 6) (v := .int (m_acts r_5.2)) (C := RX6) (T := TX6) (N := 15) hx hb hts iw_X6_undo_X6 hown hK hP 2 rfl rfl 6 (by decide) (hts (.fieldLink RX6 178 "PaneFrostModel" "acts" "I") (by decide +kernel)) (fun _ h9 => h9) rfl dX6_undo_23 ?_
      refine lv_iconst (v := 1) hx hb dX6_undo_26 (by decide) ?_
      refine lv_isub hx hb dX6_undo_27 ?_
      refine va_put (D := G) (ci := 6) (v := .int ((m_acts r_5.2) - 1)) (ty := .int) (C := RX6) (T := TX6) (N := 15) hx hb hts iw_X6_undo_X6 tyX6 tyX6_ok nmX6 hown hK hP hD hS 2 rfl rfl 6 (by decide) (hts (.fieldLink RX6 178 "PaneFrostModel" "acts" "I") (by decide +kernel)) (fun _ h9 => h9) rfl (by decide +kernel) rfl rfl (Nat.le_of_ble_eq_true rfl) dX6_undo_28 (fun H locs hP hD hS => ?_)
      have hP : va_P G vwCl [(a_now, av_J cy 11 g_now), (a_diary, av_J cy 154 g_diary), (a_0, mv a_text a_now a_trial a_diary a_kept a_isKept a_seen a_equations a_wanted (m_refusal r_5.2, m_size r_5.2, ((m_acts r_5.2) - 1), m_rank r_5.2, m_spot r_5.2, m_out r_5.2))] H := hP
      have hD : va_D A [(a_now, av_J cy 11 g_now), (a_diary, av_J cy 154 g_diary), (a_0, mv a_text a_now a_trial a_diary a_kept a_isKept a_seen a_equations a_wanted (m_refusal r_5.2, m_size r_5.2, ((m_acts r_5.2) - 1), m_rank r_5.2, m_spot r_5.2, m_out r_5.2))] := hD
      refine lv_aload_n hx hb dX6_undo_31 rfl (lv_at hl 0 rfl) ?_
      refine va_get (D := G) (ci := 6) (v := .ref a_diary) (C := RX6) (T := TX6) (N := 15) hx hb hts iw_X6_undo_X6 hown hK hP 2 rfl rfl 5 (by decide) (hts (.fieldLink RX6 20 "PaneFrostModel" "diary" "[J") (by decide +kernel)) (fun _ h9 => h9) rfl dX6_undo_32 ?_
      refine lv_bipush (v := 11) hx hb dX6_undo_35 (by decide) ?_
      refine lv_aload_n hx hb dX6_undo_37 rfl (lv_at hl 0 rfl) ?_
      refine va_get (D := G) (ci := 6) (v := .int ((m_acts r_5.2) - 1)) (C := RX6) (T := TX6) (N := 15) hx hb hts iw_X6_undo_X6 hown hK hP 2 rfl rfl 6 (by decide) (hts (.fieldLink RX6 178 "PaneFrostModel" "acts" "I") (by decide +kernel)) (fun _ h9 => h9) rfl dX6_undo_38 ?_
      refine lv_imul hx hb dX6_undo_41 ?_
      refine lv_aload_n hx hb dX6_undo_42 rfl (lv_at hl 0 rfl) ?_
      refine va_get (D := G) (ci := 6) (v := .ref a_now) (C := RX6) (T := TX6) (N := 15) hx hb hts iw_X6_undo_X6 hown hK hP 2 rfl rfl 3 (by decide) (hts (.fieldLink RX6 13 "PaneFrostModel" "now" "[J") (by decide +kernel)) (fun _ h9 => h9) rfl dX6_undo_43 ?_
      refine lv_iconst (v := 0) hx hb dX6_undo_46 (by decide) ?_
      obtain ⟨r_7, hh_r_7, hf⟩ := obd_some hf
      refine kc_v (w1 := [(a_diary, av_J cy 154 g_diary), (a_now, av_J cy 11 r_7)]) (wr := [(a_0, mv a_text a_now a_trial a_diary a_kept a_isKept a_seen a_equations a_wanted (m_refusal r_5.2, m_size r_5.2, ((m_acts r_5.2) - 1), m_rank r_5.2, m_spot r_5.2, m_out r_5.2))]) hP hD hS hA [1, 0] [2] rfl rfl rfl (by decide) (va_runS (As := [.ref a_diary, .int (11 * ((m_acts r_5.2) - 1)), .ref a_now, .int 0]) (rest := []) ⟨hx, hb, hml, hown, hts⟩ (c_X6_copyState (l := l) G cy a_diary a_now H.size g_diary g_now 154 11 (11 * ((m_acts r_5.2) - 1)) 0 n r_7 hh_r_7) (va_cwS 4 hts gX6_undo_X6_copyState rfl rfl rfl ddN_X6_copyState ⟨Nat.le_of_ble_eq_true rfl, Nat.le_of_ble_eq_true rfl⟩) (preS_ (hP.sub (ws' := [(a_diary, av_J cy 154 g_diary), (a_now, av_J cy 11 g_now)]) [1, 0] rfl) hK (hD.sub (ws' := [(a_diary, av_J cy 154 g_diary), (a_now, av_J cy 11 g_now)]) [1, 0] rfl rfl) hN) rfl rfl hl.1 rfl (lv_room (Nat.le_of_ble_eq_true rfl)) dX6_undo_47 ⟨Nat.le_of_ble_eq_true rfl, Nat.le_of_ble_eq_true rfl⟩) (fun H locs hP hD hS => ?_)
      have hP : va_P G vwCl [(a_0, mv a_text a_now a_trial a_diary a_kept a_isKept a_seen a_equations a_wanted (m_refusal r_5.2, m_size r_5.2, ((m_acts r_5.2) - 1), m_rank r_5.2, m_spot r_5.2, m_out r_5.2)), (a_diary, av_J cy 154 g_diary), (a_now, av_J cy 11 r_7)] H := hP
      have hD : va_D A [(a_0, mv a_text a_now a_trial a_diary a_kept a_isKept a_seen a_equations a_wanted (m_refusal r_5.2, m_size r_5.2, ((m_acts r_5.2) - 1), m_rank r_5.2, m_spot r_5.2, m_out r_5.2)), (a_diary, av_J cy 154 g_diary), (a_now, av_J cy 11 r_7)] := hD
      refine lv_aload_n hx hb dX6_undo_50 rfl (lv_at hl 0 rfl) ?_
      refine va_get (D := G) (ci := 6) (v := .int ((m_acts r_5.2) - 1)) (C := RX6) (T := TX6) (N := 15) hx hb hts iw_X6_undo_X6 hown hK hP 0 rfl rfl 6 (by decide) (hts (.fieldLink RX6 178 "PaneFrostModel" "acts" "I") (by decide +kernel)) (fun _ h9 => h9) rfl dX6_undo_51 ?_
      obtain rfl := Option.some.inj hf
      exact kr_i hx hb hr hlocks rfl (hP.sub (ws' := [(a_0, mv a_text a_now a_trial a_diary a_kept a_isKept a_seen a_equations a_wanted (m_refusal r_5.2, m_size r_5.2, ((m_acts r_5.2) - 1), m_rank r_5.2, m_spot r_5.2, m_out r_5.2)), (a_now, av_J cy 11 r_7), (a_diary, av_J cy 154 g_diary)]) [0, 2, 1] rfl) hK (hD.sub (ws' := [(a_0, mv a_text a_now a_trial a_diary a_kept a_isKept a_seen a_equations a_wanted (m_refusal r_5.2, m_size r_5.2, ((m_acts r_5.2) - 1), m_rank r_5.2, m_spot r_5.2, m_out r_5.2)), (a_now, av_J cy 11 r_7), (a_diary, av_J cy 154 g_diary)]) [0, 2, 1] rfl rfl) hN hS hS.2.2 dX6_undo_54
    · have hf := ip_ (bI_n0 h_6) hf
      refine lv_iconst (v := 0) hx hb dX6_undo_19 (by decide) ?_
      obtain rfl := Option.some.inj hf
      exact kr_i hx hb hr hlocks rfl (hP.sub (ws' := [(a_0, mv a_text a_now a_trial a_diary a_kept a_isKept a_seen a_equations a_wanted r_5.2), (a_now, av_J cy 11 g_now), (a_diary, av_J cy 154 g_diary)]) [2, 0, 1] rfl) hK (hD.sub (ws' := [(a_0, mv a_text a_now a_trial a_diary a_kept a_isKept a_seen a_equations a_wanted r_5.2), (a_now, av_J cy 11 g_now), (a_diary, av_J cy 154 g_diary)]) [2, 0, 1] rfl rfl) hN hS hS.2.2 dX6_undo_20
set_option maxHeartbeats 4000000 in
set_option maxRecDepth 100000 in
theorem c_X6_coming {l : Launch} (G : va_G) (cy : Nat → ClassId) (a_0 : Nat) (a_text : Nat) (a_now : Nat) (a_trial : Nat) (a_diary : Nat) (a_kept : Nat) (a_isKept : Nat) (a_seen : Nat) (a_equations : Nat) (a_wanted : Nat) (sz : Nat) (s_0 : MT) (g_now : Nat → Int64) (g_trial : Nat → Int64) (x1 : Int32) (n : Nat) (R : Int64 × MT × (Nat → Int64)) (hf : f_X6_coming n s_0 g_now g_trial x1 = some R) : Met l yX6_coming wsX6_coming ({ frames := 8, cells := 0, slots := 0, locals := 188 } : Room) (va_Pc [.ref a_0, .int x1] (pcW G cy [(a_0, mv a_text a_now a_trial a_diary a_kept a_isKept a_seen a_equations a_wanted s_0), (a_now, av_J cy 11 g_now), (a_trial, av_J cy 11 g_trial)] sz)) (va_Ql (fun r (_ : Unit) => r = R.1) (fun _ t => Wd G cy (va_A [(a_0, mv a_text a_now a_trial a_diary a_kept a_isKept a_seen a_equations a_wanted s_0), (a_now, av_J cy 11 g_now), (a_trial, av_J cy 11 g_trial)] sz) [(a_0, mv a_text a_now a_trial a_diary a_kept a_isKept a_seen a_equations a_wanted R.2.1), (a_now, av_J cy 11 g_now), (a_trial, av_J cy 11 R.2.2)] t) (va_A [(a_0, mv a_text a_now a_trial a_diary a_kept a_isKept a_seen a_equations a_wanted s_0), (a_now, av_J cy 11 g_now), (a_trial, av_J cy 11 g_trial)] sz)) 0 0 (va_A [(a_0, mv a_text a_now a_trial a_diary a_kept a_isKept a_seen a_equations a_wanted s_0), (a_now, av_J cy 11 g_now), (a_trial, av_J cy 11 g_trial)] sz) := by
  refine Met.ofW (cc := cX6_coming) (maxL := 2) (ret := (some .long)) (by decide) rfl ?_
  intro p e s m args below meth c s₁ B hml hv
  obtain ⟨rfl, hsz, hP, hK, hD0, hN⟩ := hv
  have hx := B.exec
  have hb := B.bytes
  have hr := B.returns
  have hts := atoms_spec (ws := wsX6_coming) B.pre
  have hown : s.vm.findClass RX6 = some m.cls := findClass_of_methodNamed B.named
  have hlocks := B.notSynchronized
  subst hsz
  have hD := hD0.self (sz := s.heap.size)
  generalize hAe : va_A [(a_0, mv a_text a_now a_trial a_diary a_kept a_isKept a_seen a_equations a_wanted s_0), (a_now, av_J cy 11 g_now), (a_trial, av_J cy 11 g_trial)] s.heap.size = A at hD ⊢
  have hA : ∀ q : Nat, s.heap.size ≤ q → A q := fun q h => by rw [← hAe]; exact Or.inr h
  have hS : va_S A s.heap s.heap [] := va_S.rf
  have hP : va_P G vwCl [(a_0, mv a_text a_now a_trial a_diary a_kept a_isKept a_seen a_equations a_wanted s_0), (a_now, av_J cy 11 g_now), (a_trial, av_J cy 11 g_trial)] s.heap := hP
  have hl := lv_entry [.ref a_0, .int x1] (n := 2) (Nat.le_of_ble_eq_true rfl)
  rw [lg_entry_eq]
  generalize (lg_sl [.ref a_0, .int x1] ++ List.replicate (2 - (lg_sl [.ref a_0, .int x1]).length) Slot.unset).toArray = ls at hl ⊢
  have hl : lv_has ls 2 [(0, .ref a_0), (1, .int x1)] := hl
  unfold f_X6_coming at hf
  refine lv_aload_n hx hb dX6_coming_0 rfl (lv_at hl 0 rfl) ?_
  refine lv_iload_n hx hb dX6_coming_1 rfl (lv_at hl 1 rfl) ?_
  refine lv_i2l (v := x1.toInt64) hx hb dX6_coming_2 rfl ?_
  refine lv_lconst (v := 1) hx hb dX6_coming_3 rfl ?_
  refine lv_ldc2 (v := 200) hx hb hown (hts (.constantLong RX6 197 (200)) (by decide +kernel)) dX6_coming_4 ?_
  refine kc_i (w1 := []) (wr := [(a_0, mv a_text a_now a_trial a_diary a_kept a_isKept a_seen a_equations a_wanted s_0), (a_now, av_J cy 11 g_now), (a_trial, av_J cy 11 g_trial)]) hP hD hS hA [] [0, 1, 2] rfl rfl rfl (by decide) (va_runS (As := [.long x1.toInt64, .long 1, .long 200]) (rest := [.ref a_0]) ⟨hx, hb, hml, hown, hts⟩ (c_X6_in (l := l) G cy  s.heap.size x1.toInt64 1 200  (f_X6_in x1.toInt64 1 200) rfl) (va_cwS 3 hts gX6_coming_X6_in rfl rfl rfl ddN_X6_in ⟨Nat.le_of_ble_eq_true rfl, Nat.le_of_ble_eq_true rfl⟩) (preS_ (hP.sub (ws' := []) [] rfl) hK (hD.sub (ws' := []) [] rfl rfl) hN) rfl rfl hl.1 rfl (lv_room (Nat.le_of_ble_eq_true rfl)) dX6_coming_7 ⟨Nat.le_of_ble_eq_true rfl, Nat.le_of_ble_eq_true rfl⟩) (fun H locs hP hD hS => ?_)
  have hP : va_P G vwCl [(a_0, mv a_text a_now a_trial a_diary a_kept a_isKept a_seen a_equations a_wanted s_0), (a_now, av_J cy 11 g_now), (a_trial, av_J cy 11 g_trial)] H := hP
  have hD : va_D A [(a_0, mv a_text a_now a_trial a_diary a_kept a_isKept a_seen a_equations a_wanted s_0), (a_now, av_J cy 11 g_now), (a_trial, av_J cy 11 g_trial)] := hD
  refine lv_if_eq (tgt := 17) hx hb dX6_coming_10 (by decide) (fun h_1 => ?_) (fun h_1 => ?_)
  · have hf := in_ (bI_0 h_1) hf
    refine lv_iconst (v := 1) hx hb dX6_coming_17 (by decide) ?_
    obtain ⟨r_2, hh_r_2⟩ : ∃ z, z = f_X6_refused s_0 1 := ⟨_, rfl⟩
    have hf := lt_e hh_r_2 hf
    refine kc_i (w1 := [(a_0, mv a_text a_now a_trial a_diary a_kept a_isKept a_seen a_equations a_wanted r_2.2)]) (wr := [(a_now, av_J cy 11 g_now), (a_trial, av_J cy 11 g_trial)]) hP hD hS hA [0] [1, 2] rfl rfl rfl (by decide) (va_runV (As := [.int 1]) (rest := []) ⟨hx, hb, hml, hown, hts⟩ (c_X6_refused (l := l) G cy a_0 a_text a_now a_trial a_diary a_kept a_isKept a_seen a_equations a_wanted H.size s_0 1  r_2 hh_r_2.symm) (cwV 1 hts gX6_coming_X6_refused rfl rfl rfl ddV_X6_refused ⟨Nat.le_of_ble_eq_true rfl, Nat.le_of_ble_eq_true rfl⟩) (preV_ (ci := 6) (q0 := 0) rfl rfl (hP.sub (ws' := [(a_0, mv a_text a_now a_trial a_diary a_kept a_isKept a_seen a_equations a_wanted s_0)]) [0] rfl) hK (hD.sub (ws' := [(a_0, mv a_text a_now a_trial a_diary a_kept a_isKept a_seen a_equations a_wanted s_0)]) [0] rfl rfl) hN) rfl rfl hl.1 rfl (lv_room (Nat.le_of_ble_eq_true rfl)) dX6_coming_18 ⟨Nat.le_of_ble_eq_true rfl, Nat.le_of_ble_eq_true rfl⟩) (fun H locs hP hD hS => ?_)
    have hP : va_P G vwCl [(a_now, av_J cy 11 g_now), (a_trial, av_J cy 11 g_trial), (a_0, mv a_text a_now a_trial a_diary a_kept a_isKept a_seen a_equations a_wanted r_2.2)] H := hP
    have hD : va_D A [(a_now, av_J cy 11 g_now), (a_trial, av_J cy 11 g_trial), (a_0, mv a_text a_now a_trial a_diary a_kept a_isKept a_seen a_equations a_wanted r_2.2)] := hD
    refine lv_if_eq (tgt := 26) hx hb dX6_coming_21 (by decide) (fun h_3 => ?_) (fun h_3 => ?_)
    · have hf := in_ (bI_0 h_3) hf
      refine lv_aload_n hx hb dX6_coming_26 rfl (lv_at hl 0 rfl) ?_
      refine va_get (D := G) (ci := 6) (v := .ref a_now) (C := RX6) (T := TX6) (N := 15) hx hb hts iw_X6_coming_X6 hown hK hP 2 rfl rfl 3 (by decide) (hts (.fieldLink RX6 13 "PaneFrostModel" "now" "[J") (by decide +kernel)) (fun _ h9 => h9) rfl dX6_coming_27 ?_
      refine lv_iconst (v := 0) hx hb dX6_coming_30 (by decide) ?_
      refine lv_aload_n hx hb dX6_coming_31 rfl (lv_at hl 0 rfl) ?_
      refine va_get (D := G) (ci := 6) (v := .ref a_trial) (C := RX6) (T := TX6) (N := 15) hx hb hts iw_X6_coming_X6 hown hK hP 2 rfl rfl 4 (by decide) (hts (.fieldLink RX6 17 "PaneFrostModel" "trial" "[J") (by decide +kernel)) (fun _ h9 => h9) rfl dX6_coming_32 ?_
      refine lv_iconst (v := 0) hx hb dX6_coming_35 (by decide) ?_
      obtain ⟨r_4, hh_r_4, hf⟩ := obd_some hf
      refine kc_v (w1 := [(a_now, av_J cy 11 g_now), (a_trial, av_J cy 11 r_4)]) (wr := [(a_0, mv a_text a_now a_trial a_diary a_kept a_isKept a_seen a_equations a_wanted r_2.2)]) hP hD hS hA [0, 1] [2] rfl rfl rfl (by decide) (va_runS (As := [.ref a_now, .int 0, .ref a_trial, .int 0]) (rest := []) ⟨hx, hb, hml, hown, hts⟩ (c_X6_copyState (l := l) G cy a_now a_trial H.size g_now g_trial 11 11 0 0 n r_4 hh_r_4) (va_cwS 4 hts gX6_coming_X6_copyState rfl rfl rfl ddN_X6_copyState ⟨Nat.le_of_ble_eq_true rfl, Nat.le_of_ble_eq_true rfl⟩) (preS_ (hP.sub (ws' := [(a_now, av_J cy 11 g_now), (a_trial, av_J cy 11 g_trial)]) [0, 1] rfl) hK (hD.sub (ws' := [(a_now, av_J cy 11 g_now), (a_trial, av_J cy 11 g_trial)]) [0, 1] rfl rfl) hN) rfl rfl hl.1 rfl (lv_room (Nat.le_of_ble_eq_true rfl)) dX6_coming_36 ⟨Nat.le_of_ble_eq_true rfl, Nat.le_of_ble_eq_true rfl⟩) (fun H locs hP hD hS => ?_)
      have hP : va_P G vwCl [(a_0, mv a_text a_now a_trial a_diary a_kept a_isKept a_seen a_equations a_wanted r_2.2), (a_now, av_J cy 11 g_now), (a_trial, av_J cy 11 r_4)] H := hP
      have hD : va_D A [(a_0, mv a_text a_now a_trial a_diary a_kept a_isKept a_seen a_equations a_wanted r_2.2), (a_now, av_J cy 11 g_now), (a_trial, av_J cy 11 r_4)] := hD
      refine lv_aload_n hx hb dX6_coming_39 rfl (lv_at hl 0 rfl) ?_
      refine va_get (D := G) (ci := 6) (v := .ref a_trial) (C := RX6) (T := TX6) (N := 15) hx hb hts iw_X6_coming_X6 hown hK hP 0 rfl rfl 4 (by decide) (hts (.fieldLink RX6 17 "PaneFrostModel" "trial" "[J") (by decide +kernel)) (fun _ h9 => h9) rfl dX6_coming_40 ?_
      refine lv_iload_n hx hb dX6_coming_43 rfl (lv_at hl 1 rfl) ?_
      obtain ⟨r_5, hh_r_5, hf⟩ := obd_some hf
      refine kc_i (w1 := [(a_trial, av_J cy 11 r_5.2)]) (wr := [(a_0, mv a_text a_now a_trial a_diary a_kept a_isKept a_seen a_equations a_wanted r_2.2), (a_now, av_J cy 11 g_now)]) hP hD hS hA [2] [0, 1] rfl rfl rfl (by decide) (va_runS (As := [.ref a_trial, .int x1]) (rest := []) ⟨hx, hb, hml, hown, hts⟩ (c_X6_nightsOn (l := l) G cy a_trial H.size r_4 x1 n r_5 hh_r_5) (va_cwS 2 hts gX6_coming_X6_nightsOn rfl rfl rfl ddN_X6_nightsOn ⟨Nat.le_of_ble_eq_true rfl, Nat.le_of_ble_eq_true rfl⟩) (preS_ (hP.sub (ws' := [(a_trial, av_J cy 11 r_4)]) [2] rfl) hK (hD.sub (ws' := [(a_trial, av_J cy 11 r_4)]) [2] rfl rfl) hN) rfl rfl hl.1 rfl (lv_room (Nat.le_of_ble_eq_true rfl)) dX6_coming_44 ⟨Nat.le_of_ble_eq_true rfl, Nat.le_of_ble_eq_true rfl⟩) (fun H locs hP hD hS => ?_)
      have hP : va_P G vwCl [(a_0, mv a_text a_now a_trial a_diary a_kept a_isKept a_seen a_equations a_wanted r_2.2), (a_now, av_J cy 11 g_now), (a_trial, av_J cy 11 r_5.2)] H := hP
      have hD : va_D A [(a_0, mv a_text a_now a_trial a_diary a_kept a_isKept a_seen a_equations a_wanted r_2.2), (a_now, av_J cy 11 g_now), (a_trial, av_J cy 11 r_5.2)] := hD
      refine lv_pop hx hb dX6_coming_47 rfl ?_
      refine lv_aload_n hx hb dX6_coming_48 rfl (lv_at hl 0 rfl) ?_
      refine va_get (D := G) (ci := 6) (v := .ref a_trial) (C := RX6) (T := TX6) (N := 15) hx hb hts iw_X6_coming_X6 hown hK hP 0 rfl rfl 4 (by decide) (hts (.fieldLink RX6 17 "PaneFrostModel" "trial" "[J") (by decide +kernel)) (fun _ h9 => h9) rfl dX6_coming_49 ?_
      refine lv_bipush (v := 8) hx hb dX6_coming_52 (by decide) ?_
      refine vz_lald tn_8 hx hb hK hP 2 2 rfl rfl vn_8_11 dX6_coming_54 ?_
      obtain rfl := Option.some.inj hf
      exact kr_l hx hb hr hlocks rfl hP hK hD hN hS hS.2.2 dX6_coming_55
    · have hf := ip_ (bI_n0 h_3) hf
      refine lv_lconst (v := 0) hx hb dX6_coming_24 rfl ?_
      obtain rfl := Option.some.inj hf
      exact kr_l hx hb hr hlocks rfl (hP.sub (ws' := [(a_0, mv a_text a_now a_trial a_diary a_kept a_isKept a_seen a_equations a_wanted r_2.2), (a_now, av_J cy 11 g_now), (a_trial, av_J cy 11 g_trial)]) [2, 0, 1] rfl) hK (hD.sub (ws' := [(a_0, mv a_text a_now a_trial a_diary a_kept a_isKept a_seen a_equations a_wanted r_2.2), (a_now, av_J cy 11 g_now), (a_trial, av_J cy 11 g_trial)]) [2, 0, 1] rfl rfl) hN hS hS.2.2 dX6_coming_25
  · have hf := ip_ (bI_n0 h_1) hf
    refine lv_iconst (v := 0) hx hb dX6_coming_13 (by decide) ?_
    refine lv_goto (tgt := 18) hx hb dX6_coming_14 (by decide) ?_
    obtain ⟨r_6, hh_r_6⟩ : ∃ z, z = f_X6_refused s_0 0 := ⟨_, rfl⟩
    have hf := lt_e hh_r_6 hf
    refine kc_i (w1 := [(a_0, mv a_text a_now a_trial a_diary a_kept a_isKept a_seen a_equations a_wanted r_6.2)]) (wr := [(a_now, av_J cy 11 g_now), (a_trial, av_J cy 11 g_trial)]) hP hD hS hA [0] [1, 2] rfl rfl rfl (by decide) (va_runV (As := [.int 0]) (rest := []) ⟨hx, hb, hml, hown, hts⟩ (c_X6_refused (l := l) G cy a_0 a_text a_now a_trial a_diary a_kept a_isKept a_seen a_equations a_wanted H.size s_0 0  r_6 hh_r_6.symm) (cwV 1 hts gX6_coming_X6_refused rfl rfl rfl ddV_X6_refused ⟨Nat.le_of_ble_eq_true rfl, Nat.le_of_ble_eq_true rfl⟩) (preV_ (ci := 6) (q0 := 0) rfl rfl (hP.sub (ws' := [(a_0, mv a_text a_now a_trial a_diary a_kept a_isKept a_seen a_equations a_wanted s_0)]) [0] rfl) hK (hD.sub (ws' := [(a_0, mv a_text a_now a_trial a_diary a_kept a_isKept a_seen a_equations a_wanted s_0)]) [0] rfl rfl) hN) rfl rfl hl.1 rfl (lv_room (Nat.le_of_ble_eq_true rfl)) dX6_coming_18 ⟨Nat.le_of_ble_eq_true rfl, Nat.le_of_ble_eq_true rfl⟩) (fun H locs hP hD hS => ?_)
    have hP : va_P G vwCl [(a_now, av_J cy 11 g_now), (a_trial, av_J cy 11 g_trial), (a_0, mv a_text a_now a_trial a_diary a_kept a_isKept a_seen a_equations a_wanted r_6.2)] H := hP
    have hD : va_D A [(a_now, av_J cy 11 g_now), (a_trial, av_J cy 11 g_trial), (a_0, mv a_text a_now a_trial a_diary a_kept a_isKept a_seen a_equations a_wanted r_6.2)] := hD
    refine lv_if_eq (tgt := 26) hx hb dX6_coming_21 (by decide) (fun h_7 => ?_) (fun h_7 => ?_)
    · have hf := in_ (bI_0 h_7) hf
      refine lv_aload_n hx hb dX6_coming_26 rfl (lv_at hl 0 rfl) ?_
      refine va_get (D := G) (ci := 6) (v := .ref a_now) (C := RX6) (T := TX6) (N := 15) hx hb hts iw_X6_coming_X6 hown hK hP 2 rfl rfl 3 (by decide) (hts (.fieldLink RX6 13 "PaneFrostModel" "now" "[J") (by decide +kernel)) (fun _ h9 => h9) rfl dX6_coming_27 ?_
      refine lv_iconst (v := 0) hx hb dX6_coming_30 (by decide) ?_
      refine lv_aload_n hx hb dX6_coming_31 rfl (lv_at hl 0 rfl) ?_
      refine va_get (D := G) (ci := 6) (v := .ref a_trial) (C := RX6) (T := TX6) (N := 15) hx hb hts iw_X6_coming_X6 hown hK hP 2 rfl rfl 4 (by decide) (hts (.fieldLink RX6 17 "PaneFrostModel" "trial" "[J") (by decide +kernel)) (fun _ h9 => h9) rfl dX6_coming_32 ?_
      refine lv_iconst (v := 0) hx hb dX6_coming_35 (by decide) ?_
      obtain ⟨r_8, hh_r_8, hf⟩ := obd_some hf
      refine kc_v (w1 := [(a_now, av_J cy 11 g_now), (a_trial, av_J cy 11 r_8)]) (wr := [(a_0, mv a_text a_now a_trial a_diary a_kept a_isKept a_seen a_equations a_wanted r_6.2)]) hP hD hS hA [0, 1] [2] rfl rfl rfl (by decide) (va_runS (As := [.ref a_now, .int 0, .ref a_trial, .int 0]) (rest := []) ⟨hx, hb, hml, hown, hts⟩ (c_X6_copyState (l := l) G cy a_now a_trial H.size g_now g_trial 11 11 0 0 n r_8 hh_r_8) (va_cwS 4 hts gX6_coming_X6_copyState rfl rfl rfl ddN_X6_copyState ⟨Nat.le_of_ble_eq_true rfl, Nat.le_of_ble_eq_true rfl⟩) (preS_ (hP.sub (ws' := [(a_now, av_J cy 11 g_now), (a_trial, av_J cy 11 g_trial)]) [0, 1] rfl) hK (hD.sub (ws' := [(a_now, av_J cy 11 g_now), (a_trial, av_J cy 11 g_trial)]) [0, 1] rfl rfl) hN) rfl rfl hl.1 rfl (lv_room (Nat.le_of_ble_eq_true rfl)) dX6_coming_36 ⟨Nat.le_of_ble_eq_true rfl, Nat.le_of_ble_eq_true rfl⟩) (fun H locs hP hD hS => ?_)
      have hP : va_P G vwCl [(a_0, mv a_text a_now a_trial a_diary a_kept a_isKept a_seen a_equations a_wanted r_6.2), (a_now, av_J cy 11 g_now), (a_trial, av_J cy 11 r_8)] H := hP
      have hD : va_D A [(a_0, mv a_text a_now a_trial a_diary a_kept a_isKept a_seen a_equations a_wanted r_6.2), (a_now, av_J cy 11 g_now), (a_trial, av_J cy 11 r_8)] := hD
      refine lv_aload_n hx hb dX6_coming_39 rfl (lv_at hl 0 rfl) ?_
      refine va_get (D := G) (ci := 6) (v := .ref a_trial) (C := RX6) (T := TX6) (N := 15) hx hb hts iw_X6_coming_X6 hown hK hP 0 rfl rfl 4 (by decide) (hts (.fieldLink RX6 17 "PaneFrostModel" "trial" "[J") (by decide +kernel)) (fun _ h9 => h9) rfl dX6_coming_40 ?_
      refine lv_iload_n hx hb dX6_coming_43 rfl (lv_at hl 1 rfl) ?_
      obtain ⟨r_9, hh_r_9, hf⟩ := obd_some hf
      refine kc_i (w1 := [(a_trial, av_J cy 11 r_9.2)]) (wr := [(a_0, mv a_text a_now a_trial a_diary a_kept a_isKept a_seen a_equations a_wanted r_6.2), (a_now, av_J cy 11 g_now)]) hP hD hS hA [2] [0, 1] rfl rfl rfl (by decide) (va_runS (As := [.ref a_trial, .int x1]) (rest := []) ⟨hx, hb, hml, hown, hts⟩ (c_X6_nightsOn (l := l) G cy a_trial H.size r_8 x1 n r_9 hh_r_9) (va_cwS 2 hts gX6_coming_X6_nightsOn rfl rfl rfl ddN_X6_nightsOn ⟨Nat.le_of_ble_eq_true rfl, Nat.le_of_ble_eq_true rfl⟩) (preS_ (hP.sub (ws' := [(a_trial, av_J cy 11 r_8)]) [2] rfl) hK (hD.sub (ws' := [(a_trial, av_J cy 11 r_8)]) [2] rfl rfl) hN) rfl rfl hl.1 rfl (lv_room (Nat.le_of_ble_eq_true rfl)) dX6_coming_44 ⟨Nat.le_of_ble_eq_true rfl, Nat.le_of_ble_eq_true rfl⟩) (fun H locs hP hD hS => ?_)
      have hP : va_P G vwCl [(a_0, mv a_text a_now a_trial a_diary a_kept a_isKept a_seen a_equations a_wanted r_6.2), (a_now, av_J cy 11 g_now), (a_trial, av_J cy 11 r_9.2)] H := hP
      have hD : va_D A [(a_0, mv a_text a_now a_trial a_diary a_kept a_isKept a_seen a_equations a_wanted r_6.2), (a_now, av_J cy 11 g_now), (a_trial, av_J cy 11 r_9.2)] := hD
      refine lv_pop hx hb dX6_coming_47 rfl ?_
      refine lv_aload_n hx hb dX6_coming_48 rfl (lv_at hl 0 rfl) ?_
      refine va_get (D := G) (ci := 6) (v := .ref a_trial) (C := RX6) (T := TX6) (N := 15) hx hb hts iw_X6_coming_X6 hown hK hP 0 rfl rfl 4 (by decide) (hts (.fieldLink RX6 17 "PaneFrostModel" "trial" "[J") (by decide +kernel)) (fun _ h9 => h9) rfl dX6_coming_49 ?_
      refine lv_bipush (v := 8) hx hb dX6_coming_52 (by decide) ?_
      refine vz_lald tn_8 hx hb hK hP 2 2 rfl rfl vn_8_11 dX6_coming_54 ?_
      obtain rfl := Option.some.inj hf
      exact kr_l hx hb hr hlocks rfl hP hK hD hN hS hS.2.2 dX6_coming_55
    · have hf := ip_ (bI_n0 h_7) hf
      refine lv_lconst (v := 0) hx hb dX6_coming_24 rfl ?_
      obtain rfl := Option.some.inj hf
      exact kr_l hx hb hr hlocks rfl (hP.sub (ws' := [(a_0, mv a_text a_now a_trial a_diary a_kept a_isKept a_seen a_equations a_wanted r_6.2), (a_now, av_J cy 11 g_now), (a_trial, av_J cy 11 g_trial)]) [2, 0, 1] rfl) hK (hD.sub (ws' := [(a_0, mv a_text a_now a_trial a_diary a_kept a_isKept a_seen a_equations a_wanted r_6.2), (a_now, av_J cy 11 g_now), (a_trial, av_J cy 11 g_trial)]) [2, 0, 1] rfl rfl) hN hS hS.2.2 dX6_coming_25
set_option maxHeartbeats 4000000 in
set_option maxRecDepth 100000 in
theorem c_X6_again {l : Launch} (G : va_G) (cy : Nat → ClassId) (a_0 : Nat) (a_text : Nat) (a_now : Nat) (a_trial : Nat) (a_diary : Nat) (a_kept : Nat) (a_isKept : Nat) (a_seen : Nat) (a_equations : Nat) (a_wanted : Nat) (sz : Nat) (s_0 : MT) (g_now : Nat → Int64) (g_trial : Nat → Int64) (g_seen : Nat → Int64) (x1 : Int32) (n : Nat) (R : Int32 × MT × (Nat → Int64) × (Nat → Int64)) (hf : f_X6_again n s_0 g_now g_trial g_seen x1 = some R) : Met l yX6_again wsX6_again ({ frames := 7, cells := 0, slots := 0, locals := 166 } : Room) (va_Pc [.ref a_0, .int x1] (pcW G cy [(a_0, mv a_text a_now a_trial a_diary a_kept a_isKept a_seen a_equations a_wanted s_0), (a_now, av_J cy 11 g_now), (a_trial, av_J cy 11 g_trial), (a_seen, av_J cy 301 g_seen)] sz)) (va_Qi (fun r (_ : Unit) => r = R.1) (fun _ t => Wd G cy (va_A [(a_0, mv a_text a_now a_trial a_diary a_kept a_isKept a_seen a_equations a_wanted s_0), (a_now, av_J cy 11 g_now), (a_trial, av_J cy 11 g_trial), (a_seen, av_J cy 301 g_seen)] sz) [(a_0, mv a_text a_now a_trial a_diary a_kept a_isKept a_seen a_equations a_wanted R.2.1), (a_now, av_J cy 11 g_now), (a_trial, av_J cy 11 R.2.2.1), (a_seen, av_J cy 301 R.2.2.2)] t) (va_A [(a_0, mv a_text a_now a_trial a_diary a_kept a_isKept a_seen a_equations a_wanted s_0), (a_now, av_J cy 11 g_now), (a_trial, av_J cy 11 g_trial), (a_seen, av_J cy 301 g_seen)] sz)) 0 0 (va_A [(a_0, mv a_text a_now a_trial a_diary a_kept a_isKept a_seen a_equations a_wanted s_0), (a_now, av_J cy 11 g_now), (a_trial, av_J cy 11 g_trial), (a_seen, av_J cy 301 g_seen)] sz) := by
  refine Met.ofW (cc := cX6_again) (maxL := 4) (ret := (some .int)) (by decide) rfl ?_
  intro p e s m args below meth c s₁ B hml hv
  obtain ⟨rfl, hsz, hP, hK, hD0, hN⟩ := hv
  have hx := B.exec
  have hb := B.bytes
  have hr := B.returns
  have hts := atoms_spec (ws := wsX6_again) B.pre
  have hown : s.vm.findClass RX6 = some m.cls := findClass_of_methodNamed B.named
  have hlocks := B.notSynchronized
  subst hsz
  have hD := hD0.self (sz := s.heap.size)
  generalize hAe : va_A [(a_0, mv a_text a_now a_trial a_diary a_kept a_isKept a_seen a_equations a_wanted s_0), (a_now, av_J cy 11 g_now), (a_trial, av_J cy 11 g_trial), (a_seen, av_J cy 301 g_seen)] s.heap.size = A at hD ⊢
  have hA : ∀ q : Nat, s.heap.size ≤ q → A q := fun q h => by rw [← hAe]; exact Or.inr h
  have hS : va_S A s.heap s.heap [] := va_S.rf
  have hP : va_P G vwCl [(a_0, mv a_text a_now a_trial a_diary a_kept a_isKept a_seen a_equations a_wanted s_0), (a_now, av_J cy 11 g_now), (a_trial, av_J cy 11 g_trial), (a_seen, av_J cy 301 g_seen)] s.heap := hP
  have bl_61 : ∀ (y1 : Int32), ∀ (y2 : Int32), ∀ (K39 : MT → (Nat → Int64) → (Nat → Int64) → Int32 → Option (Int32 × MT × (Nat → Int64) × (Nat → Int64))), (∀ (c_s_0 : MT) (c_g_trial : Nat → Int64) (c_g_seen : Nat → Int64) (y2 : Int32) (H : Heap) (locs : List Loc), K39 c_s_0 c_g_trial c_g_seen y2 = some R → va_P G vwCl [(a_0, mv a_text a_now a_trial a_diary a_kept a_isKept a_seen a_equations a_wanted c_s_0), (a_now, av_J cy 11 g_now), (a_trial, av_J cy 11 c_g_trial), (a_seen, av_J cy 301 c_g_seen)] H → va_D A [(a_0, mv a_text a_now a_trial a_diary a_kept a_isKept a_seen a_equations a_wanted c_s_0), (a_now, av_J cy 11 g_now), (a_trial, av_J cy 11 c_g_trial), (a_seen, av_J cy 301 c_g_seen)] → va_S A s.heap H locs → ∀ (ls : Array Slot), lv_has ls 4 [(0, .ref a_0), (1, .int y1), (2, .int y2)] → W p l e ({ frames := 7, cells := 0, slots := 0, locals := 166 } : Room) s m [.ref a_0, .int x1].toArray below meth c H locs 0 0 (MQ below (va_Qi (fun r (_ : Unit) => r = R.1) (fun _ t => Wd G cy A [(a_0, mv a_text a_now a_trial a_diary a_kept a_isKept a_seen a_equations a_wanted R.2.1), (a_now, av_J cy 11 g_now), (a_trial, av_J cy 11 R.2.2.1), (a_seen, av_J cy 301 R.2.2.2)] t) A) [.ref a_0, .int x1].toArray s 0 0 A) (F0 m 39 ls [])) → ∀ (k : Nat), ∀ (c_s_0 : MT) (c_g_trial : Nat → Int64) (c_g_seen : Nat → Int64) (y3 : Int32) (H : Heap) (locs : List Loc), f_X6_again_b61 n g_now y1 y2 K39 k c_s_0 c_g_trial c_g_seen y3 = some R → va_P G vwCl [(a_0, mv a_text a_now a_trial a_diary a_kept a_isKept a_seen a_equations a_wanted c_s_0), (a_now, av_J cy 11 g_now), (a_trial, av_J cy 11 c_g_trial), (a_seen, av_J cy 301 c_g_seen)] H → va_D A [(a_0, mv a_text a_now a_trial a_diary a_kept a_isKept a_seen a_equations a_wanted c_s_0), (a_now, av_J cy 11 g_now), (a_trial, av_J cy 11 c_g_trial), (a_seen, av_J cy 301 c_g_seen)] → va_S A s.heap H locs → ∀ (ls : Array Slot), lv_has ls 4 [(0, .ref a_0), (1, .int y1), (2, .int y2), (3, .int y3)] → W p l e ({ frames := 7, cells := 0, slots := 0, locals := 166 } : Room) s m [.ref a_0, .int x1].toArray below meth c H locs 0 0 (MQ below (va_Qi (fun r (_ : Unit) => r = R.1) (fun _ t => Wd G cy A [(a_0, mv a_text a_now a_trial a_diary a_kept a_isKept a_seen a_equations a_wanted R.2.1), (a_now, av_J cy 11 g_now), (a_trial, av_J cy 11 R.2.2.1), (a_seen, av_J cy 301 R.2.2.2)] t) A) [.ref a_0, .int x1].toArray s 0 0 A) (F0 m 61 ls []) := by
    intro y1
    intro y2
    intro K39 hK39
    intro k
    induction k with
    | zero =>
      intro c_s_0 c_g_trial c_g_seen y3 H locs hf; cases hf
    | succ k ih =>
      intro c_s_0 c_g_trial c_g_seen y3 H locs hf hP hD hS ls hl
      have hf := (f_X6_again_b61_s n g_now y1 y2 K39 k c_s_0 c_g_trial c_g_seen y3).symm.trans hf
      refine lv_iload_n hx hb dX6_again_61 rfl (lv_at hl 3 rfl) ?_
      refine lv_iload_n hx hb dX6_again_62 rfl (lv_at hl 2 rfl) ?_
      refine lv_icmp_ge (tgt := 100) hx hb dX6_again_63 (by decide) (fun h_1 => ?_) (fun h_1 => ?_)
      · have hf := ip_ h_1 hf
        refine lv_aload_n hx hb dX6_again_100 rfl (lv_at hl 0 rfl) ?_
        refine va_get (D := G) (ci := 6) (v := .ref a_trial) (C := RX6) (T := TX6) (N := 15) hx hb hts iw_X6_again_X6 hown hK hP 0 rfl rfl 4 (by decide) (hts (.fieldLink RX6 17 "PaneFrostModel" "trial" "[J") (by decide +kernel)) (fun _ h9 => h9) rfl dX6_again_101 ?_
        obtain ⟨r_2, hh_r_2, hf⟩ := obd_some hf
        refine kc_v (w1 := [(a_trial, av_J cy 11 r_2)]) (wr := [(a_0, mv a_text a_now a_trial a_diary a_kept a_isKept a_seen a_equations a_wanted c_s_0), (a_now, av_J cy 11 g_now), (a_seen, av_J cy 301 c_g_seen)]) hP hD hS hA [2] [0, 1, 3] rfl rfl rfl (by decide) (va_runS (As := [.ref a_trial]) (rest := []) ⟨hx, hb, hml, hown, hts⟩ (c_X6_nightOn (l := l) G cy a_trial H.size c_g_trial n r_2 hh_r_2) (va_cwS 1 hts gX6_again_X6_nightOn rfl rfl rfl ddN_X6_nightOn ⟨Nat.le_of_ble_eq_true rfl, Nat.le_of_ble_eq_true rfl⟩) (preS_ (hP.sub (ws' := [(a_trial, av_J cy 11 c_g_trial)]) [2] rfl) hK (hD.sub (ws' := [(a_trial, av_J cy 11 c_g_trial)]) [2] rfl rfl) hN) rfl rfl hl.1 rfl (lv_room (Nat.le_of_ble_eq_true rfl)) dX6_again_104 ⟨Nat.le_of_ble_eq_true rfl, Nat.le_of_ble_eq_true rfl⟩) (fun H locs hP hD hS => ?_)
        have hP : va_P G vwCl [(a_0, mv a_text a_now a_trial a_diary a_kept a_isKept a_seen a_equations a_wanted c_s_0), (a_now, av_J cy 11 g_now), (a_seen, av_J cy 301 c_g_seen), (a_trial, av_J cy 11 r_2)] H := hP
        have hD : va_D A [(a_0, mv a_text a_now a_trial a_diary a_kept a_isKept a_seen a_equations a_wanted c_s_0), (a_now, av_J cy 11 g_now), (a_seen, av_J cy 301 c_g_seen), (a_trial, av_J cy 11 r_2)] := hD
        refine lv_iinc (v := (y2 + 1)) (lv' := [(2, .int (y2 + 1)), (0, .ref a_0), (1, .int y1), (3, .int y3)]) hx hb dX6_again_107 hl (k := 2) rfl rfl (by decide) rfl (fun ls hl => ?_)
        refine lv_goto (tgt := 39) hx hb dX6_again_110 (by decide) ?_
        exact hK39 c_s_0 r_2 c_g_seen (y2 + 1) _ _ hf (hP.sub (ws' := [(a_0, mv a_text a_now a_trial a_diary a_kept a_isKept a_seen a_equations a_wanted c_s_0), (a_now, av_J cy 11 g_now), (a_trial, av_J cy 11 r_2), (a_seen, av_J cy 301 c_g_seen)]) [0, 1, 3, 2] rfl) (hD.sub (ws' := [(a_0, mv a_text a_now a_trial a_diary a_kept a_isKept a_seen a_equations a_wanted c_s_0), (a_now, av_J cy 11 g_now), (a_trial, av_J cy 11 r_2), (a_seen, av_J cy 301 c_g_seen)]) [0, 1, 3, 2] rfl rfl) hS ls (lv_sub hl [1, 2, 0] rfl)
      · have hf := in_ h_1 hf
        refine lv_aload_n hx hb dX6_again_66 rfl (lv_at hl 0 rfl) ?_
        refine va_get (D := G) (ci := 6) (v := .ref a_seen) (C := RX6) (T := TX6) (N := 15) hx hb hts iw_X6_again_X6 hown hK hP 0 rfl rfl 9 (by decide) (hts (.fieldLink RX6 30 "PaneFrostModel" "seen" "[J") (by decide +kernel)) (fun _ h9 => h9) rfl dX6_again_67 ?_
        refine lv_iload_n hx hb dX6_again_70 rfl (lv_at hl 3 rfl) ?_
        by_cases q_3 : y3 < 0 ∨ 301 ≤ y3.toNatClampNeg
        · have hf := ip_ q_3 hf; cases hf
        have hf := in_ q_3 hf
        refine vz_lald rfl hx hb hK hP 3 2 rfl rfl (vin q_3) dX6_again_71 ?_
        refine lv_aload_n hx hb dX6_again_72 rfl (lv_at hl 0 rfl) ?_
        refine va_get (D := G) (ci := 6) (v := .ref a_seen) (C := RX6) (T := TX6) (N := 15) hx hb hts iw_X6_again_X6 hown hK hP 0 rfl rfl 9 (by decide) (hts (.fieldLink RX6 30 "PaneFrostModel" "seen" "[J") (by decide +kernel)) (fun _ h9 => h9) rfl dX6_again_73 ?_
        refine lv_iload_n hx hb dX6_again_76 rfl (lv_at hl 2 rfl) ?_
        by_cases q_4 : y2 < 0 ∨ 301 ≤ y2.toNatClampNeg
        · have hf := ip_ q_4 hf; cases hf
        have hf := in_ q_4 hf
        refine vz_lald rfl hx hb hK hP 3 2 rfl rfl (vin q_4) dX6_again_77 ?_
        refine W.lcmp hx hb dX6_again_78 ?_
        refine lv_if_ne (tgt := 94) hx hb dX6_again_79 (by decide) (fun h_5 => ?_) (fun h_5 => ?_)
        · have hf := in_ (fun q => h_5 (lgc_eq.mpr q)) hf
          refine lv_iinc (v := (y3 + 1)) (lv' := [(3, .int (y3 + 1)), (0, .ref a_0), (1, .int y1), (2, .int y2)]) hx hb dX6_again_94 hl (k := 3) rfl rfl (by decide) rfl (fun ls hl => ?_)
          refine lv_goto (tgt := 61) hx hb dX6_again_97 (by decide) ?_
          exact ih c_s_0 c_g_trial c_g_seen (y3 + 1) _ _ hf hP hD hS ls (lv_sub hl [1, 2, 3, 0] rfl)
        · have hf := ip_ (lgc_eq.mp h_5) hf
          refine lv_iload_n hx hb dX6_again_82 rfl (lv_at hl 1 rfl) ?_
          refine lv_if_ne (tgt := 90) hx hb dX6_again_83 (by decide) (fun h_6 => ?_) (fun h_6 => ?_)
          · have hf := in_ h_6 hf
            refine lv_iload_n hx hb dX6_again_90 rfl (lv_at hl 2 rfl) ?_
            refine lv_iload_n hx hb dX6_again_91 rfl (lv_at hl 3 rfl) ?_
            refine lv_isub hx hb dX6_again_92 ?_
            obtain rfl := Option.some.inj hf
            exact kr_i hx hb hr hlocks rfl hP hK hD hN hS hS.2.2 dX6_again_93
          · have hf := ip_ h_6 hf
            refine lv_iload_n hx hb dX6_again_86 rfl (lv_at hl 3 rfl) ?_
            refine lv_goto (tgt := 93) hx hb dX6_again_87 (by decide) ?_
            obtain rfl := Option.some.inj hf
            exact kr_i hx hb hr hlocks rfl hP hK hD hN hS hS.2.2 dX6_again_93
  have bl_39 : ∀ (y1 : Int32), ∀ (k : Nat), ∀ (c_s_0 : MT) (c_g_trial : Nat → Int64) (c_g_seen : Nat → Int64) (y2 : Int32) (H : Heap) (locs : List Loc), f_X6_again_b39 n g_now y1 k c_s_0 c_g_trial c_g_seen y2 = some R → va_P G vwCl [(a_0, mv a_text a_now a_trial a_diary a_kept a_isKept a_seen a_equations a_wanted c_s_0), (a_now, av_J cy 11 g_now), (a_trial, av_J cy 11 c_g_trial), (a_seen, av_J cy 301 c_g_seen)] H → va_D A [(a_0, mv a_text a_now a_trial a_diary a_kept a_isKept a_seen a_equations a_wanted c_s_0), (a_now, av_J cy 11 g_now), (a_trial, av_J cy 11 c_g_trial), (a_seen, av_J cy 301 c_g_seen)] → va_S A s.heap H locs → ∀ (ls : Array Slot), lv_has ls 4 [(0, .ref a_0), (1, .int y1), (2, .int y2)] → W p l e ({ frames := 7, cells := 0, slots := 0, locals := 166 } : Room) s m [.ref a_0, .int x1].toArray below meth c H locs 0 0 (MQ below (va_Qi (fun r (_ : Unit) => r = R.1) (fun _ t => Wd G cy A [(a_0, mv a_text a_now a_trial a_diary a_kept a_isKept a_seen a_equations a_wanted R.2.1), (a_now, av_J cy 11 g_now), (a_trial, av_J cy 11 R.2.2.1), (a_seen, av_J cy 301 R.2.2.2)] t) A) [.ref a_0, .int x1].toArray s 0 0 A) (F0 m 39 ls []) := by
    intro y1
    intro k
    induction k with
    | zero =>
      intro c_s_0 c_g_trial c_g_seen y2 H locs hf; cases hf
    | succ k ih =>
      intro c_s_0 c_g_trial c_g_seen y2 H locs hf hP hD hS ls hl
      have hf := (f_X6_again_b39_s n g_now y1 k c_s_0 c_g_trial c_g_seen y2).symm.trans hf
      refine lv_iload_n hx hb dX6_again_39 rfl (lv_at hl 2 rfl) ?_
      refine lv_sipush (v := 300) hx hb dX6_again_40 (by decide) ?_
      refine lv_icmp_gt (tgt := 113) hx hb dX6_again_43 (by decide) (fun h_7 => ?_) (fun h_7 => ?_)
      · have hf := ip_ h_7 hf
        refine lv_iconst (v := (-1)) hx hb dX6_again_113 (by decide) ?_
        obtain rfl := Option.some.inj hf
        exact kr_i hx hb hr hlocks rfl hP hK hD hN hS hS.2.2 dX6_again_114
      · have hf := in_ h_7 hf
        refine lv_aload_n hx hb dX6_again_46 rfl (lv_at hl 0 rfl) ?_
        refine va_get (D := G) (ci := 6) (v := .ref a_seen) (C := RX6) (T := TX6) (N := 15) hx hb hts iw_X6_again_X6 hown hK hP 0 rfl rfl 9 (by decide) (hts (.fieldLink RX6 30 "PaneFrostModel" "seen" "[J") (by decide +kernel)) (fun _ h9 => h9) rfl dX6_again_47 ?_
        refine lv_iload_n hx hb dX6_again_50 rfl (lv_at hl 2 rfl) ?_
        refine lv_aload_n hx hb dX6_again_51 rfl (lv_at hl 0 rfl) ?_
        refine va_get (D := G) (ci := 6) (v := .ref a_trial) (C := RX6) (T := TX6) (N := 15) hx hb hts iw_X6_again_X6 hown hK hP 0 rfl rfl 4 (by decide) (hts (.fieldLink RX6 17 "PaneFrostModel" "trial" "[J") (by decide +kernel)) (fun _ h9 => h9) rfl dX6_again_52 ?_
        refine lv_bipush (v := 8) hx hb dX6_again_55 (by decide) ?_
        refine vz_lald tn_8 hx hb hK hP 2 2 rfl rfl vn_8_11 dX6_again_57 ?_
        by_cases q_8 : y2 < 0 ∨ 301 ≤ y2.toNatClampNeg
        · have hf := ip_ q_8 hf; cases hf
        have hf := in_ q_8 hf
        refine vz_last rfl hx hb hK hP hD hS 3 2 rfl rfl (vin q_8) dX6_again_58 (fun H locs hP hD hS => ?_)
        have hP : va_P G vwCl [(a_0, mv a_text a_now a_trial a_diary a_kept a_isKept a_seen a_equations a_wanted c_s_0), (a_now, av_J cy 11 g_now), (a_trial, av_J cy 11 c_g_trial), (a_seen, av_J cy 301 (vp_updL c_g_seen y2.toNatClampNeg (c_g_trial 8)))] H := hP
        have hD : va_D A [(a_0, mv a_text a_now a_trial a_diary a_kept a_isKept a_seen a_equations a_wanted c_s_0), (a_now, av_J cy 11 g_now), (a_trial, av_J cy 11 c_g_trial), (a_seen, av_J cy 301 (vp_updL c_g_seen y2.toNatClampNeg (c_g_trial 8)))] := hD
        refine lv_iconst (v := 0) hx hb dX6_again_59 (by decide) ?_
        refine lv_istore_n (lv' := [(3, .int 0), (0, .ref a_0), (1, .int y1), (2, .int y2)]) hx hb dX6_again_60 rfl hl (by decide) rfl (fun ls hl => ?_)
        exact bl_61 y1 y2 (f_X6_again_b39 n g_now y1 k) ih n c_s_0 c_g_trial (vp_updL c_g_seen y2.toNatClampNeg (c_g_trial 8)) 0 _ _ hf hP hD hS ls (lv_sub hl [1, 2, 3, 0] rfl)
  have hl := lv_entry [.ref a_0, .int x1] (n := 4) (Nat.le_of_ble_eq_true rfl)
  rw [lg_entry_eq]
  generalize (lg_sl [.ref a_0, .int x1] ++ List.replicate (4 - (lg_sl [.ref a_0, .int x1]).length) Slot.unset).toArray = ls at hl ⊢
  have hl : lv_has ls 4 [(0, .ref a_0), (1, .int x1)] := hl
  unfold f_X6_again at hf
  refine lv_aload_n hx hb dX6_again_0 rfl (lv_at hl 0 rfl) ?_
  refine lv_iload_n hx hb dX6_again_1 rfl (lv_at hl 1 rfl) ?_
  refine lv_i2l (v := x1.toInt64) hx hb dX6_again_2 rfl ?_
  refine lv_lconst (v := 0) hx hb dX6_again_3 rfl ?_
  refine lv_lconst (v := 1) hx hb dX6_again_4 rfl ?_
  refine kc_i (w1 := []) (wr := [(a_0, mv a_text a_now a_trial a_diary a_kept a_isKept a_seen a_equations a_wanted s_0), (a_now, av_J cy 11 g_now), (a_trial, av_J cy 11 g_trial), (a_seen, av_J cy 301 g_seen)]) hP hD hS hA [] [0, 1, 2, 3] rfl rfl rfl (by decide) (va_runS (As := [.long x1.toInt64, .long 0, .long 1]) (rest := [.ref a_0]) ⟨hx, hb, hml, hown, hts⟩ (c_X6_in (l := l) G cy  s.heap.size x1.toInt64 0 1  (f_X6_in x1.toInt64 0 1) rfl) (va_cwS 3 hts gX6_again_X6_in rfl rfl rfl ddN_X6_in ⟨Nat.le_of_ble_eq_true rfl, Nat.le_of_ble_eq_true rfl⟩) (preS_ (hP.sub (ws' := []) [] rfl) hK (hD.sub (ws' := []) [] rfl rfl) hN) rfl rfl hl.1 rfl (lv_room (Nat.le_of_ble_eq_true rfl)) dX6_again_5 ⟨Nat.le_of_ble_eq_true rfl, Nat.le_of_ble_eq_true rfl⟩) (fun H locs hP hD hS => ?_)
  have hP : va_P G vwCl [(a_0, mv a_text a_now a_trial a_diary a_kept a_isKept a_seen a_equations a_wanted s_0), (a_now, av_J cy 11 g_now), (a_trial, av_J cy 11 g_trial), (a_seen, av_J cy 301 g_seen)] H := hP
  have hD : va_D A [(a_0, mv a_text a_now a_trial a_diary a_kept a_isKept a_seen a_equations a_wanted s_0), (a_now, av_J cy 11 g_now), (a_trial, av_J cy 11 g_trial), (a_seen, av_J cy 301 g_seen)] := hD
  refine lv_if_eq (tgt := 15) hx hb dX6_again_8 (by decide) (fun h_9 => ?_) (fun h_9 => ?_)
  · have hf := in_ (bI_0 h_9) hf
    refine lv_iconst (v := 1) hx hb dX6_again_15 (by decide) ?_
    obtain ⟨r_10, hh_r_10⟩ : ∃ z, z = f_X6_refused s_0 1 := ⟨_, rfl⟩
    have hf := lt_e hh_r_10 hf
    refine kc_i (w1 := [(a_0, mv a_text a_now a_trial a_diary a_kept a_isKept a_seen a_equations a_wanted r_10.2)]) (wr := [(a_now, av_J cy 11 g_now), (a_trial, av_J cy 11 g_trial), (a_seen, av_J cy 301 g_seen)]) hP hD hS hA [0] [1, 2, 3] rfl rfl rfl (by decide) (va_runV (As := [.int 1]) (rest := []) ⟨hx, hb, hml, hown, hts⟩ (c_X6_refused (l := l) G cy a_0 a_text a_now a_trial a_diary a_kept a_isKept a_seen a_equations a_wanted H.size s_0 1  r_10 hh_r_10.symm) (cwV 1 hts gX6_again_X6_refused rfl rfl rfl ddV_X6_refused ⟨Nat.le_of_ble_eq_true rfl, Nat.le_of_ble_eq_true rfl⟩) (preV_ (ci := 6) (q0 := 0) rfl rfl (hP.sub (ws' := [(a_0, mv a_text a_now a_trial a_diary a_kept a_isKept a_seen a_equations a_wanted s_0)]) [0] rfl) hK (hD.sub (ws' := [(a_0, mv a_text a_now a_trial a_diary a_kept a_isKept a_seen a_equations a_wanted s_0)]) [0] rfl rfl) hN) rfl rfl hl.1 rfl (lv_room (Nat.le_of_ble_eq_true rfl)) dX6_again_16 ⟨Nat.le_of_ble_eq_true rfl, Nat.le_of_ble_eq_true rfl⟩) (fun H locs hP hD hS => ?_)
    have hP : va_P G vwCl [(a_now, av_J cy 11 g_now), (a_trial, av_J cy 11 g_trial), (a_seen, av_J cy 301 g_seen), (a_0, mv a_text a_now a_trial a_diary a_kept a_isKept a_seen a_equations a_wanted r_10.2)] H := hP
    have hD : va_D A [(a_now, av_J cy 11 g_now), (a_trial, av_J cy 11 g_trial), (a_seen, av_J cy 301 g_seen), (a_0, mv a_text a_now a_trial a_diary a_kept a_isKept a_seen a_equations a_wanted r_10.2)] := hD
    refine lv_if_eq (tgt := 24) hx hb dX6_again_19 (by decide) (fun h_11 => ?_) (fun h_11 => ?_)
    · have hf := in_ (bI_0 h_11) hf
      refine lv_aload_n hx hb dX6_again_24 rfl (lv_at hl 0 rfl) ?_
      refine va_get (D := G) (ci := 6) (v := .ref a_now) (C := RX6) (T := TX6) (N := 15) hx hb hts iw_X6_again_X6 hown hK hP 3 rfl rfl 3 (by decide) (hts (.fieldLink RX6 13 "PaneFrostModel" "now" "[J") (by decide +kernel)) (fun _ h9 => h9) rfl dX6_again_25 ?_
      refine lv_iconst (v := 0) hx hb dX6_again_28 (by decide) ?_
      refine lv_aload_n hx hb dX6_again_29 rfl (lv_at hl 0 rfl) ?_
      refine va_get (D := G) (ci := 6) (v := .ref a_trial) (C := RX6) (T := TX6) (N := 15) hx hb hts iw_X6_again_X6 hown hK hP 3 rfl rfl 4 (by decide) (hts (.fieldLink RX6 17 "PaneFrostModel" "trial" "[J") (by decide +kernel)) (fun _ h9 => h9) rfl dX6_again_30 ?_
      refine lv_iconst (v := 0) hx hb dX6_again_33 (by decide) ?_
      obtain ⟨r_12, hh_r_12, hf⟩ := obd_some hf
      refine kc_v (w1 := [(a_now, av_J cy 11 g_now), (a_trial, av_J cy 11 r_12)]) (wr := [(a_seen, av_J cy 301 g_seen), (a_0, mv a_text a_now a_trial a_diary a_kept a_isKept a_seen a_equations a_wanted r_10.2)]) hP hD hS hA [0, 1] [2, 3] rfl rfl rfl (by decide) (va_runS (As := [.ref a_now, .int 0, .ref a_trial, .int 0]) (rest := []) ⟨hx, hb, hml, hown, hts⟩ (c_X6_copyState (l := l) G cy a_now a_trial H.size g_now g_trial 11 11 0 0 n r_12 hh_r_12) (va_cwS 4 hts gX6_again_X6_copyState rfl rfl rfl ddN_X6_copyState ⟨Nat.le_of_ble_eq_true rfl, Nat.le_of_ble_eq_true rfl⟩) (preS_ (hP.sub (ws' := [(a_now, av_J cy 11 g_now), (a_trial, av_J cy 11 g_trial)]) [0, 1] rfl) hK (hD.sub (ws' := [(a_now, av_J cy 11 g_now), (a_trial, av_J cy 11 g_trial)]) [0, 1] rfl rfl) hN) rfl rfl hl.1 rfl (lv_room (Nat.le_of_ble_eq_true rfl)) dX6_again_34 ⟨Nat.le_of_ble_eq_true rfl, Nat.le_of_ble_eq_true rfl⟩) (fun H locs hP hD hS => ?_)
      have hP : va_P G vwCl [(a_seen, av_J cy 301 g_seen), (a_0, mv a_text a_now a_trial a_diary a_kept a_isKept a_seen a_equations a_wanted r_10.2), (a_now, av_J cy 11 g_now), (a_trial, av_J cy 11 r_12)] H := hP
      have hD : va_D A [(a_seen, av_J cy 301 g_seen), (a_0, mv a_text a_now a_trial a_diary a_kept a_isKept a_seen a_equations a_wanted r_10.2), (a_now, av_J cy 11 g_now), (a_trial, av_J cy 11 r_12)] := hD
      refine lv_iconst (v := 0) hx hb dX6_again_37 (by decide) ?_
      refine lv_istore_n (lv' := [(2, .int 0), (0, .ref a_0), (1, .int x1)]) hx hb dX6_again_38 rfl hl (by decide) rfl (fun ls hl => ?_)
      exact bl_39 x1 n r_10.2 r_12 g_seen 0 _ _ hf (hP.sub (ws' := [(a_0, mv a_text a_now a_trial a_diary a_kept a_isKept a_seen a_equations a_wanted r_10.2), (a_now, av_J cy 11 g_now), (a_trial, av_J cy 11 r_12), (a_seen, av_J cy 301 g_seen)]) [1, 2, 3, 0] rfl) (hD.sub (ws' := [(a_0, mv a_text a_now a_trial a_diary a_kept a_isKept a_seen a_equations a_wanted r_10.2), (a_now, av_J cy 11 g_now), (a_trial, av_J cy 11 r_12), (a_seen, av_J cy 301 g_seen)]) [1, 2, 3, 0] rfl rfl) hS ls (lv_sub hl [1, 2, 0] rfl)
    · have hf := ip_ (bI_n0 h_11) hf
      refine lv_iconst (v := 0) hx hb dX6_again_22 (by decide) ?_
      obtain rfl := Option.some.inj hf
      exact kr_i hx hb hr hlocks rfl (hP.sub (ws' := [(a_0, mv a_text a_now a_trial a_diary a_kept a_isKept a_seen a_equations a_wanted r_10.2), (a_now, av_J cy 11 g_now), (a_trial, av_J cy 11 g_trial), (a_seen, av_J cy 301 g_seen)]) [3, 0, 1, 2] rfl) hK (hD.sub (ws' := [(a_0, mv a_text a_now a_trial a_diary a_kept a_isKept a_seen a_equations a_wanted r_10.2), (a_now, av_J cy 11 g_now), (a_trial, av_J cy 11 g_trial), (a_seen, av_J cy 301 g_seen)]) [3, 0, 1, 2] rfl rfl) hN hS hS.2.2 dX6_again_23
  · have hf := ip_ (bI_n0 h_9) hf
    refine lv_iconst (v := 0) hx hb dX6_again_11 (by decide) ?_
    refine lv_goto (tgt := 16) hx hb dX6_again_12 (by decide) ?_
    obtain ⟨r_13, hh_r_13⟩ : ∃ z, z = f_X6_refused s_0 0 := ⟨_, rfl⟩
    have hf := lt_e hh_r_13 hf
    refine kc_i (w1 := [(a_0, mv a_text a_now a_trial a_diary a_kept a_isKept a_seen a_equations a_wanted r_13.2)]) (wr := [(a_now, av_J cy 11 g_now), (a_trial, av_J cy 11 g_trial), (a_seen, av_J cy 301 g_seen)]) hP hD hS hA [0] [1, 2, 3] rfl rfl rfl (by decide) (va_runV (As := [.int 0]) (rest := []) ⟨hx, hb, hml, hown, hts⟩ (c_X6_refused (l := l) G cy a_0 a_text a_now a_trial a_diary a_kept a_isKept a_seen a_equations a_wanted H.size s_0 0  r_13 hh_r_13.symm) (cwV 1 hts gX6_again_X6_refused rfl rfl rfl ddV_X6_refused ⟨Nat.le_of_ble_eq_true rfl, Nat.le_of_ble_eq_true rfl⟩) (preV_ (ci := 6) (q0 := 0) rfl rfl (hP.sub (ws' := [(a_0, mv a_text a_now a_trial a_diary a_kept a_isKept a_seen a_equations a_wanted s_0)]) [0] rfl) hK (hD.sub (ws' := [(a_0, mv a_text a_now a_trial a_diary a_kept a_isKept a_seen a_equations a_wanted s_0)]) [0] rfl rfl) hN) rfl rfl hl.1 rfl (lv_room (Nat.le_of_ble_eq_true rfl)) dX6_again_16 ⟨Nat.le_of_ble_eq_true rfl, Nat.le_of_ble_eq_true rfl⟩) (fun H locs hP hD hS => ?_)
    have hP : va_P G vwCl [(a_now, av_J cy 11 g_now), (a_trial, av_J cy 11 g_trial), (a_seen, av_J cy 301 g_seen), (a_0, mv a_text a_now a_trial a_diary a_kept a_isKept a_seen a_equations a_wanted r_13.2)] H := hP
    have hD : va_D A [(a_now, av_J cy 11 g_now), (a_trial, av_J cy 11 g_trial), (a_seen, av_J cy 301 g_seen), (a_0, mv a_text a_now a_trial a_diary a_kept a_isKept a_seen a_equations a_wanted r_13.2)] := hD
    refine lv_if_eq (tgt := 24) hx hb dX6_again_19 (by decide) (fun h_14 => ?_) (fun h_14 => ?_)
    · have hf := in_ (bI_0 h_14) hf
      refine lv_aload_n hx hb dX6_again_24 rfl (lv_at hl 0 rfl) ?_
      refine va_get (D := G) (ci := 6) (v := .ref a_now) (C := RX6) (T := TX6) (N := 15) hx hb hts iw_X6_again_X6 hown hK hP 3 rfl rfl 3 (by decide) (hts (.fieldLink RX6 13 "PaneFrostModel" "now" "[J") (by decide +kernel)) (fun _ h9 => h9) rfl dX6_again_25 ?_
      refine lv_iconst (v := 0) hx hb dX6_again_28 (by decide) ?_
      refine lv_aload_n hx hb dX6_again_29 rfl (lv_at hl 0 rfl) ?_
      refine va_get (D := G) (ci := 6) (v := .ref a_trial) (C := RX6) (T := TX6) (N := 15) hx hb hts iw_X6_again_X6 hown hK hP 3 rfl rfl 4 (by decide) (hts (.fieldLink RX6 17 "PaneFrostModel" "trial" "[J") (by decide +kernel)) (fun _ h9 => h9) rfl dX6_again_30 ?_
      refine lv_iconst (v := 0) hx hb dX6_again_33 (by decide) ?_
      obtain ⟨r_15, hh_r_15, hf⟩ := obd_some hf
      refine kc_v (w1 := [(a_now, av_J cy 11 g_now), (a_trial, av_J cy 11 r_15)]) (wr := [(a_seen, av_J cy 301 g_seen), (a_0, mv a_text a_now a_trial a_diary a_kept a_isKept a_seen a_equations a_wanted r_13.2)]) hP hD hS hA [0, 1] [2, 3] rfl rfl rfl (by decide) (va_runS (As := [.ref a_now, .int 0, .ref a_trial, .int 0]) (rest := []) ⟨hx, hb, hml, hown, hts⟩ (c_X6_copyState (l := l) G cy a_now a_trial H.size g_now g_trial 11 11 0 0 n r_15 hh_r_15) (va_cwS 4 hts gX6_again_X6_copyState rfl rfl rfl ddN_X6_copyState ⟨Nat.le_of_ble_eq_true rfl, Nat.le_of_ble_eq_true rfl⟩) (preS_ (hP.sub (ws' := [(a_now, av_J cy 11 g_now), (a_trial, av_J cy 11 g_trial)]) [0, 1] rfl) hK (hD.sub (ws' := [(a_now, av_J cy 11 g_now), (a_trial, av_J cy 11 g_trial)]) [0, 1] rfl rfl) hN) rfl rfl hl.1 rfl (lv_room (Nat.le_of_ble_eq_true rfl)) dX6_again_34 ⟨Nat.le_of_ble_eq_true rfl, Nat.le_of_ble_eq_true rfl⟩) (fun H locs hP hD hS => ?_)
      have hP : va_P G vwCl [(a_seen, av_J cy 301 g_seen), (a_0, mv a_text a_now a_trial a_diary a_kept a_isKept a_seen a_equations a_wanted r_13.2), (a_now, av_J cy 11 g_now), (a_trial, av_J cy 11 r_15)] H := hP
      have hD : va_D A [(a_seen, av_J cy 301 g_seen), (a_0, mv a_text a_now a_trial a_diary a_kept a_isKept a_seen a_equations a_wanted r_13.2), (a_now, av_J cy 11 g_now), (a_trial, av_J cy 11 r_15)] := hD
      refine lv_iconst (v := 0) hx hb dX6_again_37 (by decide) ?_
      refine lv_istore_n (lv' := [(2, .int 0), (0, .ref a_0), (1, .int x1)]) hx hb dX6_again_38 rfl hl (by decide) rfl (fun ls hl => ?_)
      exact bl_39 x1 n r_13.2 r_15 g_seen 0 _ _ hf (hP.sub (ws' := [(a_0, mv a_text a_now a_trial a_diary a_kept a_isKept a_seen a_equations a_wanted r_13.2), (a_now, av_J cy 11 g_now), (a_trial, av_J cy 11 r_15), (a_seen, av_J cy 301 g_seen)]) [1, 2, 3, 0] rfl) (hD.sub (ws' := [(a_0, mv a_text a_now a_trial a_diary a_kept a_isKept a_seen a_equations a_wanted r_13.2), (a_now, av_J cy 11 g_now), (a_trial, av_J cy 11 r_15), (a_seen, av_J cy 301 g_seen)]) [1, 2, 3, 0] rfl rfl) hS ls (lv_sub hl [1, 2, 0] rfl)
    · have hf := ip_ (bI_n0 h_14) hf
      refine lv_iconst (v := 0) hx hb dX6_again_22 (by decide) ?_
      obtain rfl := Option.some.inj hf
      exact kr_i hx hb hr hlocks rfl (hP.sub (ws' := [(a_0, mv a_text a_now a_trial a_diary a_kept a_isKept a_seen a_equations a_wanted r_13.2), (a_now, av_J cy 11 g_now), (a_trial, av_J cy 11 g_trial), (a_seen, av_J cy 301 g_seen)]) [3, 0, 1, 2] rfl) hK (hD.sub (ws' := [(a_0, mv a_text a_now a_trial a_diary a_kept a_isKept a_seen a_equations a_wanted r_13.2), (a_now, av_J cy 11 g_now), (a_trial, av_J cy 11 g_trial), (a_seen, av_J cy 301 g_seen)]) [3, 0, 1, 2] rfl rfl) hN hS hS.2.2 dX6_again_23
set_option maxHeartbeats 4000000 in
set_option maxRecDepth 100000 in
theorem c_X6_befores {l : Launch} (G : va_G) (cy : Nat → ClassId) (a_0 : Nat) (a_text : Nat) (a_now : Nat) (a_trial : Nat) (a_diary : Nat) (a_kept : Nat) (a_isKept : Nat) (a_seen : Nat) (a_equations : Nat) (a_wanted : Nat) (sz : Nat) (s_0 : MT) (g_now : Nat → Int64) (g_equations : Nat → Int64) (g_wanted : Nat → Int32) (n : Nat) (R : Int32 × MT × (Nat → Int64) × (Nat → Int32)) (hf : f_X6_befores n s_0 g_now g_equations g_wanted = some R) : Met l yX6_befores wsX6_befores ({ frames := 6, cells := 0, slots := 0, locals := 139 } : Room) (va_Pc [.ref a_0] (pcW G cy [(a_0, mv a_text a_now a_trial a_diary a_kept a_isKept a_seen a_equations a_wanted s_0), (a_now, av_J cy 11 g_now), (a_equations, av_J cy 64 g_equations), (a_wanted, av_Z cy 64 g_wanted)] sz)) (va_Qi (fun r (_ : Unit) => r = R.1) (fun _ t => Wd G cy (va_A [(a_0, mv a_text a_now a_trial a_diary a_kept a_isKept a_seen a_equations a_wanted s_0), (a_now, av_J cy 11 g_now), (a_equations, av_J cy 64 g_equations), (a_wanted, av_Z cy 64 g_wanted)] sz) [(a_0, mv a_text a_now a_trial a_diary a_kept a_isKept a_seen a_equations a_wanted R.2.1), (a_now, av_J cy 11 g_now), (a_equations, av_J cy 64 R.2.2.1), (a_wanted, av_Z cy 64 R.2.2.2)] t) (va_A [(a_0, mv a_text a_now a_trial a_diary a_kept a_isKept a_seen a_equations a_wanted s_0), (a_now, av_J cy 11 g_now), (a_equations, av_J cy 64 g_equations), (a_wanted, av_Z cy 64 g_wanted)] sz)) 0 0 (va_A [(a_0, mv a_text a_now a_trial a_diary a_kept a_isKept a_seen a_equations a_wanted s_0), (a_now, av_J cy 11 g_now), (a_equations, av_J cy 64 g_equations), (a_wanted, av_Z cy 64 g_wanted)] sz) := by
  refine Met.ofW (cc := cX6_befores) (maxL := 1) (ret := (some .int)) (by decide) rfl ?_
  intro p e s m args below meth c s₁ B hml hv
  obtain ⟨rfl, hsz, hP, hK, hD0, hN⟩ := hv
  have hx := B.exec
  have hb := B.bytes
  have hr := B.returns
  have hts := atoms_spec (ws := wsX6_befores) B.pre
  have hown : s.vm.findClass RX6 = some m.cls := findClass_of_methodNamed B.named
  have hlocks := B.notSynchronized
  subst hsz
  have hD := hD0.self (sz := s.heap.size)
  generalize hAe : va_A [(a_0, mv a_text a_now a_trial a_diary a_kept a_isKept a_seen a_equations a_wanted s_0), (a_now, av_J cy 11 g_now), (a_equations, av_J cy 64 g_equations), (a_wanted, av_Z cy 64 g_wanted)] s.heap.size = A at hD ⊢
  have hA : ∀ q : Nat, s.heap.size ≤ q → A q := fun q h => by rw [← hAe]; exact Or.inr h
  have hS : va_S A s.heap s.heap [] := va_S.rf
  have hP : va_P G vwCl [(a_0, mv a_text a_now a_trial a_diary a_kept a_isKept a_seen a_equations a_wanted s_0), (a_now, av_J cy 11 g_now), (a_equations, av_J cy 64 g_equations), (a_wanted, av_Z cy 64 g_wanted)] s.heap := hP
  have hl := lv_entry [.ref a_0] (n := 1) (Nat.le_of_ble_eq_true rfl)
  rw [lg_entry_eq]
  generalize (lg_sl [.ref a_0] ++ List.replicate (1 - (lg_sl [.ref a_0]).length) Slot.unset).toArray = ls at hl ⊢
  have hl : lv_has ls 1 [(0, .ref a_0)] := hl
  unfold f_X6_befores at hf
  refine lv_aload_n hx hb dX6_befores_0 rfl (lv_at hl 0 rfl) ?_
  refine lv_aload_n hx hb dX6_befores_1 rfl (lv_at hl 0 rfl) ?_
  refine va_get (D := G) (ci := 6) (v := .ref a_now) (C := RX6) (T := TX6) (N := 15) hx hb hts iw_X6_befores_X6 hown hK hP 0 rfl rfl 3 (by decide) (hts (.fieldLink RX6 13 "PaneFrostModel" "now" "[J") (by decide +kernel)) (fun _ h9 => h9) rfl dX6_befores_2 ?_
  refine lv_iconst (v := 2) hx hb dX6_befores_5 (by decide) ?_
  refine vz_lald tn_2 hx hb hK hP 1 2 rfl rfl vn_2_11 dX6_befores_6 ?_
  refine lv_lconst (v := 0) hx hb dX6_befores_7 rfl ?_
  refine W.lcmp hx hb dX6_befores_8 ?_
  refine lv_if_ne (tgt := 16) hx hb dX6_befores_9 (by decide) (fun h_1 => ?_) (fun h_1 => ?_)
  · have hf := in_ (fun q => h_1 (lgc_eq.mpr q)) hf
    refine lv_iconst (v := 0) hx hb dX6_befores_16 (by decide) ?_
    obtain ⟨r_2, hh_r_2⟩ : ∃ z, z = f_X6_refused s_0 0 := ⟨_, rfl⟩
    have hf := lt_e hh_r_2 hf
    refine kc_i (w1 := [(a_0, mv a_text a_now a_trial a_diary a_kept a_isKept a_seen a_equations a_wanted r_2.2)]) (wr := [(a_now, av_J cy 11 g_now), (a_equations, av_J cy 64 g_equations), (a_wanted, av_Z cy 64 g_wanted)]) hP hD hS hA [0] [1, 2, 3] rfl rfl rfl (by decide) (va_runV (As := [.int 0]) (rest := []) ⟨hx, hb, hml, hown, hts⟩ (c_X6_refused (l := l) G cy a_0 a_text a_now a_trial a_diary a_kept a_isKept a_seen a_equations a_wanted s.heap.size s_0 0  r_2 hh_r_2.symm) (cwV 1 hts gX6_befores_X6_refused rfl rfl rfl ddV_X6_refused ⟨Nat.le_of_ble_eq_true rfl, Nat.le_of_ble_eq_true rfl⟩) (preV_ (ci := 6) (q0 := 0) rfl rfl (hP.sub (ws' := [(a_0, mv a_text a_now a_trial a_diary a_kept a_isKept a_seen a_equations a_wanted s_0)]) [0] rfl) hK (hD.sub (ws' := [(a_0, mv a_text a_now a_trial a_diary a_kept a_isKept a_seen a_equations a_wanted s_0)]) [0] rfl rfl) hN) rfl rfl hl.1 rfl (lv_room (Nat.le_of_ble_eq_true rfl)) dX6_befores_17 ⟨Nat.le_of_ble_eq_true rfl, Nat.le_of_ble_eq_true rfl⟩) (fun H locs hP hD hS => ?_)
    have hP : va_P G vwCl [(a_now, av_J cy 11 g_now), (a_equations, av_J cy 64 g_equations), (a_wanted, av_Z cy 64 g_wanted), (a_0, mv a_text a_now a_trial a_diary a_kept a_isKept a_seen a_equations a_wanted r_2.2)] H := hP
    have hD : va_D A [(a_now, av_J cy 11 g_now), (a_equations, av_J cy 64 g_equations), (a_wanted, av_Z cy 64 g_wanted), (a_0, mv a_text a_now a_trial a_diary a_kept a_isKept a_seen a_equations a_wanted r_2.2)] := hD
    refine lv_if_eq (tgt := 25) hx hb dX6_befores_20 (by decide) (fun h_3 => ?_) (fun h_3 => ?_)
    · have hf := in_ (bI_0 h_3) hf
      refine lv_aload_n hx hb dX6_befores_25 rfl (lv_at hl 0 rfl) ?_
      obtain ⟨r_4, hh_r_4, hf⟩ := obd_some hf
      refine kc_v (w1 := [(a_0, mv a_text a_now a_trial a_diary a_kept a_isKept a_seen a_equations a_wanted r_2.2), (a_now, av_J cy 11 g_now), (a_equations, av_J cy 64 r_4.1), (a_wanted, av_Z cy 64 r_4.2)]) (wr := []) hP hD hS hA [3, 0, 1, 2] [] rfl rfl rfl (by decide) (va_runV (As := []) (rest := []) ⟨hx, hb, hml, hown, hts⟩ (c_X6_layEquations (l := l) G cy a_0 a_text a_now a_trial a_diary a_kept a_isKept a_seen a_equations a_wanted H.size r_2.2 g_now g_equations g_wanted n r_4 hh_r_4) (cwV 0 hts gX6_befores_X6_layEquations rfl rfl rfl ddV_X6_layEquations ⟨Nat.le_of_ble_eq_true rfl, Nat.le_of_ble_eq_true rfl⟩) (preV_ (ci := 6) (q0 := 0) rfl rfl (hP.sub (ws' := [(a_0, mv a_text a_now a_trial a_diary a_kept a_isKept a_seen a_equations a_wanted r_2.2), (a_now, av_J cy 11 g_now), (a_equations, av_J cy 64 g_equations), (a_wanted, av_Z cy 64 g_wanted)]) [3, 0, 1, 2] rfl) hK (hD.sub (ws' := [(a_0, mv a_text a_now a_trial a_diary a_kept a_isKept a_seen a_equations a_wanted r_2.2), (a_now, av_J cy 11 g_now), (a_equations, av_J cy 64 g_equations), (a_wanted, av_Z cy 64 g_wanted)]) [3, 0, 1, 2] rfl rfl) hN) rfl rfl hl.1 rfl (lv_room (Nat.le_of_ble_eq_true rfl)) dX6_befores_26 ⟨Nat.le_of_ble_eq_true rfl, Nat.le_of_ble_eq_true rfl⟩) (fun H locs hP hD hS => ?_)
      have hP : va_P G vwCl [(a_0, mv a_text a_now a_trial a_diary a_kept a_isKept a_seen a_equations a_wanted r_2.2), (a_now, av_J cy 11 g_now), (a_equations, av_J cy 64 r_4.1), (a_wanted, av_Z cy 64 r_4.2)] H := hP
      have hD : va_D A [(a_0, mv a_text a_now a_trial a_diary a_kept a_isKept a_seen a_equations a_wanted r_2.2), (a_now, av_J cy 11 g_now), (a_equations, av_J cy 64 r_4.1), (a_wanted, av_Z cy 64 r_4.2)] := hD
      refine lv_aload_n hx hb dX6_befores_29 rfl (lv_at hl 0 rfl) ?_
      obtain ⟨r_5, hh_r_5, hf⟩ := obd_some hf
      refine kc_i (w1 := [(a_0, mv a_text a_now a_trial a_diary a_kept a_isKept a_seen a_equations a_wanted r_5.2.1), (a_now, av_J cy 11 g_now), (a_equations, av_J cy 64 r_5.2.2.1), (a_wanted, av_Z cy 64 r_5.2.2.2)]) (wr := []) hP hD hS hA [0, 1, 2, 3] [] rfl rfl rfl (by decide) (va_runV (As := []) (rest := []) ⟨hx, hb, hml, hown, hts⟩ (c_X6_solve (l := l) G cy a_0 a_text a_now a_trial a_diary a_kept a_isKept a_seen a_equations a_wanted H.size r_2.2 g_now r_4.1 r_4.2 n r_5 hh_r_5) (cwV 0 hts gX6_befores_X6_solve rfl rfl rfl ddV_X6_solve ⟨Nat.le_of_ble_eq_true rfl, Nat.le_of_ble_eq_true rfl⟩) (preV_ (ci := 6) (q0 := 0) rfl rfl hP hK hD hN) rfl rfl hl.1 rfl (lv_room (Nat.le_of_ble_eq_true rfl)) dX6_befores_30 ⟨Nat.le_of_ble_eq_true rfl, Nat.le_of_ble_eq_true rfl⟩) (fun H locs hP hD hS => ?_)
      have hP : va_P G vwCl [(a_0, mv a_text a_now a_trial a_diary a_kept a_isKept a_seen a_equations a_wanted r_5.2.1), (a_now, av_J cy 11 g_now), (a_equations, av_J cy 64 r_5.2.2.1), (a_wanted, av_Z cy 64 r_5.2.2.2)] H := hP
      have hD : va_D A [(a_0, mv a_text a_now a_trial a_diary a_kept a_isKept a_seen a_equations a_wanted r_5.2.1), (a_now, av_J cy 11 g_now), (a_equations, av_J cy 64 r_5.2.2.1), (a_wanted, av_Z cy 64 r_5.2.2.2)] := hD
      refine lv_if_eq (tgt := 51) hx hb dX6_befores_33 (by decide) (fun h_6 => ?_) (fun h_6 => ?_)
      · have hf := in_ (bI_0 h_6) hf
        refine lv_iconst (v := (-1)) hx hb dX6_befores_51 (by decide) ?_
        obtain rfl := Option.some.inj hf
        exact kr_i hx hb hr hlocks rfl hP hK hD hN hS hS.2.2 dX6_befores_52
      · have hf := ip_ (bI_n0 h_6) hf
        refine lv_aload_n hx hb dX6_befores_36 rfl (lv_at hl 0 rfl) ?_
        refine va_get (D := G) (ci := 6) (v := .ref a_now) (C := RX6) (T := TX6) (N := 15) hx hb hts iw_X6_befores_X6 hown hK hP 0 rfl rfl 3 (by decide) (hts (.fieldLink RX6 13 "PaneFrostModel" "now" "[J") (by decide +kernel)) (fun _ h9 => h9) rfl dX6_befores_37 ?_
        refine kc_i (w1 := [(a_now, av_J cy 11 g_now)]) (wr := [(a_0, mv a_text a_now a_trial a_diary a_kept a_isKept a_seen a_equations a_wanted r_5.2.1), (a_equations, av_J cy 64 r_5.2.2.1), (a_wanted, av_Z cy 64 r_5.2.2.2)]) hP hD hS hA [1] [0, 2, 3] rfl rfl rfl (by decide) (va_runS (As := [.ref a_now]) (rest := []) ⟨hx, hb, hml, hown, hts⟩ (c_X6_many (l := l) G cy a_now H.size g_now  (f_X6_many g_now) rfl) (va_cwS 1 hts gX6_befores_X6_many rfl rfl rfl ddN_X6_many ⟨Nat.le_of_ble_eq_true rfl, Nat.le_of_ble_eq_true rfl⟩) (preS_ (hP.sub (ws' := [(a_now, av_J cy 11 g_now)]) [1] rfl) hK (hD.sub (ws' := [(a_now, av_J cy 11 g_now)]) [1] rfl rfl) hN) rfl rfl hl.1 rfl (lv_room (Nat.le_of_ble_eq_true rfl)) dX6_befores_40 ⟨Nat.le_of_ble_eq_true rfl, Nat.le_of_ble_eq_true rfl⟩) (fun H locs hP hD hS => ?_)
        have hP : va_P G vwCl [(a_0, mv a_text a_now a_trial a_diary a_kept a_isKept a_seen a_equations a_wanted r_5.2.1), (a_equations, av_J cy 64 r_5.2.2.1), (a_wanted, av_Z cy 64 r_5.2.2.2), (a_now, av_J cy 11 g_now)] H := hP
        have hD : va_D A [(a_0, mv a_text a_now a_trial a_diary a_kept a_isKept a_seen a_equations a_wanted r_5.2.1), (a_equations, av_J cy 64 r_5.2.2.1), (a_wanted, av_Z cy 64 r_5.2.2.2), (a_now, av_J cy 11 g_now)] := hD
        refine lv_aload_n hx hb dX6_befores_43 rfl (lv_at hl 0 rfl) ?_
        refine va_get (D := G) (ci := 6) (v := .int (m_rank r_5.2.1)) (C := RX6) (T := TX6) (N := 15) hx hb hts iw_X6_befores_X6 hown hK hP 0 rfl rfl 12 (by decide) (hts (.fieldLink RX6 119 "PaneFrostModel" "rank" "I") (by decide +kernel)) (fun _ h9 => h9) rfl dX6_befores_44 ?_
        refine lv_isub hx hb dX6_befores_47 ?_
        refine lv_goto (tgt := 52) hx hb dX6_befores_48 (by decide) ?_
        obtain rfl := Option.some.inj hf
        exact kr_i hx hb hr hlocks rfl (hP.sub (ws' := [(a_0, mv a_text a_now a_trial a_diary a_kept a_isKept a_seen a_equations a_wanted r_5.2.1), (a_now, av_J cy 11 g_now), (a_equations, av_J cy 64 r_5.2.2.1), (a_wanted, av_Z cy 64 r_5.2.2.2)]) [0, 3, 1, 2] rfl) hK (hD.sub (ws' := [(a_0, mv a_text a_now a_trial a_diary a_kept a_isKept a_seen a_equations a_wanted r_5.2.1), (a_now, av_J cy 11 g_now), (a_equations, av_J cy 64 r_5.2.2.1), (a_wanted, av_Z cy 64 r_5.2.2.2)]) [0, 3, 1, 2] rfl rfl) hN hS hS.2.2 dX6_befores_52
    · have hf := ip_ (bI_n0 h_3) hf
      refine lv_iconst (v := 0) hx hb dX6_befores_23 (by decide) ?_
      obtain rfl := Option.some.inj hf
      exact kr_i hx hb hr hlocks rfl (hP.sub (ws' := [(a_0, mv a_text a_now a_trial a_diary a_kept a_isKept a_seen a_equations a_wanted r_2.2), (a_now, av_J cy 11 g_now), (a_equations, av_J cy 64 g_equations), (a_wanted, av_Z cy 64 g_wanted)]) [3, 0, 1, 2] rfl) hK (hD.sub (ws' := [(a_0, mv a_text a_now a_trial a_diary a_kept a_isKept a_seen a_equations a_wanted r_2.2), (a_now, av_J cy 11 g_now), (a_equations, av_J cy 64 g_equations), (a_wanted, av_Z cy 64 g_wanted)]) [3, 0, 1, 2] rfl rfl) hN hS hS.2.2 dX6_befores_24
  · have hf := ip_ (lgc_eq.mp h_1) hf
    refine lv_iconst (v := 1) hx hb dX6_befores_12 (by decide) ?_
    refine lv_goto (tgt := 17) hx hb dX6_befores_13 (by decide) ?_
    obtain ⟨r_7, hh_r_7⟩ : ∃ z, z = f_X6_refused s_0 1 := ⟨_, rfl⟩
    have hf := lt_e hh_r_7 hf
    refine kc_i (w1 := [(a_0, mv a_text a_now a_trial a_diary a_kept a_isKept a_seen a_equations a_wanted r_7.2)]) (wr := [(a_now, av_J cy 11 g_now), (a_equations, av_J cy 64 g_equations), (a_wanted, av_Z cy 64 g_wanted)]) hP hD hS hA [0] [1, 2, 3] rfl rfl rfl (by decide) (va_runV (As := [.int 1]) (rest := []) ⟨hx, hb, hml, hown, hts⟩ (c_X6_refused (l := l) G cy a_0 a_text a_now a_trial a_diary a_kept a_isKept a_seen a_equations a_wanted s.heap.size s_0 1  r_7 hh_r_7.symm) (cwV 1 hts gX6_befores_X6_refused rfl rfl rfl ddV_X6_refused ⟨Nat.le_of_ble_eq_true rfl, Nat.le_of_ble_eq_true rfl⟩) (preV_ (ci := 6) (q0 := 0) rfl rfl (hP.sub (ws' := [(a_0, mv a_text a_now a_trial a_diary a_kept a_isKept a_seen a_equations a_wanted s_0)]) [0] rfl) hK (hD.sub (ws' := [(a_0, mv a_text a_now a_trial a_diary a_kept a_isKept a_seen a_equations a_wanted s_0)]) [0] rfl rfl) hN) rfl rfl hl.1 rfl (lv_room (Nat.le_of_ble_eq_true rfl)) dX6_befores_17 ⟨Nat.le_of_ble_eq_true rfl, Nat.le_of_ble_eq_true rfl⟩) (fun H locs hP hD hS => ?_)
    have hP : va_P G vwCl [(a_now, av_J cy 11 g_now), (a_equations, av_J cy 64 g_equations), (a_wanted, av_Z cy 64 g_wanted), (a_0, mv a_text a_now a_trial a_diary a_kept a_isKept a_seen a_equations a_wanted r_7.2)] H := hP
    have hD : va_D A [(a_now, av_J cy 11 g_now), (a_equations, av_J cy 64 g_equations), (a_wanted, av_Z cy 64 g_wanted), (a_0, mv a_text a_now a_trial a_diary a_kept a_isKept a_seen a_equations a_wanted r_7.2)] := hD
    refine lv_if_eq (tgt := 25) hx hb dX6_befores_20 (by decide) (fun h_8 => ?_) (fun h_8 => ?_)
    · have hf := in_ (bI_0 h_8) hf
      refine lv_aload_n hx hb dX6_befores_25 rfl (lv_at hl 0 rfl) ?_
      obtain ⟨r_9, hh_r_9, hf⟩ := obd_some hf
      refine kc_v (w1 := [(a_0, mv a_text a_now a_trial a_diary a_kept a_isKept a_seen a_equations a_wanted r_7.2), (a_now, av_J cy 11 g_now), (a_equations, av_J cy 64 r_9.1), (a_wanted, av_Z cy 64 r_9.2)]) (wr := []) hP hD hS hA [3, 0, 1, 2] [] rfl rfl rfl (by decide) (va_runV (As := []) (rest := []) ⟨hx, hb, hml, hown, hts⟩ (c_X6_layEquations (l := l) G cy a_0 a_text a_now a_trial a_diary a_kept a_isKept a_seen a_equations a_wanted H.size r_7.2 g_now g_equations g_wanted n r_9 hh_r_9) (cwV 0 hts gX6_befores_X6_layEquations rfl rfl rfl ddV_X6_layEquations ⟨Nat.le_of_ble_eq_true rfl, Nat.le_of_ble_eq_true rfl⟩) (preV_ (ci := 6) (q0 := 0) rfl rfl (hP.sub (ws' := [(a_0, mv a_text a_now a_trial a_diary a_kept a_isKept a_seen a_equations a_wanted r_7.2), (a_now, av_J cy 11 g_now), (a_equations, av_J cy 64 g_equations), (a_wanted, av_Z cy 64 g_wanted)]) [3, 0, 1, 2] rfl) hK (hD.sub (ws' := [(a_0, mv a_text a_now a_trial a_diary a_kept a_isKept a_seen a_equations a_wanted r_7.2), (a_now, av_J cy 11 g_now), (a_equations, av_J cy 64 g_equations), (a_wanted, av_Z cy 64 g_wanted)]) [3, 0, 1, 2] rfl rfl) hN) rfl rfl hl.1 rfl (lv_room (Nat.le_of_ble_eq_true rfl)) dX6_befores_26 ⟨Nat.le_of_ble_eq_true rfl, Nat.le_of_ble_eq_true rfl⟩) (fun H locs hP hD hS => ?_)
      have hP : va_P G vwCl [(a_0, mv a_text a_now a_trial a_diary a_kept a_isKept a_seen a_equations a_wanted r_7.2), (a_now, av_J cy 11 g_now), (a_equations, av_J cy 64 r_9.1), (a_wanted, av_Z cy 64 r_9.2)] H := hP
      have hD : va_D A [(a_0, mv a_text a_now a_trial a_diary a_kept a_isKept a_seen a_equations a_wanted r_7.2), (a_now, av_J cy 11 g_now), (a_equations, av_J cy 64 r_9.1), (a_wanted, av_Z cy 64 r_9.2)] := hD
      refine lv_aload_n hx hb dX6_befores_29 rfl (lv_at hl 0 rfl) ?_
      obtain ⟨r_10, hh_r_10, hf⟩ := obd_some hf
      refine kc_i (w1 := [(a_0, mv a_text a_now a_trial a_diary a_kept a_isKept a_seen a_equations a_wanted r_10.2.1), (a_now, av_J cy 11 g_now), (a_equations, av_J cy 64 r_10.2.2.1), (a_wanted, av_Z cy 64 r_10.2.2.2)]) (wr := []) hP hD hS hA [0, 1, 2, 3] [] rfl rfl rfl (by decide) (va_runV (As := []) (rest := []) ⟨hx, hb, hml, hown, hts⟩ (c_X6_solve (l := l) G cy a_0 a_text a_now a_trial a_diary a_kept a_isKept a_seen a_equations a_wanted H.size r_7.2 g_now r_9.1 r_9.2 n r_10 hh_r_10) (cwV 0 hts gX6_befores_X6_solve rfl rfl rfl ddV_X6_solve ⟨Nat.le_of_ble_eq_true rfl, Nat.le_of_ble_eq_true rfl⟩) (preV_ (ci := 6) (q0 := 0) rfl rfl hP hK hD hN) rfl rfl hl.1 rfl (lv_room (Nat.le_of_ble_eq_true rfl)) dX6_befores_30 ⟨Nat.le_of_ble_eq_true rfl, Nat.le_of_ble_eq_true rfl⟩) (fun H locs hP hD hS => ?_)
      have hP : va_P G vwCl [(a_0, mv a_text a_now a_trial a_diary a_kept a_isKept a_seen a_equations a_wanted r_10.2.1), (a_now, av_J cy 11 g_now), (a_equations, av_J cy 64 r_10.2.2.1), (a_wanted, av_Z cy 64 r_10.2.2.2)] H := hP
      have hD : va_D A [(a_0, mv a_text a_now a_trial a_diary a_kept a_isKept a_seen a_equations a_wanted r_10.2.1), (a_now, av_J cy 11 g_now), (a_equations, av_J cy 64 r_10.2.2.1), (a_wanted, av_Z cy 64 r_10.2.2.2)] := hD
      refine lv_if_eq (tgt := 51) hx hb dX6_befores_33 (by decide) (fun h_11 => ?_) (fun h_11 => ?_)
      · have hf := in_ (bI_0 h_11) hf
        refine lv_iconst (v := (-1)) hx hb dX6_befores_51 (by decide) ?_
        obtain rfl := Option.some.inj hf
        exact kr_i hx hb hr hlocks rfl hP hK hD hN hS hS.2.2 dX6_befores_52
      · have hf := ip_ (bI_n0 h_11) hf
        refine lv_aload_n hx hb dX6_befores_36 rfl (lv_at hl 0 rfl) ?_
        refine va_get (D := G) (ci := 6) (v := .ref a_now) (C := RX6) (T := TX6) (N := 15) hx hb hts iw_X6_befores_X6 hown hK hP 0 rfl rfl 3 (by decide) (hts (.fieldLink RX6 13 "PaneFrostModel" "now" "[J") (by decide +kernel)) (fun _ h9 => h9) rfl dX6_befores_37 ?_
        refine kc_i (w1 := [(a_now, av_J cy 11 g_now)]) (wr := [(a_0, mv a_text a_now a_trial a_diary a_kept a_isKept a_seen a_equations a_wanted r_10.2.1), (a_equations, av_J cy 64 r_10.2.2.1), (a_wanted, av_Z cy 64 r_10.2.2.2)]) hP hD hS hA [1] [0, 2, 3] rfl rfl rfl (by decide) (va_runS (As := [.ref a_now]) (rest := []) ⟨hx, hb, hml, hown, hts⟩ (c_X6_many (l := l) G cy a_now H.size g_now  (f_X6_many g_now) rfl) (va_cwS 1 hts gX6_befores_X6_many rfl rfl rfl ddN_X6_many ⟨Nat.le_of_ble_eq_true rfl, Nat.le_of_ble_eq_true rfl⟩) (preS_ (hP.sub (ws' := [(a_now, av_J cy 11 g_now)]) [1] rfl) hK (hD.sub (ws' := [(a_now, av_J cy 11 g_now)]) [1] rfl rfl) hN) rfl rfl hl.1 rfl (lv_room (Nat.le_of_ble_eq_true rfl)) dX6_befores_40 ⟨Nat.le_of_ble_eq_true rfl, Nat.le_of_ble_eq_true rfl⟩) (fun H locs hP hD hS => ?_)
        have hP : va_P G vwCl [(a_0, mv a_text a_now a_trial a_diary a_kept a_isKept a_seen a_equations a_wanted r_10.2.1), (a_equations, av_J cy 64 r_10.2.2.1), (a_wanted, av_Z cy 64 r_10.2.2.2), (a_now, av_J cy 11 g_now)] H := hP
        have hD : va_D A [(a_0, mv a_text a_now a_trial a_diary a_kept a_isKept a_seen a_equations a_wanted r_10.2.1), (a_equations, av_J cy 64 r_10.2.2.1), (a_wanted, av_Z cy 64 r_10.2.2.2), (a_now, av_J cy 11 g_now)] := hD
        refine lv_aload_n hx hb dX6_befores_43 rfl (lv_at hl 0 rfl) ?_
        refine va_get (D := G) (ci := 6) (v := .int (m_rank r_10.2.1)) (C := RX6) (T := TX6) (N := 15) hx hb hts iw_X6_befores_X6 hown hK hP 0 rfl rfl 12 (by decide) (hts (.fieldLink RX6 119 "PaneFrostModel" "rank" "I") (by decide +kernel)) (fun _ h9 => h9) rfl dX6_befores_44 ?_
        refine lv_isub hx hb dX6_befores_47 ?_
        refine lv_goto (tgt := 52) hx hb dX6_befores_48 (by decide) ?_
        obtain rfl := Option.some.inj hf
        exact kr_i hx hb hr hlocks rfl (hP.sub (ws' := [(a_0, mv a_text a_now a_trial a_diary a_kept a_isKept a_seen a_equations a_wanted r_10.2.1), (a_now, av_J cy 11 g_now), (a_equations, av_J cy 64 r_10.2.2.1), (a_wanted, av_Z cy 64 r_10.2.2.2)]) [0, 3, 1, 2] rfl) hK (hD.sub (ws' := [(a_0, mv a_text a_now a_trial a_diary a_kept a_isKept a_seen a_equations a_wanted r_10.2.1), (a_now, av_J cy 11 g_now), (a_equations, av_J cy 64 r_10.2.2.1), (a_wanted, av_Z cy 64 r_10.2.2.2)]) [0, 3, 1, 2] rfl rfl) hN hS hS.2.2 dX6_befores_52
    · have hf := ip_ (bI_n0 h_8) hf
      refine lv_iconst (v := 0) hx hb dX6_befores_23 (by decide) ?_
      obtain rfl := Option.some.inj hf
      exact kr_i hx hb hr hlocks rfl (hP.sub (ws' := [(a_0, mv a_text a_now a_trial a_diary a_kept a_isKept a_seen a_equations a_wanted r_7.2), (a_now, av_J cy 11 g_now), (a_equations, av_J cy 64 g_equations), (a_wanted, av_Z cy 64 g_wanted)]) [3, 0, 1, 2] rfl) hK (hD.sub (ws' := [(a_0, mv a_text a_now a_trial a_diary a_kept a_isKept a_seen a_equations a_wanted r_7.2), (a_now, av_J cy 11 g_now), (a_equations, av_J cy 64 g_equations), (a_wanted, av_Z cy 64 g_wanted)]) [3, 0, 1, 2] rfl rfl) hN hS hS.2.2 dX6_befores_24
set_option maxHeartbeats 4000000 in
set_option maxRecDepth 100000 in
theorem c_X6_before {l : Launch} (G : va_G) (cy : Nat → ClassId) (a_0 : Nat) (a_text : Nat) (a_now : Nat) (a_trial : Nat) (a_diary : Nat) (a_kept : Nat) (a_isKept : Nat) (a_seen : Nat) (a_equations : Nat) (a_wanted : Nat) (sz : Nat) (s_0 : MT) (g_now : Nat → Int64) (g_equations : Nat → Int64) (g_wanted : Nat → Int32) (n : Nat) (R : Int64 × MT × (Nat → Int64) × (Nat → Int32)) (hf : f_X6_before n s_0 g_now g_equations g_wanted = some R) : Met l yX6_before wsX6_before ({ frames := 6, cells := 0, slots := 0, locals := 139 } : Room) (va_Pc [.ref a_0] (pcW G cy [(a_0, mv a_text a_now a_trial a_diary a_kept a_isKept a_seen a_equations a_wanted s_0), (a_now, av_J cy 11 g_now), (a_equations, av_J cy 64 g_equations), (a_wanted, av_Z cy 64 g_wanted)] sz)) (va_Ql (fun r (_ : Unit) => r = R.1) (fun _ t => Wd G cy (va_A [(a_0, mv a_text a_now a_trial a_diary a_kept a_isKept a_seen a_equations a_wanted s_0), (a_now, av_J cy 11 g_now), (a_equations, av_J cy 64 g_equations), (a_wanted, av_Z cy 64 g_wanted)] sz) [(a_0, mv a_text a_now a_trial a_diary a_kept a_isKept a_seen a_equations a_wanted R.2.1), (a_now, av_J cy 11 g_now), (a_equations, av_J cy 64 R.2.2.1), (a_wanted, av_Z cy 64 R.2.2.2)] t) (va_A [(a_0, mv a_text a_now a_trial a_diary a_kept a_isKept a_seen a_equations a_wanted s_0), (a_now, av_J cy 11 g_now), (a_equations, av_J cy 64 g_equations), (a_wanted, av_Z cy 64 g_wanted)] sz)) 0 0 (va_A [(a_0, mv a_text a_now a_trial a_diary a_kept a_isKept a_seen a_equations a_wanted s_0), (a_now, av_J cy 11 g_now), (a_equations, av_J cy 64 g_equations), (a_wanted, av_Z cy 64 g_wanted)] sz) := by
  refine Met.ofW (cc := cX6_before) (maxL := 4) (ret := (some .long)) (by decide) rfl ?_
  intro p e s m args below meth c s₁ B hml hv
  obtain ⟨rfl, hsz, hP, hK, hD0, hN⟩ := hv
  have hx := B.exec
  have hb := B.bytes
  have hr := B.returns
  have hts := atoms_spec (ws := wsX6_before) B.pre
  have hown : s.vm.findClass RX6 = some m.cls := findClass_of_methodNamed B.named
  have hlocks := B.notSynchronized
  subst hsz
  have hD := hD0.self (sz := s.heap.size)
  generalize hAe : va_A [(a_0, mv a_text a_now a_trial a_diary a_kept a_isKept a_seen a_equations a_wanted s_0), (a_now, av_J cy 11 g_now), (a_equations, av_J cy 64 g_equations), (a_wanted, av_Z cy 64 g_wanted)] s.heap.size = A at hD ⊢
  have hA : ∀ q : Nat, s.heap.size ≤ q → A q := fun q h => by rw [← hAe]; exact Or.inr h
  have hS : va_S A s.heap s.heap [] := va_S.rf
  have hP : va_P G vwCl [(a_0, mv a_text a_now a_trial a_diary a_kept a_isKept a_seen a_equations a_wanted s_0), (a_now, av_J cy 11 g_now), (a_equations, av_J cy 64 g_equations), (a_wanted, av_Z cy 64 g_wanted)] s.heap := hP
  have bl_42 : ∀ (k : Nat), ∀ (c_s_0 : MT) (c_g_equations : Nat → Int64) (c_g_wanted : Nat → Int32) (y1 : Int64) (y3 : Int32) (H : Heap) (locs : List Loc), f_X6_before_b42 n g_now k c_s_0 c_g_equations c_g_wanted y1 y3 = some R → va_P G vwCl [(a_0, mv a_text a_now a_trial a_diary a_kept a_isKept a_seen a_equations a_wanted c_s_0), (a_now, av_J cy 11 g_now), (a_equations, av_J cy 64 c_g_equations), (a_wanted, av_Z cy 64 c_g_wanted)] H → va_D A [(a_0, mv a_text a_now a_trial a_diary a_kept a_isKept a_seen a_equations a_wanted c_s_0), (a_now, av_J cy 11 g_now), (a_equations, av_J cy 64 c_g_equations), (a_wanted, av_Z cy 64 c_g_wanted)] → va_S A s.heap H locs → ∀ (ls : Array Slot), lv_has ls 4 [(0, .ref a_0), (1, .long y1), (3, .int y3)] → W p l e ({ frames := 6, cells := 0, slots := 0, locals := 139 } : Room) s m [.ref a_0].toArray below meth c H locs 0 0 (MQ below (va_Ql (fun r (_ : Unit) => r = R.1) (fun _ t => Wd G cy A [(a_0, mv a_text a_now a_trial a_diary a_kept a_isKept a_seen a_equations a_wanted R.2.1), (a_now, av_J cy 11 g_now), (a_equations, av_J cy 64 R.2.2.1), (a_wanted, av_Z cy 64 R.2.2.2)] t) A) [.ref a_0].toArray s 0 0 A) (F0 m 42 ls []) := by
    intro k
    induction k with
    | zero =>
      intro c_s_0 c_g_equations c_g_wanted y1 y3 H locs hf; cases hf
    | succ k ih =>
      intro c_s_0 c_g_equations c_g_wanted y1 y3 H locs hf hP hD hS ls hl
      have hf := (f_X6_before_b42_s n g_now k c_s_0 c_g_equations c_g_wanted y1 y3).symm.trans hf
      refine lv_iload_n hx hb dX6_before_42 rfl (lv_at hl 2 rfl) ?_
      refine lv_aload_n hx hb dX6_before_43 rfl (lv_at hl 0 rfl) ?_
      refine va_get (D := G) (ci := 6) (v := .int (m_rank c_s_0)) (C := RX6) (T := TX6) (N := 15) hx hb hts iw_X6_before_X6 hown hK hP 0 rfl rfl 12 (by decide) (hts (.fieldLink RX6 119 "PaneFrostModel" "rank" "I") (by decide +kernel)) (fun _ h9 => h9) rfl dX6_before_44 ?_
      refine lv_icmp_ge (tgt := 83) hx hb dX6_before_47 (by decide) (fun h_1 => ?_) (fun h_1 => ?_)
      · have hf := ip_ h_1 hf
        refine lv_lload_n hx hb dX6_before_83 rfl (lv_at hl 1 rfl) ?_
        obtain rfl := Option.some.inj hf
        exact kr_l hx hb hr hlocks rfl hP hK hD hN hS hS.2.2 dX6_before_84
      · have hf := in_ h_1 hf
        refine lv_lload_n hx hb dX6_before_50 rfl (lv_at hl 1 rfl) ?_
        refine lv_aload_n hx hb dX6_before_51 rfl (lv_at hl 0 rfl) ?_
        refine va_get (D := G) (ci := 6) (v := .ref a_wanted) (C := RX6) (T := TX6) (N := 15) hx hb hts iw_X6_before_X6 hown hK hP 0 rfl rfl 11 (by decide) (hts (.fieldLink RX6 36 "PaneFrostModel" "wanted" "[Z") (by decide +kernel)) (fun _ h9 => h9) rfl dX6_before_52 ?_
        refine lv_iload_n hx hb dX6_before_55 rfl (lv_at hl 2 rfl) ?_
        by_cases q_2 : y3 < 0 ∨ 64 ≤ y3.toNatClampNeg
        · have hf := ip_ q_2 hf; cases hf
        have hf := in_ q_2 hf
        refine vz_zald rfl hx hb hK hP 3 3 rfl rfl (vin q_2) dX6_before_56 ?_
        refine lv_if_eq (tgt := 74) hx hb dX6_before_57 (by decide) (fun h_3 => ?_) (fun h_3 => ?_)
        · have hf := ip_ h_3 hf
          refine lv_lconst (v := 0) hx hb dX6_before_74 rfl ?_
          refine lv_lor hx hb dX6_before_75 ?_
          refine lv_lstore_n (lv' := [(1, .long (y1 ||| 0)), (0, .ref a_0), (3, .int y3)]) hx hb dX6_before_76 rfl hl (by decide) rfl (fun ls hl => ?_)
          refine lv_iinc (v := (y3 + 1)) (lv' := [(3, .int (y3 + 1)), (1, .long (y1 ||| 0)), (0, .ref a_0)]) hx hb dX6_before_77 hl (k := 2) rfl rfl (by decide) rfl (fun ls hl => ?_)
          refine lv_goto (tgt := 42) hx hb dX6_before_80 (by decide) ?_
          exact ih c_s_0 c_g_equations c_g_wanted (y1 ||| 0) (y3 + 1) _ _ hf hP hD hS ls (lv_sub hl [2, 1, 0] rfl)
        · have hf := in_ h_3 hf
          refine lv_lconst (v := 1) hx hb dX6_before_60 rfl ?_
          refine lv_aload_n hx hb dX6_before_61 rfl (lv_at hl 0 rfl) ?_
          refine va_get (D := G) (ci := 6) (v := .ref a_equations) (C := RX6) (T := TX6) (N := 15) hx hb hts iw_X6_before_X6 hown hK hP 0 rfl rfl 10 (by decide) (hts (.fieldLink RX6 33 "PaneFrostModel" "equations" "[J") (by decide +kernel)) (fun _ h9 => h9) rfl dX6_before_62 ?_
          refine lv_iload_n hx hb dX6_before_65 rfl (lv_at hl 2 rfl) ?_
          by_cases q_4 : y3 < 0 ∨ 64 ≤ y3.toNatClampNeg
          · have hf := ip_ q_4 hf; cases hf
          have hf := in_ q_4 hf
          refine vz_lald rfl hx hb hK hP 2 2 rfl rfl (vin q_4) dX6_before_66 ?_
          obtain ⟨r_5, hh_r_5, hf⟩ := obd_some hf
          refine kc_i (w1 := []) (wr := [(a_0, mv a_text a_now a_trial a_diary a_kept a_isKept a_seen a_equations a_wanted c_s_0), (a_now, av_J cy 11 g_now), (a_equations, av_J cy 64 c_g_equations), (a_wanted, av_Z cy 64 c_g_wanted)]) hP hD hS hA [] [0, 1, 2, 3] rfl rfl rfl (by decide) (va_runS (As := [.long (c_g_equations y3.toNatClampNeg)]) (rest := [.long 1, .long y1]) ⟨hx, hb, hml, hown, hts⟩ (c_X6_lowest (l := l) G cy  H.size (c_g_equations y3.toNatClampNeg) n r_5 hh_r_5) (va_cwS 1 hts gX6_before_X6_lowest rfl rfl rfl ddN_X6_lowest ⟨Nat.le_of_ble_eq_true rfl, Nat.le_of_ble_eq_true rfl⟩) (preS_ (hP.sub (ws' := []) [] rfl) hK (hD.sub (ws' := []) [] rfl rfl) hN) rfl rfl hl.1 rfl (lv_room (Nat.le_of_ble_eq_true rfl)) dX6_before_67 ⟨Nat.le_of_ble_eq_true rfl, Nat.le_of_ble_eq_true rfl⟩) (fun H locs hP hD hS => ?_)
          have hP : va_P G vwCl [(a_0, mv a_text a_now a_trial a_diary a_kept a_isKept a_seen a_equations a_wanted c_s_0), (a_now, av_J cy 11 g_now), (a_equations, av_J cy 64 c_g_equations), (a_wanted, av_Z cy 64 c_g_wanted)] H := hP
          have hD : va_D A [(a_0, mv a_text a_now a_trial a_diary a_kept a_isKept a_seen a_equations a_wanted c_s_0), (a_now, av_J cy 11 g_now), (a_equations, av_J cy 64 c_g_equations), (a_wanted, av_Z cy 64 c_g_wanted)] := hD
          refine lv_lshl (v := (jsl 1 r_5)) hx hb dX6_before_70 rfl ?_
          refine lv_goto (tgt := 75) hx hb dX6_before_71 (by decide) ?_
          refine lv_lor hx hb dX6_before_75 ?_
          refine lv_lstore_n (lv' := [(1, .long (y1 ||| (jsl 1 r_5))), (0, .ref a_0), (3, .int y3)]) hx hb dX6_before_76 rfl hl (by decide) rfl (fun ls hl => ?_)
          refine lv_iinc (v := (y3 + 1)) (lv' := [(3, .int (y3 + 1)), (1, .long (y1 ||| (jsl 1 r_5))), (0, .ref a_0)]) hx hb dX6_before_77 hl (k := 2) rfl rfl (by decide) rfl (fun ls hl => ?_)
          refine lv_goto (tgt := 42) hx hb dX6_before_80 (by decide) ?_
          exact ih c_s_0 c_g_equations c_g_wanted (y1 ||| (jsl 1 r_5)) (y3 + 1) _ _ hf hP hD hS ls (lv_sub hl [2, 1, 0] rfl)
  have hl := lv_entry [.ref a_0] (n := 4) (Nat.le_of_ble_eq_true rfl)
  rw [lg_entry_eq]
  generalize (lg_sl [.ref a_0] ++ List.replicate (4 - (lg_sl [.ref a_0]).length) Slot.unset).toArray = ls at hl ⊢
  have hl : lv_has ls 4 [(0, .ref a_0)] := hl
  unfold f_X6_before at hf
  refine lv_aload_n hx hb dX6_before_0 rfl (lv_at hl 0 rfl) ?_
  refine lv_aload_n hx hb dX6_before_1 rfl (lv_at hl 0 rfl) ?_
  refine va_get (D := G) (ci := 6) (v := .ref a_now) (C := RX6) (T := TX6) (N := 15) hx hb hts iw_X6_before_X6 hown hK hP 0 rfl rfl 3 (by decide) (hts (.fieldLink RX6 13 "PaneFrostModel" "now" "[J") (by decide +kernel)) (fun _ h9 => h9) rfl dX6_before_2 ?_
  refine lv_iconst (v := 2) hx hb dX6_before_5 (by decide) ?_
  refine vz_lald tn_2 hx hb hK hP 1 2 rfl rfl vn_2_11 dX6_before_6 ?_
  refine lv_lconst (v := 0) hx hb dX6_before_7 rfl ?_
  refine W.lcmp hx hb dX6_before_8 ?_
  refine lv_if_ne (tgt := 16) hx hb dX6_before_9 (by decide) (fun h_6 => ?_) (fun h_6 => ?_)
  · have hf := in_ (fun q => h_6 (lgc_eq.mpr q)) hf
    refine lv_iconst (v := 0) hx hb dX6_before_16 (by decide) ?_
    obtain ⟨r_7, hh_r_7⟩ : ∃ z, z = f_X6_refused s_0 0 := ⟨_, rfl⟩
    have hf := lt_e hh_r_7 hf
    refine kc_i (w1 := [(a_0, mv a_text a_now a_trial a_diary a_kept a_isKept a_seen a_equations a_wanted r_7.2)]) (wr := [(a_now, av_J cy 11 g_now), (a_equations, av_J cy 64 g_equations), (a_wanted, av_Z cy 64 g_wanted)]) hP hD hS hA [0] [1, 2, 3] rfl rfl rfl (by decide) (va_runV (As := [.int 0]) (rest := []) ⟨hx, hb, hml, hown, hts⟩ (c_X6_refused (l := l) G cy a_0 a_text a_now a_trial a_diary a_kept a_isKept a_seen a_equations a_wanted s.heap.size s_0 0  r_7 hh_r_7.symm) (cwV 1 hts gX6_before_X6_refused rfl rfl rfl ddV_X6_refused ⟨Nat.le_of_ble_eq_true rfl, Nat.le_of_ble_eq_true rfl⟩) (preV_ (ci := 6) (q0 := 0) rfl rfl (hP.sub (ws' := [(a_0, mv a_text a_now a_trial a_diary a_kept a_isKept a_seen a_equations a_wanted s_0)]) [0] rfl) hK (hD.sub (ws' := [(a_0, mv a_text a_now a_trial a_diary a_kept a_isKept a_seen a_equations a_wanted s_0)]) [0] rfl rfl) hN) rfl rfl hl.1 rfl (lv_room (Nat.le_of_ble_eq_true rfl)) dX6_before_17 ⟨Nat.le_of_ble_eq_true rfl, Nat.le_of_ble_eq_true rfl⟩) (fun H locs hP hD hS => ?_)
    have hP : va_P G vwCl [(a_now, av_J cy 11 g_now), (a_equations, av_J cy 64 g_equations), (a_wanted, av_Z cy 64 g_wanted), (a_0, mv a_text a_now a_trial a_diary a_kept a_isKept a_seen a_equations a_wanted r_7.2)] H := hP
    have hD : va_D A [(a_now, av_J cy 11 g_now), (a_equations, av_J cy 64 g_equations), (a_wanted, av_Z cy 64 g_wanted), (a_0, mv a_text a_now a_trial a_diary a_kept a_isKept a_seen a_equations a_wanted r_7.2)] := hD
    refine lv_if_eq (tgt := 25) hx hb dX6_before_20 (by decide) (fun h_8 => ?_) (fun h_8 => ?_)
    · have hf := in_ (bI_0 h_8) hf
      refine lv_aload_n hx hb dX6_before_25 rfl (lv_at hl 0 rfl) ?_
      obtain ⟨r_9, hh_r_9, hf⟩ := obd_some hf
      refine kc_v (w1 := [(a_0, mv a_text a_now a_trial a_diary a_kept a_isKept a_seen a_equations a_wanted r_7.2), (a_now, av_J cy 11 g_now), (a_equations, av_J cy 64 r_9.1), (a_wanted, av_Z cy 64 r_9.2)]) (wr := []) hP hD hS hA [3, 0, 1, 2] [] rfl rfl rfl (by decide) (va_runV (As := []) (rest := []) ⟨hx, hb, hml, hown, hts⟩ (c_X6_layEquations (l := l) G cy a_0 a_text a_now a_trial a_diary a_kept a_isKept a_seen a_equations a_wanted H.size r_7.2 g_now g_equations g_wanted n r_9 hh_r_9) (cwV 0 hts gX6_before_X6_layEquations rfl rfl rfl ddV_X6_layEquations ⟨Nat.le_of_ble_eq_true rfl, Nat.le_of_ble_eq_true rfl⟩) (preV_ (ci := 6) (q0 := 0) rfl rfl (hP.sub (ws' := [(a_0, mv a_text a_now a_trial a_diary a_kept a_isKept a_seen a_equations a_wanted r_7.2), (a_now, av_J cy 11 g_now), (a_equations, av_J cy 64 g_equations), (a_wanted, av_Z cy 64 g_wanted)]) [3, 0, 1, 2] rfl) hK (hD.sub (ws' := [(a_0, mv a_text a_now a_trial a_diary a_kept a_isKept a_seen a_equations a_wanted r_7.2), (a_now, av_J cy 11 g_now), (a_equations, av_J cy 64 g_equations), (a_wanted, av_Z cy 64 g_wanted)]) [3, 0, 1, 2] rfl rfl) hN) rfl rfl hl.1 rfl (lv_room (Nat.le_of_ble_eq_true rfl)) dX6_before_26 ⟨Nat.le_of_ble_eq_true rfl, Nat.le_of_ble_eq_true rfl⟩) (fun H locs hP hD hS => ?_)
      have hP : va_P G vwCl [(a_0, mv a_text a_now a_trial a_diary a_kept a_isKept a_seen a_equations a_wanted r_7.2), (a_now, av_J cy 11 g_now), (a_equations, av_J cy 64 r_9.1), (a_wanted, av_Z cy 64 r_9.2)] H := hP
      have hD : va_D A [(a_0, mv a_text a_now a_trial a_diary a_kept a_isKept a_seen a_equations a_wanted r_7.2), (a_now, av_J cy 11 g_now), (a_equations, av_J cy 64 r_9.1), (a_wanted, av_Z cy 64 r_9.2)] := hD
      refine lv_aload_n hx hb dX6_before_29 rfl (lv_at hl 0 rfl) ?_
      obtain ⟨r_10, hh_r_10, hf⟩ := obd_some hf
      refine kc_i (w1 := [(a_0, mv a_text a_now a_trial a_diary a_kept a_isKept a_seen a_equations a_wanted r_10.2.1), (a_now, av_J cy 11 g_now), (a_equations, av_J cy 64 r_10.2.2.1), (a_wanted, av_Z cy 64 r_10.2.2.2)]) (wr := []) hP hD hS hA [0, 1, 2, 3] [] rfl rfl rfl (by decide) (va_runV (As := []) (rest := []) ⟨hx, hb, hml, hown, hts⟩ (c_X6_solve (l := l) G cy a_0 a_text a_now a_trial a_diary a_kept a_isKept a_seen a_equations a_wanted H.size r_7.2 g_now r_9.1 r_9.2 n r_10 hh_r_10) (cwV 0 hts gX6_before_X6_solve rfl rfl rfl ddV_X6_solve ⟨Nat.le_of_ble_eq_true rfl, Nat.le_of_ble_eq_true rfl⟩) (preV_ (ci := 6) (q0 := 0) rfl rfl hP hK hD hN) rfl rfl hl.1 rfl (lv_room (Nat.le_of_ble_eq_true rfl)) dX6_before_30 ⟨Nat.le_of_ble_eq_true rfl, Nat.le_of_ble_eq_true rfl⟩) (fun H locs hP hD hS => ?_)
      have hP : va_P G vwCl [(a_0, mv a_text a_now a_trial a_diary a_kept a_isKept a_seen a_equations a_wanted r_10.2.1), (a_now, av_J cy 11 g_now), (a_equations, av_J cy 64 r_10.2.2.1), (a_wanted, av_Z cy 64 r_10.2.2.2)] H := hP
      have hD : va_D A [(a_0, mv a_text a_now a_trial a_diary a_kept a_isKept a_seen a_equations a_wanted r_10.2.1), (a_now, av_J cy 11 g_now), (a_equations, av_J cy 64 r_10.2.2.1), (a_wanted, av_Z cy 64 r_10.2.2.2)] := hD
      refine lv_if_ne (tgt := 38) hx hb dX6_before_33 (by decide) (fun h_11 => ?_) (fun h_11 => ?_)
      · have hf := ip_ (bI_n0 h_11) hf
        refine lv_lconst (v := 0) hx hb dX6_before_38 rfl ?_
        refine lv_lstore_n (lv' := [(1, .long 0), (0, .ref a_0)]) hx hb dX6_before_39 rfl hl (by decide) rfl (fun ls hl => ?_)
        refine lv_iconst (v := 0) hx hb dX6_before_40 (by decide) ?_
        refine lv_istore_n (lv' := [(3, .int 0), (1, .long 0), (0, .ref a_0)]) hx hb dX6_before_41 rfl hl (by decide) rfl (fun ls hl => ?_)
        exact bl_42 n r_10.2.1 r_10.2.2.1 r_10.2.2.2 0 0 _ _ hf hP hD hS ls (lv_sub hl [2, 1, 0] rfl)
      · have hf := in_ (bI_0 h_11) hf
        refine lv_lconst (v := 0) hx hb dX6_before_36 rfl ?_
        obtain rfl := Option.some.inj hf
        exact kr_l hx hb hr hlocks rfl hP hK hD hN hS hS.2.2 dX6_before_37
    · have hf := ip_ (bI_n0 h_8) hf
      refine lv_lconst (v := 0) hx hb dX6_before_23 rfl ?_
      obtain rfl := Option.some.inj hf
      exact kr_l hx hb hr hlocks rfl (hP.sub (ws' := [(a_0, mv a_text a_now a_trial a_diary a_kept a_isKept a_seen a_equations a_wanted r_7.2), (a_now, av_J cy 11 g_now), (a_equations, av_J cy 64 g_equations), (a_wanted, av_Z cy 64 g_wanted)]) [3, 0, 1, 2] rfl) hK (hD.sub (ws' := [(a_0, mv a_text a_now a_trial a_diary a_kept a_isKept a_seen a_equations a_wanted r_7.2), (a_now, av_J cy 11 g_now), (a_equations, av_J cy 64 g_equations), (a_wanted, av_Z cy 64 g_wanted)]) [3, 0, 1, 2] rfl rfl) hN hS hS.2.2 dX6_before_24
  · have hf := ip_ (lgc_eq.mp h_6) hf
    refine lv_iconst (v := 1) hx hb dX6_before_12 (by decide) ?_
    refine lv_goto (tgt := 17) hx hb dX6_before_13 (by decide) ?_
    obtain ⟨r_12, hh_r_12⟩ : ∃ z, z = f_X6_refused s_0 1 := ⟨_, rfl⟩
    have hf := lt_e hh_r_12 hf
    refine kc_i (w1 := [(a_0, mv a_text a_now a_trial a_diary a_kept a_isKept a_seen a_equations a_wanted r_12.2)]) (wr := [(a_now, av_J cy 11 g_now), (a_equations, av_J cy 64 g_equations), (a_wanted, av_Z cy 64 g_wanted)]) hP hD hS hA [0] [1, 2, 3] rfl rfl rfl (by decide) (va_runV (As := [.int 1]) (rest := []) ⟨hx, hb, hml, hown, hts⟩ (c_X6_refused (l := l) G cy a_0 a_text a_now a_trial a_diary a_kept a_isKept a_seen a_equations a_wanted s.heap.size s_0 1  r_12 hh_r_12.symm) (cwV 1 hts gX6_before_X6_refused rfl rfl rfl ddV_X6_refused ⟨Nat.le_of_ble_eq_true rfl, Nat.le_of_ble_eq_true rfl⟩) (preV_ (ci := 6) (q0 := 0) rfl rfl (hP.sub (ws' := [(a_0, mv a_text a_now a_trial a_diary a_kept a_isKept a_seen a_equations a_wanted s_0)]) [0] rfl) hK (hD.sub (ws' := [(a_0, mv a_text a_now a_trial a_diary a_kept a_isKept a_seen a_equations a_wanted s_0)]) [0] rfl rfl) hN) rfl rfl hl.1 rfl (lv_room (Nat.le_of_ble_eq_true rfl)) dX6_before_17 ⟨Nat.le_of_ble_eq_true rfl, Nat.le_of_ble_eq_true rfl⟩) (fun H locs hP hD hS => ?_)
    have hP : va_P G vwCl [(a_now, av_J cy 11 g_now), (a_equations, av_J cy 64 g_equations), (a_wanted, av_Z cy 64 g_wanted), (a_0, mv a_text a_now a_trial a_diary a_kept a_isKept a_seen a_equations a_wanted r_12.2)] H := hP
    have hD : va_D A [(a_now, av_J cy 11 g_now), (a_equations, av_J cy 64 g_equations), (a_wanted, av_Z cy 64 g_wanted), (a_0, mv a_text a_now a_trial a_diary a_kept a_isKept a_seen a_equations a_wanted r_12.2)] := hD
    refine lv_if_eq (tgt := 25) hx hb dX6_before_20 (by decide) (fun h_13 => ?_) (fun h_13 => ?_)
    · have hf := in_ (bI_0 h_13) hf
      refine lv_aload_n hx hb dX6_before_25 rfl (lv_at hl 0 rfl) ?_
      obtain ⟨r_14, hh_r_14, hf⟩ := obd_some hf
      refine kc_v (w1 := [(a_0, mv a_text a_now a_trial a_diary a_kept a_isKept a_seen a_equations a_wanted r_12.2), (a_now, av_J cy 11 g_now), (a_equations, av_J cy 64 r_14.1), (a_wanted, av_Z cy 64 r_14.2)]) (wr := []) hP hD hS hA [3, 0, 1, 2] [] rfl rfl rfl (by decide) (va_runV (As := []) (rest := []) ⟨hx, hb, hml, hown, hts⟩ (c_X6_layEquations (l := l) G cy a_0 a_text a_now a_trial a_diary a_kept a_isKept a_seen a_equations a_wanted H.size r_12.2 g_now g_equations g_wanted n r_14 hh_r_14) (cwV 0 hts gX6_before_X6_layEquations rfl rfl rfl ddV_X6_layEquations ⟨Nat.le_of_ble_eq_true rfl, Nat.le_of_ble_eq_true rfl⟩) (preV_ (ci := 6) (q0 := 0) rfl rfl (hP.sub (ws' := [(a_0, mv a_text a_now a_trial a_diary a_kept a_isKept a_seen a_equations a_wanted r_12.2), (a_now, av_J cy 11 g_now), (a_equations, av_J cy 64 g_equations), (a_wanted, av_Z cy 64 g_wanted)]) [3, 0, 1, 2] rfl) hK (hD.sub (ws' := [(a_0, mv a_text a_now a_trial a_diary a_kept a_isKept a_seen a_equations a_wanted r_12.2), (a_now, av_J cy 11 g_now), (a_equations, av_J cy 64 g_equations), (a_wanted, av_Z cy 64 g_wanted)]) [3, 0, 1, 2] rfl rfl) hN) rfl rfl hl.1 rfl (lv_room (Nat.le_of_ble_eq_true rfl)) dX6_before_26 ⟨Nat.le_of_ble_eq_true rfl, Nat.le_of_ble_eq_true rfl⟩) (fun H locs hP hD hS => ?_)
      have hP : va_P G vwCl [(a_0, mv a_text a_now a_trial a_diary a_kept a_isKept a_seen a_equations a_wanted r_12.2), (a_now, av_J cy 11 g_now), (a_equations, av_J cy 64 r_14.1), (a_wanted, av_Z cy 64 r_14.2)] H := hP
      have hD : va_D A [(a_0, mv a_text a_now a_trial a_diary a_kept a_isKept a_seen a_equations a_wanted r_12.2), (a_now, av_J cy 11 g_now), (a_equations, av_J cy 64 r_14.1), (a_wanted, av_Z cy 64 r_14.2)] := hD
      refine lv_aload_n hx hb dX6_before_29 rfl (lv_at hl 0 rfl) ?_
      obtain ⟨r_15, hh_r_15, hf⟩ := obd_some hf
      refine kc_i (w1 := [(a_0, mv a_text a_now a_trial a_diary a_kept a_isKept a_seen a_equations a_wanted r_15.2.1), (a_now, av_J cy 11 g_now), (a_equations, av_J cy 64 r_15.2.2.1), (a_wanted, av_Z cy 64 r_15.2.2.2)]) (wr := []) hP hD hS hA [0, 1, 2, 3] [] rfl rfl rfl (by decide) (va_runV (As := []) (rest := []) ⟨hx, hb, hml, hown, hts⟩ (c_X6_solve (l := l) G cy a_0 a_text a_now a_trial a_diary a_kept a_isKept a_seen a_equations a_wanted H.size r_12.2 g_now r_14.1 r_14.2 n r_15 hh_r_15) (cwV 0 hts gX6_before_X6_solve rfl rfl rfl ddV_X6_solve ⟨Nat.le_of_ble_eq_true rfl, Nat.le_of_ble_eq_true rfl⟩) (preV_ (ci := 6) (q0 := 0) rfl rfl hP hK hD hN) rfl rfl hl.1 rfl (lv_room (Nat.le_of_ble_eq_true rfl)) dX6_before_30 ⟨Nat.le_of_ble_eq_true rfl, Nat.le_of_ble_eq_true rfl⟩) (fun H locs hP hD hS => ?_)
      have hP : va_P G vwCl [(a_0, mv a_text a_now a_trial a_diary a_kept a_isKept a_seen a_equations a_wanted r_15.2.1), (a_now, av_J cy 11 g_now), (a_equations, av_J cy 64 r_15.2.2.1), (a_wanted, av_Z cy 64 r_15.2.2.2)] H := hP
      have hD : va_D A [(a_0, mv a_text a_now a_trial a_diary a_kept a_isKept a_seen a_equations a_wanted r_15.2.1), (a_now, av_J cy 11 g_now), (a_equations, av_J cy 64 r_15.2.2.1), (a_wanted, av_Z cy 64 r_15.2.2.2)] := hD
      refine lv_if_ne (tgt := 38) hx hb dX6_before_33 (by decide) (fun h_16 => ?_) (fun h_16 => ?_)
      · have hf := ip_ (bI_n0 h_16) hf
        refine lv_lconst (v := 0) hx hb dX6_before_38 rfl ?_
        refine lv_lstore_n (lv' := [(1, .long 0), (0, .ref a_0)]) hx hb dX6_before_39 rfl hl (by decide) rfl (fun ls hl => ?_)
        refine lv_iconst (v := 0) hx hb dX6_before_40 (by decide) ?_
        refine lv_istore_n (lv' := [(3, .int 0), (1, .long 0), (0, .ref a_0)]) hx hb dX6_before_41 rfl hl (by decide) rfl (fun ls hl => ?_)
        exact bl_42 n r_15.2.1 r_15.2.2.1 r_15.2.2.2 0 0 _ _ hf hP hD hS ls (lv_sub hl [2, 1, 0] rfl)
      · have hf := in_ (bI_0 h_16) hf
        refine lv_lconst (v := 0) hx hb dX6_before_36 rfl ?_
        obtain rfl := Option.some.inj hf
        exact kr_l hx hb hr hlocks rfl hP hK hD hN hS hS.2.2 dX6_before_37
    · have hf := ip_ (bI_n0 h_13) hf
      refine lv_lconst (v := 0) hx hb dX6_before_23 rfl ?_
      obtain rfl := Option.some.inj hf
      exact kr_l hx hb hr hlocks rfl (hP.sub (ws' := [(a_0, mv a_text a_now a_trial a_diary a_kept a_isKept a_seen a_equations a_wanted r_12.2), (a_now, av_J cy 11 g_now), (a_equations, av_J cy 64 g_equations), (a_wanted, av_Z cy 64 g_wanted)]) [3, 0, 1, 2] rfl) hK (hD.sub (ws' := [(a_0, mv a_text a_now a_trial a_diary a_kept a_isKept a_seen a_equations a_wanted r_12.2), (a_now, av_J cy 11 g_now), (a_equations, av_J cy 64 g_equations), (a_wanted, av_Z cy 64 g_wanted)]) [3, 0, 1, 2] rfl rfl) hN hS hS.2.2 dX6_before_24
set_option maxHeartbeats 4000000 in
set_option maxRecDepth 100000 in
theorem c_X6_freezesIn {l : Launch} (G : va_G) (cy : Nat → ClassId) (a_0 : Nat) (a_text : Nat) (a_now : Nat) (a_trial : Nat) (a_diary : Nat) (a_kept : Nat) (a_isKept : Nat) (a_seen : Nat) (a_equations : Nat) (a_wanted : Nat) (sz : Nat) (s_0 : MT) (g_now : Nat → Int64) (g_trial : Nat → Int64) (x1 : Int32) (n : Nat) (R : Int32 × MT × (Nat → Int64)) (hf : f_X6_freezesIn n s_0 g_now g_trial x1 = some R) : Met l yX6_freezesIn wsX6_freezesIn ({ frames := 7, cells := 0, slots := 0, locals := 166 } : Room) (va_Pc [.ref a_0, .int x1] (pcW G cy [(a_0, mv a_text a_now a_trial a_diary a_kept a_isKept a_seen a_equations a_wanted s_0), (a_now, av_J cy 11 g_now), (a_trial, av_J cy 11 g_trial)] sz)) (va_Qi (fun r (_ : Unit) => r = R.1) (fun _ t => Wd G cy (va_A [(a_0, mv a_text a_now a_trial a_diary a_kept a_isKept a_seen a_equations a_wanted s_0), (a_now, av_J cy 11 g_now), (a_trial, av_J cy 11 g_trial)] sz) [(a_0, mv a_text a_now a_trial a_diary a_kept a_isKept a_seen a_equations a_wanted R.2.1), (a_now, av_J cy 11 g_now), (a_trial, av_J cy 11 R.2.2)] t) (va_A [(a_0, mv a_text a_now a_trial a_diary a_kept a_isKept a_seen a_equations a_wanted s_0), (a_now, av_J cy 11 g_now), (a_trial, av_J cy 11 g_trial)] sz)) 0 0 (va_A [(a_0, mv a_text a_now a_trial a_diary a_kept a_isKept a_seen a_equations a_wanted s_0), (a_now, av_J cy 11 g_now), (a_trial, av_J cy 11 g_trial)] sz) := by
  refine Met.ofW (cc := cX6_freezesIn) (maxL := 3) (ret := (some .int)) (by decide) rfl ?_
  intro p e s m args below meth c s₁ B hml hv
  obtain ⟨rfl, hsz, hP, hK, hD0, hN⟩ := hv
  have hx := B.exec
  have hb := B.bytes
  have hr := B.returns
  have hts := atoms_spec (ws := wsX6_freezesIn) B.pre
  have hown : s.vm.findClass RX6 = some m.cls := findClass_of_methodNamed B.named
  have hlocks := B.notSynchronized
  subst hsz
  have hD := hD0.self (sz := s.heap.size)
  generalize hAe : va_A [(a_0, mv a_text a_now a_trial a_diary a_kept a_isKept a_seen a_equations a_wanted s_0), (a_now, av_J cy 11 g_now), (a_trial, av_J cy 11 g_trial)] s.heap.size = A at hD ⊢
  have hA : ∀ q : Nat, s.heap.size ≤ q → A q := fun q h => by rw [← hAe]; exact Or.inr h
  have hS : va_S A s.heap s.heap [] := va_S.rf
  have hP : va_P G vwCl [(a_0, mv a_text a_now a_trial a_diary a_kept a_isKept a_seen a_equations a_wanted s_0), (a_now, av_J cy 11 g_now), (a_trial, av_J cy 11 g_trial)] s.heap := hP
  have bl_40 : ∀ (y1 : Int32), ∀ (k : Nat), ∀ (c_s_0 : MT) (c_g_trial : Nat → Int64) (y2 : Int32) (H : Heap) (locs : List Loc), f_X6_freezesIn_b40 n g_now y1 k c_s_0 c_g_trial y2 = some R → va_P G vwCl [(a_0, mv a_text a_now a_trial a_diary a_kept a_isKept a_seen a_equations a_wanted c_s_0), (a_now, av_J cy 11 g_now), (a_trial, av_J cy 11 c_g_trial)] H → va_D A [(a_0, mv a_text a_now a_trial a_diary a_kept a_isKept a_seen a_equations a_wanted c_s_0), (a_now, av_J cy 11 g_now), (a_trial, av_J cy 11 c_g_trial)] → va_S A s.heap H locs → ∀ (ls : Array Slot), lv_has ls 3 [(0, .ref a_0), (1, .int y1), (2, .int y2)] → W p l e ({ frames := 7, cells := 0, slots := 0, locals := 166 } : Room) s m [.ref a_0, .int x1].toArray below meth c H locs 0 0 (MQ below (va_Qi (fun r (_ : Unit) => r = R.1) (fun _ t => Wd G cy A [(a_0, mv a_text a_now a_trial a_diary a_kept a_isKept a_seen a_equations a_wanted R.2.1), (a_now, av_J cy 11 g_now), (a_trial, av_J cy 11 R.2.2)] t) A) [.ref a_0, .int x1].toArray s 0 0 A) (F0 m 40 ls []) := by
    intro y1
    intro k
    induction k with
    | zero =>
      intro c_s_0 c_g_trial y2 H locs hf; cases hf
    | succ k ih =>
      intro c_s_0 c_g_trial y2 H locs hf hP hD hS ls hl
      have hf := (f_X6_freezesIn_b40_s n g_now y1 k c_s_0 c_g_trial y2).symm.trans hf
      refine lv_iload_n hx hb dX6_freezesIn_40 rfl (lv_at hl 2 rfl) ?_
      refine lv_bipush (v := 100) hx hb dX6_freezesIn_41 (by decide) ?_
      refine lv_icmp_gt (tgt := 75) hx hb dX6_freezesIn_43 (by decide) (fun h_1 => ?_) (fun h_1 => ?_)
      · have hf := ip_ h_1 hf
        refine lv_iconst (v := (-1)) hx hb dX6_freezesIn_75 (by decide) ?_
        obtain rfl := Option.some.inj hf
        exact kr_i hx hb hr hlocks rfl hP hK hD hN hS hS.2.2 dX6_freezesIn_76
      · have hf := in_ h_1 hf
        refine lv_aload_n hx hb dX6_freezesIn_46 rfl (lv_at hl 0 rfl) ?_
        refine va_get (D := G) (ci := 6) (v := .ref a_trial) (C := RX6) (T := TX6) (N := 15) hx hb hts iw_X6_freezesIn_X6 hown hK hP 0 rfl rfl 4 (by decide) (hts (.fieldLink RX6 17 "PaneFrostModel" "trial" "[J") (by decide +kernel)) (fun _ h9 => h9) rfl dX6_freezesIn_47 ?_
        refine lv_bipush (v := 8) hx hb dX6_freezesIn_50 (by decide) ?_
        refine vz_lald tn_8 hx hb hK hP 2 2 rfl rfl vn_8_11 dX6_freezesIn_52 ?_
        refine lv_iload_n hx hb dX6_freezesIn_53 rfl (lv_at hl 1 rfl) ?_
        refine kc_i (w1 := []) (wr := [(a_0, mv a_text a_now a_trial a_diary a_kept a_isKept a_seen a_equations a_wanted c_s_0), (a_now, av_J cy 11 g_now), (a_trial, av_J cy 11 c_g_trial)]) hP hD hS hA [] [0, 1, 2] rfl rfl rfl (by decide) (va_runS (As := [.long (c_g_trial 8), .int y1]) (rest := []) ⟨hx, hb, hml, hown, hts⟩ (c_X6_has (l := l) G cy  H.size (c_g_trial 8) y1  (f_X6_has (c_g_trial 8) y1) rfl) (va_cwS 2 hts gX6_freezesIn_X6_has rfl rfl rfl ddN_X6_has ⟨Nat.le_of_ble_eq_true rfl, Nat.le_of_ble_eq_true rfl⟩) (preS_ (hP.sub (ws' := []) [] rfl) hK (hD.sub (ws' := []) [] rfl rfl) hN) rfl rfl hl.1 rfl (lv_room (Nat.le_of_ble_eq_true rfl)) dX6_freezesIn_54 ⟨Nat.le_of_ble_eq_true rfl, Nat.le_of_ble_eq_true rfl⟩) (fun H locs hP hD hS => ?_)
        have hP : va_P G vwCl [(a_0, mv a_text a_now a_trial a_diary a_kept a_isKept a_seen a_equations a_wanted c_s_0), (a_now, av_J cy 11 g_now), (a_trial, av_J cy 11 c_g_trial)] H := hP
        have hD : va_D A [(a_0, mv a_text a_now a_trial a_diary a_kept a_isKept a_seen a_equations a_wanted c_s_0), (a_now, av_J cy 11 g_now), (a_trial, av_J cy 11 c_g_trial)] := hD
        refine lv_if_eq (tgt := 62) hx hb dX6_freezesIn_57 (by decide) (fun h_2 => ?_) (fun h_2 => ?_)
        · have hf := in_ (bI_0 h_2) hf
          refine lv_aload_n hx hb dX6_freezesIn_62 rfl (lv_at hl 0 rfl) ?_
          refine va_get (D := G) (ci := 6) (v := .ref a_trial) (C := RX6) (T := TX6) (N := 15) hx hb hts iw_X6_freezesIn_X6 hown hK hP 0 rfl rfl 4 (by decide) (hts (.fieldLink RX6 17 "PaneFrostModel" "trial" "[J") (by decide +kernel)) (fun _ h9 => h9) rfl dX6_freezesIn_63 ?_
          obtain ⟨r_3, hh_r_3, hf⟩ := obd_some hf
          refine kc_v (w1 := [(a_trial, av_J cy 11 r_3)]) (wr := [(a_0, mv a_text a_now a_trial a_diary a_kept a_isKept a_seen a_equations a_wanted c_s_0), (a_now, av_J cy 11 g_now)]) hP hD hS hA [2] [0, 1] rfl rfl rfl (by decide) (va_runS (As := [.ref a_trial]) (rest := []) ⟨hx, hb, hml, hown, hts⟩ (c_X6_nightOn (l := l) G cy a_trial H.size c_g_trial n r_3 hh_r_3) (va_cwS 1 hts gX6_freezesIn_X6_nightOn rfl rfl rfl ddN_X6_nightOn ⟨Nat.le_of_ble_eq_true rfl, Nat.le_of_ble_eq_true rfl⟩) (preS_ (hP.sub (ws' := [(a_trial, av_J cy 11 c_g_trial)]) [2] rfl) hK (hD.sub (ws' := [(a_trial, av_J cy 11 c_g_trial)]) [2] rfl rfl) hN) rfl rfl hl.1 rfl (lv_room (Nat.le_of_ble_eq_true rfl)) dX6_freezesIn_66 ⟨Nat.le_of_ble_eq_true rfl, Nat.le_of_ble_eq_true rfl⟩) (fun H locs hP hD hS => ?_)
          have hP : va_P G vwCl [(a_0, mv a_text a_now a_trial a_diary a_kept a_isKept a_seen a_equations a_wanted c_s_0), (a_now, av_J cy 11 g_now), (a_trial, av_J cy 11 r_3)] H := hP
          have hD : va_D A [(a_0, mv a_text a_now a_trial a_diary a_kept a_isKept a_seen a_equations a_wanted c_s_0), (a_now, av_J cy 11 g_now), (a_trial, av_J cy 11 r_3)] := hD
          refine lv_iinc (v := (y2 + 1)) (lv' := [(2, .int (y2 + 1)), (0, .ref a_0), (1, .int y1)]) hx hb dX6_freezesIn_69 hl (k := 2) rfl rfl (by decide) rfl (fun ls hl => ?_)
          refine lv_goto (tgt := 40) hx hb dX6_freezesIn_72 (by decide) ?_
          exact ih c_s_0 r_3 (y2 + 1) _ _ hf hP hD hS ls (lv_sub hl [1, 2, 0] rfl)
        · have hf := ip_ (bI_n0 h_2) hf
          refine lv_iload_n hx hb dX6_freezesIn_60 rfl (lv_at hl 2 rfl) ?_
          obtain rfl := Option.some.inj hf
          exact kr_i hx hb hr hlocks rfl hP hK hD hN hS hS.2.2 dX6_freezesIn_61
  have hl := lv_entry [.ref a_0, .int x1] (n := 3) (Nat.le_of_ble_eq_true rfl)
  rw [lg_entry_eq]
  generalize (lg_sl [.ref a_0, .int x1] ++ List.replicate (3 - (lg_sl [.ref a_0, .int x1]).length) Slot.unset).toArray = ls at hl ⊢
  have hl : lv_has ls 3 [(0, .ref a_0), (1, .int x1)] := hl
  unfold f_X6_freezesIn at hf
  refine lv_aload_n hx hb dX6_freezesIn_0 rfl (lv_at hl 0 rfl) ?_
  refine lv_aload_n hx hb dX6_freezesIn_1 rfl (lv_at hl 0 rfl) ?_
  refine va_get (D := G) (ci := 6) (v := .ref a_now) (C := RX6) (T := TX6) (N := 15) hx hb hts iw_X6_freezesIn_X6 hown hK hP 0 rfl rfl 3 (by decide) (hts (.fieldLink RX6 13 "PaneFrostModel" "now" "[J") (by decide +kernel)) (fun _ h9 => h9) rfl dX6_freezesIn_2 ?_
  refine lv_iload_n hx hb dX6_freezesIn_5 rfl (lv_at hl 1 rfl) ?_
  refine kc_i (w1 := [(a_now, av_J cy 11 g_now)]) (wr := [(a_0, mv a_text a_now a_trial a_diary a_kept a_isKept a_seen a_equations a_wanted s_0), (a_trial, av_J cy 11 g_trial)]) hP hD hS hA [1] [0, 2] rfl rfl rfl (by decide) (va_runS (As := [.ref a_now, .int x1]) (rest := [.ref a_0]) ⟨hx, hb, hml, hown, hts⟩ (c_X6_isCell (l := l) G cy a_now s.heap.size g_now x1  (f_X6_isCell g_now x1) rfl) (va_cwS 2 hts gX6_freezesIn_X6_isCell rfl rfl rfl ddN_X6_isCell ⟨Nat.le_of_ble_eq_true rfl, Nat.le_of_ble_eq_true rfl⟩) (preS_ (hP.sub (ws' := [(a_now, av_J cy 11 g_now)]) [1] rfl) hK (hD.sub (ws' := [(a_now, av_J cy 11 g_now)]) [1] rfl rfl) hN) rfl rfl hl.1 rfl (lv_room (Nat.le_of_ble_eq_true rfl)) dX6_freezesIn_6 ⟨Nat.le_of_ble_eq_true rfl, Nat.le_of_ble_eq_true rfl⟩) (fun H locs hP hD hS => ?_)
  have hP : va_P G vwCl [(a_0, mv a_text a_now a_trial a_diary a_kept a_isKept a_seen a_equations a_wanted s_0), (a_trial, av_J cy 11 g_trial), (a_now, av_J cy 11 g_now)] H := hP
  have hD : va_D A [(a_0, mv a_text a_now a_trial a_diary a_kept a_isKept a_seen a_equations a_wanted s_0), (a_trial, av_J cy 11 g_trial), (a_now, av_J cy 11 g_now)] := hD
  refine lv_if_eq (tgt := 16) hx hb dX6_freezesIn_9 (by decide) (fun h_4 => ?_) (fun h_4 => ?_)
  · have hf := in_ (bI_0 h_4) hf
    refine lv_iconst (v := 1) hx hb dX6_freezesIn_16 (by decide) ?_
    obtain ⟨r_5, hh_r_5⟩ : ∃ z, z = f_X6_refused s_0 1 := ⟨_, rfl⟩
    have hf := lt_e hh_r_5 hf
    refine kc_i (w1 := [(a_0, mv a_text a_now a_trial a_diary a_kept a_isKept a_seen a_equations a_wanted r_5.2)]) (wr := [(a_trial, av_J cy 11 g_trial), (a_now, av_J cy 11 g_now)]) hP hD hS hA [0] [1, 2] rfl rfl rfl (by decide) (va_runV (As := [.int 1]) (rest := []) ⟨hx, hb, hml, hown, hts⟩ (c_X6_refused (l := l) G cy a_0 a_text a_now a_trial a_diary a_kept a_isKept a_seen a_equations a_wanted H.size s_0 1  r_5 hh_r_5.symm) (cwV 1 hts gX6_freezesIn_X6_refused rfl rfl rfl ddV_X6_refused ⟨Nat.le_of_ble_eq_true rfl, Nat.le_of_ble_eq_true rfl⟩) (preV_ (ci := 6) (q0 := 0) rfl rfl (hP.sub (ws' := [(a_0, mv a_text a_now a_trial a_diary a_kept a_isKept a_seen a_equations a_wanted s_0)]) [0] rfl) hK (hD.sub (ws' := [(a_0, mv a_text a_now a_trial a_diary a_kept a_isKept a_seen a_equations a_wanted s_0)]) [0] rfl rfl) hN) rfl rfl hl.1 rfl (lv_room (Nat.le_of_ble_eq_true rfl)) dX6_freezesIn_17 ⟨Nat.le_of_ble_eq_true rfl, Nat.le_of_ble_eq_true rfl⟩) (fun H locs hP hD hS => ?_)
    have hP : va_P G vwCl [(a_trial, av_J cy 11 g_trial), (a_now, av_J cy 11 g_now), (a_0, mv a_text a_now a_trial a_diary a_kept a_isKept a_seen a_equations a_wanted r_5.2)] H := hP
    have hD : va_D A [(a_trial, av_J cy 11 g_trial), (a_now, av_J cy 11 g_now), (a_0, mv a_text a_now a_trial a_diary a_kept a_isKept a_seen a_equations a_wanted r_5.2)] := hD
    refine lv_if_eq (tgt := 25) hx hb dX6_freezesIn_20 (by decide) (fun h_6 => ?_) (fun h_6 => ?_)
    · have hf := in_ (bI_0 h_6) hf
      refine lv_aload_n hx hb dX6_freezesIn_25 rfl (lv_at hl 0 rfl) ?_
      refine va_get (D := G) (ci := 6) (v := .ref a_now) (C := RX6) (T := TX6) (N := 15) hx hb hts iw_X6_freezesIn_X6 hown hK hP 2 rfl rfl 3 (by decide) (hts (.fieldLink RX6 13 "PaneFrostModel" "now" "[J") (by decide +kernel)) (fun _ h9 => h9) rfl dX6_freezesIn_26 ?_
      refine lv_iconst (v := 0) hx hb dX6_freezesIn_29 (by decide) ?_
      refine lv_aload_n hx hb dX6_freezesIn_30 rfl (lv_at hl 0 rfl) ?_
      refine va_get (D := G) (ci := 6) (v := .ref a_trial) (C := RX6) (T := TX6) (N := 15) hx hb hts iw_X6_freezesIn_X6 hown hK hP 2 rfl rfl 4 (by decide) (hts (.fieldLink RX6 17 "PaneFrostModel" "trial" "[J") (by decide +kernel)) (fun _ h9 => h9) rfl dX6_freezesIn_31 ?_
      refine lv_iconst (v := 0) hx hb dX6_freezesIn_34 (by decide) ?_
      obtain ⟨r_7, hh_r_7, hf⟩ := obd_some hf
      refine kc_v (w1 := [(a_now, av_J cy 11 g_now), (a_trial, av_J cy 11 r_7)]) (wr := [(a_0, mv a_text a_now a_trial a_diary a_kept a_isKept a_seen a_equations a_wanted r_5.2)]) hP hD hS hA [1, 0] [2] rfl rfl rfl (by decide) (va_runS (As := [.ref a_now, .int 0, .ref a_trial, .int 0]) (rest := []) ⟨hx, hb, hml, hown, hts⟩ (c_X6_copyState (l := l) G cy a_now a_trial H.size g_now g_trial 11 11 0 0 n r_7 hh_r_7) (va_cwS 4 hts gX6_freezesIn_X6_copyState rfl rfl rfl ddN_X6_copyState ⟨Nat.le_of_ble_eq_true rfl, Nat.le_of_ble_eq_true rfl⟩) (preS_ (hP.sub (ws' := [(a_now, av_J cy 11 g_now), (a_trial, av_J cy 11 g_trial)]) [1, 0] rfl) hK (hD.sub (ws' := [(a_now, av_J cy 11 g_now), (a_trial, av_J cy 11 g_trial)]) [1, 0] rfl rfl) hN) rfl rfl hl.1 rfl (lv_room (Nat.le_of_ble_eq_true rfl)) dX6_freezesIn_35 ⟨Nat.le_of_ble_eq_true rfl, Nat.le_of_ble_eq_true rfl⟩) (fun H locs hP hD hS => ?_)
      have hP : va_P G vwCl [(a_0, mv a_text a_now a_trial a_diary a_kept a_isKept a_seen a_equations a_wanted r_5.2), (a_now, av_J cy 11 g_now), (a_trial, av_J cy 11 r_7)] H := hP
      have hD : va_D A [(a_0, mv a_text a_now a_trial a_diary a_kept a_isKept a_seen a_equations a_wanted r_5.2), (a_now, av_J cy 11 g_now), (a_trial, av_J cy 11 r_7)] := hD
      refine lv_iconst (v := 0) hx hb dX6_freezesIn_38 (by decide) ?_
      refine lv_istore_n (lv' := [(2, .int 0), (0, .ref a_0), (1, .int x1)]) hx hb dX6_freezesIn_39 rfl hl (by decide) rfl (fun ls hl => ?_)
      exact bl_40 x1 n r_5.2 r_7 0 _ _ hf hP hD hS ls (lv_sub hl [1, 2, 0] rfl)
    · have hf := ip_ (bI_n0 h_6) hf
      refine lv_iconst (v := 0) hx hb dX6_freezesIn_23 (by decide) ?_
      obtain rfl := Option.some.inj hf
      exact kr_i hx hb hr hlocks rfl (hP.sub (ws' := [(a_0, mv a_text a_now a_trial a_diary a_kept a_isKept a_seen a_equations a_wanted r_5.2), (a_now, av_J cy 11 g_now), (a_trial, av_J cy 11 g_trial)]) [2, 1, 0] rfl) hK (hD.sub (ws' := [(a_0, mv a_text a_now a_trial a_diary a_kept a_isKept a_seen a_equations a_wanted r_5.2), (a_now, av_J cy 11 g_now), (a_trial, av_J cy 11 g_trial)]) [2, 1, 0] rfl rfl) hN hS hS.2.2 dX6_freezesIn_24
  · have hf := ip_ (bI_n0 h_4) hf
    refine lv_iconst (v := 0) hx hb dX6_freezesIn_12 (by decide) ?_
    refine lv_goto (tgt := 17) hx hb dX6_freezesIn_13 (by decide) ?_
    obtain ⟨r_8, hh_r_8⟩ : ∃ z, z = f_X6_refused s_0 0 := ⟨_, rfl⟩
    have hf := lt_e hh_r_8 hf
    refine kc_i (w1 := [(a_0, mv a_text a_now a_trial a_diary a_kept a_isKept a_seen a_equations a_wanted r_8.2)]) (wr := [(a_trial, av_J cy 11 g_trial), (a_now, av_J cy 11 g_now)]) hP hD hS hA [0] [1, 2] rfl rfl rfl (by decide) (va_runV (As := [.int 0]) (rest := []) ⟨hx, hb, hml, hown, hts⟩ (c_X6_refused (l := l) G cy a_0 a_text a_now a_trial a_diary a_kept a_isKept a_seen a_equations a_wanted H.size s_0 0  r_8 hh_r_8.symm) (cwV 1 hts gX6_freezesIn_X6_refused rfl rfl rfl ddV_X6_refused ⟨Nat.le_of_ble_eq_true rfl, Nat.le_of_ble_eq_true rfl⟩) (preV_ (ci := 6) (q0 := 0) rfl rfl (hP.sub (ws' := [(a_0, mv a_text a_now a_trial a_diary a_kept a_isKept a_seen a_equations a_wanted s_0)]) [0] rfl) hK (hD.sub (ws' := [(a_0, mv a_text a_now a_trial a_diary a_kept a_isKept a_seen a_equations a_wanted s_0)]) [0] rfl rfl) hN) rfl rfl hl.1 rfl (lv_room (Nat.le_of_ble_eq_true rfl)) dX6_freezesIn_17 ⟨Nat.le_of_ble_eq_true rfl, Nat.le_of_ble_eq_true rfl⟩) (fun H locs hP hD hS => ?_)
    have hP : va_P G vwCl [(a_trial, av_J cy 11 g_trial), (a_now, av_J cy 11 g_now), (a_0, mv a_text a_now a_trial a_diary a_kept a_isKept a_seen a_equations a_wanted r_8.2)] H := hP
    have hD : va_D A [(a_trial, av_J cy 11 g_trial), (a_now, av_J cy 11 g_now), (a_0, mv a_text a_now a_trial a_diary a_kept a_isKept a_seen a_equations a_wanted r_8.2)] := hD
    refine lv_if_eq (tgt := 25) hx hb dX6_freezesIn_20 (by decide) (fun h_9 => ?_) (fun h_9 => ?_)
    · have hf := in_ (bI_0 h_9) hf
      refine lv_aload_n hx hb dX6_freezesIn_25 rfl (lv_at hl 0 rfl) ?_
      refine va_get (D := G) (ci := 6) (v := .ref a_now) (C := RX6) (T := TX6) (N := 15) hx hb hts iw_X6_freezesIn_X6 hown hK hP 2 rfl rfl 3 (by decide) (hts (.fieldLink RX6 13 "PaneFrostModel" "now" "[J") (by decide +kernel)) (fun _ h9 => h9) rfl dX6_freezesIn_26 ?_
      refine lv_iconst (v := 0) hx hb dX6_freezesIn_29 (by decide) ?_
      refine lv_aload_n hx hb dX6_freezesIn_30 rfl (lv_at hl 0 rfl) ?_
      refine va_get (D := G) (ci := 6) (v := .ref a_trial) (C := RX6) (T := TX6) (N := 15) hx hb hts iw_X6_freezesIn_X6 hown hK hP 2 rfl rfl 4 (by decide) (hts (.fieldLink RX6 17 "PaneFrostModel" "trial" "[J") (by decide +kernel)) (fun _ h9 => h9) rfl dX6_freezesIn_31 ?_
      refine lv_iconst (v := 0) hx hb dX6_freezesIn_34 (by decide) ?_
      obtain ⟨r_10, hh_r_10, hf⟩ := obd_some hf
      refine kc_v (w1 := [(a_now, av_J cy 11 g_now), (a_trial, av_J cy 11 r_10)]) (wr := [(a_0, mv a_text a_now a_trial a_diary a_kept a_isKept a_seen a_equations a_wanted r_8.2)]) hP hD hS hA [1, 0] [2] rfl rfl rfl (by decide) (va_runS (As := [.ref a_now, .int 0, .ref a_trial, .int 0]) (rest := []) ⟨hx, hb, hml, hown, hts⟩ (c_X6_copyState (l := l) G cy a_now a_trial H.size g_now g_trial 11 11 0 0 n r_10 hh_r_10) (va_cwS 4 hts gX6_freezesIn_X6_copyState rfl rfl rfl ddN_X6_copyState ⟨Nat.le_of_ble_eq_true rfl, Nat.le_of_ble_eq_true rfl⟩) (preS_ (hP.sub (ws' := [(a_now, av_J cy 11 g_now), (a_trial, av_J cy 11 g_trial)]) [1, 0] rfl) hK (hD.sub (ws' := [(a_now, av_J cy 11 g_now), (a_trial, av_J cy 11 g_trial)]) [1, 0] rfl rfl) hN) rfl rfl hl.1 rfl (lv_room (Nat.le_of_ble_eq_true rfl)) dX6_freezesIn_35 ⟨Nat.le_of_ble_eq_true rfl, Nat.le_of_ble_eq_true rfl⟩) (fun H locs hP hD hS => ?_)
      have hP : va_P G vwCl [(a_0, mv a_text a_now a_trial a_diary a_kept a_isKept a_seen a_equations a_wanted r_8.2), (a_now, av_J cy 11 g_now), (a_trial, av_J cy 11 r_10)] H := hP
      have hD : va_D A [(a_0, mv a_text a_now a_trial a_diary a_kept a_isKept a_seen a_equations a_wanted r_8.2), (a_now, av_J cy 11 g_now), (a_trial, av_J cy 11 r_10)] := hD
      refine lv_iconst (v := 0) hx hb dX6_freezesIn_38 (by decide) ?_
      refine lv_istore_n (lv' := [(2, .int 0), (0, .ref a_0), (1, .int x1)]) hx hb dX6_freezesIn_39 rfl hl (by decide) rfl (fun ls hl => ?_)
      exact bl_40 x1 n r_8.2 r_10 0 _ _ hf hP hD hS ls (lv_sub hl [1, 2, 0] rfl)
    · have hf := ip_ (bI_n0 h_9) hf
      refine lv_iconst (v := 0) hx hb dX6_freezesIn_23 (by decide) ?_
      obtain rfl := Option.some.inj hf
      exact kr_i hx hb hr hlocks rfl (hP.sub (ws' := [(a_0, mv a_text a_now a_trial a_diary a_kept a_isKept a_seen a_equations a_wanted r_8.2), (a_now, av_J cy 11 g_now), (a_trial, av_J cy 11 g_trial)]) [2, 1, 0] rfl) hK (hD.sub (ws' := [(a_0, mv a_text a_now a_trial a_diary a_kept a_isKept a_seen a_equations a_wanted r_8.2), (a_now, av_J cy 11 g_now), (a_trial, av_J cy 11 g_trial)]) [2, 1, 0] rfl rfl) hN hS hS.2.2 dX6_freezesIn_24
set_option maxHeartbeats 4000000 in
set_option maxRecDepth 100000 in
theorem c_X6_staysClear {l : Launch} (G : va_G) (cy : Nat → ClassId) (a_r0 : Nat) (sz : Nat) (g_r0 : Nat → Int64) (x1 : Int32) (x2 : Int32) (n : Nat) (R : Bool × (Nat → Int64)) (hf : f_X6_staysClear n g_r0 x1 x2 = some R) : Met l yX6_staysClear wsX6_staysClear ({ frames := 7, cells := 0, slots := 0, locals := 166 } : Room) (va_Pc [.ref a_r0, .int x1, .int x2] (pcW G cy [(a_r0, av_J cy 11 g_r0)] sz)) (va_Qi (fun r (_ : Unit) => r = bI R.1) (fun _ t => Wd G cy (va_A [(a_r0, av_J cy 11 g_r0)] sz) [(a_r0, av_J cy 11 R.2)] t) (va_A [(a_r0, av_J cy 11 g_r0)] sz)) 0 0 (va_A [(a_r0, av_J cy 11 g_r0)] sz) := by
  refine Met.ofW (cc := cX6_staysClear) (maxL := 4) (ret := (some .boolean)) (by decide) rfl ?_
  intro p e s m args below meth c s₁ B hml hv
  obtain ⟨rfl, hsz, hP, hK, hD0, hN⟩ := hv
  have hx := B.exec
  have hb := B.bytes
  have hr := B.returns
  have hts := atoms_spec (ws := wsX6_staysClear) B.pre
  have hown : s.vm.findClass RX6 = some m.cls := findClass_of_methodNamed B.named
  have hlocks := B.notSynchronized
  subst hsz
  have hD := hD0.self (sz := s.heap.size)
  generalize hAe : va_A [(a_r0, av_J cy 11 g_r0)] s.heap.size = A at hD ⊢
  have hA : ∀ q : Nat, s.heap.size ≤ q → A q := fun q h => by rw [← hAe]; exact Or.inr h
  have hS : va_S A s.heap s.heap [] := va_S.rf
  have hP : va_P G vwCl [(a_r0, av_J cy 11 g_r0)] s.heap := hP
  have bl_2 : ∀ (y1 : Int32), ∀ (y2 : Int32), ∀ (k : Nat), ∀ (c_g_r0 : Nat → Int64) (y3 : Int32) (H : Heap) (locs : List Loc), f_X6_staysClear_b2 n y1 y2 k c_g_r0 y3 = some R → va_P G vwCl [(a_r0, av_J cy 11 c_g_r0)] H → va_D A [(a_r0, av_J cy 11 c_g_r0)] → va_S A s.heap H locs → ∀ (ls : Array Slot), lv_has ls 4 [(0, .ref a_r0), (1, .int y1), (2, .int y2), (3, .int y3)] → W p l e ({ frames := 7, cells := 0, slots := 0, locals := 166 } : Room) s m [.ref a_r0, .int x1, .int x2].toArray below meth c H locs 0 0 (MQ below (va_Qi (fun r (_ : Unit) => r = bI R.1) (fun _ t => Wd G cy A [(a_r0, av_J cy 11 R.2)] t) A) [.ref a_r0, .int x1, .int x2].toArray s 0 0 A) (F0 m 2 ls []) := by
    intro y1
    intro y2
    intro k
    induction k with
    | zero =>
      intro c_g_r0 y3 H locs hf; cases hf
    | succ k ih =>
      intro c_g_r0 y3 H locs hf hP hD hS ls hl
      have hf := (f_X6_staysClear_b2_s n y1 y2 k c_g_r0 y3).symm.trans hf
      refine lv_iload_n hx hb dX6_staysClear_2 rfl (lv_at hl 3 rfl) ?_
      refine lv_iload_n hx hb dX6_staysClear_3 rfl (lv_at hl 2 rfl) ?_
      refine lv_icmp_ge (tgt := 30) hx hb dX6_staysClear_4 (by decide) (fun h_1 => ?_) (fun h_1 => ?_)
      · have hf := ip_ h_1 hf
        refine lv_iconst (v := 1) hx hb dX6_staysClear_30 (by decide) ?_
        obtain rfl := Option.some.inj hf
        exact kr_z (V := bI true) hx hb hr hlocks (bI_nar _) rfl hP hK hD hN hS hS.2.2 dX6_staysClear_31
      · have hf := in_ h_1 hf
        refine lv_aload_n hx hb dX6_staysClear_7 rfl (lv_at hl 0 rfl) ?_
        obtain ⟨r_2, hh_r_2, hf⟩ := obd_some hf
        refine kc_v (w1 := [(a_r0, av_J cy 11 r_2)]) (wr := []) hP hD hS hA [0] [] rfl rfl rfl (by decide) (va_runS (As := [.ref a_r0]) (rest := []) ⟨hx, hb, hml, hown, hts⟩ (c_X6_nightOn (l := l) G cy a_r0 H.size c_g_r0 n r_2 hh_r_2) (va_cwS 1 hts gX6_staysClear_X6_nightOn rfl rfl rfl ddN_X6_nightOn ⟨Nat.le_of_ble_eq_true rfl, Nat.le_of_ble_eq_true rfl⟩) (preS_ hP hK hD hN) rfl rfl hl.1 rfl (lv_room (Nat.le_of_ble_eq_true rfl)) dX6_staysClear_8 ⟨Nat.le_of_ble_eq_true rfl, Nat.le_of_ble_eq_true rfl⟩) (fun H locs hP hD hS => ?_)
        have hP : va_P G vwCl [(a_r0, av_J cy 11 r_2)] H := hP
        have hD : va_D A [(a_r0, av_J cy 11 r_2)] := hD
        refine lv_aload_n hx hb dX6_staysClear_11 rfl (lv_at hl 0 rfl) ?_
        refine lv_bipush (v := 8) hx hb dX6_staysClear_12 (by decide) ?_
        refine vz_lald tn_8 hx hb hK hP 0 2 rfl rfl vn_8_11 dX6_staysClear_14 ?_
        refine lv_iload_n hx hb dX6_staysClear_15 rfl (lv_at hl 1 rfl) ?_
        refine kc_i (w1 := []) (wr := [(a_r0, av_J cy 11 r_2)]) hP hD hS hA [] [0] rfl rfl rfl (by decide) (va_runS (As := [.long (r_2 8), .int y1]) (rest := []) ⟨hx, hb, hml, hown, hts⟩ (c_X6_has (l := l) G cy  H.size (r_2 8) y1  (f_X6_has (r_2 8) y1) rfl) (va_cwS 2 hts gX6_staysClear_X6_has rfl rfl rfl ddN_X6_has ⟨Nat.le_of_ble_eq_true rfl, Nat.le_of_ble_eq_true rfl⟩) (preS_ (hP.sub (ws' := []) [] rfl) hK (hD.sub (ws' := []) [] rfl rfl) hN) rfl rfl hl.1 rfl (lv_room (Nat.le_of_ble_eq_true rfl)) dX6_staysClear_16 ⟨Nat.le_of_ble_eq_true rfl, Nat.le_of_ble_eq_true rfl⟩) (fun H locs hP hD hS => ?_)
        have hP : va_P G vwCl [(a_r0, av_J cy 11 r_2)] H := hP
        have hD : va_D A [(a_r0, av_J cy 11 r_2)] := hD
        refine lv_if_eq (tgt := 24) hx hb dX6_staysClear_19 (by decide) (fun h_3 => ?_) (fun h_3 => ?_)
        · have hf := in_ (bI_0 h_3) hf
          refine lv_iinc (v := (y3 + 1)) (lv' := [(3, .int (y3 + 1)), (0, .ref a_r0), (1, .int y1), (2, .int y2)]) hx hb dX6_staysClear_24 hl (k := 3) rfl rfl (by decide) rfl (fun ls hl => ?_)
          refine lv_goto (tgt := 2) hx hb dX6_staysClear_27 (by decide) ?_
          exact ih r_2 (y3 + 1) _ _ hf hP hD hS ls (lv_sub hl [1, 2, 3, 0] rfl)
        · have hf := ip_ (bI_n0 h_3) hf
          refine lv_iconst (v := 0) hx hb dX6_staysClear_22 (by decide) ?_
          obtain rfl := Option.some.inj hf
          exact kr_z (V := bI false) hx hb hr hlocks (bI_nar _) rfl hP hK hD hN hS hS.2.2 dX6_staysClear_23
  have hl := lv_entry [.ref a_r0, .int x1, .int x2] (n := 4) (Nat.le_of_ble_eq_true rfl)
  rw [lg_entry_eq]
  generalize (lg_sl [.ref a_r0, .int x1, .int x2] ++ List.replicate (4 - (lg_sl [.ref a_r0, .int x1, .int x2]).length) Slot.unset).toArray = ls at hl ⊢
  have hl : lv_has ls 4 [(0, .ref a_r0), (1, .int x1), (2, .int x2)] := hl
  unfold f_X6_staysClear at hf
  refine lv_iconst (v := 0) hx hb dX6_staysClear_0 (by decide) ?_
  refine lv_istore_n (lv' := [(3, .int 0), (0, .ref a_r0), (1, .int x1), (2, .int x2)]) hx hb dX6_staysClear_1 rfl hl (by decide) rfl (fun ls hl => ?_)
  exact bl_2 x1 x2 n g_r0 0 _ _ hf hP hD hS ls (lv_sub hl [1, 2, 3, 0] rfl)
set_option maxHeartbeats 4000000 in
set_option maxRecDepth 100000 in
theorem c_X6_keeps {l : Launch} (G : va_G) (cy : Nat → ClassId) (a_0 : Nat) (a_text : Nat) (a_now : Nat) (a_trial : Nat) (a_diary : Nat) (a_kept : Nat) (a_isKept : Nat) (a_seen : Nat) (a_equations : Nat) (a_wanted : Nat) (sz : Nat) (s_0 : MT) (g_now : Nat → Int64) (g_trial : Nat → Int64) (x1 : Int32) (x2 : Int32) (n : Nat) (R : Int32 × MT × (Nat → Int64)) (hf : f_X6_keeps n s_0 g_now g_trial x1 x2 = some R) : Met l yX6_keeps wsX6_keeps ({ frames := 8, cells := 0, slots := 0, locals := 189 } : Room) (va_Pc [.ref a_0, .int x1, .int x2] (pcW G cy [(a_0, mv a_text a_now a_trial a_diary a_kept a_isKept a_seen a_equations a_wanted s_0), (a_now, av_J cy 11 g_now), (a_trial, av_J cy 11 g_trial)] sz)) (va_Qi (fun r (_ : Unit) => r = R.1) (fun _ t => Wd G cy (va_A [(a_0, mv a_text a_now a_trial a_diary a_kept a_isKept a_seen a_equations a_wanted s_0), (a_now, av_J cy 11 g_now), (a_trial, av_J cy 11 g_trial)] sz) [(a_0, mv a_text a_now a_trial a_diary a_kept a_isKept a_seen a_equations a_wanted R.2.1), (a_now, av_J cy 11 g_now), (a_trial, av_J cy 11 R.2.2)] t) (va_A [(a_0, mv a_text a_now a_trial a_diary a_kept a_isKept a_seen a_equations a_wanted s_0), (a_now, av_J cy 11 g_now), (a_trial, av_J cy 11 g_trial)] sz)) 0 0 (va_A [(a_0, mv a_text a_now a_trial a_diary a_kept a_isKept a_seen a_equations a_wanted s_0), (a_now, av_J cy 11 g_now), (a_trial, av_J cy 11 g_trial)] sz) := by
  refine Met.ofW (cc := cX6_keeps) (maxL := 5) (ret := (some .int)) (by decide) rfl ?_
  intro p e s m args below meth c s₁ B hml hv
  obtain ⟨rfl, hsz, hP, hK, hD0, hN⟩ := hv
  have hx := B.exec
  have hb := B.bytes
  have hr := B.returns
  have hts := atoms_spec (ws := wsX6_keeps) B.pre
  have hown : s.vm.findClass RX6 = some m.cls := findClass_of_methodNamed B.named
  have hlocks := B.notSynchronized
  subst hsz
  have hD := hD0.self (sz := s.heap.size)
  generalize hAe : va_A [(a_0, mv a_text a_now a_trial a_diary a_kept a_isKept a_seen a_equations a_wanted s_0), (a_now, av_J cy 11 g_now), (a_trial, av_J cy 11 g_trial)] s.heap.size = A at hD ⊢
  have hA : ∀ q : Nat, s.heap.size ≤ q → A q := fun q h => by rw [← hAe]; exact Or.inr h
  have hS : va_S A s.heap s.heap [] := va_S.rf
  have hP : va_P G vwCl [(a_0, mv a_text a_now a_trial a_diary a_kept a_isKept a_seen a_equations a_wanted s_0), (a_now, av_J cy 11 g_now), (a_trial, av_J cy 11 g_trial)] s.heap := hP
  have bl_52 : ∀ (y1 : Int32), ∀ (y2 : Int32), ∀ (y3 : Int32), ∀ (k : Nat), ∀ (c_s_0 : MT) (c_g_trial : Nat → Int64) (y4 : Int32) (H : Heap) (locs : List Loc), f_X6_keeps_b52 n g_now y1 y2 y3 k c_s_0 c_g_trial y4 = some R → va_P G vwCl [(a_0, mv a_text a_now a_trial a_diary a_kept a_isKept a_seen a_equations a_wanted c_s_0), (a_now, av_J cy 11 g_now), (a_trial, av_J cy 11 c_g_trial)] H → va_D A [(a_0, mv a_text a_now a_trial a_diary a_kept a_isKept a_seen a_equations a_wanted c_s_0), (a_now, av_J cy 11 g_now), (a_trial, av_J cy 11 c_g_trial)] → va_S A s.heap H locs → ∀ (ls : Array Slot), lv_has ls 5 [(0, .ref a_0), (1, .int y1), (2, .int y2), (3, .int y3), (4, .int y4)] → W p l e ({ frames := 8, cells := 0, slots := 0, locals := 189 } : Room) s m [.ref a_0, .int x1, .int x2].toArray below meth c H locs 0 0 (MQ below (va_Qi (fun r (_ : Unit) => r = R.1) (fun _ t => Wd G cy A [(a_0, mv a_text a_now a_trial a_diary a_kept a_isKept a_seen a_equations a_wanted R.2.1), (a_now, av_J cy 11 g_now), (a_trial, av_J cy 11 R.2.2)] t) A) [.ref a_0, .int x1, .int x2].toArray s 0 0 A) (F0 m 52 ls []) := by
    intro y1
    intro y2
    intro y3
    intro k
    induction k with
    | zero =>
      intro c_s_0 c_g_trial y4 H locs hf; cases hf
    | succ k ih =>
      intro c_s_0 c_g_trial y4 H locs hf hP hD hS ls hl
      have hf := (f_X6_keeps_b52_s n g_now y1 y2 y3 k c_s_0 c_g_trial y4).symm.trans hf
      refine lv_iload hx hb dX6_keeps_52 (lv_at hl 4 rfl) ?_
      refine lv_iconst (v := 4) hx hb dX6_keeps_54 (by decide) ?_
      refine lv_iload_n hx hb dX6_keeps_55 rfl (lv_at hl 3 rfl) ?_
      refine lv_imul hx hb dX6_keeps_56 ?_
      refine lv_icmp_ge (tgt := 129) hx hb dX6_keeps_57 (by decide) (fun h_1 => ?_) (fun h_1 => ?_)
      · have hf := ip_ h_1 hf
        refine lv_iconst (v := (-1)) hx hb dX6_keeps_129 (by decide) ?_
        obtain rfl := Option.some.inj hf
        exact kr_i hx hb hr hlocks rfl hP hK hD hN hS hS.2.2 dX6_keeps_130
      · have hf := in_ h_1 hf
        refine lv_aload_n hx hb dX6_keeps_60 rfl (lv_at hl 0 rfl) ?_
        refine va_get (D := G) (ci := 6) (v := .ref a_now) (C := RX6) (T := TX6) (N := 15) hx hb hts iw_X6_keeps_X6 hown hK hP 0 rfl rfl 3 (by decide) (hts (.fieldLink RX6 13 "PaneFrostModel" "now" "[J") (by decide +kernel)) (fun _ h9 => h9) rfl dX6_keeps_61 ?_
        refine lv_iload hx hb dX6_keeps_64 (lv_at hl 4 rfl) ?_
        refine lv_iconst (v := 4) hx hb dX6_keeps_66 (by decide) ?_
        refine lv_idiv hx hb dX6_keeps_67 (by decide) ?_
        refine lv_iload hx hb dX6_keeps_68 (lv_at hl 4 rfl) ?_
        refine lv_iconst (v := 4) hx hb dX6_keeps_70 (by decide) ?_
        refine lv_irem hx hb dX6_keeps_71 (by decide) ?_
        obtain ⟨r_2, hh_r_2, hf⟩ := obd_some hf
        refine kc_i (w1 := [(a_now, av_J cy 11 g_now)]) (wr := [(a_0, mv a_text a_now a_trial a_diary a_kept a_isKept a_seen a_equations a_wanted c_s_0), (a_trial, av_J cy 11 c_g_trial)]) hP hD hS hA [1] [0, 2] rfl rfl rfl (by decide) (va_runS (As := [.ref a_now, .int (y4 / 4), .int (irm y4 4)]) (rest := []) ⟨hx, hb, hml, hown, hts⟩ (c_X6_next (l := l) G cy a_now H.size g_now (y4 / 4) (irm y4 4)  r_2 hh_r_2) (va_cwS 3 hts gX6_keeps_X6_next rfl rfl rfl ddN_X6_next ⟨Nat.le_of_ble_eq_true rfl, Nat.le_of_ble_eq_true rfl⟩) (preS_ (hP.sub (ws' := [(a_now, av_J cy 11 g_now)]) [1] rfl) hK (hD.sub (ws' := [(a_now, av_J cy 11 g_now)]) [1] rfl rfl) hN) rfl rfl hl.1 rfl (lv_room (Nat.le_of_ble_eq_true rfl)) dX6_keeps_72 ⟨Nat.le_of_ble_eq_true rfl, Nat.le_of_ble_eq_true rfl⟩) (fun H locs hP hD hS => ?_)
        have hP : va_P G vwCl [(a_0, mv a_text a_now a_trial a_diary a_kept a_isKept a_seen a_equations a_wanted c_s_0), (a_trial, av_J cy 11 c_g_trial), (a_now, av_J cy 11 g_now)] H := hP
        have hD : va_D A [(a_0, mv a_text a_now a_trial a_diary a_kept a_isKept a_seen a_equations a_wanted c_s_0), (a_trial, av_J cy 11 c_g_trial), (a_now, av_J cy 11 g_now)] := hD
        refine lv_iconst (v := (-1)) hx hb dX6_keeps_75 (by decide) ?_
        refine lv_icmp_eq (tgt := 123) hx hb dX6_keeps_76 (by decide) (fun h_3 => ?_) (fun h_3 => ?_)
        · have hf := ip_ h_3 hf
          refine lv_iinc (v := (y4 + 1)) (lv' := [(4, .int (y4 + 1)), (0, .ref a_0), (1, .int y1), (2, .int y2), (3, .int y3)]) hx hb dX6_keeps_123 hl (k := 4) rfl rfl (by decide) rfl (fun ls hl => ?_)
          refine lv_goto (tgt := 52) hx hb dX6_keeps_126 (by decide) ?_
          exact ih c_s_0 c_g_trial (y4 + 1) _ _ hf (hP.sub (ws' := [(a_0, mv a_text a_now a_trial a_diary a_kept a_isKept a_seen a_equations a_wanted c_s_0), (a_now, av_J cy 11 g_now), (a_trial, av_J cy 11 c_g_trial)]) [0, 2, 1] rfl) (hD.sub (ws' := [(a_0, mv a_text a_now a_trial a_diary a_kept a_isKept a_seen a_equations a_wanted c_s_0), (a_now, av_J cy 11 g_now), (a_trial, av_J cy 11 c_g_trial)]) [0, 2, 1] rfl rfl) hS ls (lv_sub hl [1, 2, 3, 4, 0] rfl)
        · have hf := in_ h_3 hf
          refine lv_aload_n hx hb dX6_keeps_79 rfl (lv_at hl 0 rfl) ?_
          refine va_get (D := G) (ci := 6) (v := .ref a_now) (C := RX6) (T := TX6) (N := 15) hx hb hts iw_X6_keeps_X6 hown hK hP 0 rfl rfl 3 (by decide) (hts (.fieldLink RX6 13 "PaneFrostModel" "now" "[J") (by decide +kernel)) (fun _ h9 => h9) rfl dX6_keeps_80 ?_
          refine lv_iconst (v := 0) hx hb dX6_keeps_83 (by decide) ?_
          refine lv_aload_n hx hb dX6_keeps_84 rfl (lv_at hl 0 rfl) ?_
          refine va_get (D := G) (ci := 6) (v := .ref a_trial) (C := RX6) (T := TX6) (N := 15) hx hb hts iw_X6_keeps_X6 hown hK hP 0 rfl rfl 4 (by decide) (hts (.fieldLink RX6 17 "PaneFrostModel" "trial" "[J") (by decide +kernel)) (fun _ h9 => h9) rfl dX6_keeps_85 ?_
          refine lv_iconst (v := 0) hx hb dX6_keeps_88 (by decide) ?_
          obtain ⟨r_4, hh_r_4, hf⟩ := obd_some hf
          refine kc_v (w1 := [(a_now, av_J cy 11 g_now), (a_trial, av_J cy 11 r_4)]) (wr := [(a_0, mv a_text a_now a_trial a_diary a_kept a_isKept a_seen a_equations a_wanted c_s_0)]) hP hD hS hA [2, 1] [0] rfl rfl rfl (by decide) (va_runS (As := [.ref a_now, .int 0, .ref a_trial, .int 0]) (rest := []) ⟨hx, hb, hml, hown, hts⟩ (c_X6_copyState (l := l) G cy a_now a_trial H.size g_now c_g_trial 11 11 0 0 n r_4 hh_r_4) (va_cwS 4 hts gX6_keeps_X6_copyState rfl rfl rfl ddN_X6_copyState ⟨Nat.le_of_ble_eq_true rfl, Nat.le_of_ble_eq_true rfl⟩) (preS_ (hP.sub (ws' := [(a_now, av_J cy 11 g_now), (a_trial, av_J cy 11 c_g_trial)]) [2, 1] rfl) hK (hD.sub (ws' := [(a_now, av_J cy 11 g_now), (a_trial, av_J cy 11 c_g_trial)]) [2, 1] rfl rfl) hN) rfl rfl hl.1 rfl (lv_room (Nat.le_of_ble_eq_true rfl)) dX6_keeps_89 ⟨Nat.le_of_ble_eq_true rfl, Nat.le_of_ble_eq_true rfl⟩) (fun H locs hP hD hS => ?_)
          have hP : va_P G vwCl [(a_0, mv a_text a_now a_trial a_diary a_kept a_isKept a_seen a_equations a_wanted c_s_0), (a_now, av_J cy 11 g_now), (a_trial, av_J cy 11 r_4)] H := hP
          have hD : va_D A [(a_0, mv a_text a_now a_trial a_diary a_kept a_isKept a_seen a_equations a_wanted c_s_0), (a_now, av_J cy 11 g_now), (a_trial, av_J cy 11 r_4)] := hD
          refine lv_aload_n hx hb dX6_keeps_92 rfl (lv_at hl 0 rfl) ?_
          refine va_get (D := G) (ci := 6) (v := .ref a_trial) (C := RX6) (T := TX6) (N := 15) hx hb hts iw_X6_keeps_X6 hown hK hP 0 rfl rfl 4 (by decide) (hts (.fieldLink RX6 17 "PaneFrostModel" "trial" "[J") (by decide +kernel)) (fun _ h9 => h9) rfl dX6_keeps_93 ?_
          refine lv_iload hx hb dX6_keeps_96 (lv_at hl 4 rfl) ?_
          refine lv_iconst (v := 4) hx hb dX6_keeps_98 (by decide) ?_
          refine lv_idiv hx hb dX6_keeps_99 (by decide) ?_
          refine lv_iload hx hb dX6_keeps_100 (lv_at hl 4 rfl) ?_
          refine lv_iconst (v := 4) hx hb dX6_keeps_102 (by decide) ?_
          refine lv_irem hx hb dX6_keeps_103 (by decide) ?_
          obtain ⟨r_5, hh_r_5, hf⟩ := obd_some hf
          refine kc_i (w1 := [(a_trial, av_J cy 11 r_5.2)]) (wr := [(a_0, mv a_text a_now a_trial a_diary a_kept a_isKept a_seen a_equations a_wanted c_s_0), (a_now, av_J cy 11 g_now)]) hP hD hS hA [2] [0, 1] rfl rfl rfl (by decide) (va_runS (As := [.ref a_trial, .int (y4 / 4), .int (irm y4 4)]) (rest := []) ⟨hx, hb, hml, hown, hts⟩ (c_X6_scratchOn (l := l) G cy a_trial H.size r_4 (y4 / 4) (irm y4 4)  r_5 hh_r_5) (va_cwS 3 hts gX6_keeps_X6_scratchOn rfl rfl rfl ddN_X6_scratchOn ⟨Nat.le_of_ble_eq_true rfl, Nat.le_of_ble_eq_true rfl⟩) (preS_ (hP.sub (ws' := [(a_trial, av_J cy 11 r_4)]) [2] rfl) hK (hD.sub (ws' := [(a_trial, av_J cy 11 r_4)]) [2] rfl rfl) hN) rfl rfl hl.1 rfl (lv_room (Nat.le_of_ble_eq_true rfl)) dX6_keeps_104 ⟨Nat.le_of_ble_eq_true rfl, Nat.le_of_ble_eq_true rfl⟩) (fun H locs hP hD hS => ?_)
          have hP : va_P G vwCl [(a_0, mv a_text a_now a_trial a_diary a_kept a_isKept a_seen a_equations a_wanted c_s_0), (a_now, av_J cy 11 g_now), (a_trial, av_J cy 11 r_5.2)] H := hP
          have hD : va_D A [(a_0, mv a_text a_now a_trial a_diary a_kept a_isKept a_seen a_equations a_wanted c_s_0), (a_now, av_J cy 11 g_now), (a_trial, av_J cy 11 r_5.2)] := hD
          refine lv_pop hx hb dX6_keeps_107 rfl ?_
          refine lv_aload_n hx hb dX6_keeps_108 rfl (lv_at hl 0 rfl) ?_
          refine va_get (D := G) (ci := 6) (v := .ref a_trial) (C := RX6) (T := TX6) (N := 15) hx hb hts iw_X6_keeps_X6 hown hK hP 0 rfl rfl 4 (by decide) (hts (.fieldLink RX6 17 "PaneFrostModel" "trial" "[J") (by decide +kernel)) (fun _ h9 => h9) rfl dX6_keeps_109 ?_
          refine lv_iload_n hx hb dX6_keeps_112 rfl (lv_at hl 1 rfl) ?_
          refine lv_iload_n hx hb dX6_keeps_113 rfl (lv_at hl 2 rfl) ?_
          obtain ⟨r_6, hh_r_6, hf⟩ := obd_some hf
          refine kc_i (w1 := [(a_trial, av_J cy 11 r_6.2)]) (wr := [(a_0, mv a_text a_now a_trial a_diary a_kept a_isKept a_seen a_equations a_wanted c_s_0), (a_now, av_J cy 11 g_now)]) hP hD hS hA [2] [0, 1] rfl rfl rfl (by decide) (va_runS (As := [.ref a_trial, .int y1, .int y2]) (rest := []) ⟨hx, hb, hml, hown, hts⟩ (c_X6_staysClear (l := l) G cy a_trial H.size r_5.2 y1 y2 n r_6 hh_r_6) (va_cwS 3 hts gX6_keeps_X6_staysClear rfl rfl rfl ddN_X6_staysClear ⟨Nat.le_of_ble_eq_true rfl, Nat.le_of_ble_eq_true rfl⟩) (preS_ (hP.sub (ws' := [(a_trial, av_J cy 11 r_5.2)]) [2] rfl) hK (hD.sub (ws' := [(a_trial, av_J cy 11 r_5.2)]) [2] rfl rfl) hN) rfl rfl hl.1 rfl (lv_room (Nat.le_of_ble_eq_true rfl)) dX6_keeps_114 ⟨Nat.le_of_ble_eq_true rfl, Nat.le_of_ble_eq_true rfl⟩) (fun H locs hP hD hS => ?_)
          have hP : va_P G vwCl [(a_0, mv a_text a_now a_trial a_diary a_kept a_isKept a_seen a_equations a_wanted c_s_0), (a_now, av_J cy 11 g_now), (a_trial, av_J cy 11 r_6.2)] H := hP
          have hD : va_D A [(a_0, mv a_text a_now a_trial a_diary a_kept a_isKept a_seen a_equations a_wanted c_s_0), (a_now, av_J cy 11 g_now), (a_trial, av_J cy 11 r_6.2)] := hD
          refine lv_if_eq (tgt := 123) hx hb dX6_keeps_117 (by decide) (fun h_7 => ?_) (fun h_7 => ?_)
          · have hf := in_ (bI_0 h_7) hf
            refine lv_iinc (v := (y4 + 1)) (lv' := [(4, .int (y4 + 1)), (0, .ref a_0), (1, .int y1), (2, .int y2), (3, .int y3)]) hx hb dX6_keeps_123 hl (k := 4) rfl rfl (by decide) rfl (fun ls hl => ?_)
            refine lv_goto (tgt := 52) hx hb dX6_keeps_126 (by decide) ?_
            exact ih c_s_0 r_6.2 (y4 + 1) _ _ hf hP hD hS ls (lv_sub hl [1, 2, 3, 4, 0] rfl)
          · have hf := ip_ (bI_n0 h_7) hf
            refine lv_iload hx hb dX6_keeps_120 (lv_at hl 4 rfl) ?_
            obtain rfl := Option.some.inj hf
            exact kr_i hx hb hr hlocks rfl hP hK hD hN hS hS.2.2 dX6_keeps_122
  have hl := lv_entry [.ref a_0, .int x1, .int x2] (n := 5) (Nat.le_of_ble_eq_true rfl)
  rw [lg_entry_eq]
  generalize (lg_sl [.ref a_0, .int x1, .int x2] ++ List.replicate (5 - (lg_sl [.ref a_0, .int x1, .int x2]).length) Slot.unset).toArray = ls at hl ⊢
  have hl : lv_has ls 5 [(0, .ref a_0), (1, .int x1), (2, .int x2)] := hl
  unfold f_X6_keeps at hf
  refine lv_aload_n hx hb dX6_keeps_0 rfl (lv_at hl 0 rfl) ?_
  refine lv_aload_n hx hb dX6_keeps_1 rfl (lv_at hl 0 rfl) ?_
  refine va_get (D := G) (ci := 6) (v := .ref a_now) (C := RX6) (T := TX6) (N := 15) hx hb hts iw_X6_keeps_X6 hown hK hP 0 rfl rfl 3 (by decide) (hts (.fieldLink RX6 13 "PaneFrostModel" "now" "[J") (by decide +kernel)) (fun _ h9 => h9) rfl dX6_keeps_2 ?_
  refine lv_iload_n hx hb dX6_keeps_5 rfl (lv_at hl 1 rfl) ?_
  refine kc_i (w1 := [(a_now, av_J cy 11 g_now)]) (wr := [(a_0, mv a_text a_now a_trial a_diary a_kept a_isKept a_seen a_equations a_wanted s_0), (a_trial, av_J cy 11 g_trial)]) hP hD hS hA [1] [0, 2] rfl rfl rfl (by decide) (va_runS (As := [.ref a_now, .int x1]) (rest := [.ref a_0]) ⟨hx, hb, hml, hown, hts⟩ (c_X6_isCell (l := l) G cy a_now s.heap.size g_now x1  (f_X6_isCell g_now x1) rfl) (va_cwS 2 hts gX6_keeps_X6_isCell rfl rfl rfl ddN_X6_isCell ⟨Nat.le_of_ble_eq_true rfl, Nat.le_of_ble_eq_true rfl⟩) (preS_ (hP.sub (ws' := [(a_now, av_J cy 11 g_now)]) [1] rfl) hK (hD.sub (ws' := [(a_now, av_J cy 11 g_now)]) [1] rfl rfl) hN) rfl rfl hl.1 rfl (lv_room (Nat.le_of_ble_eq_true rfl)) dX6_keeps_6 ⟨Nat.le_of_ble_eq_true rfl, Nat.le_of_ble_eq_true rfl⟩) (fun H locs hP hD hS => ?_)
  have hP : va_P G vwCl [(a_0, mv a_text a_now a_trial a_diary a_kept a_isKept a_seen a_equations a_wanted s_0), (a_trial, av_J cy 11 g_trial), (a_now, av_J cy 11 g_now)] H := hP
  have hD : va_D A [(a_0, mv a_text a_now a_trial a_diary a_kept a_isKept a_seen a_equations a_wanted s_0), (a_trial, av_J cy 11 g_trial), (a_now, av_J cy 11 g_now)] := hD
  refine lv_if_ne (tgt := 16) hx hb dX6_keeps_9 (by decide) (fun h_8 => ?_) (fun h_8 => ?_)
  · have hf := ip_ (bI_n0 h_8) hf
    refine lv_iload_n hx hb dX6_keeps_16 rfl (lv_at hl 2 rfl) ?_
    refine lv_i2l (v := x2.toInt64) hx hb dX6_keeps_17 rfl ?_
    refine lv_lconst (v := 1) hx hb dX6_keeps_18 rfl ?_
    refine lv_ldc2 (v := 20) hx hb hown (hts (.constantLong RX6 209 (20)) (by decide +kernel)) dX6_keeps_19 ?_
    refine kc_i (w1 := []) (wr := [(a_0, mv a_text a_now a_trial a_diary a_kept a_isKept a_seen a_equations a_wanted s_0), (a_trial, av_J cy 11 g_trial), (a_now, av_J cy 11 g_now)]) hP hD hS hA [] [0, 1, 2] rfl rfl rfl (by decide) (va_runS (As := [.long x2.toInt64, .long 1, .long 20]) (rest := [.ref a_0]) ⟨hx, hb, hml, hown, hts⟩ (c_X6_in (l := l) G cy  H.size x2.toInt64 1 20  (f_X6_in x2.toInt64 1 20) rfl) (va_cwS 3 hts gX6_keeps_X6_in rfl rfl rfl ddN_X6_in ⟨Nat.le_of_ble_eq_true rfl, Nat.le_of_ble_eq_true rfl⟩) (preS_ (hP.sub (ws' := []) [] rfl) hK (hD.sub (ws' := []) [] rfl rfl) hN) rfl rfl hl.1 rfl (lv_room (Nat.le_of_ble_eq_true rfl)) dX6_keeps_22 ⟨Nat.le_of_ble_eq_true rfl, Nat.le_of_ble_eq_true rfl⟩) (fun H locs hP hD hS => ?_)
    have hP : va_P G vwCl [(a_0, mv a_text a_now a_trial a_diary a_kept a_isKept a_seen a_equations a_wanted s_0), (a_trial, av_J cy 11 g_trial), (a_now, av_J cy 11 g_now)] H := hP
    have hD : va_D A [(a_0, mv a_text a_now a_trial a_diary a_kept a_isKept a_seen a_equations a_wanted s_0), (a_trial, av_J cy 11 g_trial), (a_now, av_J cy 11 g_now)] := hD
    refine lv_if_eq (tgt := 32) hx hb dX6_keeps_25 (by decide) (fun h_9 => ?_) (fun h_9 => ?_)
    · have hf := in_ (bI_0 h_9) hf
      refine lv_iconst (v := 2) hx hb dX6_keeps_32 (by decide) ?_
      obtain ⟨r_10, hh_r_10⟩ : ∃ z, z = f_X6_refused s_0 2 := ⟨_, rfl⟩
      have hf := lt_e hh_r_10 hf
      refine kc_i (w1 := [(a_0, mv a_text a_now a_trial a_diary a_kept a_isKept a_seen a_equations a_wanted r_10.2)]) (wr := [(a_trial, av_J cy 11 g_trial), (a_now, av_J cy 11 g_now)]) hP hD hS hA [0] [1, 2] rfl rfl rfl (by decide) (va_runV (As := [.int 2]) (rest := []) ⟨hx, hb, hml, hown, hts⟩ (c_X6_refused (l := l) G cy a_0 a_text a_now a_trial a_diary a_kept a_isKept a_seen a_equations a_wanted H.size s_0 2  r_10 hh_r_10.symm) (cwV 1 hts gX6_keeps_X6_refused rfl rfl rfl ddV_X6_refused ⟨Nat.le_of_ble_eq_true rfl, Nat.le_of_ble_eq_true rfl⟩) (preV_ (ci := 6) (q0 := 0) rfl rfl (hP.sub (ws' := [(a_0, mv a_text a_now a_trial a_diary a_kept a_isKept a_seen a_equations a_wanted s_0)]) [0] rfl) hK (hD.sub (ws' := [(a_0, mv a_text a_now a_trial a_diary a_kept a_isKept a_seen a_equations a_wanted s_0)]) [0] rfl rfl) hN) rfl rfl hl.1 rfl (lv_room (Nat.le_of_ble_eq_true rfl)) dX6_keeps_33 ⟨Nat.le_of_ble_eq_true rfl, Nat.le_of_ble_eq_true rfl⟩) (fun H locs hP hD hS => ?_)
      have hP : va_P G vwCl [(a_trial, av_J cy 11 g_trial), (a_now, av_J cy 11 g_now), (a_0, mv a_text a_now a_trial a_diary a_kept a_isKept a_seen a_equations a_wanted r_10.2)] H := hP
      have hD : va_D A [(a_trial, av_J cy 11 g_trial), (a_now, av_J cy 11 g_now), (a_0, mv a_text a_now a_trial a_diary a_kept a_isKept a_seen a_equations a_wanted r_10.2)] := hD
      refine lv_if_eq (tgt := 41) hx hb dX6_keeps_36 (by decide) (fun h_11 => ?_) (fun h_11 => ?_)
      · have hf := in_ (bI_0 h_11) hf
        refine lv_aload_n hx hb dX6_keeps_41 rfl (lv_at hl 0 rfl) ?_
        refine va_get (D := G) (ci := 6) (v := .ref a_now) (C := RX6) (T := TX6) (N := 15) hx hb hts iw_X6_keeps_X6 hown hK hP 2 rfl rfl 3 (by decide) (hts (.fieldLink RX6 13 "PaneFrostModel" "now" "[J") (by decide +kernel)) (fun _ h9 => h9) rfl dX6_keeps_42 ?_
        refine kc_i (w1 := [(a_now, av_J cy 11 g_now)]) (wr := [(a_trial, av_J cy 11 g_trial), (a_0, mv a_text a_now a_trial a_diary a_kept a_isKept a_seen a_equations a_wanted r_10.2)]) hP hD hS hA [1] [0, 2] rfl rfl rfl (by decide) (va_runS (As := [.ref a_now]) (rest := []) ⟨hx, hb, hml, hown, hts⟩ (c_X6_many (l := l) G cy a_now H.size g_now  (f_X6_many g_now) rfl) (va_cwS 1 hts gX6_keeps_X6_many rfl rfl rfl ddN_X6_many ⟨Nat.le_of_ble_eq_true rfl, Nat.le_of_ble_eq_true rfl⟩) (preS_ (hP.sub (ws' := [(a_now, av_J cy 11 g_now)]) [1] rfl) hK (hD.sub (ws' := [(a_now, av_J cy 11 g_now)]) [1] rfl rfl) hN) rfl rfl hl.1 rfl (lv_room (Nat.le_of_ble_eq_true rfl)) dX6_keeps_45 ⟨Nat.le_of_ble_eq_true rfl, Nat.le_of_ble_eq_true rfl⟩) (fun H locs hP hD hS => ?_)
        have hP : va_P G vwCl [(a_trial, av_J cy 11 g_trial), (a_0, mv a_text a_now a_trial a_diary a_kept a_isKept a_seen a_equations a_wanted r_10.2), (a_now, av_J cy 11 g_now)] H := hP
        have hD : va_D A [(a_trial, av_J cy 11 g_trial), (a_0, mv a_text a_now a_trial a_diary a_kept a_isKept a_seen a_equations a_wanted r_10.2), (a_now, av_J cy 11 g_now)] := hD
        refine lv_istore_n (lv' := [(3, .int (f_X6_many g_now)), (0, .ref a_0), (1, .int x1), (2, .int x2)]) hx hb dX6_keeps_48 rfl hl (by decide) rfl (fun ls hl => ?_)
        refine lv_iconst (v := 0) hx hb dX6_keeps_49 (by decide) ?_
        refine lv_istore (lv' := [(4, .int 0), (3, .int (f_X6_many g_now)), (0, .ref a_0), (1, .int x1), (2, .int x2)]) hx hb dX6_keeps_50 hl (by decide) rfl (fun ls hl => ?_)
        exact bl_52 x1 x2 (f_X6_many g_now) n r_10.2 g_trial 0 _ _ hf (hP.sub (ws' := [(a_0, mv a_text a_now a_trial a_diary a_kept a_isKept a_seen a_equations a_wanted r_10.2), (a_now, av_J cy 11 g_now), (a_trial, av_J cy 11 g_trial)]) [1, 2, 0] rfl) (hD.sub (ws' := [(a_0, mv a_text a_now a_trial a_diary a_kept a_isKept a_seen a_equations a_wanted r_10.2), (a_now, av_J cy 11 g_now), (a_trial, av_J cy 11 g_trial)]) [1, 2, 0] rfl rfl) hS ls (lv_sub hl [2, 3, 4, 1, 0] rfl)
      · have hf := ip_ (bI_n0 h_11) hf
        refine lv_iconst (v := 0) hx hb dX6_keeps_39 (by decide) ?_
        obtain rfl := Option.some.inj hf
        exact kr_i hx hb hr hlocks rfl (hP.sub (ws' := [(a_0, mv a_text a_now a_trial a_diary a_kept a_isKept a_seen a_equations a_wanted r_10.2), (a_now, av_J cy 11 g_now), (a_trial, av_J cy 11 g_trial)]) [2, 1, 0] rfl) hK (hD.sub (ws' := [(a_0, mv a_text a_now a_trial a_diary a_kept a_isKept a_seen a_equations a_wanted r_10.2), (a_now, av_J cy 11 g_now), (a_trial, av_J cy 11 g_trial)]) [2, 1, 0] rfl rfl) hN hS hS.2.2 dX6_keeps_40
    · have hf := ip_ (bI_n0 h_9) hf
      refine lv_iconst (v := 0) hx hb dX6_keeps_28 (by decide) ?_
      refine lv_goto (tgt := 33) hx hb dX6_keeps_29 (by decide) ?_
      obtain ⟨r_12, hh_r_12⟩ : ∃ z, z = f_X6_refused s_0 0 := ⟨_, rfl⟩
      have hf := lt_e hh_r_12 hf
      refine kc_i (w1 := [(a_0, mv a_text a_now a_trial a_diary a_kept a_isKept a_seen a_equations a_wanted r_12.2)]) (wr := [(a_trial, av_J cy 11 g_trial), (a_now, av_J cy 11 g_now)]) hP hD hS hA [0] [1, 2] rfl rfl rfl (by decide) (va_runV (As := [.int 0]) (rest := []) ⟨hx, hb, hml, hown, hts⟩ (c_X6_refused (l := l) G cy a_0 a_text a_now a_trial a_diary a_kept a_isKept a_seen a_equations a_wanted H.size s_0 0  r_12 hh_r_12.symm) (cwV 1 hts gX6_keeps_X6_refused rfl rfl rfl ddV_X6_refused ⟨Nat.le_of_ble_eq_true rfl, Nat.le_of_ble_eq_true rfl⟩) (preV_ (ci := 6) (q0 := 0) rfl rfl (hP.sub (ws' := [(a_0, mv a_text a_now a_trial a_diary a_kept a_isKept a_seen a_equations a_wanted s_0)]) [0] rfl) hK (hD.sub (ws' := [(a_0, mv a_text a_now a_trial a_diary a_kept a_isKept a_seen a_equations a_wanted s_0)]) [0] rfl rfl) hN) rfl rfl hl.1 rfl (lv_room (Nat.le_of_ble_eq_true rfl)) dX6_keeps_33 ⟨Nat.le_of_ble_eq_true rfl, Nat.le_of_ble_eq_true rfl⟩) (fun H locs hP hD hS => ?_)
      have hP : va_P G vwCl [(a_trial, av_J cy 11 g_trial), (a_now, av_J cy 11 g_now), (a_0, mv a_text a_now a_trial a_diary a_kept a_isKept a_seen a_equations a_wanted r_12.2)] H := hP
      have hD : va_D A [(a_trial, av_J cy 11 g_trial), (a_now, av_J cy 11 g_now), (a_0, mv a_text a_now a_trial a_diary a_kept a_isKept a_seen a_equations a_wanted r_12.2)] := hD
      refine lv_if_eq (tgt := 41) hx hb dX6_keeps_36 (by decide) (fun h_13 => ?_) (fun h_13 => ?_)
      · have hf := in_ (bI_0 h_13) hf
        refine lv_aload_n hx hb dX6_keeps_41 rfl (lv_at hl 0 rfl) ?_
        refine va_get (D := G) (ci := 6) (v := .ref a_now) (C := RX6) (T := TX6) (N := 15) hx hb hts iw_X6_keeps_X6 hown hK hP 2 rfl rfl 3 (by decide) (hts (.fieldLink RX6 13 "PaneFrostModel" "now" "[J") (by decide +kernel)) (fun _ h9 => h9) rfl dX6_keeps_42 ?_
        refine kc_i (w1 := [(a_now, av_J cy 11 g_now)]) (wr := [(a_trial, av_J cy 11 g_trial), (a_0, mv a_text a_now a_trial a_diary a_kept a_isKept a_seen a_equations a_wanted r_12.2)]) hP hD hS hA [1] [0, 2] rfl rfl rfl (by decide) (va_runS (As := [.ref a_now]) (rest := []) ⟨hx, hb, hml, hown, hts⟩ (c_X6_many (l := l) G cy a_now H.size g_now  (f_X6_many g_now) rfl) (va_cwS 1 hts gX6_keeps_X6_many rfl rfl rfl ddN_X6_many ⟨Nat.le_of_ble_eq_true rfl, Nat.le_of_ble_eq_true rfl⟩) (preS_ (hP.sub (ws' := [(a_now, av_J cy 11 g_now)]) [1] rfl) hK (hD.sub (ws' := [(a_now, av_J cy 11 g_now)]) [1] rfl rfl) hN) rfl rfl hl.1 rfl (lv_room (Nat.le_of_ble_eq_true rfl)) dX6_keeps_45 ⟨Nat.le_of_ble_eq_true rfl, Nat.le_of_ble_eq_true rfl⟩) (fun H locs hP hD hS => ?_)
        have hP : va_P G vwCl [(a_trial, av_J cy 11 g_trial), (a_0, mv a_text a_now a_trial a_diary a_kept a_isKept a_seen a_equations a_wanted r_12.2), (a_now, av_J cy 11 g_now)] H := hP
        have hD : va_D A [(a_trial, av_J cy 11 g_trial), (a_0, mv a_text a_now a_trial a_diary a_kept a_isKept a_seen a_equations a_wanted r_12.2), (a_now, av_J cy 11 g_now)] := hD
        refine lv_istore_n (lv' := [(3, .int (f_X6_many g_now)), (0, .ref a_0), (1, .int x1), (2, .int x2)]) hx hb dX6_keeps_48 rfl hl (by decide) rfl (fun ls hl => ?_)
        refine lv_iconst (v := 0) hx hb dX6_keeps_49 (by decide) ?_
        refine lv_istore (lv' := [(4, .int 0), (3, .int (f_X6_many g_now)), (0, .ref a_0), (1, .int x1), (2, .int x2)]) hx hb dX6_keeps_50 hl (by decide) rfl (fun ls hl => ?_)
        exact bl_52 x1 x2 (f_X6_many g_now) n r_12.2 g_trial 0 _ _ hf (hP.sub (ws' := [(a_0, mv a_text a_now a_trial a_diary a_kept a_isKept a_seen a_equations a_wanted r_12.2), (a_now, av_J cy 11 g_now), (a_trial, av_J cy 11 g_trial)]) [1, 2, 0] rfl) (hD.sub (ws' := [(a_0, mv a_text a_now a_trial a_diary a_kept a_isKept a_seen a_equations a_wanted r_12.2), (a_now, av_J cy 11 g_now), (a_trial, av_J cy 11 g_trial)]) [1, 2, 0] rfl rfl) hS ls (lv_sub hl [2, 3, 4, 1, 0] rfl)
      · have hf := ip_ (bI_n0 h_13) hf
        refine lv_iconst (v := 0) hx hb dX6_keeps_39 (by decide) ?_
        obtain rfl := Option.some.inj hf
        exact kr_i hx hb hr hlocks rfl (hP.sub (ws' := [(a_0, mv a_text a_now a_trial a_diary a_kept a_isKept a_seen a_equations a_wanted r_12.2), (a_now, av_J cy 11 g_now), (a_trial, av_J cy 11 g_trial)]) [2, 1, 0] rfl) hK (hD.sub (ws' := [(a_0, mv a_text a_now a_trial a_diary a_kept a_isKept a_seen a_equations a_wanted r_12.2), (a_now, av_J cy 11 g_now), (a_trial, av_J cy 11 g_trial)]) [2, 1, 0] rfl rfl) hN hS hS.2.2 dX6_keeps_40
  · have hf := in_ (bI_0 h_8) hf
    refine lv_iconst (v := 1) hx hb dX6_keeps_12 (by decide) ?_
    refine lv_goto (tgt := 33) hx hb dX6_keeps_13 (by decide) ?_
    obtain ⟨r_14, hh_r_14⟩ : ∃ z, z = f_X6_refused s_0 1 := ⟨_, rfl⟩
    have hf := lt_e hh_r_14 hf
    refine kc_i (w1 := [(a_0, mv a_text a_now a_trial a_diary a_kept a_isKept a_seen a_equations a_wanted r_14.2)]) (wr := [(a_trial, av_J cy 11 g_trial), (a_now, av_J cy 11 g_now)]) hP hD hS hA [0] [1, 2] rfl rfl rfl (by decide) (va_runV (As := [.int 1]) (rest := []) ⟨hx, hb, hml, hown, hts⟩ (c_X6_refused (l := l) G cy a_0 a_text a_now a_trial a_diary a_kept a_isKept a_seen a_equations a_wanted H.size s_0 1  r_14 hh_r_14.symm) (cwV 1 hts gX6_keeps_X6_refused rfl rfl rfl ddV_X6_refused ⟨Nat.le_of_ble_eq_true rfl, Nat.le_of_ble_eq_true rfl⟩) (preV_ (ci := 6) (q0 := 0) rfl rfl (hP.sub (ws' := [(a_0, mv a_text a_now a_trial a_diary a_kept a_isKept a_seen a_equations a_wanted s_0)]) [0] rfl) hK (hD.sub (ws' := [(a_0, mv a_text a_now a_trial a_diary a_kept a_isKept a_seen a_equations a_wanted s_0)]) [0] rfl rfl) hN) rfl rfl hl.1 rfl (lv_room (Nat.le_of_ble_eq_true rfl)) dX6_keeps_33 ⟨Nat.le_of_ble_eq_true rfl, Nat.le_of_ble_eq_true rfl⟩) (fun H locs hP hD hS => ?_)
    have hP : va_P G vwCl [(a_trial, av_J cy 11 g_trial), (a_now, av_J cy 11 g_now), (a_0, mv a_text a_now a_trial a_diary a_kept a_isKept a_seen a_equations a_wanted r_14.2)] H := hP
    have hD : va_D A [(a_trial, av_J cy 11 g_trial), (a_now, av_J cy 11 g_now), (a_0, mv a_text a_now a_trial a_diary a_kept a_isKept a_seen a_equations a_wanted r_14.2)] := hD
    refine lv_if_eq (tgt := 41) hx hb dX6_keeps_36 (by decide) (fun h_15 => ?_) (fun h_15 => ?_)
    · have hf := in_ (bI_0 h_15) hf
      refine lv_aload_n hx hb dX6_keeps_41 rfl (lv_at hl 0 rfl) ?_
      refine va_get (D := G) (ci := 6) (v := .ref a_now) (C := RX6) (T := TX6) (N := 15) hx hb hts iw_X6_keeps_X6 hown hK hP 2 rfl rfl 3 (by decide) (hts (.fieldLink RX6 13 "PaneFrostModel" "now" "[J") (by decide +kernel)) (fun _ h9 => h9) rfl dX6_keeps_42 ?_
      refine kc_i (w1 := [(a_now, av_J cy 11 g_now)]) (wr := [(a_trial, av_J cy 11 g_trial), (a_0, mv a_text a_now a_trial a_diary a_kept a_isKept a_seen a_equations a_wanted r_14.2)]) hP hD hS hA [1] [0, 2] rfl rfl rfl (by decide) (va_runS (As := [.ref a_now]) (rest := []) ⟨hx, hb, hml, hown, hts⟩ (c_X6_many (l := l) G cy a_now H.size g_now  (f_X6_many g_now) rfl) (va_cwS 1 hts gX6_keeps_X6_many rfl rfl rfl ddN_X6_many ⟨Nat.le_of_ble_eq_true rfl, Nat.le_of_ble_eq_true rfl⟩) (preS_ (hP.sub (ws' := [(a_now, av_J cy 11 g_now)]) [1] rfl) hK (hD.sub (ws' := [(a_now, av_J cy 11 g_now)]) [1] rfl rfl) hN) rfl rfl hl.1 rfl (lv_room (Nat.le_of_ble_eq_true rfl)) dX6_keeps_45 ⟨Nat.le_of_ble_eq_true rfl, Nat.le_of_ble_eq_true rfl⟩) (fun H locs hP hD hS => ?_)
      have hP : va_P G vwCl [(a_trial, av_J cy 11 g_trial), (a_0, mv a_text a_now a_trial a_diary a_kept a_isKept a_seen a_equations a_wanted r_14.2), (a_now, av_J cy 11 g_now)] H := hP
      have hD : va_D A [(a_trial, av_J cy 11 g_trial), (a_0, mv a_text a_now a_trial a_diary a_kept a_isKept a_seen a_equations a_wanted r_14.2), (a_now, av_J cy 11 g_now)] := hD
      refine lv_istore_n (lv' := [(3, .int (f_X6_many g_now)), (0, .ref a_0), (1, .int x1), (2, .int x2)]) hx hb dX6_keeps_48 rfl hl (by decide) rfl (fun ls hl => ?_)
      refine lv_iconst (v := 0) hx hb dX6_keeps_49 (by decide) ?_
      refine lv_istore (lv' := [(4, .int 0), (3, .int (f_X6_many g_now)), (0, .ref a_0), (1, .int x1), (2, .int x2)]) hx hb dX6_keeps_50 hl (by decide) rfl (fun ls hl => ?_)
      exact bl_52 x1 x2 (f_X6_many g_now) n r_14.2 g_trial 0 _ _ hf (hP.sub (ws' := [(a_0, mv a_text a_now a_trial a_diary a_kept a_isKept a_seen a_equations a_wanted r_14.2), (a_now, av_J cy 11 g_now), (a_trial, av_J cy 11 g_trial)]) [1, 2, 0] rfl) (hD.sub (ws' := [(a_0, mv a_text a_now a_trial a_diary a_kept a_isKept a_seen a_equations a_wanted r_14.2), (a_now, av_J cy 11 g_now), (a_trial, av_J cy 11 g_trial)]) [1, 2, 0] rfl rfl) hS ls (lv_sub hl [2, 3, 4, 1, 0] rfl)
    · have hf := ip_ (bI_n0 h_15) hf
      refine lv_iconst (v := 0) hx hb dX6_keeps_39 (by decide) ?_
      obtain rfl := Option.some.inj hf
      exact kr_i hx hb hr hlocks rfl (hP.sub (ws' := [(a_0, mv a_text a_now a_trial a_diary a_kept a_isKept a_seen a_equations a_wanted r_14.2), (a_now, av_J cy 11 g_now), (a_trial, av_J cy 11 g_trial)]) [2, 1, 0] rfl) hK (hD.sub (ws' := [(a_0, mv a_text a_now a_trial a_diary a_kept a_isKept a_seen a_equations a_wanted r_14.2), (a_now, av_J cy 11 g_now), (a_trial, av_J cy 11 g_trial)]) [2, 1, 0] rfl rfl) hN hS hS.2.2 dX6_keeps_40
set_option maxHeartbeats 4000000 in
set_option maxRecDepth 100000 in
theorem c_X6_command {l : Launch} (G : va_G) (cy : Nat → ClassId) (a_0 : Nat) (a_text : Nat) (a_now : Nat) (a_trial : Nat) (a_diary : Nat) (a_kept : Nat) (a_isKept : Nat) (a_seen : Nat) (a_equations : Nat) (a_wanted : Nat) (sz : Nat) (s_0 : MT) (g_trial : Nat → Int64) (x1 : Int32) (x2 : Int32) (n : Nat) (R : Bool × (Nat → Int64)) (hf : f_X6_command n s_0 g_trial x1 x2 = some R) : Met l yX6_command wsX6_command ({ frames := 8, cells := 0, slots := 0, locals := 188 } : Room) (va_Pc [.ref a_0, .int x1, .int x2] (pcW G cy [(a_0, mv a_text a_now a_trial a_diary a_kept a_isKept a_seen a_equations a_wanted s_0), (a_trial, av_J cy 11 g_trial)] sz)) (va_Qi (fun r (_ : Unit) => r = bI R.1) (fun _ t => Wd G cy (va_A [(a_0, mv a_text a_now a_trial a_diary a_kept a_isKept a_seen a_equations a_wanted s_0), (a_trial, av_J cy 11 g_trial)] sz) [(a_0, mv a_text a_now a_trial a_diary a_kept a_isKept a_seen a_equations a_wanted s_0), (a_trial, av_J cy 11 R.2)] t) (va_A [(a_0, mv a_text a_now a_trial a_diary a_kept a_isKept a_seen a_equations a_wanted s_0), (a_trial, av_J cy 11 g_trial)] sz)) 0 0 (va_A [(a_0, mv a_text a_now a_trial a_diary a_kept a_isKept a_seen a_equations a_wanted s_0), (a_trial, av_J cy 11 g_trial)] sz) := by
  refine Met.ofW (cc := cX6_command) (maxL := 7) (ret := (some .boolean)) (by decide) rfl ?_
  intro p e s m args below meth c s₁ B hml hv
  obtain ⟨rfl, hsz, hP, hK, hD0, hN⟩ := hv
  have hx := B.exec
  have hb := B.bytes
  have hr := B.returns
  have hts := atoms_spec (ws := wsX6_command) B.pre
  have hown : s.vm.findClass RX6 = some m.cls := findClass_of_methodNamed B.named
  have hlocks := B.notSynchronized
  subst hsz
  have hD := hD0.self (sz := s.heap.size)
  generalize hAe : va_A [(a_0, mv a_text a_now a_trial a_diary a_kept a_isKept a_seen a_equations a_wanted s_0), (a_trial, av_J cy 11 g_trial)] s.heap.size = A at hD ⊢
  have hA : ∀ q : Nat, s.heap.size ≤ q → A q := fun q h => by rw [← hAe]; exact Or.inr h
  have hS : va_S A s.heap s.heap [] := va_S.rf
  have hP : va_P G vwCl [(a_0, mv a_text a_now a_trial a_diary a_kept a_isKept a_seen a_equations a_wanted s_0), (a_trial, av_J cy 11 g_trial)] s.heap := hP
  have hl := lv_entry [.ref a_0, .int x1, .int x2] (n := 7) (Nat.le_of_ble_eq_true rfl)
  rw [lg_entry_eq]
  generalize (lg_sl [.ref a_0, .int x1, .int x2] ++ List.replicate (7 - (lg_sl [.ref a_0, .int x1, .int x2]).length) Slot.unset).toArray = ls at hl ⊢
  have hl : lv_has ls 7 [(0, .ref a_0), (1, .int x1), (2, .int x2)] := hl
  unfold f_X6_command at hf
  refine lv_iload_n hx hb dX6_command_0 rfl (lv_at hl 2 rfl) ?_
  refine lv_bipush (v := 10) hx hb dX6_command_1 (by decide) ?_
  refine lv_idiv hx hb dX6_command_3 (by decide) ?_
  refine lv_istore_n (lv' := [(3, .int (x2 / 10)), (0, .ref a_0), (1, .int x1), (2, .int x2)]) hx hb dX6_command_4 rfl hl (by decide) rfl (fun ls hl => ?_)
  refine lv_iload_n hx hb dX6_command_5 rfl (lv_at hl 3 rfl) ?_
  refine lv_bipush (v := 10) hx hb dX6_command_6 (by decide) ?_
  refine lv_irem hx hb dX6_command_8 (by decide) ?_
  refine lv_istore (lv' := [(4, .int (irm x2 10)), (3, .int (x2 / 10)), (0, .ref a_0), (1, .int x1), (2, .int x2)]) hx hb dX6_command_9 hl (by decide) rfl (fun ls hl => ?_)
  refine lv_iload_n hx hb dX6_command_11 rfl (lv_at hl 4 rfl) ?_
  refine lv_bipush (v := 10) hx hb dX6_command_12 (by decide) ?_
  refine lv_idiv hx hb dX6_command_14 (by decide) ?_
  refine lv_bipush (v := 10) hx hb dX6_command_15 (by decide) ?_
  refine lv_irem hx hb dX6_command_17 (by decide) ?_
  refine lv_istore (lv' := [(5, .int (irm (x2 / 10) 10)), (4, .int (irm x2 10)), (3, .int (x2 / 10)), (0, .ref a_0), (1, .int x1), (2, .int x2)]) hx hb dX6_command_18 hl (by decide) rfl (fun ls hl => ?_)
  refine lv_aload_n hx hb dX6_command_20 rfl (lv_at hl 3 rfl) ?_
  refine va_get (D := G) (ci := 6) (v := .ref a_trial) (C := RX6) (T := TX6) (N := 15) hx hb hts iw_X6_command_X6 hown hK hP 0 rfl rfl 4 (by decide) (hts (.fieldLink RX6 17 "PaneFrostModel" "trial" "[J") (by decide +kernel)) (fun _ h9 => h9) rfl dX6_command_21 ?_
  refine lv_iload_n hx hb dX6_command_24 rfl (lv_at hl 2 rfl) ?_
  refine kc_i (w1 := [(a_trial, av_J cy 11 g_trial)]) (wr := [(a_0, mv a_text a_now a_trial a_diary a_kept a_isKept a_seen a_equations a_wanted s_0)]) hP hD hS hA [1] [0] rfl rfl rfl (by decide) (va_runS (As := [.ref a_trial, .int (x2 / 10)]) (rest := []) ⟨hx, hb, hml, hown, hts⟩ (c_X6_isCell (l := l) G cy a_trial s.heap.size g_trial (x2 / 10)  (f_X6_isCell g_trial (x2 / 10)) rfl) (va_cwS 2 hts gX6_command_X6_isCell rfl rfl rfl ddN_X6_isCell ⟨Nat.le_of_ble_eq_true rfl, Nat.le_of_ble_eq_true rfl⟩) (preS_ (hP.sub (ws' := [(a_trial, av_J cy 11 g_trial)]) [1] rfl) hK (hD.sub (ws' := [(a_trial, av_J cy 11 g_trial)]) [1] rfl rfl) hN) rfl rfl hl.1 rfl (lv_room (Nat.le_of_ble_eq_true rfl)) dX6_command_25 ⟨Nat.le_of_ble_eq_true rfl, Nat.le_of_ble_eq_true rfl⟩) (fun H locs hP hD hS => ?_)
  have hP : va_P G vwCl [(a_0, mv a_text a_now a_trial a_diary a_kept a_isKept a_seen a_equations a_wanted s_0), (a_trial, av_J cy 11 g_trial)] H := hP
  have hD : va_D A [(a_0, mv a_text a_now a_trial a_diary a_kept a_isKept a_seen a_equations a_wanted s_0), (a_trial, av_J cy 11 g_trial)] := hD
  refine lv_istore (lv' := [(6, .int (bI (f_X6_isCell g_trial (x2 / 10)))), (5, .int (irm (x2 / 10) 10)), (4, .int (irm x2 10)), (3, .int (x2 / 10)), (0, .ref a_0), (1, .int x1), (2, .int x2)]) hx hb dX6_command_28 hl (by decide) rfl (fun ls hl => ?_)
  refine lv_iload_n hx hb dX6_command_30 rfl (lv_at hl 5 rfl) ?_
  by_cases h_1 : x1 = 1
  · have hf := ip_ h_1 hf
    refine lv_tableIn (tgt := 80) (off := 49) hx hb dX6_command_31 (by show ¬ x1.toInt < 1; rw [h_1]; decide) (by show ¬ 9 < x1.toInt; rw [h_1]; decide) (by show (#[49, 76, 108, 146, 168, 197, 221, 263, 287] : Array Int)[(x1.toInt - 1).toNat]? = some 49; rw [h_1]; rfl) (by decide) ?_
    refine lv_iload hx hb dX6_command_80 (lv_at hl 2 rfl) ?_
    refine lv_if_ne (tgt := 105) hx hb dX6_command_82 (by decide) (fun h_2 => ?_) (fun h_2 => ?_)
    · have hf := in_ h_2 hf
      refine lv_iconst (v := 0) hx hb dX6_command_105 (by decide) ?_
      obtain rfl := Option.some.inj hf
      exact kr_z (V := bI false) hx hb hr hlocks (bI_nar _) rfl hP hK hD hN hS hS.2.2 dX6_command_106
    · have hf := ip_ h_2 hf
      refine lv_iload hx hb dX6_command_85 (lv_at hl 0 rfl) ?_
      refine lv_if_eq (tgt := 105) hx hb dX6_command_87 (by decide) (fun h_3 => ?_) (fun h_3 => ?_)
      · have hf := in_ (bI_0 h_3) hf
        refine lv_iconst (v := 0) hx hb dX6_command_105 (by decide) ?_
        obtain rfl := Option.some.inj hf
        exact kr_z (V := bI false) hx hb hr hlocks (bI_nar _) rfl hP hK hD hN hS hS.2.2 dX6_command_106
      · have hf := ip_ (bI_n0 h_3) hf
        refine lv_aload_n hx hb dX6_command_90 rfl (lv_at hl 4 rfl) ?_
        refine va_get (D := G) (ci := 6) (v := .ref a_trial) (C := RX6) (T := TX6) (N := 15) hx hb hts iw_X6_command_X6 hown hK hP 0 rfl rfl 4 (by decide) (hts (.fieldLink RX6 17 "PaneFrostModel" "trial" "[J") (by decide +kernel)) (fun _ h9 => h9) rfl dX6_command_91 ?_
        refine lv_iload_n hx hb dX6_command_94 rfl (lv_at hl 3 rfl) ?_
        obtain ⟨r_4, hh_r_4⟩ : ∃ z, z = f_X6_flipOn g_trial (x2 / 10) := ⟨_, rfl⟩
        have hf := lt_e hh_r_4 hf
        refine kc_i (w1 := [(a_trial, av_J cy 11 r_4.2)]) (wr := [(a_0, mv a_text a_now a_trial a_diary a_kept a_isKept a_seen a_equations a_wanted s_0)]) hP hD hS hA [1] [0] rfl rfl rfl (by decide) (va_runS (As := [.ref a_trial, .int (x2 / 10)]) (rest := []) ⟨hx, hb, hml, hown, hts⟩ (c_X6_flipOn (l := l) G cy a_trial H.size g_trial (x2 / 10)  r_4 hh_r_4.symm) (va_cwS 2 hts gX6_command_X6_flipOn rfl rfl rfl ddN_X6_flipOn ⟨Nat.le_of_ble_eq_true rfl, Nat.le_of_ble_eq_true rfl⟩) (preS_ (hP.sub (ws' := [(a_trial, av_J cy 11 g_trial)]) [1] rfl) hK (hD.sub (ws' := [(a_trial, av_J cy 11 g_trial)]) [1] rfl rfl) hN) rfl rfl hl.1 rfl (lv_room (Nat.le_of_ble_eq_true rfl)) dX6_command_95 ⟨Nat.le_of_ble_eq_true rfl, Nat.le_of_ble_eq_true rfl⟩) (fun H locs hP hD hS => ?_)
        have hP : va_P G vwCl [(a_0, mv a_text a_now a_trial a_diary a_kept a_isKept a_seen a_equations a_wanted s_0), (a_trial, av_J cy 11 r_4.2)] H := hP
        have hD : va_D A [(a_0, mv a_text a_now a_trial a_diary a_kept a_isKept a_seen a_equations a_wanted s_0), (a_trial, av_J cy 11 r_4.2)] := hD
        refine lv_if_lt (tgt := 105) hx hb dX6_command_98 (by decide) (fun h_5 => ?_) (fun h_5 => ?_)
        · have hf := ip_ h_5 hf
          refine lv_iconst (v := 0) hx hb dX6_command_105 (by decide) ?_
          obtain rfl := Option.some.inj hf
          exact kr_z (V := bI false) hx hb hr hlocks (bI_nar _) rfl hP hK hD hN hS hS.2.2 dX6_command_106
        · have hf := in_ h_5 hf
          refine lv_iconst (v := 1) hx hb dX6_command_101 (by decide) ?_
          refine lv_goto (tgt := 106) hx hb dX6_command_102 (by decide) ?_
          obtain rfl := Option.some.inj hf
          exact kr_z (V := bI true) hx hb hr hlocks (bI_nar _) rfl hP hK hD hN hS hS.2.2 dX6_command_106
  have hf := in_ h_1 hf
  by_cases h_6 : x1 = 2
  · have hf := ip_ h_6 hf
    refine lv_tableIn (tgt := 107) (off := 76) hx hb dX6_command_31 (by show ¬ x1.toInt < 1; rw [h_6]; decide) (by show ¬ 9 < x1.toInt; rw [h_6]; decide) (by show (#[49, 76, 108, 146, 168, 197, 221, 263, 287] : Array Int)[(x1.toInt - 1).toNat]? = some 76; rw [h_6]; rfl) (by decide) ?_
    refine lv_aload_n hx hb dX6_command_107 rfl (lv_at hl 4 rfl) ?_
    refine va_get (D := G) (ci := 6) (v := .ref a_trial) (C := RX6) (T := TX6) (N := 15) hx hb hts iw_X6_command_X6 hown hK hP 0 rfl rfl 4 (by decide) (hts (.fieldLink RX6 17 "PaneFrostModel" "trial" "[J") (by decide +kernel)) (fun _ h9 => h9) rfl dX6_command_108 ?_
    refine lv_iload_n hx hb dX6_command_111 rfl (lv_at hl 3 rfl) ?_
    refine lv_iload hx hb dX6_command_112 (lv_at hl 2 rfl) ?_
    obtain ⟨r_7, hh_r_7, hf⟩ := obd_some hf
    refine kc_i (w1 := [(a_trial, av_J cy 11 g_trial)]) (wr := [(a_0, mv a_text a_now a_trial a_diary a_kept a_isKept a_seen a_equations a_wanted s_0)]) hP hD hS hA [1] [0] rfl rfl rfl (by decide) (va_runS (As := [.ref a_trial, .int (x2 / 10), .int (irm x2 10)]) (rest := []) ⟨hx, hb, hml, hown, hts⟩ (c_X6_canScratch (l := l) G cy a_trial H.size g_trial (x2 / 10) (irm x2 10)  r_7 hh_r_7) (va_cwS 3 hts gX6_command_X6_canScratch rfl rfl rfl ddN_X6_canScratch ⟨Nat.le_of_ble_eq_true rfl, Nat.le_of_ble_eq_true rfl⟩) (preS_ (hP.sub (ws' := [(a_trial, av_J cy 11 g_trial)]) [1] rfl) hK (hD.sub (ws' := [(a_trial, av_J cy 11 g_trial)]) [1] rfl rfl) hN) rfl rfl hl.1 rfl (lv_room (Nat.le_of_ble_eq_true rfl)) dX6_command_114 ⟨Nat.le_of_ble_eq_true rfl, Nat.le_of_ble_eq_true rfl⟩) (fun H locs hP hD hS => ?_)
    have hP : va_P G vwCl [(a_0, mv a_text a_now a_trial a_diary a_kept a_isKept a_seen a_equations a_wanted s_0), (a_trial, av_J cy 11 g_trial)] H := hP
    have hD : va_D A [(a_0, mv a_text a_now a_trial a_diary a_kept a_isKept a_seen a_equations a_wanted s_0), (a_trial, av_J cy 11 g_trial)] := hD
    refine lv_if_eq (tgt := 137) hx hb dX6_command_117 (by decide) (fun h_8 => ?_) (fun h_8 => ?_)
    · have hf := in_ (bI_0 h_8) hf
      refine lv_iconst (v := 0) hx hb dX6_command_137 (by decide) ?_
      obtain rfl := Option.some.inj hf
      exact kr_z (V := bI false) hx hb hr hlocks (bI_nar _) rfl hP hK hD hN hS hS.2.2 dX6_command_138
    · have hf := ip_ (bI_n0 h_8) hf
      refine lv_aload_n hx hb dX6_command_120 rfl (lv_at hl 4 rfl) ?_
      refine va_get (D := G) (ci := 6) (v := .ref a_trial) (C := RX6) (T := TX6) (N := 15) hx hb hts iw_X6_command_X6 hown hK hP 0 rfl rfl 4 (by decide) (hts (.fieldLink RX6 17 "PaneFrostModel" "trial" "[J") (by decide +kernel)) (fun _ h9 => h9) rfl dX6_command_121 ?_
      refine lv_iload_n hx hb dX6_command_124 rfl (lv_at hl 3 rfl) ?_
      refine lv_iload hx hb dX6_command_125 (lv_at hl 2 rfl) ?_
      obtain ⟨r_9, hh_r_9, hf⟩ := obd_some hf
      refine kc_i (w1 := [(a_trial, av_J cy 11 r_9.2)]) (wr := [(a_0, mv a_text a_now a_trial a_diary a_kept a_isKept a_seen a_equations a_wanted s_0)]) hP hD hS hA [1] [0] rfl rfl rfl (by decide) (va_runS (As := [.ref a_trial, .int (x2 / 10), .int (irm x2 10)]) (rest := []) ⟨hx, hb, hml, hown, hts⟩ (c_X6_scratchOn (l := l) G cy a_trial H.size g_trial (x2 / 10) (irm x2 10)  r_9 hh_r_9) (va_cwS 3 hts gX6_command_X6_scratchOn rfl rfl rfl ddN_X6_scratchOn ⟨Nat.le_of_ble_eq_true rfl, Nat.le_of_ble_eq_true rfl⟩) (preS_ (hP.sub (ws' := [(a_trial, av_J cy 11 g_trial)]) [1] rfl) hK (hD.sub (ws' := [(a_trial, av_J cy 11 g_trial)]) [1] rfl rfl) hN) rfl rfl hl.1 rfl (lv_room (Nat.le_of_ble_eq_true rfl)) dX6_command_127 ⟨Nat.le_of_ble_eq_true rfl, Nat.le_of_ble_eq_true rfl⟩) (fun H locs hP hD hS => ?_)
      have hP : va_P G vwCl [(a_0, mv a_text a_now a_trial a_diary a_kept a_isKept a_seen a_equations a_wanted s_0), (a_trial, av_J cy 11 r_9.2)] H := hP
      have hD : va_D A [(a_0, mv a_text a_now a_trial a_diary a_kept a_isKept a_seen a_equations a_wanted s_0), (a_trial, av_J cy 11 r_9.2)] := hD
      refine lv_if_lt (tgt := 137) hx hb dX6_command_130 (by decide) (fun h_10 => ?_) (fun h_10 => ?_)
      · have hf := ip_ h_10 hf
        refine lv_iconst (v := 0) hx hb dX6_command_137 (by decide) ?_
        obtain rfl := Option.some.inj hf
        exact kr_z (V := bI false) hx hb hr hlocks (bI_nar _) rfl hP hK hD hN hS hS.2.2 dX6_command_138
      · have hf := in_ h_10 hf
        refine lv_iconst (v := 1) hx hb dX6_command_133 (by decide) ?_
        refine lv_goto (tgt := 138) hx hb dX6_command_134 (by decide) ?_
        obtain rfl := Option.some.inj hf
        exact kr_z (V := bI true) hx hb hr hlocks (bI_nar _) rfl hP hK hD hN hS hS.2.2 dX6_command_138
  have hf := in_ h_6 hf
  by_cases h_11 : x1 = 3
  · have hf := ip_ h_11 hf
    refine lv_tableIn (tgt := 139) (off := 108) hx hb dX6_command_31 (by show ¬ x1.toInt < 1; rw [h_11]; decide) (by show ¬ 9 < x1.toInt; rw [h_11]; decide) (by show (#[49, 76, 108, 146, 168, 197, 221, 263, 287] : Array Int)[(x1.toInt - 1).toNat]? = some 108; rw [h_11]; rfl) (by decide) ?_
    refine lv_iload_n hx hb dX6_command_139 rfl (lv_at hl 6 rfl) ?_
    refine lv_bipush (v := 100) hx hb dX6_command_140 (by decide) ?_
    refine lv_icmp_ge (tgt := 175) hx hb dX6_command_142 (by decide) (fun h_12 => ?_) (fun h_12 => ?_)
    · have hf := ip_ h_12 hf
      refine lv_iconst (v := 0) hx hb dX6_command_175 (by decide) ?_
      obtain rfl := Option.some.inj hf
      exact kr_z (V := bI false) hx hb hr hlocks (bI_nar _) rfl hP hK hD hN hS hS.2.2 dX6_command_176
    · have hf := in_ h_12 hf
      refine lv_iload hx hb dX6_command_145 (lv_at hl 1 rfl) ?_
      refine lv_iconst (v := 4) hx hb dX6_command_147 (by decide) ?_
      refine lv_icmp_ge (tgt := 175) hx hb dX6_command_148 (by decide) (fun h_13 => ?_) (fun h_13 => ?_)
      · have hf := ip_ h_13 hf
        refine lv_iconst (v := 0) hx hb dX6_command_175 (by decide) ?_
        obtain rfl := Option.some.inj hf
        exact kr_z (V := bI false) hx hb hr hlocks (bI_nar _) rfl hP hK hD hN hS hS.2.2 dX6_command_176
      · have hf := in_ h_13 hf
        refine lv_iload hx hb dX6_command_151 (lv_at hl 2 rfl) ?_
        refine lv_iconst (v := 2) hx hb dX6_command_153 (by decide) ?_
        refine lv_icmp_gt (tgt := 175) hx hb dX6_command_154 (by decide) (fun h_14 => ?_) (fun h_14 => ?_)
        · have hf := ip_ h_14 hf
          refine lv_iconst (v := 0) hx hb dX6_command_175 (by decide) ?_
          obtain rfl := Option.some.inj hf
          exact kr_z (V := bI false) hx hb hr hlocks (bI_nar _) rfl hP hK hD hN hS hS.2.2 dX6_command_176
        · have hf := in_ h_14 hf
          refine lv_aload_n hx hb dX6_command_157 rfl (lv_at hl 4 rfl) ?_
          refine va_get (D := G) (ci := 6) (v := .ref a_trial) (C := RX6) (T := TX6) (N := 15) hx hb hts iw_X6_command_X6 hown hK hP 0 rfl rfl 4 (by decide) (hts (.fieldLink RX6 17 "PaneFrostModel" "trial" "[J") (by decide +kernel)) (fun _ h9 => h9) rfl dX6_command_158 ?_
          refine lv_iload hx hb dX6_command_161 (lv_at hl 1 rfl) ?_
          refine lv_iload hx hb dX6_command_163 (lv_at hl 2 rfl) ?_
          obtain ⟨r_15, hh_r_15, hf⟩ := obd_some hf
          refine kc_i (w1 := [(a_trial, av_J cy 11 r_15.2)]) (wr := [(a_0, mv a_text a_now a_trial a_diary a_kept a_isKept a_seen a_equations a_wanted s_0)]) hP hD hS hA [1] [0] rfl rfl rfl (by decide) (va_runS (As := [.ref a_trial, .int (irm (x2 / 10) 10), .int (irm x2 10)]) (rest := []) ⟨hx, hb, hml, hown, hts⟩ (c_X6_borderOn (l := l) G cy a_trial H.size g_trial (irm (x2 / 10) 10) (irm x2 10)  r_15 hh_r_15) (va_cwS 3 hts gX6_command_X6_borderOn rfl rfl rfl ddN_X6_borderOn ⟨Nat.le_of_ble_eq_true rfl, Nat.le_of_ble_eq_true rfl⟩) (preS_ (hP.sub (ws' := [(a_trial, av_J cy 11 g_trial)]) [1] rfl) hK (hD.sub (ws' := [(a_trial, av_J cy 11 g_trial)]) [1] rfl rfl) hN) rfl rfl hl.1 rfl (lv_room (Nat.le_of_ble_eq_true rfl)) dX6_command_165 ⟨Nat.le_of_ble_eq_true rfl, Nat.le_of_ble_eq_true rfl⟩) (fun H locs hP hD hS => ?_)
          have hP : va_P G vwCl [(a_0, mv a_text a_now a_trial a_diary a_kept a_isKept a_seen a_equations a_wanted s_0), (a_trial, av_J cy 11 r_15.2)] H := hP
          have hD : va_D A [(a_0, mv a_text a_now a_trial a_diary a_kept a_isKept a_seen a_equations a_wanted s_0), (a_trial, av_J cy 11 r_15.2)] := hD
          refine lv_if_lt (tgt := 175) hx hb dX6_command_168 (by decide) (fun h_16 => ?_) (fun h_16 => ?_)
          · have hf := ip_ h_16 hf
            refine lv_iconst (v := 0) hx hb dX6_command_175 (by decide) ?_
            obtain rfl := Option.some.inj hf
            exact kr_z (V := bI false) hx hb hr hlocks (bI_nar _) rfl hP hK hD hN hS hS.2.2 dX6_command_176
          · have hf := in_ h_16 hf
            refine lv_iconst (v := 1) hx hb dX6_command_171 (by decide) ?_
            refine lv_goto (tgt := 176) hx hb dX6_command_172 (by decide) ?_
            obtain rfl := Option.some.inj hf
            exact kr_z (V := bI true) hx hb hr hlocks (bI_nar _) rfl hP hK hD hN hS hS.2.2 dX6_command_176
  have hf := in_ h_11 hf
  by_cases h_17 : x1 = 4
  · have hf := ip_ h_17 hf
    refine lv_tableIn (tgt := 177) (off := 146) hx hb dX6_command_31 (by show ¬ x1.toInt < 1; rw [h_17]; decide) (by show ¬ 9 < x1.toInt; rw [h_17]; decide) (by show (#[49, 76, 108, 146, 168, 197, 221, 263, 287] : Array Int)[(x1.toInt - 1).toNat]? = some 146; rw [h_17]; rfl) (by decide) ?_
    refine lv_iload_n hx hb dX6_command_177 rfl (lv_at hl 6 rfl) ?_
    refine lv_iconst (v := 3) hx hb dX6_command_178 (by decide) ?_
    refine lv_icmp_ge (tgt := 197) hx hb dX6_command_179 (by decide) (fun h_18 => ?_) (fun h_18 => ?_)
    · have hf := ip_ h_18 hf
      refine lv_iconst (v := 0) hx hb dX6_command_197 (by decide) ?_
      obtain rfl := Option.some.inj hf
      exact kr_z (V := bI false) hx hb hr hlocks (bI_nar _) rfl hP hK hD hN hS hS.2.2 dX6_command_198
    · have hf := in_ h_18 hf
      refine lv_aload_n hx hb dX6_command_182 rfl (lv_at hl 4 rfl) ?_
      refine va_get (D := G) (ci := 6) (v := .ref a_trial) (C := RX6) (T := TX6) (N := 15) hx hb hts iw_X6_command_X6 hown hK hP 0 rfl rfl 4 (by decide) (hts (.fieldLink RX6 17 "PaneFrostModel" "trial" "[J") (by decide +kernel)) (fun _ h9 => h9) rfl dX6_command_183 ?_
      refine lv_iload_n hx hb dX6_command_186 rfl (lv_at hl 6 rfl) ?_
      obtain ⟨r_19, hh_r_19⟩ : ∃ z, z = f_X6_ruleOn g_trial x2 := ⟨_, rfl⟩
      have hf := lt_e hh_r_19 hf
      refine kc_i (w1 := [(a_trial, av_J cy 11 r_19.2)]) (wr := [(a_0, mv a_text a_now a_trial a_diary a_kept a_isKept a_seen a_equations a_wanted s_0)]) hP hD hS hA [1] [0] rfl rfl rfl (by decide) (va_runS (As := [.ref a_trial, .int x2]) (rest := []) ⟨hx, hb, hml, hown, hts⟩ (c_X6_ruleOn (l := l) G cy a_trial H.size g_trial x2  r_19 hh_r_19.symm) (va_cwS 2 hts gX6_command_X6_ruleOn rfl rfl rfl ddN_X6_ruleOn ⟨Nat.le_of_ble_eq_true rfl, Nat.le_of_ble_eq_true rfl⟩) (preS_ (hP.sub (ws' := [(a_trial, av_J cy 11 g_trial)]) [1] rfl) hK (hD.sub (ws' := [(a_trial, av_J cy 11 g_trial)]) [1] rfl rfl) hN) rfl rfl hl.1 rfl (lv_room (Nat.le_of_ble_eq_true rfl)) dX6_command_187 ⟨Nat.le_of_ble_eq_true rfl, Nat.le_of_ble_eq_true rfl⟩) (fun H locs hP hD hS => ?_)
      have hP : va_P G vwCl [(a_0, mv a_text a_now a_trial a_diary a_kept a_isKept a_seen a_equations a_wanted s_0), (a_trial, av_J cy 11 r_19.2)] H := hP
      have hD : va_D A [(a_0, mv a_text a_now a_trial a_diary a_kept a_isKept a_seen a_equations a_wanted s_0), (a_trial, av_J cy 11 r_19.2)] := hD
      refine lv_if_lt (tgt := 197) hx hb dX6_command_190 (by decide) (fun h_20 => ?_) (fun h_20 => ?_)
      · have hf := ip_ h_20 hf
        refine lv_iconst (v := 0) hx hb dX6_command_197 (by decide) ?_
        obtain rfl := Option.some.inj hf
        exact kr_z (V := bI false) hx hb hr hlocks (bI_nar _) rfl hP hK hD hN hS hS.2.2 dX6_command_198
      · have hf := in_ h_20 hf
        refine lv_iconst (v := 1) hx hb dX6_command_193 (by decide) ?_
        refine lv_goto (tgt := 198) hx hb dX6_command_194 (by decide) ?_
        obtain rfl := Option.some.inj hf
        exact kr_z (V := bI true) hx hb hr hlocks (bI_nar _) rfl hP hK hD hN hS hS.2.2 dX6_command_198
  have hf := in_ h_17 hf
  by_cases h_21 : x1 = 5
  · have hf := ip_ h_21 hf
    refine lv_tableIn (tgt := 199) (off := 168) hx hb dX6_command_31 (by show ¬ x1.toInt < 1; rw [h_21]; decide) (by show ¬ 9 < x1.toInt; rw [h_21]; decide) (by show (#[49, 76, 108, 146, 168, 197, 221, 263, 287] : Array Int)[(x1.toInt - 1).toNat]? = some 168; rw [h_21]; rfl) (by decide) ?_
    refine lv_iload_n hx hb dX6_command_199 rfl (lv_at hl 6 rfl) ?_
    refine lv_i2l (v := x2.toInt64) hx hb dX6_command_200 rfl ?_
    refine lv_lconst (v := 1) hx hb dX6_command_201 rfl ?_
    refine lv_ldc2 (v := 60) hx hb hown (hts (.constantLong RX6 195 (60)) (by decide +kernel)) dX6_command_202 ?_
    refine kc_i (w1 := []) (wr := [(a_0, mv a_text a_now a_trial a_diary a_kept a_isKept a_seen a_equations a_wanted s_0), (a_trial, av_J cy 11 g_trial)]) hP hD hS hA [] [0, 1] rfl rfl rfl (by decide) (va_runS (As := [.long x2.toInt64, .long 1, .long 60]) (rest := []) ⟨hx, hb, hml, hown, hts⟩ (c_X6_in (l := l) G cy  H.size x2.toInt64 1 60  (f_X6_in x2.toInt64 1 60) rfl) (va_cwS 3 hts gX6_command_X6_in rfl rfl rfl ddN_X6_in ⟨Nat.le_of_ble_eq_true rfl, Nat.le_of_ble_eq_true rfl⟩) (preS_ (hP.sub (ws' := []) [] rfl) hK (hD.sub (ws' := []) [] rfl rfl) hN) rfl rfl hl.1 rfl (lv_room (Nat.le_of_ble_eq_true rfl)) dX6_command_205 ⟨Nat.le_of_ble_eq_true rfl, Nat.le_of_ble_eq_true rfl⟩) (fun H locs hP hD hS => ?_)
    have hP : va_P G vwCl [(a_0, mv a_text a_now a_trial a_diary a_kept a_isKept a_seen a_equations a_wanted s_0), (a_trial, av_J cy 11 g_trial)] H := hP
    have hD : va_D A [(a_0, mv a_text a_now a_trial a_diary a_kept a_isKept a_seen a_equations a_wanted s_0), (a_trial, av_J cy 11 g_trial)] := hD
    refine lv_if_eq (tgt := 226) hx hb dX6_command_208 (by decide) (fun h_22 => ?_) (fun h_22 => ?_)
    · have hf := in_ (bI_0 h_22) hf
      refine lv_iconst (v := 0) hx hb dX6_command_226 (by decide) ?_
      obtain rfl := Option.some.inj hf
      exact kr_z (V := bI false) hx hb hr hlocks (bI_nar _) rfl hP hK hD hN hS hS.2.2 dX6_command_227
    · have hf := ip_ (bI_n0 h_22) hf
      refine lv_aload_n hx hb dX6_command_211 rfl (lv_at hl 4 rfl) ?_
      refine va_get (D := G) (ci := 6) (v := .ref a_trial) (C := RX6) (T := TX6) (N := 15) hx hb hts iw_X6_command_X6 hown hK hP 0 rfl rfl 4 (by decide) (hts (.fieldLink RX6 17 "PaneFrostModel" "trial" "[J") (by decide +kernel)) (fun _ h9 => h9) rfl dX6_command_212 ?_
      refine lv_iload_n hx hb dX6_command_215 rfl (lv_at hl 6 rfl) ?_
      obtain ⟨r_23, hh_r_23, hf⟩ := obd_some hf
      refine kc_i (w1 := [(a_trial, av_J cy 11 r_23.2)]) (wr := [(a_0, mv a_text a_now a_trial a_diary a_kept a_isKept a_seen a_equations a_wanted s_0)]) hP hD hS hA [1] [0] rfl rfl rfl (by decide) (va_runS (As := [.ref a_trial, .int x2]) (rest := []) ⟨hx, hb, hml, hown, hts⟩ (c_X6_nightsOn (l := l) G cy a_trial H.size g_trial x2 n r_23 hh_r_23) (va_cwS 2 hts gX6_command_X6_nightsOn rfl rfl rfl ddN_X6_nightsOn ⟨Nat.le_of_ble_eq_true rfl, Nat.le_of_ble_eq_true rfl⟩) (preS_ (hP.sub (ws' := [(a_trial, av_J cy 11 g_trial)]) [1] rfl) hK (hD.sub (ws' := [(a_trial, av_J cy 11 g_trial)]) [1] rfl rfl) hN) rfl rfl hl.1 rfl (lv_room (Nat.le_of_ble_eq_true rfl)) dX6_command_216 ⟨Nat.le_of_ble_eq_true rfl, Nat.le_of_ble_eq_true rfl⟩) (fun H locs hP hD hS => ?_)
      have hP : va_P G vwCl [(a_0, mv a_text a_now a_trial a_diary a_kept a_isKept a_seen a_equations a_wanted s_0), (a_trial, av_J cy 11 r_23.2)] H := hP
      have hD : va_D A [(a_0, mv a_text a_now a_trial a_diary a_kept a_isKept a_seen a_equations a_wanted s_0), (a_trial, av_J cy 11 r_23.2)] := hD
      refine lv_if_lt (tgt := 226) hx hb dX6_command_219 (by decide) (fun h_24 => ?_) (fun h_24 => ?_)
      · have hf := ip_ h_24 hf
        refine lv_iconst (v := 0) hx hb dX6_command_226 (by decide) ?_
        obtain rfl := Option.some.inj hf
        exact kr_z (V := bI false) hx hb hr hlocks (bI_nar _) rfl hP hK hD hN hS hS.2.2 dX6_command_227
      · have hf := in_ h_24 hf
        refine lv_iconst (v := 1) hx hb dX6_command_222 (by decide) ?_
        refine lv_goto (tgt := 227) hx hb dX6_command_223 (by decide) ?_
        obtain rfl := Option.some.inj hf
        exact kr_z (V := bI true) hx hb hr hlocks (bI_nar _) rfl hP hK hD hN hS hS.2.2 dX6_command_227
  have hf := in_ h_21 hf
  by_cases h_25 : x1 = 6
  · have hf := ip_ h_25 hf
    refine lv_tableIn (tgt := 228) (off := 197) hx hb dX6_command_31 (by show ¬ x1.toInt < 1; rw [h_25]; decide) (by show ¬ 9 < x1.toInt; rw [h_25]; decide) (by show (#[49, 76, 108, 146, 168, 197, 221, 263, 287] : Array Int)[(x1.toInt - 1).toNat]? = some 197; rw [h_25]; rfl) (by decide) ?_
    refine lv_iload hx hb dX6_command_228 (lv_at hl 0 rfl) ?_
    refine lv_if_eq (tgt := 250) hx hb dX6_command_230 (by decide) (fun h_26 => ?_) (fun h_26 => ?_)
    · have hf := in_ (bI_0 h_26) hf
      refine lv_iconst (v := 0) hx hb dX6_command_250 (by decide) ?_
      obtain rfl := Option.some.inj hf
      exact kr_z (V := bI false) hx hb hr hlocks (bI_nar _) rfl hP hK hD hN hS hS.2.2 dX6_command_251
    · have hf := ip_ (bI_n0 h_26) hf
      refine lv_aload_n hx hb dX6_command_233 rfl (lv_at hl 4 rfl) ?_
      refine va_get (D := G) (ci := 6) (v := .ref a_trial) (C := RX6) (T := TX6) (N := 15) hx hb hts iw_X6_command_X6 hown hK hP 0 rfl rfl 4 (by decide) (hts (.fieldLink RX6 17 "PaneFrostModel" "trial" "[J") (by decide +kernel)) (fun _ h9 => h9) rfl dX6_command_234 ?_
      refine lv_iload_n hx hb dX6_command_237 rfl (lv_at hl 3 rfl) ?_
      refine lv_iload hx hb dX6_command_238 (lv_at hl 2 rfl) ?_
      obtain ⟨r_27, hh_r_27, hf⟩ := obd_some hf
      refine kc_i (w1 := [(a_trial, av_J cy 11 r_27.2)]) (wr := [(a_0, mv a_text a_now a_trial a_diary a_kept a_isKept a_seen a_equations a_wanted s_0)]) hP hD hS hA [1] [0] rfl rfl rfl (by decide) (va_runS (As := [.ref a_trial, .int (x2 / 10), .int (irm x2 10)]) (rest := []) ⟨hx, hb, hml, hown, hts⟩ (c_X6_breatheOn (l := l) G cy a_trial H.size g_trial (x2 / 10) (irm x2 10) n r_27 hh_r_27) (va_cwS 3 hts gX6_command_X6_breatheOn rfl rfl rfl ddN_X6_breatheOn ⟨Nat.le_of_ble_eq_true rfl, Nat.le_of_ble_eq_true rfl⟩) (preS_ (hP.sub (ws' := [(a_trial, av_J cy 11 g_trial)]) [1] rfl) hK (hD.sub (ws' := [(a_trial, av_J cy 11 g_trial)]) [1] rfl rfl) hN) rfl rfl hl.1 rfl (lv_room (Nat.le_of_ble_eq_true rfl)) dX6_command_240 ⟨Nat.le_of_ble_eq_true rfl, Nat.le_of_ble_eq_true rfl⟩) (fun H locs hP hD hS => ?_)
      have hP : va_P G vwCl [(a_0, mv a_text a_now a_trial a_diary a_kept a_isKept a_seen a_equations a_wanted s_0), (a_trial, av_J cy 11 r_27.2)] H := hP
      have hD : va_D A [(a_0, mv a_text a_now a_trial a_diary a_kept a_isKept a_seen a_equations a_wanted s_0), (a_trial, av_J cy 11 r_27.2)] := hD
      refine lv_if_lt (tgt := 250) hx hb dX6_command_243 (by decide) (fun h_28 => ?_) (fun h_28 => ?_)
      · have hf := ip_ h_28 hf
        refine lv_iconst (v := 0) hx hb dX6_command_250 (by decide) ?_
        obtain rfl := Option.some.inj hf
        exact kr_z (V := bI false) hx hb hr hlocks (bI_nar _) rfl hP hK hD hN hS hS.2.2 dX6_command_251
      · have hf := in_ h_28 hf
        refine lv_iconst (v := 1) hx hb dX6_command_246 (by decide) ?_
        refine lv_goto (tgt := 251) hx hb dX6_command_247 (by decide) ?_
        obtain rfl := Option.some.inj hf
        exact kr_z (V := bI true) hx hb hr hlocks (bI_nar _) rfl hP hK hD hN hS hS.2.2 dX6_command_251
  have hf := in_ h_25 hf
  by_cases h_29 : x1 = 7
  · have hf := ip_ h_29 hf
    refine lv_tableIn (tgt := 252) (off := 221) hx hb dX6_command_31 (by show ¬ x1.toInt < 1; rw [h_29]; decide) (by show ¬ 9 < x1.toInt; rw [h_29]; decide) (by show (#[49, 76, 108, 146, 168, 197, 221, 263, 287] : Array Int)[(x1.toInt - 1).toNat]? = some 221; rw [h_29]; rfl) (by decide) ?_
    refine lv_iload hx hb dX6_command_252 (lv_at hl 0 rfl) ?_
    refine lv_if_eq (tgt := 292) hx hb dX6_command_254 (by decide) (fun h_30 => ?_) (fun h_30 => ?_)
    · have hf := in_ (bI_0 h_30) hf
      refine lv_iconst (v := 0) hx hb dX6_command_292 (by decide) ?_
      obtain rfl := Option.some.inj hf
      exact kr_z (V := bI false) hx hb hr hlocks (bI_nar _) rfl hP hK hD hN hS hS.2.2 dX6_command_293
    · have hf := ip_ (bI_n0 h_30) hf
      refine lv_iload hx hb dX6_command_257 (lv_at hl 2 rfl) ?_
      refine lv_iconst (v := 2) hx hb dX6_command_259 (by decide) ?_
      refine lv_icmp_ge (tgt := 292) hx hb dX6_command_260 (by decide) (fun h_31 => ?_) (fun h_31 => ?_)
      · have hf := ip_ h_31 hf
        refine lv_iconst (v := 0) hx hb dX6_command_292 (by decide) ?_
        obtain rfl := Option.some.inj hf
        exact kr_z (V := bI false) hx hb hr hlocks (bI_nar _) rfl hP hK hD hN hS hS.2.2 dX6_command_293
      · have hf := in_ h_31 hf
        refine lv_aload_n hx hb dX6_command_263 rfl (lv_at hl 4 rfl) ?_
        refine va_get (D := G) (ci := 6) (v := .ref a_trial) (C := RX6) (T := TX6) (N := 15) hx hb hts iw_X6_command_X6 hown hK hP 0 rfl rfl 4 (by decide) (hts (.fieldLink RX6 17 "PaneFrostModel" "trial" "[J") (by decide +kernel)) (fun _ h9 => h9) rfl dX6_command_264 ?_
        refine lv_bipush (v := 8) hx hb dX6_command_267 (by decide) ?_
        refine vz_lald tn_8 hx hb hK hP 1 2 rfl rfl vn_8_11 dX6_command_269 ?_
        refine lv_iload_n hx hb dX6_command_270 rfl (lv_at hl 3 rfl) ?_
        refine kc_i (w1 := []) (wr := [(a_0, mv a_text a_now a_trial a_diary a_kept a_isKept a_seen a_equations a_wanted s_0), (a_trial, av_J cy 11 g_trial)]) hP hD hS hA [] [0, 1] rfl rfl rfl (by decide) (va_runS (As := [.long (g_trial 8), .int (x2 / 10)]) (rest := []) ⟨hx, hb, hml, hown, hts⟩ (c_X6_has (l := l) G cy  H.size (g_trial 8) (x2 / 10)  (f_X6_has (g_trial 8) (x2 / 10)) rfl) (va_cwS 2 hts gX6_command_X6_has rfl rfl rfl ddN_X6_has ⟨Nat.le_of_ble_eq_true rfl, Nat.le_of_ble_eq_true rfl⟩) (preS_ (hP.sub (ws' := []) [] rfl) hK (hD.sub (ws' := []) [] rfl rfl) hN) rfl rfl hl.1 rfl (lv_room (Nat.le_of_ble_eq_true rfl)) dX6_command_271 ⟨Nat.le_of_ble_eq_true rfl, Nat.le_of_ble_eq_true rfl⟩) (fun H locs hP hD hS => ?_)
        have hP : va_P G vwCl [(a_0, mv a_text a_now a_trial a_diary a_kept a_isKept a_seen a_equations a_wanted s_0), (a_trial, av_J cy 11 g_trial)] H := hP
        have hD : va_D A [(a_0, mv a_text a_now a_trial a_diary a_kept a_isKept a_seen a_equations a_wanted s_0), (a_trial, av_J cy 11 g_trial)] := hD
        refine lv_iload hx hb dX6_command_274 (lv_at hl 2 rfl) ?_
        refine lv_iconst (v := 1) hx hb dX6_command_276 (by decide) ?_
        refine lv_icmp_ne (tgt := 284) hx hb dX6_command_277 (by decide) (fun h_32 => ?_) (fun h_32 => ?_)
        · have hf := in_ h_32 hf
          refine lv_iconst (v := 0) hx hb dX6_command_284 (by decide) ?_
          refine lv_icmp_ne (tgt := 292) hx hb dX6_command_285 (by decide) (fun h_33 => ?_) (fun h_33 => ?_)
          · have hf := in_ h_33 hf
            refine lv_iconst (v := 0) hx hb dX6_command_292 (by decide) ?_
            obtain rfl := Option.some.inj hf
            exact kr_z (V := bI false) hx hb hr hlocks (bI_nar _) rfl hP hK hD hN hS hS.2.2 dX6_command_293
          · have hf := ip_ h_33 hf
            refine lv_iconst (v := 1) hx hb dX6_command_288 (by decide) ?_
            refine lv_goto (tgt := 293) hx hb dX6_command_289 (by decide) ?_
            obtain rfl := Option.some.inj hf
            exact kr_z (V := bI true) hx hb hr hlocks (bI_nar _) rfl hP hK hD hN hS hS.2.2 dX6_command_293
        · have hf := ip_ h_32 hf
          refine lv_iconst (v := 1) hx hb dX6_command_280 (by decide) ?_
          refine lv_goto (tgt := 285) hx hb dX6_command_281 (by decide) ?_
          refine lv_icmp_ne (tgt := 292) hx hb dX6_command_285 (by decide) (fun h_34 => ?_) (fun h_34 => ?_)
          · have hf := in_ h_34 hf
            refine lv_iconst (v := 0) hx hb dX6_command_292 (by decide) ?_
            obtain rfl := Option.some.inj hf
            exact kr_z (V := bI false) hx hb hr hlocks (bI_nar _) rfl hP hK hD hN hS hS.2.2 dX6_command_293
          · have hf := ip_ h_34 hf
            refine lv_iconst (v := 1) hx hb dX6_command_288 (by decide) ?_
            refine lv_goto (tgt := 293) hx hb dX6_command_289 (by decide) ?_
            obtain rfl := Option.some.inj hf
            exact kr_z (V := bI true) hx hb hr hlocks (bI_nar _) rfl hP hK hD hN hS hS.2.2 dX6_command_293
  have hf := in_ h_29 hf
  by_cases h_35 : x1 = 8
  · have hf := ip_ h_35 hf
    refine lv_tableIn (tgt := 294) (off := 263) hx hb dX6_command_31 (by show ¬ x1.toInt < 1; rw [h_35]; decide) (by show ¬ 9 < x1.toInt; rw [h_35]; decide) (by show (#[49, 76, 108, 146, 168, 197, 221, 263, 287] : Array Int)[(x1.toInt - 1).toNat]? = some 263; rw [h_35]; rfl) (by decide) ?_
    refine lv_iload hx hb dX6_command_294 (lv_at hl 0 rfl) ?_
    refine lv_if_eq (tgt := 316) hx hb dX6_command_296 (by decide) (fun h_36 => ?_) (fun h_36 => ?_)
    · have hf := in_ (bI_0 h_36) hf
      refine lv_iconst (v := 0) hx hb dX6_command_316 (by decide) ?_
      obtain rfl := Option.some.inj hf
      exact kr_z (V := bI false) hx hb hr hlocks (bI_nar _) rfl hP hK hD hN hS hS.2.2 dX6_command_317
    · have hf := ip_ (bI_n0 h_36) hf
      refine lv_aload_n hx hb dX6_command_299 rfl (lv_at hl 4 rfl) ?_
      refine va_get (D := G) (ci := 6) (v := .ref a_trial) (C := RX6) (T := TX6) (N := 15) hx hb hts iw_X6_command_X6 hown hK hP 0 rfl rfl 4 (by decide) (hts (.fieldLink RX6 17 "PaneFrostModel" "trial" "[J") (by decide +kernel)) (fun _ h9 => h9) rfl dX6_command_300 ?_
      refine lv_iload_n hx hb dX6_command_303 rfl (lv_at hl 3 rfl) ?_
      obtain ⟨r_37, hh_r_37, hf⟩ := obd_some hf
      refine kc_i (w1 := [(a_trial, av_J cy 11 g_trial)]) (wr := [(a_0, mv a_text a_now a_trial a_diary a_kept a_isKept a_seen a_equations a_wanted s_0)]) hP hD hS hA [1] [0] rfl rfl rfl (by decide) (va_runS (As := [.ref a_trial, .int (x2 / 10)]) (rest := []) ⟨hx, hb, hml, hown, hts⟩ (c_X6_cold (l := l) G cy a_trial H.size g_trial (x2 / 10) n r_37 hh_r_37) (va_cwS 2 hts gX6_command_X6_cold rfl rfl rfl ddN_X6_cold ⟨Nat.le_of_ble_eq_true rfl, Nat.le_of_ble_eq_true rfl⟩) (preS_ (hP.sub (ws' := [(a_trial, av_J cy 11 g_trial)]) [1] rfl) hK (hD.sub (ws' := [(a_trial, av_J cy 11 g_trial)]) [1] rfl rfl) hN) rfl rfl hl.1 rfl (lv_room (Nat.le_of_ble_eq_true rfl)) dX6_command_304 ⟨Nat.le_of_ble_eq_true rfl, Nat.le_of_ble_eq_true rfl⟩) (fun H locs hP hD hS => ?_)
      have hP : va_P G vwCl [(a_0, mv a_text a_now a_trial a_diary a_kept a_isKept a_seen a_equations a_wanted s_0), (a_trial, av_J cy 11 g_trial)] H := hP
      have hD : va_D A [(a_0, mv a_text a_now a_trial a_diary a_kept a_isKept a_seen a_equations a_wanted s_0), (a_trial, av_J cy 11 g_trial)] := hD
      refine lv_iload hx hb dX6_command_307 (lv_at hl 2 rfl) ?_
      refine lv_icmp_ne (tgt := 316) hx hb dX6_command_309 (by decide) (fun h_38 => ?_) (fun h_38 => ?_)
      · have hf := in_ h_38 hf
        refine lv_iconst (v := 0) hx hb dX6_command_316 (by decide) ?_
        obtain rfl := Option.some.inj hf
        exact kr_z (V := bI false) hx hb hr hlocks (bI_nar _) rfl hP hK hD hN hS hS.2.2 dX6_command_317
      · have hf := ip_ h_38 hf
        refine lv_iconst (v := 1) hx hb dX6_command_312 (by decide) ?_
        refine lv_goto (tgt := 317) hx hb dX6_command_313 (by decide) ?_
        obtain rfl := Option.some.inj hf
        exact kr_z (V := bI true) hx hb hr hlocks (bI_nar _) rfl hP hK hD hN hS hS.2.2 dX6_command_317
  have hf := in_ h_35 hf
  by_cases h_39 : x1 = 9
  · have hf := ip_ h_39 hf
    refine lv_tableIn (tgt := 318) (off := 287) hx hb dX6_command_31 (by show ¬ x1.toInt < 1; rw [h_39]; decide) (by show ¬ 9 < x1.toInt; rw [h_39]; decide) (by show (#[49, 76, 108, 146, 168, 197, 221, 263, 287] : Array Int)[(x1.toInt - 1).toNat]? = some 287; rw [h_39]; rfl) (by decide) ?_
    refine lv_iload_n hx hb dX6_command_318 rfl (lv_at hl 6 rfl) ?_
    refine lv_bipush (v := 100) hx hb dX6_command_319 (by decide) ?_
    refine lv_icmp_ge (tgt := 342) hx hb dX6_command_321 (by decide) (fun h_40 => ?_) (fun h_40 => ?_)
    · have hf := ip_ h_40 hf
      refine lv_iconst (v := 0) hx hb dX6_command_342 (by decide) ?_
      obtain rfl := Option.some.inj hf
      exact kr_z (V := bI false) hx hb hr hlocks (bI_nar _) rfl hP hK hD hN hS hS.2.2 dX6_command_343
    · have hf := in_ h_40 hf
      refine lv_aload_n hx hb dX6_command_324 rfl (lv_at hl 4 rfl) ?_
      refine va_get (D := G) (ci := 6) (v := .ref a_trial) (C := RX6) (T := TX6) (N := 15) hx hb hts iw_X6_command_X6 hown hK hP 0 rfl rfl 4 (by decide) (hts (.fieldLink RX6 17 "PaneFrostModel" "trial" "[J") (by decide +kernel)) (fun _ h9 => h9) rfl dX6_command_325 ?_
      refine lv_bipush (v := 8) hx hb dX6_command_328 (by decide) ?_
      refine vz_lald tn_8 hx hb hK hP 1 2 rfl rfl vn_8_11 dX6_command_330 ?_
      obtain ⟨r_41, hh_r_41, hf⟩ := obd_some hf
      refine kc_i (w1 := []) (wr := [(a_0, mv a_text a_now a_trial a_diary a_kept a_isKept a_seen a_equations a_wanted s_0), (a_trial, av_J cy 11 g_trial)]) hP hD hS hA [] [0, 1] rfl rfl rfl (by decide) (va_runS (As := [.long (g_trial 8)]) (rest := []) ⟨hx, hb, hml, hown, hts⟩ (c_X6_bits (l := l) G cy  H.size (g_trial 8) n r_41 hh_r_41) (va_cwS 1 hts gX6_command_X6_bits rfl rfl rfl ddN_X6_bits ⟨Nat.le_of_ble_eq_true rfl, Nat.le_of_ble_eq_true rfl⟩) (preS_ (hP.sub (ws' := []) [] rfl) hK (hD.sub (ws' := []) [] rfl rfl) hN) rfl rfl hl.1 rfl (lv_room (Nat.le_of_ble_eq_true rfl)) dX6_command_331 ⟨Nat.le_of_ble_eq_true rfl, Nat.le_of_ble_eq_true rfl⟩) (fun H locs hP hD hS => ?_)
      have hP : va_P G vwCl [(a_0, mv a_text a_now a_trial a_diary a_kept a_isKept a_seen a_equations a_wanted s_0), (a_trial, av_J cy 11 g_trial)] H := hP
      have hD : va_D A [(a_0, mv a_text a_now a_trial a_diary a_kept a_isKept a_seen a_equations a_wanted s_0), (a_trial, av_J cy 11 g_trial)] := hD
      refine lv_iload_n hx hb dX6_command_334 rfl (lv_at hl 6 rfl) ?_
      refine lv_icmp_lt (tgt := 342) hx hb dX6_command_335 (by decide) (fun h_42 => ?_) (fun h_42 => ?_)
      · have hf := ip_ h_42 hf
        refine lv_iconst (v := 0) hx hb dX6_command_342 (by decide) ?_
        obtain rfl := Option.some.inj hf
        exact kr_z (V := bI false) hx hb hr hlocks (bI_nar _) rfl hP hK hD hN hS hS.2.2 dX6_command_343
      · have hf := in_ h_42 hf
        refine lv_iconst (v := 1) hx hb dX6_command_338 (by decide) ?_
        refine lv_goto (tgt := 343) hx hb dX6_command_339 (by decide) ?_
        obtain rfl := Option.some.inj hf
        exact kr_z (V := bI true) hx hb hr hlocks (bI_nar _) rfl hP hK hD hN hS hS.2.2 dX6_command_343
  have hf := in_ h_39 hf
  have th_1 : ¬ x1.toInt = 1 := fun q => h_1 (Int32.toInt_inj.mp (q.trans (by decide)))
  have th_6 : ¬ x1.toInt = 2 := fun q => h_6 (Int32.toInt_inj.mp (q.trans (by decide)))
  have th_11 : ¬ x1.toInt = 3 := fun q => h_11 (Int32.toInt_inj.mp (q.trans (by decide)))
  have th_17 : ¬ x1.toInt = 4 := fun q => h_17 (Int32.toInt_inj.mp (q.trans (by decide)))
  have th_21 : ¬ x1.toInt = 5 := fun q => h_21 (Int32.toInt_inj.mp (q.trans (by decide)))
  have th_25 : ¬ x1.toInt = 6 := fun q => h_25 (Int32.toInt_inj.mp (q.trans (by decide)))
  have th_29 : ¬ x1.toInt = 7 := fun q => h_29 (Int32.toInt_inj.mp (q.trans (by decide)))
  have th_35 : ¬ x1.toInt = 8 := fun q => h_35 (Int32.toInt_inj.mp (q.trans (by decide)))
  have th_39 : ¬ x1.toInt = 9 := fun q => h_39 (Int32.toInt_inj.mp (q.trans (by decide)))
  have hdf : (x1.toInt < 1 ∨ 9 < x1.toInt) := by omega
  refine lv_tableOut (tgt := 344) hx hb dX6_command_31 hdf (by decide) ?_
  refine lv_iconst (v := 0) hx hb dX6_command_344 (by decide) ?_
  obtain rfl := Option.some.inj hf
  exact kr_z (V := bI false) hx hb hr hlocks (bI_nar _) rfl hP hK hD hN hS hS.2.2 dX6_command_345
set_option maxHeartbeats 4000000 in
set_option maxRecDepth 100000 in
theorem c_X6_runScript {l : Launch} (G : va_G) (cy : Nat → ClassId) (a_0 : Nat) (a_text : Nat) (a_now : Nat) (a_trial : Nat) (a_diary : Nat) (a_kept : Nat) (a_isKept : Nat) (a_seen : Nat) (a_equations : Nat) (a_wanted : Nat) (sz : Nat) (s_0 : MT) (g_now : Nat → Int64) (g_trial : Nat → Int64) (x1 : Int32) (x2 : Int64) (n : Nat) (R : Int32 × MT × (Nat → Int64)) (hf : f_X6_runScript n s_0 g_now g_trial x1 x2 = some R) : Met l yX6_runScript wsX6_runScript ({ frames := 9, cells := 0, slots := 0, locals := 214 } : Room) (va_Pc [.ref a_0, .int x1, .long x2] (pcW G cy [(a_0, mv a_text a_now a_trial a_diary a_kept a_isKept a_seen a_equations a_wanted s_0), (a_now, av_J cy 11 g_now), (a_trial, av_J cy 11 g_trial)] sz)) (va_Qi (fun r (_ : Unit) => r = R.1) (fun _ t => Wd G cy (va_A [(a_0, mv a_text a_now a_trial a_diary a_kept a_isKept a_seen a_equations a_wanted s_0), (a_now, av_J cy 11 g_now), (a_trial, av_J cy 11 g_trial)] sz) [(a_0, mv a_text a_now a_trial a_diary a_kept a_isKept a_seen a_equations a_wanted R.2.1), (a_now, av_J cy 11 g_now), (a_trial, av_J cy 11 R.2.2)] t) (va_A [(a_0, mv a_text a_now a_trial a_diary a_kept a_isKept a_seen a_equations a_wanted s_0), (a_now, av_J cy 11 g_now), (a_trial, av_J cy 11 g_trial)] sz)) 0 0 (va_A [(a_0, mv a_text a_now a_trial a_diary a_kept a_isKept a_seen a_equations a_wanted s_0), (a_now, av_J cy 11 g_now), (a_trial, av_J cy 11 g_trial)] sz) := by
  refine Met.ofW (cc := cX6_runScript) (maxL := 8) (ret := (some .int)) (by decide) rfl ?_
  intro p e s m args below meth c s₁ B hml hv
  obtain ⟨rfl, hsz, hP, hK, hD0, hN⟩ := hv
  have hx := B.exec
  have hb := B.bytes
  have hr := B.returns
  have hts := atoms_spec (ws := wsX6_runScript) B.pre
  have hown : s.vm.findClass RX6 = some m.cls := findClass_of_methodNamed B.named
  have hlocks := B.notSynchronized
  subst hsz
  have hD := hD0.self (sz := s.heap.size)
  generalize hAe : va_A [(a_0, mv a_text a_now a_trial a_diary a_kept a_isKept a_seen a_equations a_wanted s_0), (a_now, av_J cy 11 g_now), (a_trial, av_J cy 11 g_trial)] s.heap.size = A at hD ⊢
  have hA : ∀ q : Nat, s.heap.size ≤ q → A q := fun q h => by rw [← hAe]; exact Or.inr h
  have hS : va_S A s.heap s.heap [] := va_S.rf
  have hP : va_P G vwCl [(a_0, mv a_text a_now a_trial a_diary a_kept a_isKept a_seen a_equations a_wanted s_0), (a_now, av_J cy 11 g_now), (a_trial, av_J cy 11 g_trial)] s.heap := hP
  have bl_86 : ∀ (y1 : Int32), ∀ (y2 : Int64), ∀ (k : Nat), ∀ (c_s_0 : MT) (c_g_trial : Nat → Int64) (y4 : Int64) (y6 : Int32) (H : Heap) (locs : List Loc), f_X6_runScript_b86 n g_now y1 y2 k c_s_0 c_g_trial y4 y6 = some R → va_P G vwCl [(a_0, mv a_text a_now a_trial a_diary a_kept a_isKept a_seen a_equations a_wanted c_s_0), (a_now, av_J cy 11 g_now), (a_trial, av_J cy 11 c_g_trial)] H → va_D A [(a_0, mv a_text a_now a_trial a_diary a_kept a_isKept a_seen a_equations a_wanted c_s_0), (a_now, av_J cy 11 g_now), (a_trial, av_J cy 11 c_g_trial)] → va_S A s.heap H locs → ∀ (ls : Array Slot), lv_has ls 8 [(0, .ref a_0), (1, .int y1), (2, .long y2), (4, .long y4), (6, .int y6)] → W p l e ({ frames := 9, cells := 0, slots := 0, locals := 214 } : Room) s m [.ref a_0, .int x1, .long x2].toArray below meth c H locs 0 0 (MQ below (va_Qi (fun r (_ : Unit) => r = R.1) (fun _ t => Wd G cy A [(a_0, mv a_text a_now a_trial a_diary a_kept a_isKept a_seen a_equations a_wanted R.2.1), (a_now, av_J cy 11 g_now), (a_trial, av_J cy 11 R.2.2)] t) A) [.ref a_0, .int x1, .long x2].toArray s 0 0 A) (F0 m 86 ls []) := by
    intro y1
    intro y2
    intro k
    induction k with
    | zero =>
      intro c_s_0 c_g_trial y4 y6 H locs hf; cases hf
    | succ k ih =>
      intro c_s_0 c_g_trial y4 y6 H locs hf hP hD hS ls hl
      have hf := (f_X6_runScript_b86_s n g_now y1 y2 k c_s_0 c_g_trial y4 y6).symm.trans hf
      refine lv_iload hx hb dX6_runScript_86 (lv_at hl 4 rfl) ?_
      refine lv_iload_n hx hb dX6_runScript_88 rfl (lv_at hl 1 rfl) ?_
      refine lv_icmp_ge (tgt := 139) hx hb dX6_runScript_89 (by decide) (fun h_1 => ?_) (fun h_1 => ?_)
      · have hf := ip_ h_1 hf
        refine lv_iconst (v := (-1)) hx hb dX6_runScript_139 (by decide) ?_
        obtain rfl := Option.some.inj hf
        exact kr_i hx hb hr hlocks rfl hP hK hD hN hS hS.2.2 dX6_runScript_140
      · have hf := in_ h_1 hf
        refine lv_lload hx hb dX6_runScript_92 (lv_at hl 3 rfl) ?_
        refine lv_ldc2 (v := 10000) hx hb hown (hts (.constantLong RX6 214 (10000)) (by decide +kernel)) dX6_runScript_94 ?_
        refine lv_ldiv hx hb dX6_runScript_97 (by decide) ?_
        refine lv_lstore (lv' := [(4, .long (y4 / 10000)), (0, .ref a_0), (1, .int y1), (2, .long y2), (6, .int y6)]) hx hb dX6_runScript_98 hl (by decide) rfl (fun ls hl => ?_)
        refine lv_lload_n hx hb dX6_runScript_100 rfl (lv_at hl 3 rfl) ?_
        refine lv_lload hx hb dX6_runScript_101 (lv_at hl 0 rfl) ?_
        by_cases q_2 : (y4 / 10000) = 0
        · have hf := ip_ q_2 hf; cases hf
        have hf := in_ q_2 hf
        refine lv_ldiv hx hb dX6_runScript_103 q_2 ?_
        refine lv_ldc2 (v := 10000) hx hb hown (hts (.constantLong RX6 214 (10000)) (by decide +kernel)) dX6_runScript_104 ?_
        refine lv_lrem hx hb dX6_runScript_107 (by decide) ?_
        refine lv_l2i (v := (lrm (y2 / (y4 / 10000)) 10000).toInt32) hx hb dX6_runScript_108 rfl ?_
        refine lv_istore (lv' := [(7, .int ((lrm (y2 / (y4 / 10000)) 10000).toInt32)), (4, .long (y4 / 10000)), (0, .ref a_0), (1, .int y1), (2, .long y2), (6, .int y6)]) hx hb dX6_runScript_109 hl (by decide) rfl (fun ls hl => ?_)
        refine lv_aload_n hx hb dX6_runScript_111 rfl (lv_at hl 2 rfl) ?_
        refine lv_iload hx hb dX6_runScript_112 (lv_at hl 0 rfl) ?_
        refine lv_sipush (v := 1000) hx hb dX6_runScript_114 (by decide) ?_
        refine lv_idiv hx hb dX6_runScript_117 (by decide) ?_
        refine lv_iload hx hb dX6_runScript_118 (lv_at hl 0 rfl) ?_
        refine lv_sipush (v := 1000) hx hb dX6_runScript_120 (by decide) ?_
        refine lv_irem hx hb dX6_runScript_123 (by decide) ?_
        obtain ⟨r_3, hh_r_3, hf⟩ := obd_some hf
        refine kc_i (w1 := [(a_0, mv a_text a_now a_trial a_diary a_kept a_isKept a_seen a_equations a_wanted c_s_0), (a_trial, av_J cy 11 r_3.2)]) (wr := [(a_now, av_J cy 11 g_now)]) hP hD hS hA [0, 2] [1] rfl rfl rfl (by decide) (va_runV (As := [.int ((lrm (y2 / (y4 / 10000)) 10000).toInt32 / 1000), .int (irm ((lrm (y2 / (y4 / 10000)) 10000).toInt32) 1000)]) (rest := []) ⟨hx, hb, hml, hown, hts⟩ (c_X6_command (l := l) G cy a_0 a_text a_now a_trial a_diary a_kept a_isKept a_seen a_equations a_wanted H.size c_s_0 c_g_trial ((lrm (y2 / (y4 / 10000)) 10000).toInt32 / 1000) (irm ((lrm (y2 / (y4 / 10000)) 10000).toInt32) 1000) n r_3 hh_r_3) (cwV 2 hts gX6_runScript_X6_command rfl rfl rfl ddV_X6_command ⟨Nat.le_of_ble_eq_true rfl, Nat.le_of_ble_eq_true rfl⟩) (preV_ (ci := 6) (q0 := 0) rfl rfl (hP.sub (ws' := [(a_0, mv a_text a_now a_trial a_diary a_kept a_isKept a_seen a_equations a_wanted c_s_0), (a_trial, av_J cy 11 c_g_trial)]) [0, 2] rfl) hK (hD.sub (ws' := [(a_0, mv a_text a_now a_trial a_diary a_kept a_isKept a_seen a_equations a_wanted c_s_0), (a_trial, av_J cy 11 c_g_trial)]) [0, 2] rfl rfl) hN) rfl rfl hl.1 rfl (lv_room (Nat.le_of_ble_eq_true rfl)) dX6_runScript_124 ⟨Nat.le_of_ble_eq_true rfl, Nat.le_of_ble_eq_true rfl⟩) (fun H locs hP hD hS => ?_)
        have hP : va_P G vwCl [(a_now, av_J cy 11 g_now), (a_0, mv a_text a_now a_trial a_diary a_kept a_isKept a_seen a_equations a_wanted c_s_0), (a_trial, av_J cy 11 r_3.2)] H := hP
        have hD : va_D A [(a_now, av_J cy 11 g_now), (a_0, mv a_text a_now a_trial a_diary a_kept a_isKept a_seen a_equations a_wanted c_s_0), (a_trial, av_J cy 11 r_3.2)] := hD
        refine lv_if_ne (tgt := 133) hx hb dX6_runScript_127 (by decide) (fun h_4 => ?_) (fun h_4 => ?_)
        · have hf := ip_ (bI_n0 h_4) hf
          refine lv_iinc (v := (y6 + 1)) (lv' := [(6, .int (y6 + 1)), (7, .int ((lrm (y2 / (y4 / 10000)) 10000).toInt32)), (4, .long (y4 / 10000)), (0, .ref a_0), (1, .int y1), (2, .long y2)]) hx hb dX6_runScript_133 hl (k := 5) rfl rfl (by decide) rfl (fun ls hl => ?_)
          refine lv_goto (tgt := 86) hx hb dX6_runScript_136 (by decide) ?_
          exact ih c_s_0 r_3.2 (y4 / 10000) (y6 + 1) _ _ hf (hP.sub (ws' := [(a_0, mv a_text a_now a_trial a_diary a_kept a_isKept a_seen a_equations a_wanted c_s_0), (a_now, av_J cy 11 g_now), (a_trial, av_J cy 11 r_3.2)]) [1, 0, 2] rfl) (hD.sub (ws' := [(a_0, mv a_text a_now a_trial a_diary a_kept a_isKept a_seen a_equations a_wanted c_s_0), (a_now, av_J cy 11 g_now), (a_trial, av_J cy 11 r_3.2)]) [1, 0, 2] rfl rfl) hS ls (lv_sub hl [3, 4, 5, 2, 0] rfl)
        · have hf := in_ (bI_0 h_4) hf
          refine lv_iload hx hb dX6_runScript_130 (lv_at hl 5 rfl) ?_
          obtain rfl := Option.some.inj hf
          exact kr_i hx hb hr hlocks rfl (hP.sub (ws' := [(a_0, mv a_text a_now a_trial a_diary a_kept a_isKept a_seen a_equations a_wanted c_s_0), (a_now, av_J cy 11 g_now), (a_trial, av_J cy 11 r_3.2)]) [1, 0, 2] rfl) hK (hD.sub (ws' := [(a_0, mv a_text a_now a_trial a_diary a_kept a_isKept a_seen a_equations a_wanted c_s_0), (a_now, av_J cy 11 g_now), (a_trial, av_J cy 11 r_3.2)]) [1, 0, 2] rfl rfl) hN hS hS.2.2 dX6_runScript_132
  have bl_32 : ∀ (c_s_0 : MT) (c_g_trial : Nat → Int64) (y1 : Int32) (y2 : Int64) (y4 : Int64) (H : Heap) (locs : List Loc), f_X6_runScript_b32 n g_now c_s_0 c_g_trial y1 y2 y4 = some R → va_P G vwCl [(a_0, mv a_text a_now a_trial a_diary a_kept a_isKept a_seen a_equations a_wanted c_s_0), (a_now, av_J cy 11 g_now), (a_trial, av_J cy 11 c_g_trial)] H → va_D A [(a_0, mv a_text a_now a_trial a_diary a_kept a_isKept a_seen a_equations a_wanted c_s_0), (a_now, av_J cy 11 g_now), (a_trial, av_J cy 11 c_g_trial)] → va_S A s.heap H locs → ∀ (ls : Array Slot), lv_has ls 8 [(0, .ref a_0), (1, .int y1), (2, .long y2), (4, .long y4)] → W p l e ({ frames := 9, cells := 0, slots := 0, locals := 214 } : Room) s m [.ref a_0, .int x1, .long x2].toArray below meth c H locs 0 0 (MQ below (va_Qi (fun r (_ : Unit) => r = R.1) (fun _ t => Wd G cy A [(a_0, mv a_text a_now a_trial a_diary a_kept a_isKept a_seen a_equations a_wanted R.2.1), (a_now, av_J cy 11 g_now), (a_trial, av_J cy 11 R.2.2)] t) A) [.ref a_0, .int x1, .long x2].toArray s 0 0 A) (F0 m 32 ls []) := by
    intro c_s_0 c_g_trial y1 y2 y4 H locs hf hP hD hS ls hl
    unfold f_X6_runScript_b32 at hf
    refine lv_aload_n hx hb dX6_runScript_32 rfl (lv_at hl 0 rfl) ?_
    refine lv_iload_n hx hb dX6_runScript_33 rfl (lv_at hl 1 rfl) ?_
    refine lv_i2l (v := y1.toInt64) hx hb dX6_runScript_34 rfl ?_
    refine lv_lconst (v := 1) hx hb dX6_runScript_35 rfl ?_
    refine lv_ldc2 (v := 3) hx hb hown (hts (.constantLong RX6 59 (3)) (by decide +kernel)) dX6_runScript_36 ?_
    refine kc_i (w1 := []) (wr := [(a_0, mv a_text a_now a_trial a_diary a_kept a_isKept a_seen a_equations a_wanted c_s_0), (a_now, av_J cy 11 g_now), (a_trial, av_J cy 11 c_g_trial)]) hP hD hS hA [] [0, 1, 2] rfl rfl rfl (by decide) (va_runS (As := [.long y1.toInt64, .long 1, .long 3]) (rest := [.ref a_0]) ⟨hx, hb, hml, hown, hts⟩ (c_X6_in (l := l) G cy  H.size y1.toInt64 1 3  (f_X6_in y1.toInt64 1 3) rfl) (va_cwS 3 hts gX6_runScript_X6_in rfl rfl rfl ddN_X6_in ⟨Nat.le_of_ble_eq_true rfl, Nat.le_of_ble_eq_true rfl⟩) (preS_ (hP.sub (ws' := []) [] rfl) hK (hD.sub (ws' := []) [] rfl rfl) hN) rfl rfl hl.1 rfl (lv_room (Nat.le_of_ble_eq_true rfl)) dX6_runScript_39 ⟨Nat.le_of_ble_eq_true rfl, Nat.le_of_ble_eq_true rfl⟩) (fun H locs hP hD hS => ?_)
    have hP : va_P G vwCl [(a_0, mv a_text a_now a_trial a_diary a_kept a_isKept a_seen a_equations a_wanted c_s_0), (a_now, av_J cy 11 g_now), (a_trial, av_J cy 11 c_g_trial)] H := hP
    have hD : va_D A [(a_0, mv a_text a_now a_trial a_diary a_kept a_isKept a_seen a_equations a_wanted c_s_0), (a_now, av_J cy 11 g_now), (a_trial, av_J cy 11 c_g_trial)] := hD
    refine lv_if_eq (tgt := 61) hx hb dX6_runScript_42 (by decide) (fun h_5 => ?_) (fun h_5 => ?_)
    · have hf := in_ (bI_0 h_5) hf
      refine lv_iconst (v := 1) hx hb dX6_runScript_61 (by decide) ?_
      obtain ⟨r_6, hh_r_6⟩ : ∃ z, z = f_X6_refused c_s_0 1 := ⟨_, rfl⟩
      have hf := lt_e hh_r_6 hf
      refine kc_i (w1 := [(a_0, mv a_text a_now a_trial a_diary a_kept a_isKept a_seen a_equations a_wanted r_6.2)]) (wr := [(a_now, av_J cy 11 g_now), (a_trial, av_J cy 11 c_g_trial)]) hP hD hS hA [0] [1, 2] rfl rfl rfl (by decide) (va_runV (As := [.int 1]) (rest := []) ⟨hx, hb, hml, hown, hts⟩ (c_X6_refused (l := l) G cy a_0 a_text a_now a_trial a_diary a_kept a_isKept a_seen a_equations a_wanted H.size c_s_0 1  r_6 hh_r_6.symm) (cwV 1 hts gX6_runScript_X6_refused rfl rfl rfl ddV_X6_refused ⟨Nat.le_of_ble_eq_true rfl, Nat.le_of_ble_eq_true rfl⟩) (preV_ (ci := 6) (q0 := 0) rfl rfl (hP.sub (ws' := [(a_0, mv a_text a_now a_trial a_diary a_kept a_isKept a_seen a_equations a_wanted c_s_0)]) [0] rfl) hK (hD.sub (ws' := [(a_0, mv a_text a_now a_trial a_diary a_kept a_isKept a_seen a_equations a_wanted c_s_0)]) [0] rfl rfl) hN) rfl rfl hl.1 rfl (lv_room (Nat.le_of_ble_eq_true rfl)) dX6_runScript_62 ⟨Nat.le_of_ble_eq_true rfl, Nat.le_of_ble_eq_true rfl⟩) (fun H locs hP hD hS => ?_)
      have hP : va_P G vwCl [(a_now, av_J cy 11 g_now), (a_trial, av_J cy 11 c_g_trial), (a_0, mv a_text a_now a_trial a_diary a_kept a_isKept a_seen a_equations a_wanted r_6.2)] H := hP
      have hD : va_D A [(a_now, av_J cy 11 g_now), (a_trial, av_J cy 11 c_g_trial), (a_0, mv a_text a_now a_trial a_diary a_kept a_isKept a_seen a_equations a_wanted r_6.2)] := hD
      refine lv_if_eq (tgt := 70) hx hb dX6_runScript_65 (by decide) (fun h_7 => ?_) (fun h_7 => ?_)
      · have hf := in_ (bI_0 h_7) hf
        refine lv_aload_n hx hb dX6_runScript_70 rfl (lv_at hl 0 rfl) ?_
        refine va_get (D := G) (ci := 6) (v := .ref a_now) (C := RX6) (T := TX6) (N := 15) hx hb hts iw_X6_runScript_X6 hown hK hP 2 rfl rfl 3 (by decide) (hts (.fieldLink RX6 13 "PaneFrostModel" "now" "[J") (by decide +kernel)) (fun _ h9 => h9) rfl dX6_runScript_71 ?_
        refine lv_iconst (v := 0) hx hb dX6_runScript_74 (by decide) ?_
        refine lv_aload_n hx hb dX6_runScript_75 rfl (lv_at hl 0 rfl) ?_
        refine va_get (D := G) (ci := 6) (v := .ref a_trial) (C := RX6) (T := TX6) (N := 15) hx hb hts iw_X6_runScript_X6 hown hK hP 2 rfl rfl 4 (by decide) (hts (.fieldLink RX6 17 "PaneFrostModel" "trial" "[J") (by decide +kernel)) (fun _ h9 => h9) rfl dX6_runScript_76 ?_
        refine lv_iconst (v := 0) hx hb dX6_runScript_79 (by decide) ?_
        obtain ⟨r_8, hh_r_8, hf⟩ := obd_some hf
        refine kc_v (w1 := [(a_now, av_J cy 11 g_now), (a_trial, av_J cy 11 r_8)]) (wr := [(a_0, mv a_text a_now a_trial a_diary a_kept a_isKept a_seen a_equations a_wanted r_6.2)]) hP hD hS hA [0, 1] [2] rfl rfl rfl (by decide) (va_runS (As := [.ref a_now, .int 0, .ref a_trial, .int 0]) (rest := []) ⟨hx, hb, hml, hown, hts⟩ (c_X6_copyState (l := l) G cy a_now a_trial H.size g_now c_g_trial 11 11 0 0 n r_8 hh_r_8) (va_cwS 4 hts gX6_runScript_X6_copyState rfl rfl rfl ddN_X6_copyState ⟨Nat.le_of_ble_eq_true rfl, Nat.le_of_ble_eq_true rfl⟩) (preS_ (hP.sub (ws' := [(a_now, av_J cy 11 g_now), (a_trial, av_J cy 11 c_g_trial)]) [0, 1] rfl) hK (hD.sub (ws' := [(a_now, av_J cy 11 g_now), (a_trial, av_J cy 11 c_g_trial)]) [0, 1] rfl rfl) hN) rfl rfl hl.1 rfl (lv_room (Nat.le_of_ble_eq_true rfl)) dX6_runScript_80 ⟨Nat.le_of_ble_eq_true rfl, Nat.le_of_ble_eq_true rfl⟩) (fun H locs hP hD hS => ?_)
        have hP : va_P G vwCl [(a_0, mv a_text a_now a_trial a_diary a_kept a_isKept a_seen a_equations a_wanted r_6.2), (a_now, av_J cy 11 g_now), (a_trial, av_J cy 11 r_8)] H := hP
        have hD : va_D A [(a_0, mv a_text a_now a_trial a_diary a_kept a_isKept a_seen a_equations a_wanted r_6.2), (a_now, av_J cy 11 g_now), (a_trial, av_J cy 11 r_8)] := hD
        refine lv_iconst (v := 0) hx hb dX6_runScript_83 (by decide) ?_
        refine lv_istore (lv' := [(6, .int 0), (0, .ref a_0), (1, .int y1), (2, .long y2), (4, .long y4)]) hx hb dX6_runScript_84 hl (by decide) rfl (fun ls hl => ?_)
        exact bl_86 y1 y2 n r_6.2 r_8 y4 0 _ _ hf hP hD hS ls (lv_sub hl [1, 2, 3, 4, 0] rfl)
      · have hf := ip_ (bI_n0 h_7) hf
        refine lv_iconst (v := 0) hx hb dX6_runScript_68 (by decide) ?_
        obtain rfl := Option.some.inj hf
        exact kr_i hx hb hr hlocks rfl (hP.sub (ws' := [(a_0, mv a_text a_now a_trial a_diary a_kept a_isKept a_seen a_equations a_wanted r_6.2), (a_now, av_J cy 11 g_now), (a_trial, av_J cy 11 c_g_trial)]) [2, 0, 1] rfl) hK (hD.sub (ws' := [(a_0, mv a_text a_now a_trial a_diary a_kept a_isKept a_seen a_equations a_wanted r_6.2), (a_now, av_J cy 11 g_now), (a_trial, av_J cy 11 c_g_trial)]) [2, 0, 1] rfl rfl) hN hS hS.2.2 dX6_runScript_69
    · have hf := ip_ (bI_n0 h_5) hf
      refine lv_lload_n hx hb dX6_runScript_45 rfl (lv_at hl 2 rfl) ?_
      refine lv_lconst (v := 0) hx hb dX6_runScript_46 rfl ?_
      refine lv_lload hx hb dX6_runScript_47 (lv_at hl 3 rfl) ?_
      refine lv_lconst (v := 1) hx hb dX6_runScript_49 rfl ?_
      refine lv_lsub hx hb dX6_runScript_50 ?_
      refine kc_i (w1 := []) (wr := [(a_0, mv a_text a_now a_trial a_diary a_kept a_isKept a_seen a_equations a_wanted c_s_0), (a_now, av_J cy 11 g_now), (a_trial, av_J cy 11 c_g_trial)]) hP hD hS hA [] [0, 1, 2] rfl rfl rfl (by decide) (va_runS (As := [.long y2, .long 0, .long (y4 - 1)]) (rest := [.ref a_0]) ⟨hx, hb, hml, hown, hts⟩ (c_X6_in (l := l) G cy  H.size y2 0 (y4 - 1)  (f_X6_in y2 0 (y4 - 1)) rfl) (va_cwS 3 hts gX6_runScript_X6_in rfl rfl rfl ddN_X6_in ⟨Nat.le_of_ble_eq_true rfl, Nat.le_of_ble_eq_true rfl⟩) (preS_ (hP.sub (ws' := []) [] rfl) hK (hD.sub (ws' := []) [] rfl rfl) hN) rfl rfl hl.1 rfl (lv_room (Nat.le_of_ble_eq_true rfl)) dX6_runScript_51 ⟨Nat.le_of_ble_eq_true rfl, Nat.le_of_ble_eq_true rfl⟩) (fun H locs hP hD hS => ?_)
      have hP : va_P G vwCl [(a_0, mv a_text a_now a_trial a_diary a_kept a_isKept a_seen a_equations a_wanted c_s_0), (a_now, av_J cy 11 g_now), (a_trial, av_J cy 11 c_g_trial)] H := hP
      have hD : va_D A [(a_0, mv a_text a_now a_trial a_diary a_kept a_isKept a_seen a_equations a_wanted c_s_0), (a_now, av_J cy 11 g_now), (a_trial, av_J cy 11 c_g_trial)] := hD
      refine lv_if_eq (tgt := 61) hx hb dX6_runScript_54 (by decide) (fun h_9 => ?_) (fun h_9 => ?_)
      · have hf := in_ (bI_0 h_9) hf
        refine lv_iconst (v := 1) hx hb dX6_runScript_61 (by decide) ?_
        obtain ⟨r_10, hh_r_10⟩ : ∃ z, z = f_X6_refused c_s_0 1 := ⟨_, rfl⟩
        have hf := lt_e hh_r_10 hf
        refine kc_i (w1 := [(a_0, mv a_text a_now a_trial a_diary a_kept a_isKept a_seen a_equations a_wanted r_10.2)]) (wr := [(a_now, av_J cy 11 g_now), (a_trial, av_J cy 11 c_g_trial)]) hP hD hS hA [0] [1, 2] rfl rfl rfl (by decide) (va_runV (As := [.int 1]) (rest := []) ⟨hx, hb, hml, hown, hts⟩ (c_X6_refused (l := l) G cy a_0 a_text a_now a_trial a_diary a_kept a_isKept a_seen a_equations a_wanted H.size c_s_0 1  r_10 hh_r_10.symm) (cwV 1 hts gX6_runScript_X6_refused rfl rfl rfl ddV_X6_refused ⟨Nat.le_of_ble_eq_true rfl, Nat.le_of_ble_eq_true rfl⟩) (preV_ (ci := 6) (q0 := 0) rfl rfl (hP.sub (ws' := [(a_0, mv a_text a_now a_trial a_diary a_kept a_isKept a_seen a_equations a_wanted c_s_0)]) [0] rfl) hK (hD.sub (ws' := [(a_0, mv a_text a_now a_trial a_diary a_kept a_isKept a_seen a_equations a_wanted c_s_0)]) [0] rfl rfl) hN) rfl rfl hl.1 rfl (lv_room (Nat.le_of_ble_eq_true rfl)) dX6_runScript_62 ⟨Nat.le_of_ble_eq_true rfl, Nat.le_of_ble_eq_true rfl⟩) (fun H locs hP hD hS => ?_)
        have hP : va_P G vwCl [(a_now, av_J cy 11 g_now), (a_trial, av_J cy 11 c_g_trial), (a_0, mv a_text a_now a_trial a_diary a_kept a_isKept a_seen a_equations a_wanted r_10.2)] H := hP
        have hD : va_D A [(a_now, av_J cy 11 g_now), (a_trial, av_J cy 11 c_g_trial), (a_0, mv a_text a_now a_trial a_diary a_kept a_isKept a_seen a_equations a_wanted r_10.2)] := hD
        refine lv_if_eq (tgt := 70) hx hb dX6_runScript_65 (by decide) (fun h_11 => ?_) (fun h_11 => ?_)
        · have hf := in_ (bI_0 h_11) hf
          refine lv_aload_n hx hb dX6_runScript_70 rfl (lv_at hl 0 rfl) ?_
          refine va_get (D := G) (ci := 6) (v := .ref a_now) (C := RX6) (T := TX6) (N := 15) hx hb hts iw_X6_runScript_X6 hown hK hP 2 rfl rfl 3 (by decide) (hts (.fieldLink RX6 13 "PaneFrostModel" "now" "[J") (by decide +kernel)) (fun _ h9 => h9) rfl dX6_runScript_71 ?_
          refine lv_iconst (v := 0) hx hb dX6_runScript_74 (by decide) ?_
          refine lv_aload_n hx hb dX6_runScript_75 rfl (lv_at hl 0 rfl) ?_
          refine va_get (D := G) (ci := 6) (v := .ref a_trial) (C := RX6) (T := TX6) (N := 15) hx hb hts iw_X6_runScript_X6 hown hK hP 2 rfl rfl 4 (by decide) (hts (.fieldLink RX6 17 "PaneFrostModel" "trial" "[J") (by decide +kernel)) (fun _ h9 => h9) rfl dX6_runScript_76 ?_
          refine lv_iconst (v := 0) hx hb dX6_runScript_79 (by decide) ?_
          obtain ⟨r_12, hh_r_12, hf⟩ := obd_some hf
          refine kc_v (w1 := [(a_now, av_J cy 11 g_now), (a_trial, av_J cy 11 r_12)]) (wr := [(a_0, mv a_text a_now a_trial a_diary a_kept a_isKept a_seen a_equations a_wanted r_10.2)]) hP hD hS hA [0, 1] [2] rfl rfl rfl (by decide) (va_runS (As := [.ref a_now, .int 0, .ref a_trial, .int 0]) (rest := []) ⟨hx, hb, hml, hown, hts⟩ (c_X6_copyState (l := l) G cy a_now a_trial H.size g_now c_g_trial 11 11 0 0 n r_12 hh_r_12) (va_cwS 4 hts gX6_runScript_X6_copyState rfl rfl rfl ddN_X6_copyState ⟨Nat.le_of_ble_eq_true rfl, Nat.le_of_ble_eq_true rfl⟩) (preS_ (hP.sub (ws' := [(a_now, av_J cy 11 g_now), (a_trial, av_J cy 11 c_g_trial)]) [0, 1] rfl) hK (hD.sub (ws' := [(a_now, av_J cy 11 g_now), (a_trial, av_J cy 11 c_g_trial)]) [0, 1] rfl rfl) hN) rfl rfl hl.1 rfl (lv_room (Nat.le_of_ble_eq_true rfl)) dX6_runScript_80 ⟨Nat.le_of_ble_eq_true rfl, Nat.le_of_ble_eq_true rfl⟩) (fun H locs hP hD hS => ?_)
          have hP : va_P G vwCl [(a_0, mv a_text a_now a_trial a_diary a_kept a_isKept a_seen a_equations a_wanted r_10.2), (a_now, av_J cy 11 g_now), (a_trial, av_J cy 11 r_12)] H := hP
          have hD : va_D A [(a_0, mv a_text a_now a_trial a_diary a_kept a_isKept a_seen a_equations a_wanted r_10.2), (a_now, av_J cy 11 g_now), (a_trial, av_J cy 11 r_12)] := hD
          refine lv_iconst (v := 0) hx hb dX6_runScript_83 (by decide) ?_
          refine lv_istore (lv' := [(6, .int 0), (0, .ref a_0), (1, .int y1), (2, .long y2), (4, .long y4)]) hx hb dX6_runScript_84 hl (by decide) rfl (fun ls hl => ?_)
          exact bl_86 y1 y2 n r_10.2 r_12 y4 0 _ _ hf hP hD hS ls (lv_sub hl [1, 2, 3, 4, 0] rfl)
        · have hf := ip_ (bI_n0 h_11) hf
          refine lv_iconst (v := 0) hx hb dX6_runScript_68 (by decide) ?_
          obtain rfl := Option.some.inj hf
          exact kr_i hx hb hr hlocks rfl (hP.sub (ws' := [(a_0, mv a_text a_now a_trial a_diary a_kept a_isKept a_seen a_equations a_wanted r_10.2), (a_now, av_J cy 11 g_now), (a_trial, av_J cy 11 c_g_trial)]) [2, 0, 1] rfl) hK (hD.sub (ws' := [(a_0, mv a_text a_now a_trial a_diary a_kept a_isKept a_seen a_equations a_wanted r_10.2), (a_now, av_J cy 11 g_now), (a_trial, av_J cy 11 c_g_trial)]) [2, 0, 1] rfl rfl) hN hS hS.2.2 dX6_runScript_69
      · have hf := ip_ (bI_n0 h_9) hf
        refine lv_iconst (v := 0) hx hb dX6_runScript_57 (by decide) ?_
        refine lv_goto (tgt := 62) hx hb dX6_runScript_58 (by decide) ?_
        obtain ⟨r_13, hh_r_13⟩ : ∃ z, z = f_X6_refused c_s_0 0 := ⟨_, rfl⟩
        have hf := lt_e hh_r_13 hf
        refine kc_i (w1 := [(a_0, mv a_text a_now a_trial a_diary a_kept a_isKept a_seen a_equations a_wanted r_13.2)]) (wr := [(a_now, av_J cy 11 g_now), (a_trial, av_J cy 11 c_g_trial)]) hP hD hS hA [0] [1, 2] rfl rfl rfl (by decide) (va_runV (As := [.int 0]) (rest := []) ⟨hx, hb, hml, hown, hts⟩ (c_X6_refused (l := l) G cy a_0 a_text a_now a_trial a_diary a_kept a_isKept a_seen a_equations a_wanted H.size c_s_0 0  r_13 hh_r_13.symm) (cwV 1 hts gX6_runScript_X6_refused rfl rfl rfl ddV_X6_refused ⟨Nat.le_of_ble_eq_true rfl, Nat.le_of_ble_eq_true rfl⟩) (preV_ (ci := 6) (q0 := 0) rfl rfl (hP.sub (ws' := [(a_0, mv a_text a_now a_trial a_diary a_kept a_isKept a_seen a_equations a_wanted c_s_0)]) [0] rfl) hK (hD.sub (ws' := [(a_0, mv a_text a_now a_trial a_diary a_kept a_isKept a_seen a_equations a_wanted c_s_0)]) [0] rfl rfl) hN) rfl rfl hl.1 rfl (lv_room (Nat.le_of_ble_eq_true rfl)) dX6_runScript_62 ⟨Nat.le_of_ble_eq_true rfl, Nat.le_of_ble_eq_true rfl⟩) (fun H locs hP hD hS => ?_)
        have hP : va_P G vwCl [(a_now, av_J cy 11 g_now), (a_trial, av_J cy 11 c_g_trial), (a_0, mv a_text a_now a_trial a_diary a_kept a_isKept a_seen a_equations a_wanted r_13.2)] H := hP
        have hD : va_D A [(a_now, av_J cy 11 g_now), (a_trial, av_J cy 11 c_g_trial), (a_0, mv a_text a_now a_trial a_diary a_kept a_isKept a_seen a_equations a_wanted r_13.2)] := hD
        refine lv_if_eq (tgt := 70) hx hb dX6_runScript_65 (by decide) (fun h_14 => ?_) (fun h_14 => ?_)
        · have hf := in_ (bI_0 h_14) hf
          refine lv_aload_n hx hb dX6_runScript_70 rfl (lv_at hl 0 rfl) ?_
          refine va_get (D := G) (ci := 6) (v := .ref a_now) (C := RX6) (T := TX6) (N := 15) hx hb hts iw_X6_runScript_X6 hown hK hP 2 rfl rfl 3 (by decide) (hts (.fieldLink RX6 13 "PaneFrostModel" "now" "[J") (by decide +kernel)) (fun _ h9 => h9) rfl dX6_runScript_71 ?_
          refine lv_iconst (v := 0) hx hb dX6_runScript_74 (by decide) ?_
          refine lv_aload_n hx hb dX6_runScript_75 rfl (lv_at hl 0 rfl) ?_
          refine va_get (D := G) (ci := 6) (v := .ref a_trial) (C := RX6) (T := TX6) (N := 15) hx hb hts iw_X6_runScript_X6 hown hK hP 2 rfl rfl 4 (by decide) (hts (.fieldLink RX6 17 "PaneFrostModel" "trial" "[J") (by decide +kernel)) (fun _ h9 => h9) rfl dX6_runScript_76 ?_
          refine lv_iconst (v := 0) hx hb dX6_runScript_79 (by decide) ?_
          obtain ⟨r_15, hh_r_15, hf⟩ := obd_some hf
          refine kc_v (w1 := [(a_now, av_J cy 11 g_now), (a_trial, av_J cy 11 r_15)]) (wr := [(a_0, mv a_text a_now a_trial a_diary a_kept a_isKept a_seen a_equations a_wanted r_13.2)]) hP hD hS hA [0, 1] [2] rfl rfl rfl (by decide) (va_runS (As := [.ref a_now, .int 0, .ref a_trial, .int 0]) (rest := []) ⟨hx, hb, hml, hown, hts⟩ (c_X6_copyState (l := l) G cy a_now a_trial H.size g_now c_g_trial 11 11 0 0 n r_15 hh_r_15) (va_cwS 4 hts gX6_runScript_X6_copyState rfl rfl rfl ddN_X6_copyState ⟨Nat.le_of_ble_eq_true rfl, Nat.le_of_ble_eq_true rfl⟩) (preS_ (hP.sub (ws' := [(a_now, av_J cy 11 g_now), (a_trial, av_J cy 11 c_g_trial)]) [0, 1] rfl) hK (hD.sub (ws' := [(a_now, av_J cy 11 g_now), (a_trial, av_J cy 11 c_g_trial)]) [0, 1] rfl rfl) hN) rfl rfl hl.1 rfl (lv_room (Nat.le_of_ble_eq_true rfl)) dX6_runScript_80 ⟨Nat.le_of_ble_eq_true rfl, Nat.le_of_ble_eq_true rfl⟩) (fun H locs hP hD hS => ?_)
          have hP : va_P G vwCl [(a_0, mv a_text a_now a_trial a_diary a_kept a_isKept a_seen a_equations a_wanted r_13.2), (a_now, av_J cy 11 g_now), (a_trial, av_J cy 11 r_15)] H := hP
          have hD : va_D A [(a_0, mv a_text a_now a_trial a_diary a_kept a_isKept a_seen a_equations a_wanted r_13.2), (a_now, av_J cy 11 g_now), (a_trial, av_J cy 11 r_15)] := hD
          refine lv_iconst (v := 0) hx hb dX6_runScript_83 (by decide) ?_
          refine lv_istore (lv' := [(6, .int 0), (0, .ref a_0), (1, .int y1), (2, .long y2), (4, .long y4)]) hx hb dX6_runScript_84 hl (by decide) rfl (fun ls hl => ?_)
          exact bl_86 y1 y2 n r_13.2 r_15 y4 0 _ _ hf hP hD hS ls (lv_sub hl [1, 2, 3, 4, 0] rfl)
        · have hf := ip_ (bI_n0 h_14) hf
          refine lv_iconst (v := 0) hx hb dX6_runScript_68 (by decide) ?_
          obtain rfl := Option.some.inj hf
          exact kr_i hx hb hr hlocks rfl (hP.sub (ws' := [(a_0, mv a_text a_now a_trial a_diary a_kept a_isKept a_seen a_equations a_wanted r_13.2), (a_now, av_J cy 11 g_now), (a_trial, av_J cy 11 c_g_trial)]) [2, 0, 1] rfl) hK (hD.sub (ws' := [(a_0, mv a_text a_now a_trial a_diary a_kept a_isKept a_seen a_equations a_wanted r_13.2), (a_now, av_J cy 11 g_now), (a_trial, av_J cy 11 c_g_trial)]) [2, 0, 1] rfl rfl) hN hS hS.2.2 dX6_runScript_69
  have bl_6 : ∀ (y1 : Int32), ∀ (y2 : Int64), ∀ (k : Nat), ∀ (c_s_0 : MT) (c_g_trial : Nat → Int64) (y4 : Int64) (y6 : Int32) (H : Heap) (locs : List Loc), f_X6_runScript_b6 n g_now y1 y2 k c_s_0 c_g_trial y4 y6 = some R → va_P G vwCl [(a_0, mv a_text a_now a_trial a_diary a_kept a_isKept a_seen a_equations a_wanted c_s_0), (a_now, av_J cy 11 g_now), (a_trial, av_J cy 11 c_g_trial)] H → va_D A [(a_0, mv a_text a_now a_trial a_diary a_kept a_isKept a_seen a_equations a_wanted c_s_0), (a_now, av_J cy 11 g_now), (a_trial, av_J cy 11 c_g_trial)] → va_S A s.heap H locs → ∀ (ls : Array Slot), lv_has ls 8 [(0, .ref a_0), (1, .int y1), (2, .long y2), (4, .long y4), (6, .int y6)] → W p l e ({ frames := 9, cells := 0, slots := 0, locals := 214 } : Room) s m [.ref a_0, .int x1, .long x2].toArray below meth c H locs 0 0 (MQ below (va_Qi (fun r (_ : Unit) => r = R.1) (fun _ t => Wd G cy A [(a_0, mv a_text a_now a_trial a_diary a_kept a_isKept a_seen a_equations a_wanted R.2.1), (a_now, av_J cy 11 g_now), (a_trial, av_J cy 11 R.2.2)] t) A) [.ref a_0, .int x1, .long x2].toArray s 0 0 A) (F0 m 6 ls []) := by
    intro y1
    intro y2
    intro k
    induction k with
    | zero =>
      intro c_s_0 c_g_trial y4 y6 H locs hf; cases hf
    | succ k ih =>
      intro c_s_0 c_g_trial y4 y6 H locs hf hP hD hS ls hl
      have hf := (f_X6_runScript_b6_s n g_now y1 y2 k c_s_0 c_g_trial y4 y6).symm.trans hf
      refine lv_iload hx hb dX6_runScript_6 (lv_at hl 4 rfl) ?_
      refine lv_iload_n hx hb dX6_runScript_8 rfl (lv_at hl 1 rfl) ?_
      refine lv_icmp_ge (tgt := 32) hx hb dX6_runScript_9 (by decide) (fun h_16 => ?_) (fun h_16 => ?_)
      · have hf := ip_ h_16 hf
        exact bl_32  c_s_0 c_g_trial y1 y2 y4 _ _ hf hP hD hS ls (lv_sub hl [0, 1, 2, 3] rfl)
      · have hf := in_ h_16 hf
        refine lv_iload hx hb dX6_runScript_12 (lv_at hl 4 rfl) ?_
        refine lv_iconst (v := 3) hx hb dX6_runScript_14 (by decide) ?_
        refine lv_icmp_ge (tgt := 32) hx hb dX6_runScript_15 (by decide) (fun h_17 => ?_) (fun h_17 => ?_)
        · have hf := ip_ h_17 hf
          exact bl_32  c_s_0 c_g_trial y1 y2 y4 _ _ hf hP hD hS ls (lv_sub hl [0, 1, 2, 3] rfl)
        · have hf := in_ h_17 hf
          refine lv_lload hx hb dX6_runScript_18 (lv_at hl 3 rfl) ?_
          refine lv_ldc2 (v := 10000) hx hb hown (hts (.constantLong RX6 214 (10000)) (by decide +kernel)) dX6_runScript_20 ?_
          refine lv_lmul hx hb dX6_runScript_23 ?_
          refine lv_lstore (lv' := [(4, .long (y4 * 10000)), (0, .ref a_0), (1, .int y1), (2, .long y2), (6, .int y6)]) hx hb dX6_runScript_24 hl (by decide) rfl (fun ls hl => ?_)
          refine lv_iinc (v := (y6 + 1)) (lv' := [(6, .int (y6 + 1)), (4, .long (y4 * 10000)), (0, .ref a_0), (1, .int y1), (2, .long y2)]) hx hb dX6_runScript_26 hl (k := 4) rfl rfl (by decide) rfl (fun ls hl => ?_)
          refine lv_goto (tgt := 6) hx hb dX6_runScript_29 (by decide) ?_
          exact ih c_s_0 c_g_trial (y4 * 10000) (y6 + 1) _ _ hf hP hD hS ls (lv_sub hl [2, 3, 4, 1, 0] rfl)
  have hl := lv_entry [.ref a_0, .int x1, .long x2] (n := 8) (Nat.le_of_ble_eq_true rfl)
  rw [lg_entry_eq]
  generalize (lg_sl [.ref a_0, .int x1, .long x2] ++ List.replicate (8 - (lg_sl [.ref a_0, .int x1, .long x2]).length) Slot.unset).toArray = ls at hl ⊢
  have hl : lv_has ls 8 [(0, .ref a_0), (1, .int x1), (2, .long x2)] := hl
  unfold f_X6_runScript at hf
  refine lv_lconst (v := 1) hx hb dX6_runScript_0 rfl ?_
  refine lv_lstore (lv' := [(4, .long 1), (0, .ref a_0), (1, .int x1), (2, .long x2)]) hx hb dX6_runScript_1 hl (by decide) rfl (fun ls hl => ?_)
  refine lv_iconst (v := 0) hx hb dX6_runScript_3 (by decide) ?_
  refine lv_istore (lv' := [(6, .int 0), (4, .long 1), (0, .ref a_0), (1, .int x1), (2, .long x2)]) hx hb dX6_runScript_4 hl (by decide) rfl (fun ls hl => ?_)
  exact bl_6 x1 x2 n s_0 g_trial 1 0 _ _ hf hP hD hS ls (lv_sub hl [2, 3, 4, 1, 0] rfl)
set_option maxHeartbeats 4000000 in
set_option maxRecDepth 100000 in
theorem c_X6_turn {l : Launch} (G : va_G) (cy : Nat → ClassId) (a_r0 : Nat) (sz : Nat) (g_r0 : Nat → Int64) (x1 : Int32) (n : Nat) (R : (Nat → Int64)) (hf : f_X6_turn n g_r0 x1 = some R) : Met l yX6_turn wsX6_turn ({ frames := 8, cells := 0, slots := 0, locals := 188 } : Room) (va_Pc [.ref a_r0, .int x1] (pcW G cy [(a_r0, av_J cy 11 g_r0)] sz)) (va_Qv (fun _ : Unit => True) (fun _ t => Wd G cy (va_A [(a_r0, av_J cy 11 g_r0)] sz) [(a_r0, av_J cy 11 R)] t) (va_A [(a_r0, av_J cy 11 g_r0)] sz)) 0 0 (va_A [(a_r0, av_J cy 11 g_r0)] sz) := by
  refine Met.ofW (cc := cX6_turn) (maxL := 4) (ret := none) (by decide) rfl ?_
  intro p e s m args below meth c s₁ B hml hv
  obtain ⟨rfl, hsz, hP, hK, hD0, hN⟩ := hv
  have hx := B.exec
  have hb := B.bytes
  have hr := B.returns
  have hts := atoms_spec (ws := wsX6_turn) B.pre
  have hown : s.vm.findClass RX6 = some m.cls := findClass_of_methodNamed B.named
  have hlocks := B.notSynchronized
  subst hsz
  have hD := hD0.self (sz := s.heap.size)
  generalize hAe : va_A [(a_r0, av_J cy 11 g_r0)] s.heap.size = A at hD ⊢
  have hA : ∀ q : Nat, s.heap.size ≤ q → A q := fun q h => by rw [← hAe]; exact Or.inr h
  have hS : va_S A s.heap s.heap [] := va_S.rf
  have hP : va_P G vwCl [(a_r0, av_J cy 11 g_r0)] s.heap := hP
  have hl := lv_entry [.ref a_r0, .int x1] (n := 4) (Nat.le_of_ble_eq_true rfl)
  rw [lg_entry_eq]
  generalize (lg_sl [.ref a_r0, .int x1] ++ List.replicate (4 - (lg_sl [.ref a_r0, .int x1]).length) Slot.unset).toArray = ls at hl ⊢
  have hl : lv_has ls 4 [(0, .ref a_r0), (1, .int x1)] := hl
  unfold f_X6_turn at hf
  refine lv_iload_n hx hb dX6_turn_0 rfl (lv_at hl 1 rfl) ?_
  refine lv_bipush (v := 8) hx hb dX6_turn_1 (by decide) ?_
  refine lv_idiv hx hb dX6_turn_3 (by decide) ?_
  refine lv_istore_n (lv' := [(2, .int (x1 / 8)), (0, .ref a_r0), (1, .int x1)]) hx hb dX6_turn_4 rfl hl (by decide) rfl (fun ls hl => ?_)
  refine lv_iload_n hx hb dX6_turn_5 rfl (lv_at hl 2 rfl) ?_
  refine lv_bipush (v := 8) hx hb dX6_turn_6 (by decide) ?_
  refine lv_irem hx hb dX6_turn_8 (by decide) ?_
  refine lv_istore_n (lv' := [(3, .int (irm x1 8)), (2, .int (x1 / 8)), (0, .ref a_r0), (1, .int x1)]) hx hb dX6_turn_9 rfl hl (by decide) rfl (fun ls hl => ?_)
  refine lv_iload_n hx hb dX6_turn_10 rfl (lv_at hl 0 rfl) ?_
  refine lv_iconst (v := 3) hx hb dX6_turn_11 (by decide) ?_
  refine lv_icmp_ge (tgt := 38) hx hb dX6_turn_12 (by decide) (fun h_1 => ?_) (fun h_1 => ?_)
  · have hf := ip_ h_1 hf
    refine lv_iload_n hx hb dX6_turn_38 rfl (lv_at hl 0 rfl) ?_
    refine lv_iconst (v := 3) hx hb dX6_turn_39 (by decide) ?_
    refine lv_icmp_ne (tgt := 78) hx hb dX6_turn_40 (by decide) (fun h_2 => ?_) (fun h_2 => ?_)
    · have hf := in_ h_2 hf
      refine lv_iload_n hx hb dX6_turn_78 rfl (lv_at hl 0 rfl) ?_
      refine lv_iconst (v := 4) hx hb dX6_turn_79 (by decide) ?_
      refine lv_icmp_ne (tgt := 140) hx hb dX6_turn_80 (by decide) (fun h_3 => ?_) (fun h_3 => ?_)
      · have hf := in_ h_3 hf
        refine lv_iload_n hx hb dX6_turn_140 rfl (lv_at hl 0 rfl) ?_
        refine lv_iconst (v := 5) hx hb dX6_turn_141 (by decide) ?_
        refine lv_icmp_ne (tgt := 156) hx hb dX6_turn_142 (by decide) (fun h_4 => ?_) (fun h_4 => ?_)
        · have hf := in_ h_4 hf
          refine lv_aload_n hx hb dX6_turn_156 rfl (lv_at hl 2 rfl) ?_
          refine lv_iconst (v := 1) hx hb dX6_turn_157 (by decide) ?_
          refine lv_iload_n hx hb dX6_turn_158 rfl (lv_at hl 1 rfl) ?_
          refine lv_bipush (v := 6) hx hb dX6_turn_159 (by decide) ?_
          refine lv_irem hx hb dX6_turn_161 (by decide) ?_
          refine lv_iadd hx hb dX6_turn_162 ?_
          obtain ⟨r_5, hh_r_5, hf⟩ := obd_some hf
          refine kc_i (w1 := [(a_r0, av_J cy 11 r_5.2)]) (wr := []) hP hD hS hA [0] [] rfl rfl rfl (by decide) (va_runS (As := [.ref a_r0, .int (1 + (irm (x1 / 8) 6))]) (rest := []) ⟨hx, hb, hml, hown, hts⟩ (c_X6_nightsOn (l := l) G cy a_r0 s.heap.size g_r0 (1 + (irm (x1 / 8) 6)) n r_5 hh_r_5) (va_cwS 2 hts gX6_turn_X6_nightsOn rfl rfl rfl ddN_X6_nightsOn ⟨Nat.le_of_ble_eq_true rfl, Nat.le_of_ble_eq_true rfl⟩) (preS_ hP hK hD hN) rfl rfl hl.1 rfl (lv_room (Nat.le_of_ble_eq_true rfl)) dX6_turn_163 ⟨Nat.le_of_ble_eq_true rfl, Nat.le_of_ble_eq_true rfl⟩) (fun H locs hP hD hS => ?_)
          have hP : va_P G vwCl [(a_r0, av_J cy 11 r_5.2)] H := hP
          have hD : va_D A [(a_r0, av_J cy 11 r_5.2)] := hD
          refine lv_pop hx hb dX6_turn_166 rfl ?_
          obtain rfl := Option.some.inj hf
          exact kr_v hx hb hr hlocks hP hK hD hN hS hS.2.2 dX6_turn_167
        · have hf := ip_ h_4 hf
          refine lv_aload_n hx hb dX6_turn_145 rfl (lv_at hl 2 rfl) ?_
          refine lv_iload_n hx hb dX6_turn_146 rfl (lv_at hl 1 rfl) ?_
          refine lv_iconst (v := 3) hx hb dX6_turn_147 (by decide) ?_
          refine lv_irem hx hb dX6_turn_148 (by decide) ?_
          obtain ⟨r_6, hh_r_6⟩ : ∃ z, z = f_X6_ruleOn g_r0 (irm (x1 / 8) 3) := ⟨_, rfl⟩
          have hf := lt_e hh_r_6 hf
          refine kc_i (w1 := [(a_r0, av_J cy 11 r_6.2)]) (wr := []) hP hD hS hA [0] [] rfl rfl rfl (by decide) (va_runS (As := [.ref a_r0, .int (irm (x1 / 8) 3)]) (rest := []) ⟨hx, hb, hml, hown, hts⟩ (c_X6_ruleOn (l := l) G cy a_r0 s.heap.size g_r0 (irm (x1 / 8) 3)  r_6 hh_r_6.symm) (va_cwS 2 hts gX6_turn_X6_ruleOn rfl rfl rfl ddN_X6_ruleOn ⟨Nat.le_of_ble_eq_true rfl, Nat.le_of_ble_eq_true rfl⟩) (preS_ hP hK hD hN) rfl rfl hl.1 rfl (lv_room (Nat.le_of_ble_eq_true rfl)) dX6_turn_149 ⟨Nat.le_of_ble_eq_true rfl, Nat.le_of_ble_eq_true rfl⟩) (fun H locs hP hD hS => ?_)
          have hP : va_P G vwCl [(a_r0, av_J cy 11 r_6.2)] H := hP
          have hD : va_D A [(a_r0, av_J cy 11 r_6.2)] := hD
          refine lv_pop hx hb dX6_turn_152 rfl ?_
          refine lv_goto (tgt := 167) hx hb dX6_turn_153 (by decide) ?_
          obtain rfl := Option.some.inj hf
          exact kr_v hx hb hr hlocks hP hK hD hN hS hS.2.2 dX6_turn_167
      · have hf := ip_ h_3 hf
        refine lv_iload_n hx hb dX6_turn_83 rfl (lv_at hl 1 rfl) ?_
        refine lv_bipush (v := 16) hx hb dX6_turn_84 (by decide) ?_
        refine lv_idiv hx hb dX6_turn_86 (by decide) ?_
        refine lv_iconst (v := 3) hx hb dX6_turn_87 (by decide) ?_
        refine lv_irem hx hb dX6_turn_88 (by decide) ?_
        refine lv_if_ne (tgt := 108) hx hb dX6_turn_89 (by decide) (fun h_7 => ?_) (fun h_7 => ?_)
        · have hf := in_ h_7 hf
          refine lv_aload_n hx hb dX6_turn_108 rfl (lv_at hl 2 rfl) ?_
          refine lv_iload_n hx hb dX6_turn_109 rfl (lv_at hl 1 rfl) ?_
          refine lv_bipush (v := 64) hx hb dX6_turn_110 (by decide) ?_
          refine lv_idiv hx hb dX6_turn_112 (by decide) ?_
          refine lv_bipush (v := 64) hx hb dX6_turn_113 (by decide) ?_
          refine lv_irem hx hb dX6_turn_115 (by decide) ?_
          refine kc_i (w1 := [(a_r0, av_J cy 11 g_r0)]) (wr := []) hP hD hS hA [0] [] rfl rfl rfl (by decide) (va_runS (As := [.ref a_r0, .int (irm ((x1 / 8) / 64) 64)]) (rest := []) ⟨hx, hb, hml, hown, hts⟩ (c_X6_isCell (l := l) G cy a_r0 s.heap.size g_r0 (irm ((x1 / 8) / 64) 64)  (f_X6_isCell g_r0 (irm ((x1 / 8) / 64) 64)) rfl) (va_cwS 2 hts gX6_turn_X6_isCell rfl rfl rfl ddN_X6_isCell ⟨Nat.le_of_ble_eq_true rfl, Nat.le_of_ble_eq_true rfl⟩) (preS_ hP hK hD hN) rfl rfl hl.1 rfl (lv_room (Nat.le_of_ble_eq_true rfl)) dX6_turn_116 ⟨Nat.le_of_ble_eq_true rfl, Nat.le_of_ble_eq_true rfl⟩) (fun H locs hP hD hS => ?_)
          have hP : va_P G vwCl [(a_r0, av_J cy 11 g_r0)] H := hP
          have hD : va_D A [(a_r0, av_J cy 11 g_r0)] := hD
          refine lv_if_eq (tgt := 167) hx hb dX6_turn_119 (by decide) (fun h_8 => ?_) (fun h_8 => ?_)
          · have hf := in_ (bI_0 h_8) hf
            obtain rfl := Option.some.inj hf
            exact kr_v hx hb hr hlocks hP hK hD hN hS hS.2.2 dX6_turn_167
          · have hf := ip_ (bI_n0 h_8) hf
            refine lv_aload_n hx hb dX6_turn_122 rfl (lv_at hl 2 rfl) ?_
            refine lv_iload_n hx hb dX6_turn_123 rfl (lv_at hl 1 rfl) ?_
            refine lv_bipush (v := 64) hx hb dX6_turn_124 (by decide) ?_
            refine lv_idiv hx hb dX6_turn_126 (by decide) ?_
            refine lv_bipush (v := 64) hx hb dX6_turn_127 (by decide) ?_
            refine lv_irem hx hb dX6_turn_129 (by decide) ?_
            refine lv_iload_n hx hb dX6_turn_130 rfl (lv_at hl 1 rfl) ?_
            refine lv_iconst (v := 4) hx hb dX6_turn_131 (by decide) ?_
            refine lv_irem hx hb dX6_turn_132 (by decide) ?_
            obtain ⟨r_9, hh_r_9, hf⟩ := obd_some hf
            refine kc_i (w1 := [(a_r0, av_J cy 11 r_9.2)]) (wr := []) hP hD hS hA [0] [] rfl rfl rfl (by decide) (va_runS (As := [.ref a_r0, .int (irm ((x1 / 8) / 64) 64), .int (irm (x1 / 8) 4)]) (rest := []) ⟨hx, hb, hml, hown, hts⟩ (c_X6_breatheOn (l := l) G cy a_r0 H.size g_r0 (irm ((x1 / 8) / 64) 64) (irm (x1 / 8) 4) n r_9 hh_r_9) (va_cwS 3 hts gX6_turn_X6_breatheOn rfl rfl rfl ddN_X6_breatheOn ⟨Nat.le_of_ble_eq_true rfl, Nat.le_of_ble_eq_true rfl⟩) (preS_ hP hK hD hN) rfl rfl hl.1 rfl (lv_room (Nat.le_of_ble_eq_true rfl)) dX6_turn_133 ⟨Nat.le_of_ble_eq_true rfl, Nat.le_of_ble_eq_true rfl⟩) (fun H locs hP hD hS => ?_)
            have hP : va_P G vwCl [(a_r0, av_J cy 11 r_9.2)] H := hP
            have hD : va_D A [(a_r0, av_J cy 11 r_9.2)] := hD
            refine lv_pop hx hb dX6_turn_136 rfl ?_
            refine lv_goto (tgt := 167) hx hb dX6_turn_137 (by decide) ?_
            obtain rfl := Option.some.inj hf
            exact kr_v hx hb hr hlocks hP hK hD hN hS hS.2.2 dX6_turn_167
        · have hf := ip_ h_7 hf
          refine lv_aload_n hx hb dX6_turn_92 rfl (lv_at hl 2 rfl) ?_
          refine lv_iload_n hx hb dX6_turn_93 rfl (lv_at hl 1 rfl) ?_
          refine lv_iconst (v := 4) hx hb dX6_turn_94 (by decide) ?_
          refine lv_irem hx hb dX6_turn_95 (by decide) ?_
          refine lv_iload_n hx hb dX6_turn_96 rfl (lv_at hl 1 rfl) ?_
          refine lv_iconst (v := 4) hx hb dX6_turn_97 (by decide) ?_
          refine lv_idiv hx hb dX6_turn_98 (by decide) ?_
          refine lv_iconst (v := 3) hx hb dX6_turn_99 (by decide) ?_
          refine lv_irem hx hb dX6_turn_100 (by decide) ?_
          obtain ⟨r_10, hh_r_10, hf⟩ := obd_some hf
          refine kc_i (w1 := [(a_r0, av_J cy 11 r_10.2)]) (wr := []) hP hD hS hA [0] [] rfl rfl rfl (by decide) (va_runS (As := [.ref a_r0, .int (irm (x1 / 8) 4), .int (irm ((x1 / 8) / 4) 3)]) (rest := []) ⟨hx, hb, hml, hown, hts⟩ (c_X6_borderOn (l := l) G cy a_r0 s.heap.size g_r0 (irm (x1 / 8) 4) (irm ((x1 / 8) / 4) 3)  r_10 hh_r_10) (va_cwS 3 hts gX6_turn_X6_borderOn rfl rfl rfl ddN_X6_borderOn ⟨Nat.le_of_ble_eq_true rfl, Nat.le_of_ble_eq_true rfl⟩) (preS_ hP hK hD hN) rfl rfl hl.1 rfl (lv_room (Nat.le_of_ble_eq_true rfl)) dX6_turn_101 ⟨Nat.le_of_ble_eq_true rfl, Nat.le_of_ble_eq_true rfl⟩) (fun H locs hP hD hS => ?_)
          have hP : va_P G vwCl [(a_r0, av_J cy 11 r_10.2)] H := hP
          have hD : va_D A [(a_r0, av_J cy 11 r_10.2)] := hD
          refine lv_pop hx hb dX6_turn_104 rfl ?_
          refine lv_goto (tgt := 167) hx hb dX6_turn_105 (by decide) ?_
          obtain rfl := Option.some.inj hf
          exact kr_v hx hb hr hlocks hP hK hD hN hS hS.2.2 dX6_turn_167
    · have hf := ip_ h_2 hf
      refine lv_aload_n hx hb dX6_turn_43 rfl (lv_at hl 2 rfl) ?_
      refine lv_iload_n hx hb dX6_turn_44 rfl (lv_at hl 1 rfl) ?_
      refine lv_bipush (v := 64) hx hb dX6_turn_45 (by decide) ?_
      refine lv_irem hx hb dX6_turn_47 (by decide) ?_
      refine lv_iload_n hx hb dX6_turn_48 rfl (lv_at hl 1 rfl) ?_
      refine lv_bipush (v := 64) hx hb dX6_turn_49 (by decide) ?_
      refine lv_idiv hx hb dX6_turn_51 (by decide) ?_
      refine lv_iconst (v := 4) hx hb dX6_turn_52 (by decide) ?_
      refine lv_irem hx hb dX6_turn_53 (by decide) ?_
      obtain ⟨r_11, hh_r_11, hf⟩ := obd_some hf
      refine kc_i (w1 := [(a_r0, av_J cy 11 g_r0)]) (wr := []) hP hD hS hA [0] [] rfl rfl rfl (by decide) (va_runS (As := [.ref a_r0, .int (irm (x1 / 8) 64), .int (irm ((x1 / 8) / 64) 4)]) (rest := []) ⟨hx, hb, hml, hown, hts⟩ (c_X6_canScratch (l := l) G cy a_r0 s.heap.size g_r0 (irm (x1 / 8) 64) (irm ((x1 / 8) / 64) 4)  r_11 hh_r_11) (va_cwS 3 hts gX6_turn_X6_canScratch rfl rfl rfl ddN_X6_canScratch ⟨Nat.le_of_ble_eq_true rfl, Nat.le_of_ble_eq_true rfl⟩) (preS_ hP hK hD hN) rfl rfl hl.1 rfl (lv_room (Nat.le_of_ble_eq_true rfl)) dX6_turn_54 ⟨Nat.le_of_ble_eq_true rfl, Nat.le_of_ble_eq_true rfl⟩) (fun H locs hP hD hS => ?_)
      have hP : va_P G vwCl [(a_r0, av_J cy 11 g_r0)] H := hP
      have hD : va_D A [(a_r0, av_J cy 11 g_r0)] := hD
      refine lv_if_eq (tgt := 167) hx hb dX6_turn_57 (by decide) (fun h_12 => ?_) (fun h_12 => ?_)
      · have hf := in_ (bI_0 h_12) hf
        obtain rfl := Option.some.inj hf
        exact kr_v hx hb hr hlocks hP hK hD hN hS hS.2.2 dX6_turn_167
      · have hf := ip_ (bI_n0 h_12) hf
        refine lv_aload_n hx hb dX6_turn_60 rfl (lv_at hl 2 rfl) ?_
        refine lv_iload_n hx hb dX6_turn_61 rfl (lv_at hl 1 rfl) ?_
        refine lv_bipush (v := 64) hx hb dX6_turn_62 (by decide) ?_
        refine lv_irem hx hb dX6_turn_64 (by decide) ?_
        refine lv_iload_n hx hb dX6_turn_65 rfl (lv_at hl 1 rfl) ?_
        refine lv_bipush (v := 64) hx hb dX6_turn_66 (by decide) ?_
        refine lv_idiv hx hb dX6_turn_68 (by decide) ?_
        refine lv_iconst (v := 4) hx hb dX6_turn_69 (by decide) ?_
        refine lv_irem hx hb dX6_turn_70 (by decide) ?_
        obtain ⟨r_13, hh_r_13, hf⟩ := obd_some hf
        refine kc_i (w1 := [(a_r0, av_J cy 11 r_13.2)]) (wr := []) hP hD hS hA [0] [] rfl rfl rfl (by decide) (va_runS (As := [.ref a_r0, .int (irm (x1 / 8) 64), .int (irm ((x1 / 8) / 64) 4)]) (rest := []) ⟨hx, hb, hml, hown, hts⟩ (c_X6_scratchOn (l := l) G cy a_r0 H.size g_r0 (irm (x1 / 8) 64) (irm ((x1 / 8) / 64) 4)  r_13 hh_r_13) (va_cwS 3 hts gX6_turn_X6_scratchOn rfl rfl rfl ddN_X6_scratchOn ⟨Nat.le_of_ble_eq_true rfl, Nat.le_of_ble_eq_true rfl⟩) (preS_ hP hK hD hN) rfl rfl hl.1 rfl (lv_room (Nat.le_of_ble_eq_true rfl)) dX6_turn_71 ⟨Nat.le_of_ble_eq_true rfl, Nat.le_of_ble_eq_true rfl⟩) (fun H locs hP hD hS => ?_)
        have hP : va_P G vwCl [(a_r0, av_J cy 11 r_13.2)] H := hP
        have hD : va_D A [(a_r0, av_J cy 11 r_13.2)] := hD
        refine lv_pop hx hb dX6_turn_74 rfl ?_
        refine lv_goto (tgt := 167) hx hb dX6_turn_75 (by decide) ?_
        obtain rfl := Option.some.inj hf
        exact kr_v hx hb hr hlocks hP hK hD hN hS hS.2.2 dX6_turn_167
  · have hf := in_ h_1 hf
    refine lv_aload_n hx hb dX6_turn_15 rfl (lv_at hl 2 rfl) ?_
    refine lv_iload_n hx hb dX6_turn_16 rfl (lv_at hl 1 rfl) ?_
    refine lv_bipush (v := 64) hx hb dX6_turn_17 (by decide) ?_
    refine lv_irem hx hb dX6_turn_19 (by decide) ?_
    refine kc_i (w1 := [(a_r0, av_J cy 11 g_r0)]) (wr := []) hP hD hS hA [0] [] rfl rfl rfl (by decide) (va_runS (As := [.ref a_r0, .int (irm (x1 / 8) 64)]) (rest := []) ⟨hx, hb, hml, hown, hts⟩ (c_X6_isCell (l := l) G cy a_r0 s.heap.size g_r0 (irm (x1 / 8) 64)  (f_X6_isCell g_r0 (irm (x1 / 8) 64)) rfl) (va_cwS 2 hts gX6_turn_X6_isCell rfl rfl rfl ddN_X6_isCell ⟨Nat.le_of_ble_eq_true rfl, Nat.le_of_ble_eq_true rfl⟩) (preS_ hP hK hD hN) rfl rfl hl.1 rfl (lv_room (Nat.le_of_ble_eq_true rfl)) dX6_turn_20 ⟨Nat.le_of_ble_eq_true rfl, Nat.le_of_ble_eq_true rfl⟩) (fun H locs hP hD hS => ?_)
    have hP : va_P G vwCl [(a_r0, av_J cy 11 g_r0)] H := hP
    have hD : va_D A [(a_r0, av_J cy 11 g_r0)] := hD
    refine lv_if_eq (tgt := 167) hx hb dX6_turn_23 (by decide) (fun h_14 => ?_) (fun h_14 => ?_)
    · have hf := in_ (bI_0 h_14) hf
      obtain rfl := Option.some.inj hf
      exact kr_v hx hb hr hlocks hP hK hD hN hS hS.2.2 dX6_turn_167
    · have hf := ip_ (bI_n0 h_14) hf
      refine lv_aload_n hx hb dX6_turn_26 rfl (lv_at hl 2 rfl) ?_
      refine lv_iload_n hx hb dX6_turn_27 rfl (lv_at hl 1 rfl) ?_
      refine lv_bipush (v := 64) hx hb dX6_turn_28 (by decide) ?_
      refine lv_irem hx hb dX6_turn_30 (by decide) ?_
      obtain ⟨r_15, hh_r_15⟩ : ∃ z, z = f_X6_flipOn g_r0 (irm (x1 / 8) 64) := ⟨_, rfl⟩
      have hf := lt_e hh_r_15 hf
      refine kc_i (w1 := [(a_r0, av_J cy 11 r_15.2)]) (wr := []) hP hD hS hA [0] [] rfl rfl rfl (by decide) (va_runS (As := [.ref a_r0, .int (irm (x1 / 8) 64)]) (rest := []) ⟨hx, hb, hml, hown, hts⟩ (c_X6_flipOn (l := l) G cy a_r0 H.size g_r0 (irm (x1 / 8) 64)  r_15 hh_r_15.symm) (va_cwS 2 hts gX6_turn_X6_flipOn rfl rfl rfl ddN_X6_flipOn ⟨Nat.le_of_ble_eq_true rfl, Nat.le_of_ble_eq_true rfl⟩) (preS_ hP hK hD hN) rfl rfl hl.1 rfl (lv_room (Nat.le_of_ble_eq_true rfl)) dX6_turn_31 ⟨Nat.le_of_ble_eq_true rfl, Nat.le_of_ble_eq_true rfl⟩) (fun H locs hP hD hS => ?_)
      have hP : va_P G vwCl [(a_r0, av_J cy 11 r_15.2)] H := hP
      have hD : va_D A [(a_r0, av_J cy 11 r_15.2)] := hD
      refine lv_pop hx hb dX6_turn_34 rfl ?_
      refine lv_goto (tgt := 167) hx hb dX6_turn_35 (by decide) ?_
      obtain rfl := Option.some.inj hf
      exact kr_v hx hb hr hlocks hP hK hD hN hS hS.2.2 dX6_turn_167
set_option maxHeartbeats 4000000 in
set_option maxRecDepth 100000 in
theorem c_X6_simulate {l : Launch} (G : va_G) (cy : Nat → ClassId) (a_0 : Nat) (a_text : Nat) (a_now : Nat) (a_trial : Nat) (a_diary : Nat) (a_kept : Nat) (a_isKept : Nat) (a_seen : Nat) (a_equations : Nat) (a_wanted : Nat) (sz : Nat) (s_0 : MT) (g_now : Nat → Int64) (g_trial : Nat → Int64) (x1 : Int64) (x3 : Int32) (n : Nat) (R : Int32 × MT × (Nat → Int64)) (hf : f_X6_simulate n s_0 g_now g_trial x1 x3 = some R) : Met l yX6_simulate wsX6_simulate ({ frames := 9, cells := 0, slots := 0, locals := 211 } : Room) (va_Pc [.ref a_0, .long x1, .int x3] (pcW G cy [(a_0, mv a_text a_now a_trial a_diary a_kept a_isKept a_seen a_equations a_wanted s_0), (a_now, av_J cy 11 g_now), (a_trial, av_J cy 11 g_trial)] sz)) (va_Qi (fun r (_ : Unit) => r = R.1) (fun _ t => Wd G cy (va_A [(a_0, mv a_text a_now a_trial a_diary a_kept a_isKept a_seen a_equations a_wanted s_0), (a_now, av_J cy 11 g_now), (a_trial, av_J cy 11 g_trial)] sz) [(a_0, mv a_text a_now a_trial a_diary a_kept a_isKept a_seen a_equations a_wanted R.2.1), (a_now, av_J cy 11 g_now), (a_trial, av_J cy 11 R.2.2)] t) (va_A [(a_0, mv a_text a_now a_trial a_diary a_kept a_isKept a_seen a_equations a_wanted s_0), (a_now, av_J cy 11 g_now), (a_trial, av_J cy 11 g_trial)] sz)) 0 0 (va_A [(a_0, mv a_text a_now a_trial a_diary a_kept a_isKept a_seen a_equations a_wanted s_0), (a_now, av_J cy 11 g_now), (a_trial, av_J cy 11 g_trial)] sz) := by
  refine Met.ofW (cc := cX6_simulate) (maxL := 7) (ret := (some .int)) (by decide) rfl ?_
  intro p e s m args below meth c s₁ B hml hv
  obtain ⟨rfl, hsz, hP, hK, hD0, hN⟩ := hv
  have hx := B.exec
  have hb := B.bytes
  have hr := B.returns
  have hts := atoms_spec (ws := wsX6_simulate) B.pre
  have hown : s.vm.findClass RX6 = some m.cls := findClass_of_methodNamed B.named
  have hlocks := B.notSynchronized
  subst hsz
  have hD := hD0.self (sz := s.heap.size)
  generalize hAe : va_A [(a_0, mv a_text a_now a_trial a_diary a_kept a_isKept a_seen a_equations a_wanted s_0), (a_now, av_J cy 11 g_now), (a_trial, av_J cy 11 g_trial)] s.heap.size = A at hD ⊢
  have hA : ∀ q : Nat, s.heap.size ≤ q → A q := fun q h => by rw [← hAe]; exact Or.inr h
  have hS : va_S A s.heap s.heap [] := va_S.rf
  have hP : va_P G vwCl [(a_0, mv a_text a_now a_trial a_diary a_kept a_isKept a_seen a_equations a_wanted s_0), (a_now, av_J cy 11 g_now), (a_trial, av_J cy 11 g_trial)] s.heap := hP
  have bl_45 : ∀ (y3 : Int32), ∀ (k : Nat), ∀ (c_s_0 : MT) (c_g_trial : Nat → Int64) (y4 : Int64) (y6 : Int32) (H : Heap) (locs : List Loc), f_X6_simulate_b45 n g_now y3 k c_s_0 c_g_trial y4 y6 = some R → va_P G vwCl [(a_0, mv a_text a_now a_trial a_diary a_kept a_isKept a_seen a_equations a_wanted c_s_0), (a_now, av_J cy 11 g_now), (a_trial, av_J cy 11 c_g_trial)] H → va_D A [(a_0, mv a_text a_now a_trial a_diary a_kept a_isKept a_seen a_equations a_wanted c_s_0), (a_now, av_J cy 11 g_now), (a_trial, av_J cy 11 c_g_trial)] → va_S A s.heap H locs → ∀ (ls : Array Slot), lv_has ls 7 [(0, .ref a_0), (3, .int y3), (4, .long y4), (6, .int y6)] → W p l e ({ frames := 9, cells := 0, slots := 0, locals := 211 } : Room) s m [.ref a_0, .long x1, .int x3].toArray below meth c H locs 0 0 (MQ below (va_Qi (fun r (_ : Unit) => r = R.1) (fun _ t => Wd G cy A [(a_0, mv a_text a_now a_trial a_diary a_kept a_isKept a_seen a_equations a_wanted R.2.1), (a_now, av_J cy 11 g_now), (a_trial, av_J cy 11 R.2.2)] t) A) [.ref a_0, .long x1, .int x3].toArray s 0 0 A) (F0 m 45 ls []) := by
    intro y3
    intro k
    induction k with
    | zero =>
      intro c_s_0 c_g_trial y4 y6 H locs hf; cases hf
    | succ k ih =>
      intro c_s_0 c_g_trial y4 y6 H locs hf hP hD hS ls hl
      have hf := (f_X6_simulate_b45_s n g_now y3 k c_s_0 c_g_trial y4 y6).symm.trans hf
      refine lv_iload hx hb dX6_simulate_45 (lv_at hl 3 rfl) ?_
      refine lv_iload_n hx hb dX6_simulate_47 rfl (lv_at hl 1 rfl) ?_
      refine lv_icmp_ge (tgt := 82) hx hb dX6_simulate_48 (by decide) (fun h_1 => ?_) (fun h_1 => ?_)
      · have hf := ip_ h_1 hf
        refine lv_bipush (v := 100) hx hb dX6_simulate_82 (by decide) ?_
        refine lv_aload_n hx hb dX6_simulate_84 rfl (lv_at hl 0 rfl) ?_
        refine va_get (D := G) (ci := 6) (v := .ref a_trial) (C := RX6) (T := TX6) (N := 15) hx hb hts iw_X6_simulate_X6 hown hK hP 0 rfl rfl 4 (by decide) (hts (.fieldLink RX6 17 "PaneFrostModel" "trial" "[J") (by decide +kernel)) (fun _ h9 => h9) rfl dX6_simulate_85 ?_
        refine lv_bipush (v := 8) hx hb dX6_simulate_88 (by decide) ?_
        refine vz_lald tn_8 hx hb hK hP 2 2 rfl rfl vn_8_11 dX6_simulate_90 ?_
        obtain ⟨r_2, hh_r_2, hf⟩ := obd_some hf
        refine kc_i (w1 := []) (wr := [(a_0, mv a_text a_now a_trial a_diary a_kept a_isKept a_seen a_equations a_wanted c_s_0), (a_now, av_J cy 11 g_now), (a_trial, av_J cy 11 c_g_trial)]) hP hD hS hA [] [0, 1, 2] rfl rfl rfl (by decide) (va_runS (As := [.long (c_g_trial 8)]) (rest := [.int 100]) ⟨hx, hb, hml, hown, hts⟩ (c_X6_bits (l := l) G cy  H.size (c_g_trial 8) n r_2 hh_r_2) (va_cwS 1 hts gX6_simulate_X6_bits rfl rfl rfl ddN_X6_bits ⟨Nat.le_of_ble_eq_true rfl, Nat.le_of_ble_eq_true rfl⟩) (preS_ (hP.sub (ws' := []) [] rfl) hK (hD.sub (ws' := []) [] rfl rfl) hN) rfl rfl hl.1 rfl (lv_room (Nat.le_of_ble_eq_true rfl)) dX6_simulate_91 ⟨Nat.le_of_ble_eq_true rfl, Nat.le_of_ble_eq_true rfl⟩) (fun H locs hP hD hS => ?_)
        have hP : va_P G vwCl [(a_0, mv a_text a_now a_trial a_diary a_kept a_isKept a_seen a_equations a_wanted c_s_0), (a_now, av_J cy 11 g_now), (a_trial, av_J cy 11 c_g_trial)] H := hP
        have hD : va_D A [(a_0, mv a_text a_now a_trial a_diary a_kept a_isKept a_seen a_equations a_wanted c_s_0), (a_now, av_J cy 11 g_now), (a_trial, av_J cy 11 c_g_trial)] := hD
        refine lv_imul hx hb dX6_simulate_94 ?_
        refine lv_aload_n hx hb dX6_simulate_95 rfl (lv_at hl 0 rfl) ?_
        refine va_get (D := G) (ci := 6) (v := .ref a_trial) (C := RX6) (T := TX6) (N := 15) hx hb hts iw_X6_simulate_X6 hown hK hP 0 rfl rfl 4 (by decide) (hts (.fieldLink RX6 17 "PaneFrostModel" "trial" "[J") (by decide +kernel)) (fun _ h9 => h9) rfl dX6_simulate_96 ?_
        obtain ⟨r_3, hh_r_3, hf⟩ := obd_some hf
        refine kc_i (w1 := [(a_trial, av_J cy 11 c_g_trial)]) (wr := [(a_0, mv a_text a_now a_trial a_diary a_kept a_isKept a_seen a_equations a_wanted c_s_0), (a_now, av_J cy 11 g_now)]) hP hD hS hA [2] [0, 1] rfl rfl rfl (by decide) (va_runS (As := [.ref a_trial]) (rest := [.int (100 * r_2)]) ⟨hx, hb, hml, hown, hts⟩ (c_X6_patches (l := l) G cy a_trial H.size c_g_trial n r_3 hh_r_3) (va_cwS 1 hts gX6_simulate_X6_patches rfl rfl rfl ddN_X6_patches ⟨Nat.le_of_ble_eq_true rfl, Nat.le_of_ble_eq_true rfl⟩) (preS_ (hP.sub (ws' := [(a_trial, av_J cy 11 c_g_trial)]) [2] rfl) hK (hD.sub (ws' := [(a_trial, av_J cy 11 c_g_trial)]) [2] rfl rfl) hN) rfl rfl hl.1 rfl (lv_room (Nat.le_of_ble_eq_true rfl)) dX6_simulate_99 ⟨Nat.le_of_ble_eq_true rfl, Nat.le_of_ble_eq_true rfl⟩) (fun H locs hP hD hS => ?_)
        have hP : va_P G vwCl [(a_0, mv a_text a_now a_trial a_diary a_kept a_isKept a_seen a_equations a_wanted c_s_0), (a_now, av_J cy 11 g_now), (a_trial, av_J cy 11 c_g_trial)] H := hP
        have hD : va_D A [(a_0, mv a_text a_now a_trial a_diary a_kept a_isKept a_seen a_equations a_wanted c_s_0), (a_now, av_J cy 11 g_now), (a_trial, av_J cy 11 c_g_trial)] := hD
        refine lv_iadd hx hb dX6_simulate_102 ?_
        obtain rfl := Option.some.inj hf
        exact kr_i hx hb hr hlocks rfl hP hK hD hN hS hS.2.2 dX6_simulate_103
      · have hf := in_ h_1 hf
        refine lv_lload hx hb dX6_simulate_51 (lv_at hl 2 rfl) ?_
        refine lv_ldc2 (v := 6364136223846793005) hx hb hown (hts (.constantLong RX6 220 (6364136223846793005)) (by decide +kernel)) dX6_simulate_53 ?_
        refine lv_lmul hx hb dX6_simulate_56 ?_
        refine lv_ldc2 (v := 1442695040888963407) hx hb hown (hts (.constantLong RX6 222 (1442695040888963407)) (by decide +kernel)) dX6_simulate_57 ?_
        refine lv_ladd hx hb dX6_simulate_60 ?_
        refine lv_topl (fun u_4 eu_4 => ?_)
        have hf := lt_e eu_4 hf
        refine lv_lstore (lv' := [(4, .long u_4), (0, .ref a_0), (3, .int y3), (6, .int y6)]) hx hb dX6_simulate_61 hl (by decide) rfl (fun ls hl => ?_)
        refine lv_aload_n hx hb dX6_simulate_63 rfl (lv_at hl 1 rfl) ?_
        refine va_get (D := G) (ci := 6) (v := .ref a_trial) (C := RX6) (T := TX6) (N := 15) hx hb hts iw_X6_simulate_X6 hown hK hP 0 rfl rfl 4 (by decide) (hts (.fieldLink RX6 17 "PaneFrostModel" "trial" "[J") (by decide +kernel)) (fun _ h9 => h9) rfl dX6_simulate_64 ?_
        refine lv_lload hx hb dX6_simulate_67 (lv_at hl 0 rfl) ?_
        refine lv_bipush (v := 33) hx hb dX6_simulate_69 (by decide) ?_
        refine lv_lushr (v := (jus u_4 33)) hx hb dX6_simulate_71 rfl ?_
        refine lv_l2i (v := (jus u_4 33).toInt32) hx hb dX6_simulate_72 rfl ?_
        obtain ⟨r_5, hh_r_5, hf⟩ := obd_some hf
        refine kc_v (w1 := [(a_trial, av_J cy 11 r_5)]) (wr := [(a_0, mv a_text a_now a_trial a_diary a_kept a_isKept a_seen a_equations a_wanted c_s_0), (a_now, av_J cy 11 g_now)]) hP hD hS hA [2] [0, 1] rfl rfl rfl (by decide) (va_runS (As := [.ref a_trial, .int ((jus u_4 33).toInt32)]) (rest := []) ⟨hx, hb, hml, hown, hts⟩ (c_X6_turn (l := l) G cy a_trial H.size c_g_trial ((jus u_4 33).toInt32) n r_5 hh_r_5) (va_cwS 2 hts gX6_simulate_X6_turn rfl rfl rfl ddN_X6_turn ⟨Nat.le_of_ble_eq_true rfl, Nat.le_of_ble_eq_true rfl⟩) (preS_ (hP.sub (ws' := [(a_trial, av_J cy 11 c_g_trial)]) [2] rfl) hK (hD.sub (ws' := [(a_trial, av_J cy 11 c_g_trial)]) [2] rfl rfl) hN) rfl rfl hl.1 rfl (lv_room (Nat.le_of_ble_eq_true rfl)) dX6_simulate_73 ⟨Nat.le_of_ble_eq_true rfl, Nat.le_of_ble_eq_true rfl⟩) (fun H locs hP hD hS => ?_)
        have hP : va_P G vwCl [(a_0, mv a_text a_now a_trial a_diary a_kept a_isKept a_seen a_equations a_wanted c_s_0), (a_now, av_J cy 11 g_now), (a_trial, av_J cy 11 r_5)] H := hP
        have hD : va_D A [(a_0, mv a_text a_now a_trial a_diary a_kept a_isKept a_seen a_equations a_wanted c_s_0), (a_now, av_J cy 11 g_now), (a_trial, av_J cy 11 r_5)] := hD
        refine lv_iinc (v := (y6 + 1)) (lv' := [(6, .int (y6 + 1)), (4, .long u_4), (0, .ref a_0), (3, .int y3)]) hx hb dX6_simulate_76 hl (k := 3) rfl rfl (by decide) rfl (fun ls hl => ?_)
        refine lv_goto (tgt := 45) hx hb dX6_simulate_79 (by decide) ?_
        exact ih c_s_0 r_5 u_4 (y6 + 1) _ _ hf hP hD hS ls (lv_sub hl [2, 3, 1, 0] rfl)
  have hl := lv_entry [.ref a_0, .long x1, .int x3] (n := 7) (Nat.le_of_ble_eq_true rfl)
  rw [lg_entry_eq]
  generalize (lg_sl [.ref a_0, .long x1, .int x3] ++ List.replicate (7 - (lg_sl [.ref a_0, .long x1, .int x3]).length) Slot.unset).toArray = ls at hl ⊢
  have hl : lv_has ls 7 [(0, .ref a_0), (1, .long x1), (3, .int x3)] := hl
  unfold f_X6_simulate at hf
  refine lv_aload_n hx hb dX6_simulate_0 rfl (lv_at hl 0 rfl) ?_
  refine lv_iload_n hx hb dX6_simulate_1 rfl (lv_at hl 2 rfl) ?_
  refine lv_i2l (v := x3.toInt64) hx hb dX6_simulate_2 rfl ?_
  refine lv_lconst (v := 1) hx hb dX6_simulate_3 rfl ?_
  refine lv_ldc2 (v := 60) hx hb hown (hts (.constantLong RX6 195 (60)) (by decide +kernel)) dX6_simulate_4 ?_
  refine kc_i (w1 := []) (wr := [(a_0, mv a_text a_now a_trial a_diary a_kept a_isKept a_seen a_equations a_wanted s_0), (a_now, av_J cy 11 g_now), (a_trial, av_J cy 11 g_trial)]) hP hD hS hA [] [0, 1, 2] rfl rfl rfl (by decide) (va_runS (As := [.long x3.toInt64, .long 1, .long 60]) (rest := [.ref a_0]) ⟨hx, hb, hml, hown, hts⟩ (c_X6_in (l := l) G cy  s.heap.size x3.toInt64 1 60  (f_X6_in x3.toInt64 1 60) rfl) (va_cwS 3 hts gX6_simulate_X6_in rfl rfl rfl ddN_X6_in ⟨Nat.le_of_ble_eq_true rfl, Nat.le_of_ble_eq_true rfl⟩) (preS_ (hP.sub (ws' := []) [] rfl) hK (hD.sub (ws' := []) [] rfl rfl) hN) rfl rfl hl.1 rfl (lv_room (Nat.le_of_ble_eq_true rfl)) dX6_simulate_7 ⟨Nat.le_of_ble_eq_true rfl, Nat.le_of_ble_eq_true rfl⟩) (fun H locs hP hD hS => ?_)
  have hP : va_P G vwCl [(a_0, mv a_text a_now a_trial a_diary a_kept a_isKept a_seen a_equations a_wanted s_0), (a_now, av_J cy 11 g_now), (a_trial, av_J cy 11 g_trial)] H := hP
  have hD : va_D A [(a_0, mv a_text a_now a_trial a_diary a_kept a_isKept a_seen a_equations a_wanted s_0), (a_now, av_J cy 11 g_now), (a_trial, av_J cy 11 g_trial)] := hD
  refine lv_if_eq (tgt := 17) hx hb dX6_simulate_10 (by decide) (fun h_6 => ?_) (fun h_6 => ?_)
  · have hf := in_ (bI_0 h_6) hf
    refine lv_iconst (v := 1) hx hb dX6_simulate_17 (by decide) ?_
    obtain ⟨r_7, hh_r_7⟩ : ∃ z, z = f_X6_refused s_0 1 := ⟨_, rfl⟩
    have hf := lt_e hh_r_7 hf
    refine kc_i (w1 := [(a_0, mv a_text a_now a_trial a_diary a_kept a_isKept a_seen a_equations a_wanted r_7.2)]) (wr := [(a_now, av_J cy 11 g_now), (a_trial, av_J cy 11 g_trial)]) hP hD hS hA [0] [1, 2] rfl rfl rfl (by decide) (va_runV (As := [.int 1]) (rest := []) ⟨hx, hb, hml, hown, hts⟩ (c_X6_refused (l := l) G cy a_0 a_text a_now a_trial a_diary a_kept a_isKept a_seen a_equations a_wanted H.size s_0 1  r_7 hh_r_7.symm) (cwV 1 hts gX6_simulate_X6_refused rfl rfl rfl ddV_X6_refused ⟨Nat.le_of_ble_eq_true rfl, Nat.le_of_ble_eq_true rfl⟩) (preV_ (ci := 6) (q0 := 0) rfl rfl (hP.sub (ws' := [(a_0, mv a_text a_now a_trial a_diary a_kept a_isKept a_seen a_equations a_wanted s_0)]) [0] rfl) hK (hD.sub (ws' := [(a_0, mv a_text a_now a_trial a_diary a_kept a_isKept a_seen a_equations a_wanted s_0)]) [0] rfl rfl) hN) rfl rfl hl.1 rfl (lv_room (Nat.le_of_ble_eq_true rfl)) dX6_simulate_18 ⟨Nat.le_of_ble_eq_true rfl, Nat.le_of_ble_eq_true rfl⟩) (fun H locs hP hD hS => ?_)
    have hP : va_P G vwCl [(a_now, av_J cy 11 g_now), (a_trial, av_J cy 11 g_trial), (a_0, mv a_text a_now a_trial a_diary a_kept a_isKept a_seen a_equations a_wanted r_7.2)] H := hP
    have hD : va_D A [(a_now, av_J cy 11 g_now), (a_trial, av_J cy 11 g_trial), (a_0, mv a_text a_now a_trial a_diary a_kept a_isKept a_seen a_equations a_wanted r_7.2)] := hD
    refine lv_if_eq (tgt := 26) hx hb dX6_simulate_21 (by decide) (fun h_8 => ?_) (fun h_8 => ?_)
    · have hf := in_ (bI_0 h_8) hf
      refine lv_aload_n hx hb dX6_simulate_26 rfl (lv_at hl 0 rfl) ?_
      refine va_get (D := G) (ci := 6) (v := .ref a_now) (C := RX6) (T := TX6) (N := 15) hx hb hts iw_X6_simulate_X6 hown hK hP 2 rfl rfl 3 (by decide) (hts (.fieldLink RX6 13 "PaneFrostModel" "now" "[J") (by decide +kernel)) (fun _ h9 => h9) rfl dX6_simulate_27 ?_
      refine lv_iconst (v := 0) hx hb dX6_simulate_30 (by decide) ?_
      refine lv_aload_n hx hb dX6_simulate_31 rfl (lv_at hl 0 rfl) ?_
      refine va_get (D := G) (ci := 6) (v := .ref a_trial) (C := RX6) (T := TX6) (N := 15) hx hb hts iw_X6_simulate_X6 hown hK hP 2 rfl rfl 4 (by decide) (hts (.fieldLink RX6 17 "PaneFrostModel" "trial" "[J") (by decide +kernel)) (fun _ h9 => h9) rfl dX6_simulate_32 ?_
      refine lv_iconst (v := 0) hx hb dX6_simulate_35 (by decide) ?_
      obtain ⟨r_9, hh_r_9, hf⟩ := obd_some hf
      refine kc_v (w1 := [(a_now, av_J cy 11 g_now), (a_trial, av_J cy 11 r_9)]) (wr := [(a_0, mv a_text a_now a_trial a_diary a_kept a_isKept a_seen a_equations a_wanted r_7.2)]) hP hD hS hA [0, 1] [2] rfl rfl rfl (by decide) (va_runS (As := [.ref a_now, .int 0, .ref a_trial, .int 0]) (rest := []) ⟨hx, hb, hml, hown, hts⟩ (c_X6_copyState (l := l) G cy a_now a_trial H.size g_now g_trial 11 11 0 0 n r_9 hh_r_9) (va_cwS 4 hts gX6_simulate_X6_copyState rfl rfl rfl ddN_X6_copyState ⟨Nat.le_of_ble_eq_true rfl, Nat.le_of_ble_eq_true rfl⟩) (preS_ (hP.sub (ws' := [(a_now, av_J cy 11 g_now), (a_trial, av_J cy 11 g_trial)]) [0, 1] rfl) hK (hD.sub (ws' := [(a_now, av_J cy 11 g_now), (a_trial, av_J cy 11 g_trial)]) [0, 1] rfl rfl) hN) rfl rfl hl.1 rfl (lv_room (Nat.le_of_ble_eq_true rfl)) dX6_simulate_36 ⟨Nat.le_of_ble_eq_true rfl, Nat.le_of_ble_eq_true rfl⟩) (fun H locs hP hD hS => ?_)
      have hP : va_P G vwCl [(a_0, mv a_text a_now a_trial a_diary a_kept a_isKept a_seen a_equations a_wanted r_7.2), (a_now, av_J cy 11 g_now), (a_trial, av_J cy 11 r_9)] H := hP
      have hD : va_D A [(a_0, mv a_text a_now a_trial a_diary a_kept a_isKept a_seen a_equations a_wanted r_7.2), (a_now, av_J cy 11 g_now), (a_trial, av_J cy 11 r_9)] := hD
      refine lv_lload_n hx hb dX6_simulate_39 rfl (lv_at hl 1 rfl) ?_
      refine lv_lstore (lv' := [(4, .long x1), (0, .ref a_0), (1, .long x1), (3, .int x3)]) hx hb dX6_simulate_40 hl (by decide) rfl (fun ls hl => ?_)
      refine lv_iconst (v := 0) hx hb dX6_simulate_42 (by decide) ?_
      refine lv_istore (lv' := [(6, .int 0), (4, .long x1), (0, .ref a_0), (1, .long x1), (3, .int x3)]) hx hb dX6_simulate_43 hl (by decide) rfl (fun ls hl => ?_)
      exact bl_45 x3 n r_7.2 r_9 x1 0 _ _ hf hP hD hS ls (lv_sub hl [2, 4, 1, 0] rfl)
    · have hf := ip_ (bI_n0 h_8) hf
      refine lv_iconst (v := 0) hx hb dX6_simulate_24 (by decide) ?_
      obtain rfl := Option.some.inj hf
      exact kr_i hx hb hr hlocks rfl (hP.sub (ws' := [(a_0, mv a_text a_now a_trial a_diary a_kept a_isKept a_seen a_equations a_wanted r_7.2), (a_now, av_J cy 11 g_now), (a_trial, av_J cy 11 g_trial)]) [2, 0, 1] rfl) hK (hD.sub (ws' := [(a_0, mv a_text a_now a_trial a_diary a_kept a_isKept a_seen a_equations a_wanted r_7.2), (a_now, av_J cy 11 g_now), (a_trial, av_J cy 11 g_trial)]) [2, 0, 1] rfl rfl) hN hS hS.2.2 dX6_simulate_25
  · have hf := ip_ (bI_n0 h_6) hf
    refine lv_iconst (v := 0) hx hb dX6_simulate_13 (by decide) ?_
    refine lv_goto (tgt := 18) hx hb dX6_simulate_14 (by decide) ?_
    obtain ⟨r_10, hh_r_10⟩ : ∃ z, z = f_X6_refused s_0 0 := ⟨_, rfl⟩
    have hf := lt_e hh_r_10 hf
    refine kc_i (w1 := [(a_0, mv a_text a_now a_trial a_diary a_kept a_isKept a_seen a_equations a_wanted r_10.2)]) (wr := [(a_now, av_J cy 11 g_now), (a_trial, av_J cy 11 g_trial)]) hP hD hS hA [0] [1, 2] rfl rfl rfl (by decide) (va_runV (As := [.int 0]) (rest := []) ⟨hx, hb, hml, hown, hts⟩ (c_X6_refused (l := l) G cy a_0 a_text a_now a_trial a_diary a_kept a_isKept a_seen a_equations a_wanted H.size s_0 0  r_10 hh_r_10.symm) (cwV 1 hts gX6_simulate_X6_refused rfl rfl rfl ddV_X6_refused ⟨Nat.le_of_ble_eq_true rfl, Nat.le_of_ble_eq_true rfl⟩) (preV_ (ci := 6) (q0 := 0) rfl rfl (hP.sub (ws' := [(a_0, mv a_text a_now a_trial a_diary a_kept a_isKept a_seen a_equations a_wanted s_0)]) [0] rfl) hK (hD.sub (ws' := [(a_0, mv a_text a_now a_trial a_diary a_kept a_isKept a_seen a_equations a_wanted s_0)]) [0] rfl rfl) hN) rfl rfl hl.1 rfl (lv_room (Nat.le_of_ble_eq_true rfl)) dX6_simulate_18 ⟨Nat.le_of_ble_eq_true rfl, Nat.le_of_ble_eq_true rfl⟩) (fun H locs hP hD hS => ?_)
    have hP : va_P G vwCl [(a_now, av_J cy 11 g_now), (a_trial, av_J cy 11 g_trial), (a_0, mv a_text a_now a_trial a_diary a_kept a_isKept a_seen a_equations a_wanted r_10.2)] H := hP
    have hD : va_D A [(a_now, av_J cy 11 g_now), (a_trial, av_J cy 11 g_trial), (a_0, mv a_text a_now a_trial a_diary a_kept a_isKept a_seen a_equations a_wanted r_10.2)] := hD
    refine lv_if_eq (tgt := 26) hx hb dX6_simulate_21 (by decide) (fun h_11 => ?_) (fun h_11 => ?_)
    · have hf := in_ (bI_0 h_11) hf
      refine lv_aload_n hx hb dX6_simulate_26 rfl (lv_at hl 0 rfl) ?_
      refine va_get (D := G) (ci := 6) (v := .ref a_now) (C := RX6) (T := TX6) (N := 15) hx hb hts iw_X6_simulate_X6 hown hK hP 2 rfl rfl 3 (by decide) (hts (.fieldLink RX6 13 "PaneFrostModel" "now" "[J") (by decide +kernel)) (fun _ h9 => h9) rfl dX6_simulate_27 ?_
      refine lv_iconst (v := 0) hx hb dX6_simulate_30 (by decide) ?_
      refine lv_aload_n hx hb dX6_simulate_31 rfl (lv_at hl 0 rfl) ?_
      refine va_get (D := G) (ci := 6) (v := .ref a_trial) (C := RX6) (T := TX6) (N := 15) hx hb hts iw_X6_simulate_X6 hown hK hP 2 rfl rfl 4 (by decide) (hts (.fieldLink RX6 17 "PaneFrostModel" "trial" "[J") (by decide +kernel)) (fun _ h9 => h9) rfl dX6_simulate_32 ?_
      refine lv_iconst (v := 0) hx hb dX6_simulate_35 (by decide) ?_
      obtain ⟨r_12, hh_r_12, hf⟩ := obd_some hf
      refine kc_v (w1 := [(a_now, av_J cy 11 g_now), (a_trial, av_J cy 11 r_12)]) (wr := [(a_0, mv a_text a_now a_trial a_diary a_kept a_isKept a_seen a_equations a_wanted r_10.2)]) hP hD hS hA [0, 1] [2] rfl rfl rfl (by decide) (va_runS (As := [.ref a_now, .int 0, .ref a_trial, .int 0]) (rest := []) ⟨hx, hb, hml, hown, hts⟩ (c_X6_copyState (l := l) G cy a_now a_trial H.size g_now g_trial 11 11 0 0 n r_12 hh_r_12) (va_cwS 4 hts gX6_simulate_X6_copyState rfl rfl rfl ddN_X6_copyState ⟨Nat.le_of_ble_eq_true rfl, Nat.le_of_ble_eq_true rfl⟩) (preS_ (hP.sub (ws' := [(a_now, av_J cy 11 g_now), (a_trial, av_J cy 11 g_trial)]) [0, 1] rfl) hK (hD.sub (ws' := [(a_now, av_J cy 11 g_now), (a_trial, av_J cy 11 g_trial)]) [0, 1] rfl rfl) hN) rfl rfl hl.1 rfl (lv_room (Nat.le_of_ble_eq_true rfl)) dX6_simulate_36 ⟨Nat.le_of_ble_eq_true rfl, Nat.le_of_ble_eq_true rfl⟩) (fun H locs hP hD hS => ?_)
      have hP : va_P G vwCl [(a_0, mv a_text a_now a_trial a_diary a_kept a_isKept a_seen a_equations a_wanted r_10.2), (a_now, av_J cy 11 g_now), (a_trial, av_J cy 11 r_12)] H := hP
      have hD : va_D A [(a_0, mv a_text a_now a_trial a_diary a_kept a_isKept a_seen a_equations a_wanted r_10.2), (a_now, av_J cy 11 g_now), (a_trial, av_J cy 11 r_12)] := hD
      refine lv_lload_n hx hb dX6_simulate_39 rfl (lv_at hl 1 rfl) ?_
      refine lv_lstore (lv' := [(4, .long x1), (0, .ref a_0), (1, .long x1), (3, .int x3)]) hx hb dX6_simulate_40 hl (by decide) rfl (fun ls hl => ?_)
      refine lv_iconst (v := 0) hx hb dX6_simulate_42 (by decide) ?_
      refine lv_istore (lv' := [(6, .int 0), (4, .long x1), (0, .ref a_0), (1, .long x1), (3, .int x3)]) hx hb dX6_simulate_43 hl (by decide) rfl (fun ls hl => ?_)
      exact bl_45 x3 n r_10.2 r_12 x1 0 _ _ hf hP hD hS ls (lv_sub hl [2, 4, 1, 0] rfl)
    · have hf := ip_ (bI_n0 h_11) hf
      refine lv_iconst (v := 0) hx hb dX6_simulate_24 (by decide) ?_
      obtain rfl := Option.some.inj hf
      exact kr_i hx hb hr hlocks rfl (hP.sub (ws' := [(a_0, mv a_text a_now a_trial a_diary a_kept a_isKept a_seen a_equations a_wanted r_10.2), (a_now, av_J cy 11 g_now), (a_trial, av_J cy 11 g_trial)]) [2, 0, 1] rfl) hK (hD.sub (ws' := [(a_0, mv a_text a_now a_trial a_diary a_kept a_isKept a_seen a_equations a_wanted r_10.2), (a_now, av_J cy 11 g_now), (a_trial, av_J cy 11 g_trial)]) [2, 0, 1] rfl rfl) hN hS hS.2.2 dX6_simulate_25
set_option maxHeartbeats 4000000 in
set_option maxRecDepth 100000 in
theorem c_X6_save {l : Launch} (G : va_G) (cy : Nat → ClassId) (a_0 : Nat) (a_text : Nat) (a_now : Nat) (a_trial : Nat) (a_diary : Nat) (a_kept : Nat) (a_isKept : Nat) (a_seen : Nat) (a_equations : Nat) (a_wanted : Nat) (sz : Nat) (s_0 : MT) (g_now : Nat → Int64) (g_kept : Nat → Int64) (g_isKept : Nat → Int32) (x1 : Int32) (n : Nat) (R : Int32 × MT × (Nat → Int64) × (Nat → Int32)) (hf : f_X6_save n s_0 g_now g_kept g_isKept x1 = some R) : Met l yX6_save wsX6_save ({ frames := 1, cells := 0, slots := 0, locals := 25 } : Room) (va_Pc [.ref a_0, .int x1] (pcW G cy [(a_0, mv a_text a_now a_trial a_diary a_kept a_isKept a_seen a_equations a_wanted s_0), (a_now, av_J cy 11 g_now), (a_kept, av_J cy 22 g_kept), (a_isKept, av_Z cy 2 g_isKept)] sz)) (va_Qi (fun r (_ : Unit) => r = R.1) (fun _ t => Wd G cy (va_A [(a_0, mv a_text a_now a_trial a_diary a_kept a_isKept a_seen a_equations a_wanted s_0), (a_now, av_J cy 11 g_now), (a_kept, av_J cy 22 g_kept), (a_isKept, av_Z cy 2 g_isKept)] sz) [(a_0, mv a_text a_now a_trial a_diary a_kept a_isKept a_seen a_equations a_wanted R.2.1), (a_now, av_J cy 11 g_now), (a_kept, av_J cy 22 R.2.2.1), (a_isKept, av_Z cy 2 R.2.2.2)] t) (va_A [(a_0, mv a_text a_now a_trial a_diary a_kept a_isKept a_seen a_equations a_wanted s_0), (a_now, av_J cy 11 g_now), (a_kept, av_J cy 22 g_kept), (a_isKept, av_Z cy 2 g_isKept)] sz)) 0 0 (va_A [(a_0, mv a_text a_now a_trial a_diary a_kept a_isKept a_seen a_equations a_wanted s_0), (a_now, av_J cy 11 g_now), (a_kept, av_J cy 22 g_kept), (a_isKept, av_Z cy 2 g_isKept)] sz) := by
  refine Met.ofW (cc := cX6_save) (maxL := 2) (ret := (some .int)) (by decide) rfl ?_
  intro p e s m args below meth c s₁ B hml hv
  obtain ⟨rfl, hsz, hP, hK, hD0, hN⟩ := hv
  have hx := B.exec
  have hb := B.bytes
  have hr := B.returns
  have hts := atoms_spec (ws := wsX6_save) B.pre
  have hown : s.vm.findClass RX6 = some m.cls := findClass_of_methodNamed B.named
  have hlocks := B.notSynchronized
  subst hsz
  have hD := hD0.self (sz := s.heap.size)
  generalize hAe : va_A [(a_0, mv a_text a_now a_trial a_diary a_kept a_isKept a_seen a_equations a_wanted s_0), (a_now, av_J cy 11 g_now), (a_kept, av_J cy 22 g_kept), (a_isKept, av_Z cy 2 g_isKept)] s.heap.size = A at hD ⊢
  have hA : ∀ q : Nat, s.heap.size ≤ q → A q := fun q h => by rw [← hAe]; exact Or.inr h
  have hS : va_S A s.heap s.heap [] := va_S.rf
  have hP : va_P G vwCl [(a_0, mv a_text a_now a_trial a_diary a_kept a_isKept a_seen a_equations a_wanted s_0), (a_now, av_J cy 11 g_now), (a_kept, av_J cy 22 g_kept), (a_isKept, av_Z cy 2 g_isKept)] s.heap := hP
  have hl := lv_entry [.ref a_0, .int x1] (n := 2) (Nat.le_of_ble_eq_true rfl)
  rw [lg_entry_eq]
  generalize (lg_sl [.ref a_0, .int x1] ++ List.replicate (2 - (lg_sl [.ref a_0, .int x1]).length) Slot.unset).toArray = ls at hl ⊢
  have hl : lv_has ls 2 [(0, .ref a_0), (1, .int x1)] := hl
  unfold f_X6_save at hf
  refine lv_aload_n hx hb dX6_save_0 rfl (lv_at hl 0 rfl) ?_
  refine lv_iload_n hx hb dX6_save_1 rfl (lv_at hl 1 rfl) ?_
  refine lv_i2l (v := x1.toInt64) hx hb dX6_save_2 rfl ?_
  refine lv_lconst (v := 0) hx hb dX6_save_3 rfl ?_
  refine lv_lconst (v := 1) hx hb dX6_save_4 rfl ?_
  refine kc_i (w1 := []) (wr := [(a_0, mv a_text a_now a_trial a_diary a_kept a_isKept a_seen a_equations a_wanted s_0), (a_now, av_J cy 11 g_now), (a_kept, av_J cy 22 g_kept), (a_isKept, av_Z cy 2 g_isKept)]) hP hD hS hA [] [0, 1, 2, 3] rfl rfl rfl (by decide) (va_runS (As := [.long x1.toInt64, .long 0, .long 1]) (rest := [.ref a_0]) ⟨hx, hb, hml, hown, hts⟩ (c_X6_in (l := l) G cy  s.heap.size x1.toInt64 0 1  (f_X6_in x1.toInt64 0 1) rfl) (va_cwS 3 hts gX6_save_X6_in rfl rfl rfl ddN_X6_in ⟨Nat.le_of_ble_eq_true rfl, Nat.le_of_ble_eq_true rfl⟩) (preS_ (hP.sub (ws' := []) [] rfl) hK (hD.sub (ws' := []) [] rfl rfl) hN) rfl rfl hl.1 rfl (lv_room (Nat.le_of_ble_eq_true rfl)) dX6_save_5 ⟨Nat.le_of_ble_eq_true rfl, Nat.le_of_ble_eq_true rfl⟩) (fun H locs hP hD hS => ?_)
  have hP : va_P G vwCl [(a_0, mv a_text a_now a_trial a_diary a_kept a_isKept a_seen a_equations a_wanted s_0), (a_now, av_J cy 11 g_now), (a_kept, av_J cy 22 g_kept), (a_isKept, av_Z cy 2 g_isKept)] H := hP
  have hD : va_D A [(a_0, mv a_text a_now a_trial a_diary a_kept a_isKept a_seen a_equations a_wanted s_0), (a_now, av_J cy 11 g_now), (a_kept, av_J cy 22 g_kept), (a_isKept, av_Z cy 2 g_isKept)] := hD
  refine lv_if_eq (tgt := 15) hx hb dX6_save_8 (by decide) (fun h_1 => ?_) (fun h_1 => ?_)
  · have hf := in_ (bI_0 h_1) hf
    refine lv_iconst (v := 1) hx hb dX6_save_15 (by decide) ?_
    obtain ⟨r_2, hh_r_2⟩ : ∃ z, z = f_X6_refused s_0 1 := ⟨_, rfl⟩
    have hf := lt_e hh_r_2 hf
    refine kc_i (w1 := [(a_0, mv a_text a_now a_trial a_diary a_kept a_isKept a_seen a_equations a_wanted r_2.2)]) (wr := [(a_now, av_J cy 11 g_now), (a_kept, av_J cy 22 g_kept), (a_isKept, av_Z cy 2 g_isKept)]) hP hD hS hA [0] [1, 2, 3] rfl rfl rfl (by decide) (va_runV (As := [.int 1]) (rest := []) ⟨hx, hb, hml, hown, hts⟩ (c_X6_refused (l := l) G cy a_0 a_text a_now a_trial a_diary a_kept a_isKept a_seen a_equations a_wanted H.size s_0 1  r_2 hh_r_2.symm) (cwV 1 hts gX6_save_X6_refused rfl rfl rfl ddV_X6_refused ⟨Nat.le_of_ble_eq_true rfl, Nat.le_of_ble_eq_true rfl⟩) (preV_ (ci := 6) (q0 := 0) rfl rfl (hP.sub (ws' := [(a_0, mv a_text a_now a_trial a_diary a_kept a_isKept a_seen a_equations a_wanted s_0)]) [0] rfl) hK (hD.sub (ws' := [(a_0, mv a_text a_now a_trial a_diary a_kept a_isKept a_seen a_equations a_wanted s_0)]) [0] rfl rfl) hN) rfl rfl hl.1 rfl (lv_room (Nat.le_of_ble_eq_true rfl)) dX6_save_16 ⟨Nat.le_of_ble_eq_true rfl, Nat.le_of_ble_eq_true rfl⟩) (fun H locs hP hD hS => ?_)
    have hP : va_P G vwCl [(a_now, av_J cy 11 g_now), (a_kept, av_J cy 22 g_kept), (a_isKept, av_Z cy 2 g_isKept), (a_0, mv a_text a_now a_trial a_diary a_kept a_isKept a_seen a_equations a_wanted r_2.2)] H := hP
    have hD : va_D A [(a_now, av_J cy 11 g_now), (a_kept, av_J cy 22 g_kept), (a_isKept, av_Z cy 2 g_isKept), (a_0, mv a_text a_now a_trial a_diary a_kept a_isKept a_seen a_equations a_wanted r_2.2)] := hD
    refine lv_if_eq (tgt := 24) hx hb dX6_save_19 (by decide) (fun h_3 => ?_) (fun h_3 => ?_)
    · have hf := in_ (bI_0 h_3) hf
      refine lv_aload_n hx hb dX6_save_24 rfl (lv_at hl 0 rfl) ?_
      refine va_get (D := G) (ci := 6) (v := .ref a_now) (C := RX6) (T := TX6) (N := 15) hx hb hts iw_X6_save_X6 hown hK hP 3 rfl rfl 3 (by decide) (hts (.fieldLink RX6 13 "PaneFrostModel" "now" "[J") (by decide +kernel)) (fun _ h9 => h9) rfl dX6_save_25 ?_
      refine lv_iconst (v := 0) hx hb dX6_save_28 (by decide) ?_
      refine lv_aload_n hx hb dX6_save_29 rfl (lv_at hl 0 rfl) ?_
      refine va_get (D := G) (ci := 6) (v := .ref a_kept) (C := RX6) (T := TX6) (N := 15) hx hb hts iw_X6_save_X6 hown hK hP 3 rfl rfl 7 (by decide) (hts (.fieldLink RX6 23 "PaneFrostModel" "kept" "[J") (by decide +kernel)) (fun _ h9 => h9) rfl dX6_save_30 ?_
      refine lv_bipush (v := 11) hx hb dX6_save_33 (by decide) ?_
      refine lv_iload_n hx hb dX6_save_35 rfl (lv_at hl 1 rfl) ?_
      refine lv_imul hx hb dX6_save_36 ?_
      obtain ⟨r_4, hh_r_4, hf⟩ := obd_some hf
      refine kc_v (w1 := [(a_now, av_J cy 11 g_now), (a_kept, av_J cy 22 r_4)]) (wr := [(a_isKept, av_Z cy 2 g_isKept), (a_0, mv a_text a_now a_trial a_diary a_kept a_isKept a_seen a_equations a_wanted r_2.2)]) hP hD hS hA [0, 1] [2, 3] rfl rfl rfl (by decide) (va_runS (As := [.ref a_now, .int 0, .ref a_kept, .int (11 * x1)]) (rest := []) ⟨hx, hb, hml, hown, hts⟩ (c_X6_copyState (l := l) G cy a_now a_kept H.size g_now g_kept 11 22 0 (11 * x1) n r_4 hh_r_4) (va_cwS 4 hts gX6_save_X6_copyState rfl rfl rfl ddN_X6_copyState ⟨Nat.le_of_ble_eq_true rfl, Nat.le_of_ble_eq_true rfl⟩) (preS_ (hP.sub (ws' := [(a_now, av_J cy 11 g_now), (a_kept, av_J cy 22 g_kept)]) [0, 1] rfl) hK (hD.sub (ws' := [(a_now, av_J cy 11 g_now), (a_kept, av_J cy 22 g_kept)]) [0, 1] rfl rfl) hN) rfl rfl hl.1 rfl (lv_room (Nat.le_of_ble_eq_true rfl)) dX6_save_37 ⟨Nat.le_of_ble_eq_true rfl, Nat.le_of_ble_eq_true rfl⟩) (fun H locs hP hD hS => ?_)
      have hP : va_P G vwCl [(a_isKept, av_Z cy 2 g_isKept), (a_0, mv a_text a_now a_trial a_diary a_kept a_isKept a_seen a_equations a_wanted r_2.2), (a_now, av_J cy 11 g_now), (a_kept, av_J cy 22 r_4)] H := hP
      have hD : va_D A [(a_isKept, av_Z cy 2 g_isKept), (a_0, mv a_text a_now a_trial a_diary a_kept a_isKept a_seen a_equations a_wanted r_2.2), (a_now, av_J cy 11 g_now), (a_kept, av_J cy 22 r_4)] := hD
      refine lv_aload_n hx hb dX6_save_40 rfl (lv_at hl 0 rfl) ?_
      refine va_get (D := G) (ci := 6) (v := .ref a_isKept) (C := RX6) (T := TX6) (N := 15) hx hb hts iw_X6_save_X6 hown hK hP 1 rfl rfl 8 (by decide) (hts (.fieldLink RX6 26 "PaneFrostModel" "isKept" "[Z") (by decide +kernel)) (fun _ h9 => h9) rfl dX6_save_41 ?_
      refine lv_iload_n hx hb dX6_save_44 rfl (lv_at hl 1 rfl) ?_
      refine lv_iconst (v := 1) hx hb dX6_save_45 (by decide) ?_
      by_cases q_5 : x1 < 0 ∨ 2 ≤ x1.toNatClampNeg
      · have hf := ip_ q_5 hf; cases hf
      have hf := in_ q_5 hf
      refine vz_zast rfl hx hb hK hP hD hS 0 3 rfl rfl (vin q_5) dX6_save_46 (fun H locs hP hD hS => ?_)
      have hP : va_P G vwCl [(a_isKept, av_Z cy 2 (upd g_isKept x1.toNatClampNeg (vp_nar .boolean 1))), (a_0, mv a_text a_now a_trial a_diary a_kept a_isKept a_seen a_equations a_wanted r_2.2), (a_now, av_J cy 11 g_now), (a_kept, av_J cy 22 r_4)] H := hP
      have hD : va_D A [(a_isKept, av_Z cy 2 (upd g_isKept x1.toNatClampNeg (vp_nar .boolean 1))), (a_0, mv a_text a_now a_trial a_diary a_kept a_isKept a_seen a_equations a_wanted r_2.2), (a_now, av_J cy 11 g_now), (a_kept, av_J cy 22 r_4)] := hD
      refine lv_aload_n hx hb dX6_save_47 rfl (lv_at hl 0 rfl) ?_
      refine va_get (D := G) (ci := 6) (v := .ref a_now) (C := RX6) (T := TX6) (N := 15) hx hb hts iw_X6_save_X6 hown hK hP 1 rfl rfl 3 (by decide) (hts (.fieldLink RX6 13 "PaneFrostModel" "now" "[J") (by decide +kernel)) (fun _ h9 => h9) rfl dX6_save_48 ?_
      refine lv_iconst (v := 3) hx hb dX6_save_51 (by decide) ?_
      refine vz_lald tn_3 hx hb hK hP 2 2 rfl rfl vn_3_11 dX6_save_52 ?_
      refine lv_l2i (v := (g_now 3).toInt32) hx hb dX6_save_53 rfl ?_
      obtain rfl := Option.some.inj hf
      exact kr_i hx hb hr hlocks rfl (hP.sub (ws' := [(a_0, mv a_text a_now a_trial a_diary a_kept a_isKept a_seen a_equations a_wanted r_2.2), (a_now, av_J cy 11 g_now), (a_kept, av_J cy 22 r_4), (a_isKept, av_Z cy 2 (upd g_isKept x1.toNatClampNeg (vp_nar .boolean 1)))]) [1, 2, 3, 0] rfl) hK (hD.sub (ws' := [(a_0, mv a_text a_now a_trial a_diary a_kept a_isKept a_seen a_equations a_wanted r_2.2), (a_now, av_J cy 11 g_now), (a_kept, av_J cy 22 r_4), (a_isKept, av_Z cy 2 (upd g_isKept x1.toNatClampNeg (vp_nar .boolean 1)))]) [1, 2, 3, 0] rfl rfl) hN hS hS.2.2 dX6_save_54
    · have hf := ip_ (bI_n0 h_3) hf
      refine lv_iconst (v := 0) hx hb dX6_save_22 (by decide) ?_
      obtain rfl := Option.some.inj hf
      exact kr_i hx hb hr hlocks rfl (hP.sub (ws' := [(a_0, mv a_text a_now a_trial a_diary a_kept a_isKept a_seen a_equations a_wanted r_2.2), (a_now, av_J cy 11 g_now), (a_kept, av_J cy 22 g_kept), (a_isKept, av_Z cy 2 g_isKept)]) [3, 0, 1, 2] rfl) hK (hD.sub (ws' := [(a_0, mv a_text a_now a_trial a_diary a_kept a_isKept a_seen a_equations a_wanted r_2.2), (a_now, av_J cy 11 g_now), (a_kept, av_J cy 22 g_kept), (a_isKept, av_Z cy 2 g_isKept)]) [3, 0, 1, 2] rfl rfl) hN hS hS.2.2 dX6_save_23
  · have hf := ip_ (bI_n0 h_1) hf
    refine lv_iconst (v := 0) hx hb dX6_save_11 (by decide) ?_
    refine lv_goto (tgt := 16) hx hb dX6_save_12 (by decide) ?_
    obtain ⟨r_6, hh_r_6⟩ : ∃ z, z = f_X6_refused s_0 0 := ⟨_, rfl⟩
    have hf := lt_e hh_r_6 hf
    refine kc_i (w1 := [(a_0, mv a_text a_now a_trial a_diary a_kept a_isKept a_seen a_equations a_wanted r_6.2)]) (wr := [(a_now, av_J cy 11 g_now), (a_kept, av_J cy 22 g_kept), (a_isKept, av_Z cy 2 g_isKept)]) hP hD hS hA [0] [1, 2, 3] rfl rfl rfl (by decide) (va_runV (As := [.int 0]) (rest := []) ⟨hx, hb, hml, hown, hts⟩ (c_X6_refused (l := l) G cy a_0 a_text a_now a_trial a_diary a_kept a_isKept a_seen a_equations a_wanted H.size s_0 0  r_6 hh_r_6.symm) (cwV 1 hts gX6_save_X6_refused rfl rfl rfl ddV_X6_refused ⟨Nat.le_of_ble_eq_true rfl, Nat.le_of_ble_eq_true rfl⟩) (preV_ (ci := 6) (q0 := 0) rfl rfl (hP.sub (ws' := [(a_0, mv a_text a_now a_trial a_diary a_kept a_isKept a_seen a_equations a_wanted s_0)]) [0] rfl) hK (hD.sub (ws' := [(a_0, mv a_text a_now a_trial a_diary a_kept a_isKept a_seen a_equations a_wanted s_0)]) [0] rfl rfl) hN) rfl rfl hl.1 rfl (lv_room (Nat.le_of_ble_eq_true rfl)) dX6_save_16 ⟨Nat.le_of_ble_eq_true rfl, Nat.le_of_ble_eq_true rfl⟩) (fun H locs hP hD hS => ?_)
    have hP : va_P G vwCl [(a_now, av_J cy 11 g_now), (a_kept, av_J cy 22 g_kept), (a_isKept, av_Z cy 2 g_isKept), (a_0, mv a_text a_now a_trial a_diary a_kept a_isKept a_seen a_equations a_wanted r_6.2)] H := hP
    have hD : va_D A [(a_now, av_J cy 11 g_now), (a_kept, av_J cy 22 g_kept), (a_isKept, av_Z cy 2 g_isKept), (a_0, mv a_text a_now a_trial a_diary a_kept a_isKept a_seen a_equations a_wanted r_6.2)] := hD
    refine lv_if_eq (tgt := 24) hx hb dX6_save_19 (by decide) (fun h_7 => ?_) (fun h_7 => ?_)
    · have hf := in_ (bI_0 h_7) hf
      refine lv_aload_n hx hb dX6_save_24 rfl (lv_at hl 0 rfl) ?_
      refine va_get (D := G) (ci := 6) (v := .ref a_now) (C := RX6) (T := TX6) (N := 15) hx hb hts iw_X6_save_X6 hown hK hP 3 rfl rfl 3 (by decide) (hts (.fieldLink RX6 13 "PaneFrostModel" "now" "[J") (by decide +kernel)) (fun _ h9 => h9) rfl dX6_save_25 ?_
      refine lv_iconst (v := 0) hx hb dX6_save_28 (by decide) ?_
      refine lv_aload_n hx hb dX6_save_29 rfl (lv_at hl 0 rfl) ?_
      refine va_get (D := G) (ci := 6) (v := .ref a_kept) (C := RX6) (T := TX6) (N := 15) hx hb hts iw_X6_save_X6 hown hK hP 3 rfl rfl 7 (by decide) (hts (.fieldLink RX6 23 "PaneFrostModel" "kept" "[J") (by decide +kernel)) (fun _ h9 => h9) rfl dX6_save_30 ?_
      refine lv_bipush (v := 11) hx hb dX6_save_33 (by decide) ?_
      refine lv_iload_n hx hb dX6_save_35 rfl (lv_at hl 1 rfl) ?_
      refine lv_imul hx hb dX6_save_36 ?_
      obtain ⟨r_8, hh_r_8, hf⟩ := obd_some hf
      refine kc_v (w1 := [(a_now, av_J cy 11 g_now), (a_kept, av_J cy 22 r_8)]) (wr := [(a_isKept, av_Z cy 2 g_isKept), (a_0, mv a_text a_now a_trial a_diary a_kept a_isKept a_seen a_equations a_wanted r_6.2)]) hP hD hS hA [0, 1] [2, 3] rfl rfl rfl (by decide) (va_runS (As := [.ref a_now, .int 0, .ref a_kept, .int (11 * x1)]) (rest := []) ⟨hx, hb, hml, hown, hts⟩ (c_X6_copyState (l := l) G cy a_now a_kept H.size g_now g_kept 11 22 0 (11 * x1) n r_8 hh_r_8) (va_cwS 4 hts gX6_save_X6_copyState rfl rfl rfl ddN_X6_copyState ⟨Nat.le_of_ble_eq_true rfl, Nat.le_of_ble_eq_true rfl⟩) (preS_ (hP.sub (ws' := [(a_now, av_J cy 11 g_now), (a_kept, av_J cy 22 g_kept)]) [0, 1] rfl) hK (hD.sub (ws' := [(a_now, av_J cy 11 g_now), (a_kept, av_J cy 22 g_kept)]) [0, 1] rfl rfl) hN) rfl rfl hl.1 rfl (lv_room (Nat.le_of_ble_eq_true rfl)) dX6_save_37 ⟨Nat.le_of_ble_eq_true rfl, Nat.le_of_ble_eq_true rfl⟩) (fun H locs hP hD hS => ?_)
      have hP : va_P G vwCl [(a_isKept, av_Z cy 2 g_isKept), (a_0, mv a_text a_now a_trial a_diary a_kept a_isKept a_seen a_equations a_wanted r_6.2), (a_now, av_J cy 11 g_now), (a_kept, av_J cy 22 r_8)] H := hP
      have hD : va_D A [(a_isKept, av_Z cy 2 g_isKept), (a_0, mv a_text a_now a_trial a_diary a_kept a_isKept a_seen a_equations a_wanted r_6.2), (a_now, av_J cy 11 g_now), (a_kept, av_J cy 22 r_8)] := hD
      refine lv_aload_n hx hb dX6_save_40 rfl (lv_at hl 0 rfl) ?_
      refine va_get (D := G) (ci := 6) (v := .ref a_isKept) (C := RX6) (T := TX6) (N := 15) hx hb hts iw_X6_save_X6 hown hK hP 1 rfl rfl 8 (by decide) (hts (.fieldLink RX6 26 "PaneFrostModel" "isKept" "[Z") (by decide +kernel)) (fun _ h9 => h9) rfl dX6_save_41 ?_
      refine lv_iload_n hx hb dX6_save_44 rfl (lv_at hl 1 rfl) ?_
      refine lv_iconst (v := 1) hx hb dX6_save_45 (by decide) ?_
      by_cases q_9 : x1 < 0 ∨ 2 ≤ x1.toNatClampNeg
      · have hf := ip_ q_9 hf; cases hf
      have hf := in_ q_9 hf
      refine vz_zast rfl hx hb hK hP hD hS 0 3 rfl rfl (vin q_9) dX6_save_46 (fun H locs hP hD hS => ?_)
      have hP : va_P G vwCl [(a_isKept, av_Z cy 2 (upd g_isKept x1.toNatClampNeg (vp_nar .boolean 1))), (a_0, mv a_text a_now a_trial a_diary a_kept a_isKept a_seen a_equations a_wanted r_6.2), (a_now, av_J cy 11 g_now), (a_kept, av_J cy 22 r_8)] H := hP
      have hD : va_D A [(a_isKept, av_Z cy 2 (upd g_isKept x1.toNatClampNeg (vp_nar .boolean 1))), (a_0, mv a_text a_now a_trial a_diary a_kept a_isKept a_seen a_equations a_wanted r_6.2), (a_now, av_J cy 11 g_now), (a_kept, av_J cy 22 r_8)] := hD
      refine lv_aload_n hx hb dX6_save_47 rfl (lv_at hl 0 rfl) ?_
      refine va_get (D := G) (ci := 6) (v := .ref a_now) (C := RX6) (T := TX6) (N := 15) hx hb hts iw_X6_save_X6 hown hK hP 1 rfl rfl 3 (by decide) (hts (.fieldLink RX6 13 "PaneFrostModel" "now" "[J") (by decide +kernel)) (fun _ h9 => h9) rfl dX6_save_48 ?_
      refine lv_iconst (v := 3) hx hb dX6_save_51 (by decide) ?_
      refine vz_lald tn_3 hx hb hK hP 2 2 rfl rfl vn_3_11 dX6_save_52 ?_
      refine lv_l2i (v := (g_now 3).toInt32) hx hb dX6_save_53 rfl ?_
      obtain rfl := Option.some.inj hf
      exact kr_i hx hb hr hlocks rfl (hP.sub (ws' := [(a_0, mv a_text a_now a_trial a_diary a_kept a_isKept a_seen a_equations a_wanted r_6.2), (a_now, av_J cy 11 g_now), (a_kept, av_J cy 22 r_8), (a_isKept, av_Z cy 2 (upd g_isKept x1.toNatClampNeg (vp_nar .boolean 1)))]) [1, 2, 3, 0] rfl) hK (hD.sub (ws' := [(a_0, mv a_text a_now a_trial a_diary a_kept a_isKept a_seen a_equations a_wanted r_6.2), (a_now, av_J cy 11 g_now), (a_kept, av_J cy 22 r_8), (a_isKept, av_Z cy 2 (upd g_isKept x1.toNatClampNeg (vp_nar .boolean 1)))]) [1, 2, 3, 0] rfl rfl) hN hS hS.2.2 dX6_save_54
    · have hf := ip_ (bI_n0 h_7) hf
      refine lv_iconst (v := 0) hx hb dX6_save_22 (by decide) ?_
      obtain rfl := Option.some.inj hf
      exact kr_i hx hb hr hlocks rfl (hP.sub (ws' := [(a_0, mv a_text a_now a_trial a_diary a_kept a_isKept a_seen a_equations a_wanted r_6.2), (a_now, av_J cy 11 g_now), (a_kept, av_J cy 22 g_kept), (a_isKept, av_Z cy 2 g_isKept)]) [3, 0, 1, 2] rfl) hK (hD.sub (ws' := [(a_0, mv a_text a_now a_trial a_diary a_kept a_isKept a_seen a_equations a_wanted r_6.2), (a_now, av_J cy 11 g_now), (a_kept, av_J cy 22 g_kept), (a_isKept, av_Z cy 2 g_isKept)]) [3, 0, 1, 2] rfl rfl) hN hS hS.2.2 dX6_save_23
set_option maxHeartbeats 4000000 in
set_option maxRecDepth 100000 in
theorem c_X6_restore {l : Launch} (G : va_G) (cy : Nat → ClassId) (a_0 : Nat) (a_text : Nat) (a_now : Nat) (a_trial : Nat) (a_diary : Nat) (a_kept : Nat) (a_isKept : Nat) (a_seen : Nat) (a_equations : Nat) (a_wanted : Nat) (sz : Nat) (s_0 : MT) (g_now : Nat → Int64) (g_kept : Nat → Int64) (g_isKept : Nat → Int32) (x1 : Int32) (n : Nat) (R : Int32 × MT × (Nat → Int64)) (hf : f_X6_restore n s_0 g_now g_kept g_isKept x1 = some R) : Met l yX6_restore wsX6_restore ({ frames := 1, cells := 0, slots := 0, locals := 25 } : Room) (va_Pc [.ref a_0, .int x1] (pcW G cy [(a_0, mv a_text a_now a_trial a_diary a_kept a_isKept a_seen a_equations a_wanted s_0), (a_now, av_J cy 11 g_now), (a_kept, av_J cy 22 g_kept), (a_isKept, av_Z cy 2 g_isKept)] sz)) (va_Qi (fun r (_ : Unit) => r = R.1) (fun _ t => Wd G cy (va_A [(a_0, mv a_text a_now a_trial a_diary a_kept a_isKept a_seen a_equations a_wanted s_0), (a_now, av_J cy 11 g_now), (a_kept, av_J cy 22 g_kept), (a_isKept, av_Z cy 2 g_isKept)] sz) [(a_0, mv a_text a_now a_trial a_diary a_kept a_isKept a_seen a_equations a_wanted R.2.1), (a_now, av_J cy 11 R.2.2), (a_kept, av_J cy 22 g_kept), (a_isKept, av_Z cy 2 g_isKept)] t) (va_A [(a_0, mv a_text a_now a_trial a_diary a_kept a_isKept a_seen a_equations a_wanted s_0), (a_now, av_J cy 11 g_now), (a_kept, av_J cy 22 g_kept), (a_isKept, av_Z cy 2 g_isKept)] sz)) 0 0 (va_A [(a_0, mv a_text a_now a_trial a_diary a_kept a_isKept a_seen a_equations a_wanted s_0), (a_now, av_J cy 11 g_now), (a_kept, av_J cy 22 g_kept), (a_isKept, av_Z cy 2 g_isKept)] sz) := by
  refine Met.ofW (cc := cX6_restore) (maxL := 2) (ret := (some .int)) (by decide) rfl ?_
  intro p e s m args below meth c s₁ B hml hv
  obtain ⟨rfl, hsz, hP, hK, hD0, hN⟩ := hv
  have hx := B.exec
  have hb := B.bytes
  have hr := B.returns
  have hts := atoms_spec (ws := wsX6_restore) B.pre
  have hown : s.vm.findClass RX6 = some m.cls := findClass_of_methodNamed B.named
  have hlocks := B.notSynchronized
  subst hsz
  have hD := hD0.self (sz := s.heap.size)
  generalize hAe : va_A [(a_0, mv a_text a_now a_trial a_diary a_kept a_isKept a_seen a_equations a_wanted s_0), (a_now, av_J cy 11 g_now), (a_kept, av_J cy 22 g_kept), (a_isKept, av_Z cy 2 g_isKept)] s.heap.size = A at hD ⊢
  have hA : ∀ q : Nat, s.heap.size ≤ q → A q := fun q h => by rw [← hAe]; exact Or.inr h
  have hS : va_S A s.heap s.heap [] := va_S.rf
  have hP : va_P G vwCl [(a_0, mv a_text a_now a_trial a_diary a_kept a_isKept a_seen a_equations a_wanted s_0), (a_now, av_J cy 11 g_now), (a_kept, av_J cy 22 g_kept), (a_isKept, av_Z cy 2 g_isKept)] s.heap := hP
  have bl_29 : ∀ (c_s_0 : MT) (c_g_now : Nat → Int64) (y1 : Int32) (z1 : Int32) (H : Heap) (locs : List Loc), f_X6_restore_b29 n g_kept g_isKept c_s_0 c_g_now y1 z1 = some R → va_P G vwCl [(a_0, mv a_text a_now a_trial a_diary a_kept a_isKept a_seen a_equations a_wanted c_s_0), (a_now, av_J cy 11 c_g_now), (a_kept, av_J cy 22 g_kept), (a_isKept, av_Z cy 2 g_isKept)] H → va_D A [(a_0, mv a_text a_now a_trial a_diary a_kept a_isKept a_seen a_equations a_wanted c_s_0), (a_now, av_J cy 11 c_g_now), (a_kept, av_J cy 22 g_kept), (a_isKept, av_Z cy 2 g_isKept)] → va_S A s.heap H locs → ∀ (ls : Array Slot), lv_has ls 2 [(0, .ref a_0), (1, .int y1)] → W p l e ({ frames := 1, cells := 0, slots := 0, locals := 25 } : Room) s m [.ref a_0, .int x1].toArray below meth c H locs 0 0 (MQ below (va_Qi (fun r (_ : Unit) => r = R.1) (fun _ t => Wd G cy A [(a_0, mv a_text a_now a_trial a_diary a_kept a_isKept a_seen a_equations a_wanted R.2.1), (a_now, av_J cy 11 R.2.2), (a_kept, av_J cy 22 g_kept), (a_isKept, av_Z cy 2 g_isKept)] t) A) [.ref a_0, .int x1].toArray s 0 0 A) (F0 m 29 ls [.int z1, .ref a_0]) := by
    intro c_s_0 c_g_now y1 z1 H locs hf hP hD hS ls hl
    unfold f_X6_restore_b29 at hf
    obtain ⟨r_1, hh_r_1⟩ : ∃ z, z = f_X6_refused c_s_0 z1 := ⟨_, rfl⟩
    have hf := lt_e hh_r_1 hf
    refine kc_i (w1 := [(a_0, mv a_text a_now a_trial a_diary a_kept a_isKept a_seen a_equations a_wanted r_1.2)]) (wr := [(a_now, av_J cy 11 c_g_now), (a_kept, av_J cy 22 g_kept), (a_isKept, av_Z cy 2 g_isKept)]) hP hD hS hA [0] [1, 2, 3] rfl rfl rfl (by decide) (va_runV (As := [.int z1]) (rest := []) ⟨hx, hb, hml, hown, hts⟩ (c_X6_refused (l := l) G cy a_0 a_text a_now a_trial a_diary a_kept a_isKept a_seen a_equations a_wanted H.size c_s_0 z1  r_1 hh_r_1.symm) (cwV 1 hts gX6_restore_X6_refused rfl rfl rfl ddV_X6_refused ⟨Nat.le_of_ble_eq_true rfl, Nat.le_of_ble_eq_true rfl⟩) (preV_ (ci := 6) (q0 := 0) rfl rfl (hP.sub (ws' := [(a_0, mv a_text a_now a_trial a_diary a_kept a_isKept a_seen a_equations a_wanted c_s_0)]) [0] rfl) hK (hD.sub (ws' := [(a_0, mv a_text a_now a_trial a_diary a_kept a_isKept a_seen a_equations a_wanted c_s_0)]) [0] rfl rfl) hN) rfl rfl hl.1 rfl (lv_room (Nat.le_of_ble_eq_true rfl)) dX6_restore_29 ⟨Nat.le_of_ble_eq_true rfl, Nat.le_of_ble_eq_true rfl⟩) (fun H locs hP hD hS => ?_)
    have hP : va_P G vwCl [(a_now, av_J cy 11 c_g_now), (a_kept, av_J cy 22 g_kept), (a_isKept, av_Z cy 2 g_isKept), (a_0, mv a_text a_now a_trial a_diary a_kept a_isKept a_seen a_equations a_wanted r_1.2)] H := hP
    have hD : va_D A [(a_now, av_J cy 11 c_g_now), (a_kept, av_J cy 22 g_kept), (a_isKept, av_Z cy 2 g_isKept), (a_0, mv a_text a_now a_trial a_diary a_kept a_isKept a_seen a_equations a_wanted r_1.2)] := hD
    refine lv_if_eq (tgt := 37) hx hb dX6_restore_32 (by decide) (fun h_2 => ?_) (fun h_2 => ?_)
    · have hf := in_ (bI_0 h_2) hf
      refine lv_aload_n hx hb dX6_restore_37 rfl (lv_at hl 0 rfl) ?_
      refine va_get (D := G) (ci := 6) (v := .ref a_kept) (C := RX6) (T := TX6) (N := 15) hx hb hts iw_X6_restore_X6 hown hK hP 3 rfl rfl 7 (by decide) (hts (.fieldLink RX6 23 "PaneFrostModel" "kept" "[J") (by decide +kernel)) (fun _ h9 => h9) rfl dX6_restore_38 ?_
      refine lv_bipush (v := 11) hx hb dX6_restore_41 (by decide) ?_
      refine lv_iload_n hx hb dX6_restore_43 rfl (lv_at hl 1 rfl) ?_
      refine lv_imul hx hb dX6_restore_44 ?_
      refine lv_aload_n hx hb dX6_restore_45 rfl (lv_at hl 0 rfl) ?_
      refine va_get (D := G) (ci := 6) (v := .ref a_now) (C := RX6) (T := TX6) (N := 15) hx hb hts iw_X6_restore_X6 hown hK hP 3 rfl rfl 3 (by decide) (hts (.fieldLink RX6 13 "PaneFrostModel" "now" "[J") (by decide +kernel)) (fun _ h9 => h9) rfl dX6_restore_46 ?_
      refine lv_iconst (v := 0) hx hb dX6_restore_49 (by decide) ?_
      obtain ⟨r_3, hh_r_3, hf⟩ := obd_some hf
      refine kc_v (w1 := [(a_kept, av_J cy 22 g_kept), (a_now, av_J cy 11 r_3)]) (wr := [(a_isKept, av_Z cy 2 g_isKept), (a_0, mv a_text a_now a_trial a_diary a_kept a_isKept a_seen a_equations a_wanted r_1.2)]) hP hD hS hA [1, 0] [2, 3] rfl rfl rfl (by decide) (va_runS (As := [.ref a_kept, .int (11 * y1), .ref a_now, .int 0]) (rest := []) ⟨hx, hb, hml, hown, hts⟩ (c_X6_copyState (l := l) G cy a_kept a_now H.size g_kept c_g_now 22 11 (11 * y1) 0 n r_3 hh_r_3) (va_cwS 4 hts gX6_restore_X6_copyState rfl rfl rfl ddN_X6_copyState ⟨Nat.le_of_ble_eq_true rfl, Nat.le_of_ble_eq_true rfl⟩) (preS_ (hP.sub (ws' := [(a_kept, av_J cy 22 g_kept), (a_now, av_J cy 11 c_g_now)]) [1, 0] rfl) hK (hD.sub (ws' := [(a_kept, av_J cy 22 g_kept), (a_now, av_J cy 11 c_g_now)]) [1, 0] rfl rfl) hN) rfl rfl hl.1 rfl (lv_room (Nat.le_of_ble_eq_true rfl)) dX6_restore_50 ⟨Nat.le_of_ble_eq_true rfl, Nat.le_of_ble_eq_true rfl⟩) (fun H locs hP hD hS => ?_)
      have hP : va_P G vwCl [(a_isKept, av_Z cy 2 g_isKept), (a_0, mv a_text a_now a_trial a_diary a_kept a_isKept a_seen a_equations a_wanted r_1.2), (a_kept, av_J cy 22 g_kept), (a_now, av_J cy 11 r_3)] H := hP
      have hD : va_D A [(a_isKept, av_Z cy 2 g_isKept), (a_0, mv a_text a_now a_trial a_diary a_kept a_isKept a_seen a_equations a_wanted r_1.2), (a_kept, av_J cy 22 g_kept), (a_now, av_J cy 11 r_3)] := hD
      refine lv_aload_n hx hb dX6_restore_53 rfl (lv_at hl 0 rfl) ?_
      refine lv_iconst (v := 0) hx hb dX6_restore_54 (by decide) ?_
      refine va_put (D := G) (ci := 6) (v := .int 0) (ty := .int) (C := RX6) (T := TX6) (N := 15) hx hb hts iw_X6_restore_X6 tyX6 tyX6_ok nmX6 hown hK hP hD hS 1 rfl rfl 6 (by decide) (hts (.fieldLink RX6 178 "PaneFrostModel" "acts" "I") (by decide +kernel)) (fun _ h9 => h9) rfl (by decide +kernel) rfl rfl (Nat.le_of_ble_eq_true rfl) dX6_restore_55 (fun H locs hP hD hS => ?_)
      have hP : va_P G vwCl [(a_isKept, av_Z cy 2 g_isKept), (a_0, mv a_text a_now a_trial a_diary a_kept a_isKept a_seen a_equations a_wanted (m_refusal r_1.2, m_size r_1.2, 0, m_rank r_1.2, m_spot r_1.2, m_out r_1.2)), (a_kept, av_J cy 22 g_kept), (a_now, av_J cy 11 r_3)] H := hP
      have hD : va_D A [(a_isKept, av_Z cy 2 g_isKept), (a_0, mv a_text a_now a_trial a_diary a_kept a_isKept a_seen a_equations a_wanted (m_refusal r_1.2, m_size r_1.2, 0, m_rank r_1.2, m_spot r_1.2, m_out r_1.2)), (a_kept, av_J cy 22 g_kept), (a_now, av_J cy 11 r_3)] := hD
      refine lv_aload_n hx hb dX6_restore_58 rfl (lv_at hl 0 rfl) ?_
      refine va_get (D := G) (ci := 6) (v := .ref a_now) (C := RX6) (T := TX6) (N := 15) hx hb hts iw_X6_restore_X6 hown hK hP 1 rfl rfl 3 (by decide) (hts (.fieldLink RX6 13 "PaneFrostModel" "now" "[J") (by decide +kernel)) (fun _ h9 => h9) rfl dX6_restore_59 ?_
      refine lv_iconst (v := 3) hx hb dX6_restore_62 (by decide) ?_
      refine vz_lald tn_3 hx hb hK hP 3 2 rfl rfl vn_3_11 dX6_restore_63 ?_
      refine lv_l2i (v := (r_3 3).toInt32) hx hb dX6_restore_64 rfl ?_
      obtain rfl := Option.some.inj hf
      exact kr_i hx hb hr hlocks rfl (hP.sub (ws' := [(a_0, mv a_text a_now a_trial a_diary a_kept a_isKept a_seen a_equations a_wanted (m_refusal r_1.2, m_size r_1.2, 0, m_rank r_1.2, m_spot r_1.2, m_out r_1.2)), (a_now, av_J cy 11 r_3), (a_kept, av_J cy 22 g_kept), (a_isKept, av_Z cy 2 g_isKept)]) [1, 3, 2, 0] rfl) hK (hD.sub (ws' := [(a_0, mv a_text a_now a_trial a_diary a_kept a_isKept a_seen a_equations a_wanted (m_refusal r_1.2, m_size r_1.2, 0, m_rank r_1.2, m_spot r_1.2, m_out r_1.2)), (a_now, av_J cy 11 r_3), (a_kept, av_J cy 22 g_kept), (a_isKept, av_Z cy 2 g_isKept)]) [1, 3, 2, 0] rfl rfl) hN hS hS.2.2 dX6_restore_65
    · have hf := ip_ (bI_n0 h_2) hf
      refine lv_iconst (v := 0) hx hb dX6_restore_35 (by decide) ?_
      obtain rfl := Option.some.inj hf
      exact kr_i hx hb hr hlocks rfl (hP.sub (ws' := [(a_0, mv a_text a_now a_trial a_diary a_kept a_isKept a_seen a_equations a_wanted r_1.2), (a_now, av_J cy 11 c_g_now), (a_kept, av_J cy 22 g_kept), (a_isKept, av_Z cy 2 g_isKept)]) [3, 0, 1, 2] rfl) hK (hD.sub (ws' := [(a_0, mv a_text a_now a_trial a_diary a_kept a_isKept a_seen a_equations a_wanted r_1.2), (a_now, av_J cy 11 c_g_now), (a_kept, av_J cy 22 g_kept), (a_isKept, av_Z cy 2 g_isKept)]) [3, 0, 1, 2] rfl rfl) hN hS hS.2.2 dX6_restore_36
  have hl := lv_entry [.ref a_0, .int x1] (n := 2) (Nat.le_of_ble_eq_true rfl)
  rw [lg_entry_eq]
  generalize (lg_sl [.ref a_0, .int x1] ++ List.replicate (2 - (lg_sl [.ref a_0, .int x1]).length) Slot.unset).toArray = ls at hl ⊢
  have hl : lv_has ls 2 [(0, .ref a_0), (1, .int x1)] := hl
  unfold f_X6_restore at hf
  refine lv_aload_n hx hb dX6_restore_0 rfl (lv_at hl 0 rfl) ?_
  refine lv_iload_n hx hb dX6_restore_1 rfl (lv_at hl 1 rfl) ?_
  refine lv_i2l (v := x1.toInt64) hx hb dX6_restore_2 rfl ?_
  refine lv_lconst (v := 0) hx hb dX6_restore_3 rfl ?_
  refine lv_lconst (v := 1) hx hb dX6_restore_4 rfl ?_
  refine kc_i (w1 := []) (wr := [(a_0, mv a_text a_now a_trial a_diary a_kept a_isKept a_seen a_equations a_wanted s_0), (a_now, av_J cy 11 g_now), (a_kept, av_J cy 22 g_kept), (a_isKept, av_Z cy 2 g_isKept)]) hP hD hS hA [] [0, 1, 2, 3] rfl rfl rfl (by decide) (va_runS (As := [.long x1.toInt64, .long 0, .long 1]) (rest := [.ref a_0]) ⟨hx, hb, hml, hown, hts⟩ (c_X6_in (l := l) G cy  s.heap.size x1.toInt64 0 1  (f_X6_in x1.toInt64 0 1) rfl) (va_cwS 3 hts gX6_restore_X6_in rfl rfl rfl ddN_X6_in ⟨Nat.le_of_ble_eq_true rfl, Nat.le_of_ble_eq_true rfl⟩) (preS_ (hP.sub (ws' := []) [] rfl) hK (hD.sub (ws' := []) [] rfl rfl) hN) rfl rfl hl.1 rfl (lv_room (Nat.le_of_ble_eq_true rfl)) dX6_restore_5 ⟨Nat.le_of_ble_eq_true rfl, Nat.le_of_ble_eq_true rfl⟩) (fun H locs hP hD hS => ?_)
  have hP : va_P G vwCl [(a_0, mv a_text a_now a_trial a_diary a_kept a_isKept a_seen a_equations a_wanted s_0), (a_now, av_J cy 11 g_now), (a_kept, av_J cy 22 g_kept), (a_isKept, av_Z cy 2 g_isKept)] H := hP
  have hD : va_D A [(a_0, mv a_text a_now a_trial a_diary a_kept a_isKept a_seen a_equations a_wanted s_0), (a_now, av_J cy 11 g_now), (a_kept, av_J cy 22 g_kept), (a_isKept, av_Z cy 2 g_isKept)] := hD
  refine lv_if_ne (tgt := 15) hx hb dX6_restore_8 (by decide) (fun h_4 => ?_) (fun h_4 => ?_)
  · have hf := ip_ (bI_n0 h_4) hf
    refine lv_aload_n hx hb dX6_restore_15 rfl (lv_at hl 0 rfl) ?_
    refine va_get (D := G) (ci := 6) (v := .ref a_isKept) (C := RX6) (T := TX6) (N := 15) hx hb hts iw_X6_restore_X6 hown hK hP 0 rfl rfl 8 (by decide) (hts (.fieldLink RX6 26 "PaneFrostModel" "isKept" "[Z") (by decide +kernel)) (fun _ h9 => h9) rfl dX6_restore_16 ?_
    refine lv_iload_n hx hb dX6_restore_19 rfl (lv_at hl 1 rfl) ?_
    by_cases q_5 : x1 < 0 ∨ 2 ≤ x1.toNatClampNeg
    · have hf := ip_ q_5 hf; cases hf
    have hf := in_ q_5 hf
    refine vz_zald rfl hx hb hK hP 3 3 rfl rfl (vin q_5) dX6_restore_20 ?_
    refine lv_if_ne (tgt := 28) hx hb dX6_restore_21 (by decide) (fun h_6 => ?_) (fun h_6 => ?_)
    · have hf := in_ h_6 hf
      refine lv_iconst (v := 0) hx hb dX6_restore_28 (by decide) ?_
      exact bl_29  s_0 g_now x1 0 _ _ hf hP hD hS ls (lv_sub hl [0, 1] rfl)
    · have hf := ip_ h_6 hf
      refine lv_iconst (v := 2) hx hb dX6_restore_24 (by decide) ?_
      refine lv_goto (tgt := 29) hx hb dX6_restore_25 (by decide) ?_
      exact bl_29  s_0 g_now x1 2 _ _ hf hP hD hS ls (lv_sub hl [0, 1] rfl)
  · have hf := in_ (bI_0 h_4) hf
    refine lv_iconst (v := 1) hx hb dX6_restore_11 (by decide) ?_
    refine lv_goto (tgt := 29) hx hb dX6_restore_12 (by decide) ?_
    exact bl_29  s_0 g_now x1 1 _ _ hf hP hD hS ls (lv_sub hl [0, 1] rfl)
