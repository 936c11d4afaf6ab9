theorem ddN_J13_bitCount_95d88 : yJ13_bitCount_95d88.cls ≠ "java/lang/invoke/MethodHandle" ∧ yJ13_bitCount_95d88.cls ≠ "java/lang/invoke/VarHandle" ∧ (parseMethodDescriptor yJ13_bitCount_95d88.desc).map (fun d => d.parameters.length) = some 1 := by decide +kernel
theorem ddV_J13_bitCount_95d88 : yJ13_bitCount_95d88.cls = RJ13 ∧ yJ13_bitCount_95d88.cls ≠ "java/lang/invoke/MethodHandle" ∧ yJ13_bitCount_95d88.cls ≠ "java/lang/invoke/VarHandle" ∧ (parseMethodDescriptor yJ13_bitCount_95d88.desc).map (fun d => d.parameters.length) = some 1 := by decide +kernel
theorem ddN_X4_after : yX4_after.cls ≠ "java/lang/invoke/MethodHandle" ∧ yX4_after.cls ≠ "java/lang/invoke/VarHandle" ∧ (parseMethodDescriptor yX4_after.desc).map (fun d => d.parameters.length) = some 1 := by decide +kernel
theorem ddV_X4_after : yX4_after.cls = RX4 ∧ yX4_after.cls ≠ "java/lang/invoke/MethodHandle" ∧ yX4_after.cls ≠ "java/lang/invoke/VarHandle" ∧ (parseMethodDescriptor yX4_after.desc).map (fun d => d.parameters.length) = some 1 := by decide +kernel
theorem ddN_X4_along : yX4_along.cls ≠ "java/lang/invoke/MethodHandle" ∧ yX4_along.cls ≠ "java/lang/invoke/VarHandle" ∧ (parseMethodDescriptor yX4_along.desc).map (fun d => d.parameters.length) = some 1 := by decide +kernel
theorem ddV_X4_along : yX4_along.cls = RX4 ∧ yX4_along.cls ≠ "java/lang/invoke/MethodHandle" ∧ yX4_along.cls ≠ "java/lang/invoke/VarHandle" ∧ (parseMethodDescriptor yX4_along.desc).map (fun d => d.parameters.length) = some 1 := by decide +kernel
theorem ddN_X4_around : yX4_around.cls ≠ "java/lang/invoke/MethodHandle" ∧ yX4_around.cls ≠ "java/lang/invoke/VarHandle" ∧ (parseMethodDescriptor yX4_around.desc).map (fun d => d.parameters.length) = some 1 := by decide +kernel
theorem ddV_X4_around : yX4_around.cls = RX4 ∧ yX4_around.cls ≠ "java/lang/invoke/MethodHandle" ∧ yX4_around.cls ≠ "java/lang/invoke/VarHandle" ∧ (parseMethodDescriptor yX4_around.desc).map (fun d => d.parameters.length) = some 1 := by decide +kernel
theorem ddN_X4_beside : yX4_beside.cls ≠ "java/lang/invoke/MethodHandle" ∧ yX4_beside.cls ≠ "java/lang/invoke/VarHandle" ∧ (parseMethodDescriptor yX4_beside.desc).map (fun d => d.parameters.length) = some 2 := by decide +kernel
theorem ddV_X4_beside : yX4_beside.cls = RX4 ∧ yX4_beside.cls ≠ "java/lang/invoke/MethodHandle" ∧ yX4_beside.cls ≠ "java/lang/invoke/VarHandle" ∧ (parseMethodDescriptor yX4_beside.desc).map (fun d => d.parameters.length) = some 2 := by decide +kernel
theorem ddN_X4_coldFrom : yX4_coldFrom.cls ≠ "java/lang/invoke/MethodHandle" ∧ yX4_coldFrom.cls ≠ "java/lang/invoke/VarHandle" ∧ (parseMethodDescriptor yX4_coldFrom.desc).map (fun d => d.parameters.length) = some 2 := by decide +kernel
theorem ddV_X4_coldFrom : yX4_coldFrom.cls = RX4 ∧ yX4_coldFrom.cls ≠ "java/lang/invoke/MethodHandle" ∧ yX4_coldFrom.cls ≠ "java/lang/invoke/VarHandle" ∧ (parseMethodDescriptor yX4_coldFrom.desc).map (fun d => d.parameters.length) = some 2 := by decide +kernel
theorem ddN_X4_fromAbove : yX4_fromAbove.cls ≠ "java/lang/invoke/MethodHandle" ∧ yX4_fromAbove.cls ≠ "java/lang/invoke/VarHandle" ∧ (parseMethodDescriptor yX4_fromAbove.desc).map (fun d => d.parameters.length) = some 2 := by decide +kernel
theorem ddV_X4_fromAbove : yX4_fromAbove.cls = RX4 ∧ yX4_fromAbove.cls ≠ "java/lang/invoke/MethodHandle" ∧ yX4_fromAbove.cls ≠ "java/lang/invoke/VarHandle" ∧ (parseMethodDescriptor yX4_fromAbove.desc).map (fun d => d.parameters.length) = some 2 := by decide +kernel
theorem ddN_X4_fromBelow : yX4_fromBelow.cls ≠ "java/lang/invoke/MethodHandle" ∧ yX4_fromBelow.cls ≠ "java/lang/invoke/VarHandle" ∧ (parseMethodDescriptor yX4_fromBelow.desc).map (fun d => d.parameters.length) = some 2 := by decide +kernel
theorem ddV_X4_fromBelow : yX4_fromBelow.cls = RX4 ∧ yX4_fromBelow.cls ≠ "java/lang/invoke/MethodHandle" ∧ yX4_fromBelow.cls ≠ "java/lang/invoke/VarHandle" ∧ (parseMethodDescriptor yX4_fromBelow.desc).map (fun d => d.parameters.length) = some 2 := by decide +kernel
theorem ddN_X4_fromLeft : yX4_fromLeft.cls ≠ "java/lang/invoke/MethodHandle" ∧ yX4_fromLeft.cls ≠ "java/lang/invoke/VarHandle" ∧ (parseMethodDescriptor yX4_fromLeft.desc).map (fun d => d.parameters.length) = some 2 := by decide +kernel
theorem ddV_X4_fromLeft : yX4_fromLeft.cls = RX4 ∧ yX4_fromLeft.cls ≠ "java/lang/invoke/MethodHandle" ∧ yX4_fromLeft.cls ≠ "java/lang/invoke/VarHandle" ∧ (parseMethodDescriptor yX4_fromLeft.desc).map (fun d => d.parameters.length) = some 2 := by decide +kernel
theorem ddN_X4_fromRight : yX4_fromRight.cls ≠ "java/lang/invoke/MethodHandle" ∧ yX4_fromRight.cls ≠ "java/lang/invoke/VarHandle" ∧ (parseMethodDescriptor yX4_fromRight.desc).map (fun d => d.parameters.length) = some 2 := by decide +kernel
theorem ddV_X4_fromRight : yX4_fromRight.cls = RX4 ∧ yX4_fromRight.cls ≠ "java/lang/invoke/MethodHandle" ∧ yX4_fromRight.cls ≠ "java/lang/invoke/VarHandle" ∧ (parseMethodDescriptor yX4_fromRight.desc).map (fun d => d.parameters.length) = some 2 := by decide +kernel
theorem ddN_X4_hasCell : yX4_hasCell.cls ≠ "java/lang/invoke/MethodHandle" ∧ yX4_hasCell.cls ≠ "java/lang/invoke/VarHandle" ∧ (parseMethodDescriptor yX4_hasCell.desc).map (fun d => d.parameters.length) = some 1 := by decide +kernel
theorem ddV_X4_hasCell : yX4_hasCell.cls = RX4 ∧ yX4_hasCell.cls ≠ "java/lang/invoke/MethodHandle" ∧ yX4_hasCell.cls ≠ "java/lang/invoke/VarHandle" ∧ (parseMethodDescriptor yX4_hasCell.desc).map (fun d => d.parameters.length) = some 1 := by decide +kernel
theorem ddN_X4_isFrozen : yX4_isFrozen.cls ≠ "java/lang/invoke/MethodHandle" ∧ yX4_isFrozen.cls ≠ "java/lang/invoke/VarHandle" ∧ (parseMethodDescriptor yX4_isFrozen.desc).map (fun d => d.parameters.length) = some 1 := by decide +kernel
theorem ddV_X4_isFrozen : yX4_isFrozen.cls = RX4 ∧ yX4_isFrozen.cls ≠ "java/lang/invoke/MethodHandle" ∧ yX4_isFrozen.cls ≠ "java/lang/invoke/VarHandle" ∧ (parseMethodDescriptor yX4_isFrozen.desc).map (fun d => d.parameters.length) = some 1 := by decide +kernel
theorem ddN_X4_isScratched : yX4_isScratched.cls ≠ "java/lang/invoke/MethodHandle" ∧ yX4_isScratched.cls ≠ "java/lang/invoke/VarHandle" ∧ (parseMethodDescriptor yX4_isScratched.desc).map (fun d => d.parameters.length) = some 2 := by decide +kernel
theorem ddV_X4_isScratched : yX4_isScratched.cls = RX4 ∧ yX4_isScratched.cls ≠ "java/lang/invoke/MethodHandle" ∧ yX4_isScratched.cls ≠ "java/lang/invoke/VarHandle" ∧ (parseMethodDescriptor yX4_isScratched.desc).map (fun d => d.parameters.length) = some 2 := by decide +kernel
theorem ddN_X4_kind : yX4_kind.cls ≠ "java/lang/invoke/MethodHandle" ∧ yX4_kind.cls ≠ "java/lang/invoke/VarHandle" ∧ (parseMethodDescriptor yX4_kind.desc).map (fun d => d.parameters.length) = some 1 := by decide +kernel
theorem ddV_X4_kind : yX4_kind.cls = RX4 ∧ yX4_kind.cls ≠ "java/lang/invoke/MethodHandle" ∧ yX4_kind.cls ≠ "java/lang/invoke/VarHandle" ∧ (parseMethodDescriptor yX4_kind.desc).map (fun d => d.parameters.length) = some 1 := by decide +kernel
theorem ddN_X4_layOut : yX4_layOut.cls ≠ "java/lang/invoke/MethodHandle" ∧ yX4_layOut.cls ≠ "java/lang/invoke/VarHandle" ∧ (parseMethodDescriptor yX4_layOut.desc).map (fun d => d.parameters.length) = some 0 := by decide +kernel
theorem ddV_X4_layOut : yX4_layOut.cls = RX4 ∧ yX4_layOut.cls ≠ "java/lang/invoke/MethodHandle" ∧ yX4_layOut.cls ≠ "java/lang/invoke/VarHandle" ∧ (parseMethodDescriptor yX4_layOut.desc).map (fun d => d.parameters.length) = some 0 := by decide +kernel
theorem ddN_X4_overwriteKind : yX4_overwriteKind.cls ≠ "java/lang/invoke/MethodHandle" ∧ yX4_overwriteKind.cls ≠ "java/lang/invoke/VarHandle" ∧ (parseMethodDescriptor yX4_overwriteKind.desc).map (fun d => d.parameters.length) = some 2 := by decide +kernel
theorem ddV_X4_overwriteKind : yX4_overwriteKind.cls = RX4 ∧ yX4_overwriteKind.cls ≠ "java/lang/invoke/MethodHandle" ∧ yX4_overwriteKind.cls ≠ "java/lang/invoke/VarHandle" ∧ (parseMethodDescriptor yX4_overwriteKind.desc).map (fun d => d.parameters.length) = some 2 := by decide +kernel
theorem ddN_X4_patchFrom : yX4_patchFrom.cls ≠ "java/lang/invoke/MethodHandle" ∧ yX4_patchFrom.cls ≠ "java/lang/invoke/VarHandle" ∧ (parseMethodDescriptor yX4_patchFrom.desc).map (fun d => d.parameters.length) = some 1 := by decide +kernel
theorem ddV_X4_patchFrom : yX4_patchFrom.cls = RX4 ∧ yX4_patchFrom.cls ≠ "java/lang/invoke/MethodHandle" ∧ yX4_patchFrom.cls ≠ "java/lang/invoke/VarHandle" ∧ (parseMethodDescriptor yX4_patchFrom.desc).map (fun d => d.parameters.length) = some 1 := by decide +kernel
theorem ddN_X4_reaching : yX4_reaching.cls ≠ "java/lang/invoke/MethodHandle" ∧ yX4_reaching.cls ≠ "java/lang/invoke/VarHandle" ∧ (parseMethodDescriptor yX4_reaching.desc).map (fun d => d.parameters.length) = some 2 := by decide +kernel
theorem ddV_X4_reaching : yX4_reaching.cls = RX4 ∧ yX4_reaching.cls ≠ "java/lang/invoke/MethodHandle" ∧ yX4_reaching.cls ≠ "java/lang/invoke/VarHandle" ∧ (parseMethodDescriptor yX4_reaching.desc).map (fun d => d.parameters.length) = some 2 := by decide +kernel
theorem ddN_X4_replace : yX4_replace.cls ≠ "java/lang/invoke/MethodHandle" ∧ yX4_replace.cls ≠ "java/lang/invoke/VarHandle" ∧ (parseMethodDescriptor yX4_replace.desc).map (fun d => d.parameters.length) = some 2 := by decide +kernel
theorem ddV_X4_replace : yX4_replace.cls = RX4 ∧ yX4_replace.cls ≠ "java/lang/invoke/MethodHandle" ∧ yX4_replace.cls ≠ "java/lang/invoke/VarHandle" ∧ (parseMethodDescriptor yX4_replace.desc).map (fun d => d.parameters.length) = some 2 := by decide +kernel
theorem ddN_X4_step : yX4_step.cls ≠ "java/lang/invoke/MethodHandle" ∧ yX4_step.cls ≠ "java/lang/invoke/VarHandle" ∧ (parseMethodDescriptor yX4_step.desc).map (fun d => d.parameters.length) = some 1 := by decide +kernel
theorem ddV_X4_step : yX4_step.cls = RX4 ∧ yX4_step.cls ≠ "java/lang/invoke/MethodHandle" ∧ yX4_step.cls ≠ "java/lang/invoke/VarHandle" ∧ (parseMethodDescriptor yX4_step.desc).map (fun d => d.parameters.length) = some 1 := by decide +kernel
theorem ddN_X4_stepsAcross : yX4_stepsAcross.cls ≠ "java/lang/invoke/MethodHandle" ∧ yX4_stepsAcross.cls ≠ "java/lang/invoke/VarHandle" ∧ (parseMethodDescriptor yX4_stepsAcross.desc).map (fun d => d.parameters.length) = some 1 := by decide +kernel
theorem ddV_X4_stepsAcross : yX4_stepsAcross.cls = RX4 ∧ yX4_stepsAcross.cls ≠ "java/lang/invoke/MethodHandle" ∧ yX4_stepsAcross.cls ≠ "java/lang/invoke/VarHandle" ∧ (parseMethodDescriptor yX4_stepsAcross.desc).map (fun d => d.parameters.length) = some 1 := by decide +kernel
theorem ddN_X5_holds : yX5_holds.cls ≠ "java/lang/invoke/MethodHandle" ∧ yX5_holds.cls ≠ "java/lang/invoke/VarHandle" ∧ (parseMethodDescriptor yX5_holds.desc).map (fun d => d.parameters.length) = some 2 := by decide +kernel
theorem ddV_X5_holds : yX5_holds.cls = RX5 ∧ yX5_holds.cls ≠ "java/lang/invoke/MethodHandle" ∧ yX5_holds.cls ≠ "java/lang/invoke/VarHandle" ∧ (parseMethodDescriptor yX5_holds.desc).map (fun d => d.parameters.length) = some 2 := by decide +kernel
theorem ddN_X5_isWithin : yX5_isWithin.cls ≠ "java/lang/invoke/MethodHandle" ∧ yX5_isWithin.cls ≠ "java/lang/invoke/VarHandle" ∧ (parseMethodDescriptor yX5_isWithin.desc).map (fun d => d.parameters.length) = some 3 := by decide +kernel
theorem ddV_X5_isWithin : yX5_isWithin.cls = RX5 ∧ yX5_isWithin.cls ≠ "java/lang/invoke/MethodHandle" ∧ yX5_isWithin.cls ≠ "java/lang/invoke/VarHandle" ∧ (parseMethodDescriptor yX5_isWithin.desc).map (fun d => d.parameters.length) = some 3 := by decide +kernel
theorem iw_X4_after_X4 : ∀ w ∈ u_ws RX4 TX4 12, w ∈ wsX4_after := by decide +kernel
theorem iw_X4_along_X4 : ∀ w ∈ u_ws RX4 TX4 12, w ∈ wsX4_along := by decide +kernel
theorem iw_X4_cold_X4 : ∀ w ∈ u_ws RX4 TX4 12, w ∈ wsX4_cold := by decide +kernel
theorem iw_X4_copy_X4 : ∀ w ∈ u_ws RX4 TX4 12, w ∈ wsX4_copy := by decide +kernel
theorem iw_X4_count_X4 : ∀ w ∈ u_ws RX4 TX4 12, w ∈ wsX4_count := by decide +kernel
theorem iw_X4_fromAbove_X4 : ∀ w ∈ u_ws RX4 TX4 12, w ∈ wsX4_fromAbove := by decide +kernel
theorem iw_X4_fromBelow_X4 : ∀ w ∈ u_ws RX4 TX4 12, w ∈ wsX4_fromBelow := by decide +kernel
theorem iw_X4_fromLeft_X4 : ∀ w ∈ u_ws RX4 TX4 12, w ∈ wsX4_fromLeft := by decide +kernel
theorem iw_X4_fromRight_X4 : ∀ w ∈ u_ws RX4 TX4 12, w ∈ wsX4_fromRight := by decide +kernel
theorem iw_X4_hasCell_X4 : ∀ w ∈ u_ws RX4 TX4 12, w ∈ wsX4_hasCell := by decide +kernel
theorem iw_X4_isFrozen_X4 : ∀ w ∈ u_ws RX4 TX4 12, w ∈ wsX4_isFrozen := by decide +kernel
theorem iw_X4_isScratched_X4 : ∀ w ∈ u_ws RX4 TX4 12, w ∈ wsX4_isScratched := by decide +kernel
theorem iw_X4_kind_X4 : ∀ w ∈ u_ws RX4 TX4 12, w ∈ wsX4_kind := by decide +kernel
theorem iw_X4_largestPatch_X4 : ∀ w ∈ u_ws RX4 TX4 12, w ∈ wsX4_largestPatch := by decide +kernel
theorem iw_X4_layOut_X4 : ∀ w ∈ u_ws RX4 TX4 12, w ∈ wsX4_layOut := by decide +kernel
theorem iw_X4_overwriteKind_X4 : ∀ w ∈ u_ws RX4 TX4 12, w ∈ wsX4_overwriteKind := by decide +kernel
theorem iw_X4_pass_X4 : ∀ w ∈ u_ws RX4 TX4 12, w ∈ wsX4_pass := by decide +kernel
theorem iw_X4_patchAt_X4 : ∀ w ∈ u_ws RX4 TX4 12, w ∈ wsX4_patchAt := by decide +kernel
theorem iw_X4_patchFrom_X4 : ∀ w ∈ u_ws RX4 TX4 12, w ∈ wsX4_patchFrom := by decide +kernel
theorem iw_X4_patches_X4 : ∀ w ∈ u_ws RX4 TX4 12, w ∈ wsX4_patches := by decide +kernel
theorem iw_X4_putRule_X4 : ∀ w ∈ u_ws RX4 TX4 12, w ∈ wsX4_putRule := by decide +kernel
theorem iw_X4_reaching_X4 : ∀ w ∈ u_ws RX4 TX4 12, w ∈ wsX4_reaching := by decide +kernel
theorem iw_X4_renew_X4 : ∀ w ∈ u_ws RX4 TX4 12, w ∈ wsX4_renew := by decide +kernel
theorem iw_X4_replace_X4 : ∀ w ∈ u_ws RX4 TX4 12, w ∈ wsX4_replace := by decide +kernel
theorem iw_X4_scrape_X4 : ∀ w ∈ u_ws RX4 TX4 12, w ∈ wsX4_scrape := by decide +kernel
theorem iw_X4_scratches_X4 : ∀ w ∈ u_ws RX4 TX4 12, w ∈ wsX4_scratches := by decide +kernel
theorem iw_X4_staysClear_X4 : ∀ w ∈ u_ws RX4 TX4 12, w ∈ wsX4_staysClear := by decide +kernel
theorem iw_X4_step_X4 : ∀ w ∈ u_ws RX4 TX4 12, w ∈ wsX4_step := by decide +kernel
theorem iw_X4_stepsAcross_X4 : ∀ w ∈ u_ws RX4 TX4 12, w ∈ wsX4_stepsAcross := by decide +kernel
theorem iw_X4_thaw_X4 : ∀ w ∈ u_ws RX4 TX4 12, w ∈ wsX4_thaw := by decide +kernel
theorem iw_X4_turn_X4 : ∀ w ∈ u_ws RX4 TX4 12, w ∈ wsX4_turn := by decide +kernel
set_option maxHeartbeats 4000000 in
set_option maxRecDepth 100000 in
theorem c_X4_kind {l : Launch} (G : va_G) (cy : Nat → ClassId) (a_0 : Nat) (sz : Nat) (s_0 : WT) (x1 : Int32)  (R : Int32) (hf : f_X4_kind s_0 x1 = R) : Met l yX4_kind wsX4_kind ({ frames := 0, cells := 0, slots := 0, locals := 0 } : Room) (va_Pc [.ref a_0, .int x1] (pcW G cy [(a_0, wv s_0)] sz)) (va_Qi (fun r (_ : Unit) => r = R) (fun _ t => Wd G cy (va_A [(a_0, wv s_0)] sz) [(a_0, wv s_0)] t) (va_A [(a_0, wv s_0)] sz)) 0 0 (va_A [(a_0, wv s_0)] sz) := by
  refine Met.ofW (cc := cX4_kind) (maxL := 2) (ret := (some .int)) (by decide) rfl ?_
  intro p e s m args below meth c s₁ B hml hv
  obtain ⟨rfl, hsz, hP, hK, hD0, hN⟩ := hv
  have hx := B.exec
  have hb := B.bytes
  have hr := B.returns
  have hts := atoms_spec (ws := wsX4_kind) B.pre
  have hown : s.vm.findClass RX4 = some m.cls := findClass_of_methodNamed B.named
  have hlocks := B.notSynchronized
  subst hsz
  have hD := hD0.self (sz := s.heap.size)
  generalize hAe : va_A [(a_0, wv s_0)] s.heap.size = A at hD ⊢
  have hA : ∀ q : Nat, s.heap.size ≤ q → A q := fun q h => by rw [← hAe]; exact Or.inr h
  have hS : va_S A s.heap s.heap [] := va_S.rf
  have hP : va_P G vwCl [(a_0, wv s_0)] s.heap := hP
  have hl := lv_entry [.ref a_0, .int x1] (n := 2) (Nat.le_of_ble_eq_true rfl)
  rw [lg_entry_eq]
  generalize (lg_sl [.ref a_0, .int x1] ++ List.replicate (2 - (lg_sl [.ref a_0, .int x1]).length) Slot.unset).toArray = ls at hl ⊢
  have hl : lv_has ls 2 [(0, .ref a_0), (1, .int x1)] := hl
  unfold f_X4_kind at hf
  refine lv_aload_n hx hb dX4_kind_0 rfl (lv_at hl 0 rfl) ?_
  refine va_get (D := G) (ci := 4) (v := .int (w_kinds s_0)) (C := RX4) (T := TX4) (N := 12) hx hb hts iw_X4_kind_X4 hown hK hP 0 rfl rfl 5 (by decide) (hts (.fieldLink RX4 31 "PaneFrost$Window" "kinds" "I") (by decide +kernel)) (fun _ h9 => h9) rfl dX4_kind_1 ?_
  refine lv_iconst (v := 2) hx hb dX4_kind_4 (by decide) ?_
  refine lv_iload_n hx hb dX4_kind_5 rfl (lv_at hl 1 rfl) ?_
  refine lv_imul hx hb dX4_kind_6 ?_
  refine lv_iushr (v := (ius (w_kinds s_0) (2 * x1))) hx hb dX4_kind_7 rfl ?_
  refine lv_iconst (v := 3) hx hb dX4_kind_8 (by decide) ?_
  refine lv_iand hx hb dX4_kind_9 ?_
  subst hf
  exact kr_i hx hb hr hlocks rfl hP hK hD hN hS hS.2.2 dX4_kind_10
set_option maxHeartbeats 4000000 in
set_option maxRecDepth 100000 in
theorem c_X4_fromAbove {l : Launch} (G : va_G) (cy : Nat → ClassId) (a_0 : Nat) (sz : Nat) (s_0 : WT) (x1 : Int64) (x3 : Bool)  (R : Int64) (hf : f_X4_fromAbove s_0 x1 x3 = R) : Met l yX4_fromAbove wsX4_fromAbove ({ frames := 0, cells := 0, slots := 0, locals := 0 } : Room) (va_Pc [.ref a_0, .long x1, .int (bI x3)] (pcW G cy [(a_0, wv s_0)] sz)) (va_Ql (fun r (_ : Unit) => r = R) (fun _ t => Wd G cy (va_A [(a_0, wv s_0)] sz) [(a_0, wv s_0)] t) (va_A [(a_0, wv s_0)] sz)) 0 0 (va_A [(a_0, wv s_0)] sz) := by
  refine Met.ofW (cc := cX4_fromAbove) (maxL := 6) (ret := (some .long)) (by decide) rfl ?_
  intro p e s m args below meth c s₁ B hml hv
  obtain ⟨rfl, hsz, hP, hK, hD0, hN⟩ := hv
  have hx := B.exec
  have hb := B.bytes
  have hr := B.returns
  have hts := atoms_spec (ws := wsX4_fromAbove) B.pre
  have hown : s.vm.findClass RX4 = some m.cls := findClass_of_methodNamed B.named
  have hlocks := B.notSynchronized
  subst hsz
  have hD := hD0.self (sz := s.heap.size)
  generalize hAe : va_A [(a_0, wv s_0)] s.heap.size = A at hD ⊢
  have hA : ∀ q : Nat, s.heap.size ≤ q → A q := fun q h => by rw [← hAe]; exact Or.inr h
  have hS : va_S A s.heap s.heap [] := va_S.rf
  have hP : va_P G vwCl [(a_0, wv s_0)] s.heap := hP
  have hl := lv_entry [.ref a_0, .long x1, .int (bI x3)] (n := 6) (Nat.le_of_ble_eq_true rfl)
  rw [lg_entry_eq]
  generalize (lg_sl [.ref a_0, .long x1, .int (bI x3)] ++ List.replicate (6 - (lg_sl [.ref a_0, .long x1, .int (bI x3)]).length) Slot.unset).toArray = ls at hl ⊢
  have hl : lv_has ls 6 [(0, .ref a_0), (1, .long x1), (3, .int (bI x3))] := hl
  unfold f_X4_fromAbove at hf
  refine lv_lload_n hx hb dX4_fromAbove_0 rfl (lv_at hl 1 rfl) ?_
  refine lv_aload_n hx hb dX4_fromAbove_1 rfl (lv_at hl 0 rfl) ?_
  refine va_get (D := G) (ci := 4) (v := .long (w_bottomRow s_0)) (C := RX4) (T := TX4) (N := 12) hx hb hts iw_X4_fromAbove_X4 hown hK hP 0 rfl rfl 8 (by decide) (hts (.fieldLink RX4 40 "PaneFrost$Window" "bottomRow" "J") (by decide +kernel)) (fun _ h9 => h9) rfl dX4_fromAbove_2 ?_
  refine lv_ldc2 (v := (-1)) hx hb hown (hts (.constantLong RX4 82 (-1)) (by decide +kernel)) dX4_fromAbove_5 ?_
  refine lv_lxor hx hb dX4_fromAbove_8 ?_
  refine lv_land hx hb dX4_fromAbove_9 ?_
  refine lv_aload_n hx hb dX4_fromAbove_10 rfl (lv_at hl 0 rfl) ?_
  refine va_get (D := G) (ci := 4) (v := .int (w_cells s_0)) (C := RX4) (T := TX4) (N := 12) hx hb hts iw_X4_fromAbove_X4 hown hK hP 0 rfl rfl 1 (by decide) (hts (.fieldLink RX4 15 "PaneFrost$Window" "cells" "I") (by decide +kernel)) (fun _ h9 => h9) rfl dX4_fromAbove_11 ?_
  refine lv_lshl (v := (jsl (x1 &&& ((w_bottomRow s_0) ^^^ (-1))) (w_cells s_0))) hx hb dX4_fromAbove_14 rfl ?_
  refine lv_topl (fun u_1 eu_1 => ?_)
  have hf := lt_e eu_1 hf
  refine lv_lstore (lv' := [(4, .long u_1), (0, .ref a_0), (1, .long x1), (3, .int (bI x3))]) hx hb dX4_fromAbove_15 hl (by decide) rfl (fun ls hl => ?_)
  refine lv_iload_n hx hb dX4_fromAbove_17 rfl (lv_at hl 3 rfl) ?_
  refine lv_if_eq (tgt := 45) hx hb dX4_fromAbove_18 (by decide) (fun h_2 => ?_) (fun h_2 => ?_)
  · have hf := in_ (bI_0 h_2) hf
    refine lv_lload hx hb dX4_fromAbove_45 (lv_at hl 0 rfl) ?_
    subst hf
    exact kr_l hx hb hr hlocks rfl hP hK hD hN hS hS.2.2 dX4_fromAbove_47
  · have hf := ip_ (bI_n0 h_2) hf
    refine lv_lload hx hb dX4_fromAbove_21 (lv_at hl 0 rfl) ?_
    refine lv_lload_n hx hb dX4_fromAbove_23 rfl (lv_at hl 2 rfl) ?_
    refine lv_aload_n hx hb dX4_fromAbove_24 rfl (lv_at hl 1 rfl) ?_
    refine va_get (D := G) (ci := 4) (v := .long (w_bottomRow s_0)) (C := RX4) (T := TX4) (N := 12) hx hb hts iw_X4_fromAbove_X4 hown hK hP 0 rfl rfl 8 (by decide) (hts (.fieldLink RX4 40 "PaneFrost$Window" "bottomRow" "J") (by decide +kernel)) (fun _ h9 => h9) rfl dX4_fromAbove_25 ?_
    refine lv_land hx hb dX4_fromAbove_28 ?_
    refine lv_aload_n hx hb dX4_fromAbove_29 rfl (lv_at hl 1 rfl) ?_
    refine va_get (D := G) (ci := 4) (v := .int (w_rows s_0)) (C := RX4) (T := TX4) (N := 12) hx hb hts iw_X4_fromAbove_X4 hown hK hP 0 rfl rfl 0 (by decide) (hts (.fieldLink RX4 9 "PaneFrost$Window" "rows" "I") (by decide +kernel)) (fun _ h9 => h9) rfl dX4_fromAbove_30 ?_
    refine lv_iconst (v := 1) hx hb dX4_fromAbove_33 (by decide) ?_
    refine lv_isub hx hb dX4_fromAbove_34 ?_
    refine lv_aload_n hx hb dX4_fromAbove_35 rfl (lv_at hl 1 rfl) ?_
    refine va_get (D := G) (ci := 4) (v := .int (w_cells s_0)) (C := RX4) (T := TX4) (N := 12) hx hb hts iw_X4_fromAbove_X4 hown hK hP 0 rfl rfl 1 (by decide) (hts (.fieldLink RX4 15 "PaneFrost$Window" "cells" "I") (by decide +kernel)) (fun _ h9 => h9) rfl dX4_fromAbove_36 ?_
    refine lv_imul hx hb dX4_fromAbove_39 ?_
    refine lv_lushr (v := (jus (x1 &&& (w_bottomRow s_0)) (((w_rows s_0) - 1) * (w_cells s_0)))) hx hb dX4_fromAbove_40 rfl ?_
    refine lv_lor hx hb dX4_fromAbove_41 ?_
    refine lv_goto (tgt := 47) hx hb dX4_fromAbove_42 (by decide) ?_
    subst hf
    exact kr_l hx hb hr hlocks rfl hP hK hD hN hS hS.2.2 dX4_fromAbove_47
set_option maxHeartbeats 4000000 in
set_option maxRecDepth 100000 in
theorem c_X4_fromRight {l : Launch} (G : va_G) (cy : Nat → ClassId) (a_0 : Nat) (sz : Nat) (s_0 : WT) (x1 : Int64) (x3 : Bool)  (R : Int64) (hf : f_X4_fromRight s_0 x1 x3 = R) : Met l yX4_fromRight wsX4_fromRight ({ frames := 0, cells := 0, slots := 0, locals := 0 } : Room) (va_Pc [.ref a_0, .long x1, .int (bI x3)] (pcW G cy [(a_0, wv s_0)] sz)) (va_Ql (fun r (_ : Unit) => r = R) (fun _ t => Wd G cy (va_A [(a_0, wv s_0)] sz) [(a_0, wv s_0)] t) (va_A [(a_0, wv s_0)] sz)) 0 0 (va_A [(a_0, wv s_0)] sz) := by
  refine Met.ofW (cc := cX4_fromRight) (maxL := 6) (ret := (some .long)) (by decide) rfl ?_
  intro p e s m args below meth c s₁ B hml hv
  obtain ⟨rfl, hsz, hP, hK, hD0, hN⟩ := hv
  have hx := B.exec
  have hb := B.bytes
  have hr := B.returns
  have hts := atoms_spec (ws := wsX4_fromRight) B.pre
  have hown : s.vm.findClass RX4 = some m.cls := findClass_of_methodNamed B.named
  have hlocks := B.notSynchronized
  subst hsz
  have hD := hD0.self (sz := s.heap.size)
  generalize hAe : va_A [(a_0, wv s_0)] s.heap.size = A at hD ⊢
  have hA : ∀ q : Nat, s.heap.size ≤ q → A q := fun q h => by rw [← hAe]; exact Or.inr h
  have hS : va_S A s.heap s.heap [] := va_S.rf
  have hP : va_P G vwCl [(a_0, wv s_0)] s.heap := hP
  have hl := lv_entry [.ref a_0, .long x1, .int (bI x3)] (n := 6) (Nat.le_of_ble_eq_true rfl)
  rw [lg_entry_eq]
  generalize (lg_sl [.ref a_0, .long x1, .int (bI x3)] ++ List.replicate (6 - (lg_sl [.ref a_0, .long x1, .int (bI x3)]).length) Slot.unset).toArray = ls at hl ⊢
  have hl : lv_has ls 6 [(0, .ref a_0), (1, .long x1), (3, .int (bI x3))] := hl
  unfold f_X4_fromRight at hf
  refine lv_lload_n hx hb dX4_fromRight_0 rfl (lv_at hl 1 rfl) ?_
  refine lv_aload_n hx hb dX4_fromRight_1 rfl (lv_at hl 0 rfl) ?_
  refine va_get (D := G) (ci := 4) (v := .long (w_leftColumn s_0)) (C := RX4) (T := TX4) (N := 12) hx hb hts iw_X4_fromRight_X4 hown hK hP 0 rfl rfl 9 (by decide) (hts (.fieldLink RX4 43 "PaneFrost$Window" "leftColumn" "J") (by decide +kernel)) (fun _ h9 => h9) rfl dX4_fromRight_2 ?_
  refine lv_ldc2 (v := (-1)) hx hb hown (hts (.constantLong RX4 82 (-1)) (by decide +kernel)) dX4_fromRight_5 ?_
  refine lv_lxor hx hb dX4_fromRight_8 ?_
  refine lv_land hx hb dX4_fromRight_9 ?_
  refine lv_iconst (v := 1) hx hb dX4_fromRight_10 (by decide) ?_
  refine lv_lushr (v := (jus (x1 &&& ((w_leftColumn s_0) ^^^ (-1))) 1)) hx hb dX4_fromRight_11 rfl ?_
  refine lv_lstore (lv' := [(4, .long (jus (x1 &&& ((w_leftColumn s_0) ^^^ (-1))) 1)), (0, .ref a_0), (1, .long x1), (3, .int (bI x3))]) hx hb dX4_fromRight_12 hl (by decide) rfl (fun ls hl => ?_)
  refine lv_iload_n hx hb dX4_fromRight_14 rfl (lv_at hl 3 rfl) ?_
  refine lv_if_eq (tgt := 37) hx hb dX4_fromRight_15 (by decide) (fun h_1 => ?_) (fun h_1 => ?_)
  · have hf := in_ (bI_0 h_1) hf
    refine lv_lload hx hb dX4_fromRight_37 (lv_at hl 0 rfl) ?_
    subst hf
    exact kr_l hx hb hr hlocks rfl hP hK hD hN hS hS.2.2 dX4_fromRight_39
  · have hf := ip_ (bI_n0 h_1) hf
    refine lv_lload hx hb dX4_fromRight_18 (lv_at hl 0 rfl) ?_
    refine lv_lload_n hx hb dX4_fromRight_20 rfl (lv_at hl 2 rfl) ?_
    refine lv_aload_n hx hb dX4_fromRight_21 rfl (lv_at hl 1 rfl) ?_
    refine va_get (D := G) (ci := 4) (v := .long (w_leftColumn s_0)) (C := RX4) (T := TX4) (N := 12) hx hb hts iw_X4_fromRight_X4 hown hK hP 0 rfl rfl 9 (by decide) (hts (.fieldLink RX4 43 "PaneFrost$Window" "leftColumn" "J") (by decide +kernel)) (fun _ h9 => h9) rfl dX4_fromRight_22 ?_
    refine lv_land hx hb dX4_fromRight_25 ?_
    refine lv_aload_n hx hb dX4_fromRight_26 rfl (lv_at hl 1 rfl) ?_
    refine va_get (D := G) (ci := 4) (v := .int (w_cells s_0)) (C := RX4) (T := TX4) (N := 12) hx hb hts iw_X4_fromRight_X4 hown hK hP 0 rfl rfl 1 (by decide) (hts (.fieldLink RX4 15 "PaneFrost$Window" "cells" "I") (by decide +kernel)) (fun _ h9 => h9) rfl dX4_fromRight_27 ?_
    refine lv_iconst (v := 1) hx hb dX4_fromRight_30 (by decide) ?_
    refine lv_isub hx hb dX4_fromRight_31 ?_
    refine lv_lshl (v := (jsl (x1 &&& (w_leftColumn s_0)) ((w_cells s_0) - 1))) hx hb dX4_fromRight_32 rfl ?_
    refine lv_lor hx hb dX4_fromRight_33 ?_
    refine lv_goto (tgt := 39) hx hb dX4_fromRight_34 (by decide) ?_
    subst hf
    exact kr_l hx hb hr hlocks rfl hP hK hD hN hS hS.2.2 dX4_fromRight_39
set_option maxHeartbeats 4000000 in
set_option maxRecDepth 100000 in
theorem c_X4_fromBelow {l : Launch} (G : va_G) (cy : Nat → ClassId) (a_0 : Nat) (sz : Nat) (s_0 : WT) (x1 : Int64) (x3 : Bool)  (R : Int64) (hf : f_X4_fromBelow s_0 x1 x3 = R) : Met l yX4_fromBelow wsX4_fromBelow ({ frames := 0, cells := 0, slots := 0, locals := 0 } : Room) (va_Pc [.ref a_0, .long x1, .int (bI x3)] (pcW G cy [(a_0, wv s_0)] sz)) (va_Ql (fun r (_ : Unit) => r = R) (fun _ t => Wd G cy (va_A [(a_0, wv s_0)] sz) [(a_0, wv s_0)] t) (va_A [(a_0, wv s_0)] sz)) 0 0 (va_A [(a_0, wv s_0)] sz) := by
  refine Met.ofW (cc := cX4_fromBelow) (maxL := 6) (ret := (some .long)) (by decide) rfl ?_
  intro p e s m args below meth c s₁ B hml hv
  obtain ⟨rfl, hsz, hP, hK, hD0, hN⟩ := hv
  have hx := B.exec
  have hb := B.bytes
  have hr := B.returns
  have hts := atoms_spec (ws := wsX4_fromBelow) B.pre
  have hown : s.vm.findClass RX4 = some m.cls := findClass_of_methodNamed B.named
  have hlocks := B.notSynchronized
  subst hsz
  have hD := hD0.self (sz := s.heap.size)
  generalize hAe : va_A [(a_0, wv s_0)] s.heap.size = A at hD ⊢
  have hA : ∀ q : Nat, s.heap.size ≤ q → A q := fun q h => by rw [← hAe]; exact Or.inr h
  have hS : va_S A s.heap s.heap [] := va_S.rf
  have hP : va_P G vwCl [(a_0, wv s_0)] s.heap := hP
  have hl := lv_entry [.ref a_0, .long x1, .int (bI x3)] (n := 6) (Nat.le_of_ble_eq_true rfl)
  rw [lg_entry_eq]
  generalize (lg_sl [.ref a_0, .long x1, .int (bI x3)] ++ List.replicate (6 - (lg_sl [.ref a_0, .long x1, .int (bI x3)]).length) Slot.unset).toArray = ls at hl ⊢
  have hl : lv_has ls 6 [(0, .ref a_0), (1, .long x1), (3, .int (bI x3))] := hl
  unfold f_X4_fromBelow at hf
  refine lv_lload_n hx hb dX4_fromBelow_0 rfl (lv_at hl 1 rfl) ?_
  refine lv_aload_n hx hb dX4_fromBelow_1 rfl (lv_at hl 0 rfl) ?_
  refine va_get (D := G) (ci := 4) (v := .long (w_topRow s_0)) (C := RX4) (T := TX4) (N := 12) hx hb hts iw_X4_fromBelow_X4 hown hK hP 0 rfl rfl 6 (by decide) (hts (.fieldLink RX4 34 "PaneFrost$Window" "topRow" "J") (by decide +kernel)) (fun _ h9 => h9) rfl dX4_fromBelow_2 ?_
  refine lv_ldc2 (v := (-1)) hx hb hown (hts (.constantLong RX4 82 (-1)) (by decide +kernel)) dX4_fromBelow_5 ?_
  refine lv_lxor hx hb dX4_fromBelow_8 ?_
  refine lv_land hx hb dX4_fromBelow_9 ?_
  refine lv_aload_n hx hb dX4_fromBelow_10 rfl (lv_at hl 0 rfl) ?_
  refine va_get (D := G) (ci := 4) (v := .int (w_cells s_0)) (C := RX4) (T := TX4) (N := 12) hx hb hts iw_X4_fromBelow_X4 hown hK hP 0 rfl rfl 1 (by decide) (hts (.fieldLink RX4 15 "PaneFrost$Window" "cells" "I") (by decide +kernel)) (fun _ h9 => h9) rfl dX4_fromBelow_11 ?_
  refine lv_lushr (v := (jus (x1 &&& ((w_topRow s_0) ^^^ (-1))) (w_cells s_0))) hx hb dX4_fromBelow_14 rfl ?_
  refine lv_topl (fun u_1 eu_1 => ?_)
  have hf := lt_e eu_1 hf
  refine lv_lstore (lv' := [(4, .long u_1), (0, .ref a_0), (1, .long x1), (3, .int (bI x3))]) hx hb dX4_fromBelow_15 hl (by decide) rfl (fun ls hl => ?_)
  refine lv_iload_n hx hb dX4_fromBelow_17 rfl (lv_at hl 3 rfl) ?_
  refine lv_if_eq (tgt := 45) hx hb dX4_fromBelow_18 (by decide) (fun h_2 => ?_) (fun h_2 => ?_)
  · have hf := in_ (bI_0 h_2) hf
    refine lv_lload hx hb dX4_fromBelow_45 (lv_at hl 0 rfl) ?_
    subst hf
    exact kr_l hx hb hr hlocks rfl hP hK hD hN hS hS.2.2 dX4_fromBelow_47
  · have hf := ip_ (bI_n0 h_2) hf
    refine lv_lload hx hb dX4_fromBelow_21 (lv_at hl 0 rfl) ?_
    refine lv_lload_n hx hb dX4_fromBelow_23 rfl (lv_at hl 2 rfl) ?_
    refine lv_aload_n hx hb dX4_fromBelow_24 rfl (lv_at hl 1 rfl) ?_
    refine va_get (D := G) (ci := 4) (v := .long (w_topRow s_0)) (C := RX4) (T := TX4) (N := 12) hx hb hts iw_X4_fromBelow_X4 hown hK hP 0 rfl rfl 6 (by decide) (hts (.fieldLink RX4 34 "PaneFrost$Window" "topRow" "J") (by decide +kernel)) (fun _ h9 => h9) rfl dX4_fromBelow_25 ?_
    refine lv_land hx hb dX4_fromBelow_28 ?_
    refine lv_aload_n hx hb dX4_fromBelow_29 rfl (lv_at hl 1 rfl) ?_
    refine va_get (D := G) (ci := 4) (v := .int (w_rows s_0)) (C := RX4) (T := TX4) (N := 12) hx hb hts iw_X4_fromBelow_X4 hown hK hP 0 rfl rfl 0 (by decide) (hts (.fieldLink RX4 9 "PaneFrost$Window" "rows" "I") (by decide +kernel)) (fun _ h9 => h9) rfl dX4_fromBelow_30 ?_
    refine lv_iconst (v := 1) hx hb dX4_fromBelow_33 (by decide) ?_
    refine lv_isub hx hb dX4_fromBelow_34 ?_
    refine lv_aload_n hx hb dX4_fromBelow_35 rfl (lv_at hl 1 rfl) ?_
    refine va_get (D := G) (ci := 4) (v := .int (w_cells s_0)) (C := RX4) (T := TX4) (N := 12) hx hb hts iw_X4_fromBelow_X4 hown hK hP 0 rfl rfl 1 (by decide) (hts (.fieldLink RX4 15 "PaneFrost$Window" "cells" "I") (by decide +kernel)) (fun _ h9 => h9) rfl dX4_fromBelow_36 ?_
    refine lv_imul hx hb dX4_fromBelow_39 ?_
    refine lv_lshl (v := (jsl (x1 &&& (w_topRow s_0)) (((w_rows s_0) - 1) * (w_cells s_0)))) hx hb dX4_fromBelow_40 rfl ?_
    refine lv_lor hx hb dX4_fromBelow_41 ?_
    refine lv_goto (tgt := 47) hx hb dX4_fromBelow_42 (by decide) ?_
    subst hf
    exact kr_l hx hb hr hlocks rfl hP hK hD hN hS hS.2.2 dX4_fromBelow_47
set_option maxHeartbeats 4000000 in
set_option maxRecDepth 100000 in
theorem c_X4_fromLeft {l : Launch} (G : va_G) (cy : Nat → ClassId) (a_0 : Nat) (sz : Nat) (s_0 : WT) (x1 : Int64) (x3 : Bool)  (R : Int64) (hf : f_X4_fromLeft s_0 x1 x3 = R) : Met l yX4_fromLeft wsX4_fromLeft ({ frames := 0, cells := 0, slots := 0, locals := 0 } : Room) (va_Pc [.ref a_0, .long x1, .int (bI x3)] (pcW G cy [(a_0, wv s_0)] sz)) (va_Ql (fun r (_ : Unit) => r = R) (fun _ t => Wd G cy (va_A [(a_0, wv s_0)] sz) [(a_0, wv s_0)] t) (va_A [(a_0, wv s_0)] sz)) 0 0 (va_A [(a_0, wv s_0)] sz) := by
  refine Met.ofW (cc := cX4_fromLeft) (maxL := 6) (ret := (some .long)) (by decide) rfl ?_
  intro p e s m args below meth c s₁ B hml hv
  obtain ⟨rfl, hsz, hP, hK, hD0, hN⟩ := hv
  have hx := B.exec
  have hb := B.bytes
  have hr := B.returns
  have hts := atoms_spec (ws := wsX4_fromLeft) B.pre
  have hown : s.vm.findClass RX4 = some m.cls := findClass_of_methodNamed B.named
  have hlocks := B.notSynchronized
  subst hsz
  have hD := hD0.self (sz := s.heap.size)
  generalize hAe : va_A [(a_0, wv s_0)] s.heap.size = A at hD ⊢
  have hA : ∀ q : Nat, s.heap.size ≤ q → A q := fun q h => by rw [← hAe]; exact Or.inr h
  have hS : va_S A s.heap s.heap [] := va_S.rf
  have hP : va_P G vwCl [(a_0, wv s_0)] s.heap := hP
  have hl := lv_entry [.ref a_0, .long x1, .int (bI x3)] (n := 6) (Nat.le_of_ble_eq_true rfl)
  rw [lg_entry_eq]
  generalize (lg_sl [.ref a_0, .long x1, .int (bI x3)] ++ List.replicate (6 - (lg_sl [.ref a_0, .long x1, .int (bI x3)]).length) Slot.unset).toArray = ls at hl ⊢
  have hl : lv_has ls 6 [(0, .ref a_0), (1, .long x1), (3, .int (bI x3))] := hl
  unfold f_X4_fromLeft at hf
  refine lv_lload_n hx hb dX4_fromLeft_0 rfl (lv_at hl 1 rfl) ?_
  refine lv_aload_n hx hb dX4_fromLeft_1 rfl (lv_at hl 0 rfl) ?_
  refine va_get (D := G) (ci := 4) (v := .long (w_rightColumn s_0)) (C := RX4) (T := TX4) (N := 12) hx hb hts iw_X4_fromLeft_X4 hown hK hP 0 rfl rfl 7 (by decide) (hts (.fieldLink RX4 37 "PaneFrost$Window" "rightColumn" "J") (by decide +kernel)) (fun _ h9 => h9) rfl dX4_fromLeft_2 ?_
  refine lv_ldc2 (v := (-1)) hx hb hown (hts (.constantLong RX4 82 (-1)) (by decide +kernel)) dX4_fromLeft_5 ?_
  refine lv_lxor hx hb dX4_fromLeft_8 ?_
  refine lv_land hx hb dX4_fromLeft_9 ?_
  refine lv_iconst (v := 1) hx hb dX4_fromLeft_10 (by decide) ?_
  refine lv_lshl (v := (jsl (x1 &&& ((w_rightColumn s_0) ^^^ (-1))) 1)) hx hb dX4_fromLeft_11 rfl ?_
  refine lv_lstore (lv' := [(4, .long (jsl (x1 &&& ((w_rightColumn s_0) ^^^ (-1))) 1)), (0, .ref a_0), (1, .long x1), (3, .int (bI x3))]) hx hb dX4_fromLeft_12 hl (by decide) rfl (fun ls hl => ?_)
  refine lv_iload_n hx hb dX4_fromLeft_14 rfl (lv_at hl 3 rfl) ?_
  refine lv_if_eq (tgt := 37) hx hb dX4_fromLeft_15 (by decide) (fun h_1 => ?_) (fun h_1 => ?_)
  · have hf := in_ (bI_0 h_1) hf
    refine lv_lload hx hb dX4_fromLeft_37 (lv_at hl 0 rfl) ?_
    subst hf
    exact kr_l hx hb hr hlocks rfl hP hK hD hN hS hS.2.2 dX4_fromLeft_39
  · have hf := ip_ (bI_n0 h_1) hf
    refine lv_lload hx hb dX4_fromLeft_18 (lv_at hl 0 rfl) ?_
    refine lv_lload_n hx hb dX4_fromLeft_20 rfl (lv_at hl 2 rfl) ?_
    refine lv_aload_n hx hb dX4_fromLeft_21 rfl (lv_at hl 1 rfl) ?_
    refine va_get (D := G) (ci := 4) (v := .long (w_rightColumn s_0)) (C := RX4) (T := TX4) (N := 12) hx hb hts iw_X4_fromLeft_X4 hown hK hP 0 rfl rfl 7 (by decide) (hts (.fieldLink RX4 37 "PaneFrost$Window" "rightColumn" "J") (by decide +kernel)) (fun _ h9 => h9) rfl dX4_fromLeft_22 ?_
    refine lv_land hx hb dX4_fromLeft_25 ?_
    refine lv_aload_n hx hb dX4_fromLeft_26 rfl (lv_at hl 1 rfl) ?_
    refine va_get (D := G) (ci := 4) (v := .int (w_cells s_0)) (C := RX4) (T := TX4) (N := 12) hx hb hts iw_X4_fromLeft_X4 hown hK hP 0 rfl rfl 1 (by decide) (hts (.fieldLink RX4 15 "PaneFrost$Window" "cells" "I") (by decide +kernel)) (fun _ h9 => h9) rfl dX4_fromLeft_27 ?_
    refine lv_iconst (v := 1) hx hb dX4_fromLeft_30 (by decide) ?_
    refine lv_isub hx hb dX4_fromLeft_31 ?_
    refine lv_lushr (v := (jus (x1 &&& (w_rightColumn s_0)) ((w_cells s_0) - 1))) hx hb dX4_fromLeft_32 rfl ?_
    refine lv_lor hx hb dX4_fromLeft_33 ?_
    refine lv_goto (tgt := 39) hx hb dX4_fromLeft_34 (by decide) ?_
    subst hf
    exact kr_l hx hb hr hlocks rfl hP hK hD hN hS hS.2.2 dX4_fromLeft_39
set_option maxHeartbeats 4000000 in
set_option maxRecDepth 100000 in
theorem c_X4_reaching {l : Launch} (G : va_G) (cy : Nat → ClassId) (a_0 : Nat) (sz : Nat) (s_0 : WT) (x1 : Int64) (x3 : Int32)  (R : Int64) (hf : f_X4_reaching s_0 x1 x3 = R) : Met l yX4_reaching wsX4_reaching ({ frames := 1, cells := 0, slots := 0, locals := 25 } : Room) (va_Pc [.ref a_0, .long x1, .int x3] (pcW G cy [(a_0, wv s_0)] sz)) (va_Ql (fun r (_ : Unit) => r = R) (fun _ t => Wd G cy (va_A [(a_0, wv s_0)] sz) [(a_0, wv s_0)] t) (va_A [(a_0, wv s_0)] sz)) 0 0 (va_A [(a_0, wv s_0)] sz) := by
  refine Met.ofW (cc := cX4_reaching) (maxL := 5) (ret := (some .long)) (by decide) rfl ?_
  intro p e s m args below meth c s₁ B hml hv
  obtain ⟨rfl, hsz, hP, hK, hD0, hN⟩ := hv
  have hx := B.exec
  have hb := B.bytes
  have hr := B.returns
  have hts := atoms_spec (ws := wsX4_reaching) B.pre
  have hown : s.vm.findClass RX4 = some m.cls := findClass_of_methodNamed B.named
  have hlocks := B.notSynchronized
  subst hsz
  have hD := hD0.self (sz := s.heap.size)
  generalize hAe : va_A [(a_0, wv s_0)] s.heap.size = A at hD ⊢
  have hA : ∀ q : Nat, s.heap.size ≤ q → A q := fun q h => by rw [← hAe]; exact Or.inr h
  have hS : va_S A s.heap s.heap [] := va_S.rf
  have hP : va_P G vwCl [(a_0, wv s_0)] s.heap := hP
  have hl := lv_entry [.ref a_0, .long x1, .int x3] (n := 5) (Nat.le_of_ble_eq_true rfl)
  rw [lg_entry_eq]
  generalize (lg_sl [.ref a_0, .long x1, .int x3] ++ List.replicate (5 - (lg_sl [.ref a_0, .long x1, .int x3]).length) Slot.unset).toArray = ls at hl ⊢
  have hl : lv_has ls 5 [(0, .ref a_0), (1, .long x1), (3, .int x3)] := hl
  unfold f_X4_reaching at hf
  refine lv_aload_n hx hb dX4_reaching_0 rfl (lv_at hl 0 rfl) ?_
  refine lv_iload_n hx hb dX4_reaching_1 rfl (lv_at hl 2 rfl) ?_
  refine kc_i (w1 := [(a_0, wv s_0)]) (wr := []) hP hD hS hA [0] [] rfl rfl rfl (by decide) (va_runV (As := [.int x3]) (rest := []) ⟨hx, hb, hml, hown, hts⟩ (c_X4_kind (l := l) G cy a_0 s.heap.size s_0 x3  (f_X4_kind s_0 x3) rfl) (cwV 1 hts gX4_reaching_X4_kind rfl rfl rfl ddV_X4_kind ⟨Nat.le_of_ble_eq_true rfl, Nat.le_of_ble_eq_true rfl⟩) (preV_ (ci := 4) (q0 := 0) rfl rfl hP hK hD hN) rfl rfl hl.1 rfl (lv_room (Nat.le_of_ble_eq_true rfl)) dX4_reaching_2 ⟨Nat.le_of_ble_eq_true rfl, Nat.le_of_ble_eq_true rfl⟩) (fun H locs hP hD hS => ?_)
  have hP : va_P G vwCl [(a_0, wv s_0)] H := hP
  have hD : va_D A [(a_0, wv s_0)] := hD
  refine lv_iconst (v := 2) hx hb dX4_reaching_5 (by decide) ?_
  refine lv_icmp_ne (tgt := 13) hx hb dX4_reaching_6 (by decide) (fun h_1 => ?_) (fun h_1 => ?_)
  · have hf := in_ h_1 hf
    refine lv_iconst (v := 0) hx hb dX4_reaching_13 (by decide) ?_
    refine lv_istore (lv' := [(4, .int 0), (0, .ref a_0), (1, .long x1), (3, .int x3)]) hx hb dX4_reaching_14 hl (by decide) rfl (fun ls hl => ?_)
    refine lv_iload_n hx hb dX4_reaching_16 rfl (lv_at hl 3 rfl) ?_
    by_cases h_2 : x3 = 0
    · have hf := ip_ h_2 hf
      refine lv_tableIn (tgt := 44) (off := 27) hx hb dX4_reaching_17 (by show ¬ x3.toInt < 0; rw [h_2]; decide) (by show ¬ 2 < x3.toInt; rw [h_2]; decide) (by show (#[27, 44, 61] : Array Int)[(x3.toInt - 0).toNat]? = some 27; rw [h_2]; rfl) (by decide) ?_
      refine lv_aload_n hx hb dX4_reaching_44 rfl (lv_at hl 1 rfl) ?_
      refine lv_lload_n hx hb dX4_reaching_45 rfl (lv_at hl 2 rfl) ?_
      refine lv_aload_n hx hb dX4_reaching_46 rfl (lv_at hl 1 rfl) ?_
      refine va_get (D := G) (ci := 4) (v := .long (w_lowerScratches s_0)) (C := RX4) (T := TX4) (N := 12) hx hb hts iw_X4_reaching_X4 hown hK hP 0 rfl rfl 11 (by decide) (hts (.fieldLink RX4 49 "PaneFrost$Window" "lowerScratches" "J") (by decide +kernel)) (fun _ h9 => h9) rfl dX4_reaching_47 ?_
      refine lv_ldc2 (v := (-1)) hx hb hown (hts (.constantLong RX4 82 (-1)) (by decide +kernel)) dX4_reaching_50 ?_
      refine lv_lxor hx hb dX4_reaching_53 ?_
      refine lv_land hx hb dX4_reaching_54 ?_
      refine lv_iload hx hb dX4_reaching_55 (lv_at hl 0 rfl) ?_
      refine kc_l (w1 := [(a_0, wv s_0)]) (wr := []) hP hD hS hA [0] [] rfl rfl rfl (by decide) (va_runV (As := [.long (x1 &&& ((w_lowerScratches s_0) ^^^ (-1))), .int (bI false)]) (rest := []) ⟨hx, hb, hml, hown, hts⟩ (c_X4_fromAbove (l := l) G cy a_0 H.size s_0 (x1 &&& ((w_lowerScratches s_0) ^^^ (-1))) false  (f_X4_fromAbove s_0 (x1 &&& ((w_lowerScratches s_0) ^^^ (-1))) false) rfl) (cwV 2 hts gX4_reaching_X4_fromAbove rfl rfl rfl ddV_X4_fromAbove ⟨Nat.le_of_ble_eq_true rfl, Nat.le_of_ble_eq_true rfl⟩) (preV_ (ci := 4) (q0 := 0) rfl rfl hP hK hD hN) rfl rfl hl.1 rfl (lv_room (Nat.le_of_ble_eq_true rfl)) dX4_reaching_57 ⟨Nat.le_of_ble_eq_true rfl, Nat.le_of_ble_eq_true rfl⟩) (fun H locs hP hD hS => ?_)
      have hP : va_P G vwCl [(a_0, wv s_0)] H := hP
      have hD : va_D A [(a_0, wv s_0)] := hD
      subst hf
      exact kr_l hx hb hr hlocks rfl hP hK hD hN hS hS.2.2 dX4_reaching_60
    have hf := in_ h_2 hf
    by_cases h_3 : x3 = 1
    · have hf := ip_ h_3 hf
      refine lv_tableIn (tgt := 61) (off := 44) hx hb dX4_reaching_17 (by show ¬ x3.toInt < 0; rw [h_3]; decide) (by show ¬ 2 < x3.toInt; rw [h_3]; decide) (by show (#[27, 44, 61] : Array Int)[(x3.toInt - 0).toNat]? = some 44; rw [h_3]; rfl) (by decide) ?_
      refine lv_aload_n hx hb dX4_reaching_61 rfl (lv_at hl 1 rfl) ?_
      refine lv_lload_n hx hb dX4_reaching_62 rfl (lv_at hl 2 rfl) ?_
      refine lv_iload hx hb dX4_reaching_63 (lv_at hl 0 rfl) ?_
      refine kc_l (w1 := [(a_0, wv s_0)]) (wr := []) hP hD hS hA [0] [] rfl rfl rfl (by decide) (va_runV (As := [.long x1, .int (bI false)]) (rest := []) ⟨hx, hb, hml, hown, hts⟩ (c_X4_fromRight (l := l) G cy a_0 H.size s_0 x1 false  (f_X4_fromRight s_0 x1 false) rfl) (cwV 2 hts gX4_reaching_X4_fromRight rfl rfl rfl ddV_X4_fromRight ⟨Nat.le_of_ble_eq_true rfl, Nat.le_of_ble_eq_true rfl⟩) (preV_ (ci := 4) (q0 := 0) rfl rfl hP hK hD hN) rfl rfl hl.1 rfl (lv_room (Nat.le_of_ble_eq_true rfl)) dX4_reaching_65 ⟨Nat.le_of_ble_eq_true rfl, Nat.le_of_ble_eq_true rfl⟩) (fun H locs hP hD hS => ?_)
      have hP : va_P G vwCl [(a_0, wv s_0)] H := hP
      have hD : va_D A [(a_0, wv s_0)] := hD
      refine lv_aload_n hx hb dX4_reaching_68 rfl (lv_at hl 1 rfl) ?_
      refine va_get (D := G) (ci := 4) (v := .long (w_rightScratches s_0)) (C := RX4) (T := TX4) (N := 12) hx hb hts iw_X4_reaching_X4 hown hK hP 0 rfl rfl 10 (by decide) (hts (.fieldLink RX4 46 "PaneFrost$Window" "rightScratches" "J") (by decide +kernel)) (fun _ h9 => h9) rfl dX4_reaching_69 ?_
      refine lv_ldc2 (v := (-1)) hx hb hown (hts (.constantLong RX4 82 (-1)) (by decide +kernel)) dX4_reaching_72 ?_
      refine lv_lxor hx hb dX4_reaching_75 ?_
      refine lv_land hx hb dX4_reaching_76 ?_
      subst hf
      exact kr_l hx hb hr hlocks rfl hP hK hD hN hS hS.2.2 dX4_reaching_77
    have hf := in_ h_3 hf
    by_cases h_4 : x3 = 2
    · have hf := ip_ h_4 hf
      refine lv_tableIn (tgt := 78) (off := 61) hx hb dX4_reaching_17 (by show ¬ x3.toInt < 0; rw [h_4]; decide) (by show ¬ 2 < x3.toInt; rw [h_4]; decide) (by show (#[27, 44, 61] : Array Int)[(x3.toInt - 0).toNat]? = some 61; rw [h_4]; rfl) (by decide) ?_
      refine lv_aload_n hx hb dX4_reaching_78 rfl (lv_at hl 1 rfl) ?_
      refine lv_lload_n hx hb dX4_reaching_79 rfl (lv_at hl 2 rfl) ?_
      refine lv_iload hx hb dX4_reaching_80 (lv_at hl 0 rfl) ?_
      refine kc_l (w1 := [(a_0, wv s_0)]) (wr := []) hP hD hS hA [0] [] rfl rfl rfl (by decide) (va_runV (As := [.long x1, .int (bI false)]) (rest := []) ⟨hx, hb, hml, hown, hts⟩ (c_X4_fromBelow (l := l) G cy a_0 H.size s_0 x1 false  (f_X4_fromBelow s_0 x1 false) rfl) (cwV 2 hts gX4_reaching_X4_fromBelow rfl rfl rfl ddV_X4_fromBelow ⟨Nat.le_of_ble_eq_true rfl, Nat.le_of_ble_eq_true rfl⟩) (preV_ (ci := 4) (q0 := 0) rfl rfl hP hK hD hN) rfl rfl hl.1 rfl (lv_room (Nat.le_of_ble_eq_true rfl)) dX4_reaching_82 ⟨Nat.le_of_ble_eq_true rfl, Nat.le_of_ble_eq_true rfl⟩) (fun H locs hP hD hS => ?_)
      have hP : va_P G vwCl [(a_0, wv s_0)] H := hP
      have hD : va_D A [(a_0, wv s_0)] := hD
      refine lv_aload_n hx hb dX4_reaching_85 rfl (lv_at hl 1 rfl) ?_
      refine va_get (D := G) (ci := 4) (v := .long (w_lowerScratches s_0)) (C := RX4) (T := TX4) (N := 12) hx hb hts iw_X4_reaching_X4 hown hK hP 0 rfl rfl 11 (by decide) (hts (.fieldLink RX4 49 "PaneFrost$Window" "lowerScratches" "J") (by decide +kernel)) (fun _ h9 => h9) rfl dX4_reaching_86 ?_
      refine lv_ldc2 (v := (-1)) hx hb hown (hts (.constantLong RX4 82 (-1)) (by decide +kernel)) dX4_reaching_89 ?_
      refine lv_lxor hx hb dX4_reaching_92 ?_
      refine lv_land hx hb dX4_reaching_93 ?_
      subst hf
      exact kr_l hx hb hr hlocks rfl hP hK hD hN hS hS.2.2 dX4_reaching_94
    have hf := in_ h_4 hf
    have th_2 : ¬ x3.toInt = 0 := fun q => h_2 (Int32.toInt_inj.mp (q.trans (by decide)))
    have th_3 : ¬ x3.toInt = 1 := fun q => h_3 (Int32.toInt_inj.mp (q.trans (by decide)))
    have th_4 : ¬ x3.toInt = 2 := fun q => h_4 (Int32.toInt_inj.mp (q.trans (by decide)))
    have hdf : (x3.toInt < 0 ∨ 2 < x3.toInt) := by omega
    refine lv_tableOut (tgt := 95) hx hb dX4_reaching_17 hdf (by decide) ?_
    refine lv_aload_n hx hb dX4_reaching_95 rfl (lv_at hl 1 rfl) ?_
    refine lv_lload_n hx hb dX4_reaching_96 rfl (lv_at hl 2 rfl) ?_
    refine lv_aload_n hx hb dX4_reaching_97 rfl (lv_at hl 1 rfl) ?_
    refine va_get (D := G) (ci := 4) (v := .long (w_rightScratches s_0)) (C := RX4) (T := TX4) (N := 12) hx hb hts iw_X4_reaching_X4 hown hK hP 0 rfl rfl 10 (by decide) (hts (.fieldLink RX4 46 "PaneFrost$Window" "rightScratches" "J") (by decide +kernel)) (fun _ h9 => h9) rfl dX4_reaching_98 ?_
    refine lv_ldc2 (v := (-1)) hx hb hown (hts (.constantLong RX4 82 (-1)) (by decide +kernel)) dX4_reaching_101 ?_
    refine lv_lxor hx hb dX4_reaching_104 ?_
    refine lv_land hx hb dX4_reaching_105 ?_
    refine lv_iload hx hb dX4_reaching_106 (lv_at hl 0 rfl) ?_
    refine kc_l (w1 := [(a_0, wv s_0)]) (wr := []) hP hD hS hA [0] [] rfl rfl rfl (by decide) (va_runV (As := [.long (x1 &&& ((w_rightScratches s_0) ^^^ (-1))), .int (bI false)]) (rest := []) ⟨hx, hb, hml, hown, hts⟩ (c_X4_fromLeft (l := l) G cy a_0 H.size s_0 (x1 &&& ((w_rightScratches s_0) ^^^ (-1))) false  (f_X4_fromLeft s_0 (x1 &&& ((w_rightScratches s_0) ^^^ (-1))) false) rfl) (cwV 2 hts gX4_reaching_X4_fromLeft rfl rfl rfl ddV_X4_fromLeft ⟨Nat.le_of_ble_eq_true rfl, Nat.le_of_ble_eq_true rfl⟩) (preV_ (ci := 4) (q0 := 0) rfl rfl hP hK hD hN) rfl rfl hl.1 rfl (lv_room (Nat.le_of_ble_eq_true rfl)) dX4_reaching_108 ⟨Nat.le_of_ble_eq_true rfl, Nat.le_of_ble_eq_true rfl⟩) (fun H locs hP hD hS => ?_)
    have hP : va_P G vwCl [(a_0, wv s_0)] H := hP
    have hD : va_D A [(a_0, wv s_0)] := hD
    subst hf
    exact kr_l hx hb hr hlocks rfl hP hK hD hN hS hS.2.2 dX4_reaching_111
  · have hf := ip_ h_1 hf
    refine lv_iconst (v := 1) hx hb dX4_reaching_9 (by decide) ?_
    refine lv_goto (tgt := 14) hx hb dX4_reaching_10 (by decide) ?_
    refine lv_istore (lv' := [(4, .int 1), (0, .ref a_0), (1, .long x1), (3, .int x3)]) hx hb dX4_reaching_14 hl (by decide) rfl (fun ls hl => ?_)
    refine lv_iload_n hx hb dX4_reaching_16 rfl (lv_at hl 3 rfl) ?_
    by_cases h_5 : x3 = 0
    · have hf := ip_ h_5 hf
      refine lv_tableIn (tgt := 44) (off := 27) hx hb dX4_reaching_17 (by show ¬ x3.toInt < 0; rw [h_5]; decide) (by show ¬ 2 < x3.toInt; rw [h_5]; decide) (by show (#[27, 44, 61] : Array Int)[(x3.toInt - 0).toNat]? = some 27; rw [h_5]; rfl) (by decide) ?_
      refine lv_aload_n hx hb dX4_reaching_44 rfl (lv_at hl 1 rfl) ?_
      refine lv_lload_n hx hb dX4_reaching_45 rfl (lv_at hl 2 rfl) ?_
      refine lv_aload_n hx hb dX4_reaching_46 rfl (lv_at hl 1 rfl) ?_
      refine va_get (D := G) (ci := 4) (v := .long (w_lowerScratches s_0)) (C := RX4) (T := TX4) (N := 12) hx hb hts iw_X4_reaching_X4 hown hK hP 0 rfl rfl 11 (by decide) (hts (.fieldLink RX4 49 "PaneFrost$Window" "lowerScratches" "J") (by decide +kernel)) (fun _ h9 => h9) rfl dX4_reaching_47 ?_
      refine lv_ldc2 (v := (-1)) hx hb hown (hts (.constantLong RX4 82 (-1)) (by decide +kernel)) dX4_reaching_50 ?_
      refine lv_lxor hx hb dX4_reaching_53 ?_
      refine lv_land hx hb dX4_reaching_54 ?_
      refine lv_iload hx hb dX4_reaching_55 (lv_at hl 0 rfl) ?_
      refine kc_l (w1 := [(a_0, wv s_0)]) (wr := []) hP hD hS hA [0] [] rfl rfl rfl (by decide) (va_runV (As := [.long (x1 &&& ((w_lowerScratches s_0) ^^^ (-1))), .int (bI true)]) (rest := []) ⟨hx, hb, hml, hown, hts⟩ (c_X4_fromAbove (l := l) G cy a_0 H.size s_0 (x1 &&& ((w_lowerScratches s_0) ^^^ (-1))) true  (f_X4_fromAbove s_0 (x1 &&& ((w_lowerScratches s_0) ^^^ (-1))) true) rfl) (cwV 2 hts gX4_reaching_X4_fromAbove rfl rfl rfl ddV_X4_fromAbove ⟨Nat.le_of_ble_eq_true rfl, Nat.le_of_ble_eq_true rfl⟩) (preV_ (ci := 4) (q0 := 0) rfl rfl hP hK hD hN) rfl rfl hl.1 rfl (lv_room (Nat.le_of_ble_eq_true rfl)) dX4_reaching_57 ⟨Nat.le_of_ble_eq_true rfl, Nat.le_of_ble_eq_true rfl⟩) (fun H locs hP hD hS => ?_)
      have hP : va_P G vwCl [(a_0, wv s_0)] H := hP
      have hD : va_D A [(a_0, wv s_0)] := hD
      subst hf
      exact kr_l hx hb hr hlocks rfl hP hK hD hN hS hS.2.2 dX4_reaching_60
    have hf := in_ h_5 hf
    by_cases h_6 : x3 = 1
    · have hf := ip_ h_6 hf
      refine lv_tableIn (tgt := 61) (off := 44) hx hb dX4_reaching_17 (by show ¬ x3.toInt < 0; rw [h_6]; decide) (by show ¬ 2 < x3.toInt; rw [h_6]; decide) (by show (#[27, 44, 61] : Array Int)[(x3.toInt - 0).toNat]? = some 44; rw [h_6]; rfl) (by decide) ?_
      refine lv_aload_n hx hb dX4_reaching_61 rfl (lv_at hl 1 rfl) ?_
      refine lv_lload_n hx hb dX4_reaching_62 rfl (lv_at hl 2 rfl) ?_
      refine lv_iload hx hb dX4_reaching_63 (lv_at hl 0 rfl) ?_
      refine kc_l (w1 := [(a_0, wv s_0)]) (wr := []) hP hD hS hA [0] [] rfl rfl rfl (by decide) (va_runV (As := [.long x1, .int (bI true)]) (rest := []) ⟨hx, hb, hml, hown, hts⟩ (c_X4_fromRight (l := l) G cy a_0 H.size s_0 x1 true  (f_X4_fromRight s_0 x1 true) rfl) (cwV 2 hts gX4_reaching_X4_fromRight rfl rfl rfl ddV_X4_fromRight ⟨Nat.le_of_ble_eq_true rfl, Nat.le_of_ble_eq_true rfl⟩) (preV_ (ci := 4) (q0 := 0) rfl rfl hP hK hD hN) rfl rfl hl.1 rfl (lv_room (Nat.le_of_ble_eq_true rfl)) dX4_reaching_65 ⟨Nat.le_of_ble_eq_true rfl, Nat.le_of_ble_eq_true rfl⟩) (fun H locs hP hD hS => ?_)
      have hP : va_P G vwCl [(a_0, wv s_0)] H := hP
      have hD : va_D A [(a_0, wv s_0)] := hD
      refine lv_aload_n hx hb dX4_reaching_68 rfl (lv_at hl 1 rfl) ?_
      refine va_get (D := G) (ci := 4) (v := .long (w_rightScratches s_0)) (C := RX4) (T := TX4) (N := 12) hx hb hts iw_X4_reaching_X4 hown hK hP 0 rfl rfl 10 (by decide) (hts (.fieldLink RX4 46 "PaneFrost$Window" "rightScratches" "J") (by decide +kernel)) (fun _ h9 => h9) rfl dX4_reaching_69 ?_
      refine lv_ldc2 (v := (-1)) hx hb hown (hts (.constantLong RX4 82 (-1)) (by decide +kernel)) dX4_reaching_72 ?_
      refine lv_lxor hx hb dX4_reaching_75 ?_
      refine lv_land hx hb dX4_reaching_76 ?_
      subst hf
      exact kr_l hx hb hr hlocks rfl hP hK hD hN hS hS.2.2 dX4_reaching_77
    have hf := in_ h_6 hf
    by_cases h_7 : x3 = 2
    · have hf := ip_ h_7 hf
      refine lv_tableIn (tgt := 78) (off := 61) hx hb dX4_reaching_17 (by show ¬ x3.toInt < 0; rw [h_7]; decide) (by show ¬ 2 < x3.toInt; rw [h_7]; decide) (by show (#[27, 44, 61] : Array Int)[(x3.toInt - 0).toNat]? = some 61; rw [h_7]; rfl) (by decide) ?_
      refine lv_aload_n hx hb dX4_reaching_78 rfl (lv_at hl 1 rfl) ?_
      refine lv_lload_n hx hb dX4_reaching_79 rfl (lv_at hl 2 rfl) ?_
      refine lv_iload hx hb dX4_reaching_80 (lv_at hl 0 rfl) ?_
      refine kc_l (w1 := [(a_0, wv s_0)]) (wr := []) hP hD hS hA [0] [] rfl rfl rfl (by decide) (va_runV (As := [.long x1, .int (bI true)]) (rest := []) ⟨hx, hb, hml, hown, hts⟩ (c_X4_fromBelow (l := l) G cy a_0 H.size s_0 x1 true  (f_X4_fromBelow s_0 x1 true) rfl) (cwV 2 hts gX4_reaching_X4_fromBelow rfl rfl rfl ddV_X4_fromBelow ⟨Nat.le_of_ble_eq_true rfl, Nat.le_of_ble_eq_true rfl⟩) (preV_ (ci := 4) (q0 := 0) rfl rfl hP hK hD hN) rfl rfl hl.1 rfl (lv_room (Nat.le_of_ble_eq_true rfl)) dX4_reaching_82 ⟨Nat.le_of_ble_eq_true rfl, Nat.le_of_ble_eq_true rfl⟩) (fun H locs hP hD hS => ?_)
      have hP : va_P G vwCl [(a_0, wv s_0)] H := hP
      have hD : va_D A [(a_0, wv s_0)] := hD
      refine lv_aload_n hx hb dX4_reaching_85 rfl (lv_at hl 1 rfl) ?_
      refine va_get (D := G) (ci := 4) (v := .long (w_lowerScratches s_0)) (C := RX4) (T := TX4) (N := 12) hx hb hts iw_X4_reaching_X4 hown hK hP 0 rfl rfl 11 (by decide) (hts (.fieldLink RX4 49 "PaneFrost$Window" "lowerScratches" "J") (by decide +kernel)) (fun _ h9 => h9) rfl dX4_reaching_86 ?_
      refine lv_ldc2 (v := (-1)) hx hb hown (hts (.constantLong RX4 82 (-1)) (by decide +kernel)) dX4_reaching_89 ?_
      refine lv_lxor hx hb dX4_reaching_92 ?_
      refine lv_land hx hb dX4_reaching_93 ?_
      subst hf
      exact kr_l hx hb hr hlocks rfl hP hK hD hN hS hS.2.2 dX4_reaching_94
    have hf := in_ h_7 hf
    have th_5 : ¬ x3.toInt = 0 := fun q => h_5 (Int32.toInt_inj.mp (q.trans (by decide)))
    have th_6 : ¬ x3.toInt = 1 := fun q => h_6 (Int32.toInt_inj.mp (q.trans (by decide)))
    have th_7 : ¬ x3.toInt = 2 := fun q => h_7 (Int32.toInt_inj.mp (q.trans (by decide)))
    have hdf : (x3.toInt < 0 ∨ 2 < x3.toInt) := by omega
    refine lv_tableOut (tgt := 95) hx hb dX4_reaching_17 hdf (by decide) ?_
    refine lv_aload_n hx hb dX4_reaching_95 rfl (lv_at hl 1 rfl) ?_
    refine lv_lload_n hx hb dX4_reaching_96 rfl (lv_at hl 2 rfl) ?_
    refine lv_aload_n hx hb dX4_reaching_97 rfl (lv_at hl 1 rfl) ?_
    refine va_get (D := G) (ci := 4) (v := .long (w_rightScratches s_0)) (C := RX4) (T := TX4) (N := 12) hx hb hts iw_X4_reaching_X4 hown hK hP 0 rfl rfl 10 (by decide) (hts (.fieldLink RX4 46 "PaneFrost$Window" "rightScratches" "J") (by decide +kernel)) (fun _ h9 => h9) rfl dX4_reaching_98 ?_
    refine lv_ldc2 (v := (-1)) hx hb hown (hts (.constantLong RX4 82 (-1)) (by decide +kernel)) dX4_reaching_101 ?_
    refine lv_lxor hx hb dX4_reaching_104 ?_
    refine lv_land hx hb dX4_reaching_105 ?_
    refine lv_iload hx hb dX4_reaching_106 (lv_at hl 0 rfl) ?_
    refine kc_l (w1 := [(a_0, wv s_0)]) (wr := []) hP hD hS hA [0] [] rfl rfl rfl (by decide) (va_runV (As := [.long (x1 &&& ((w_rightScratches s_0) ^^^ (-1))), .int (bI true)]) (rest := []) ⟨hx, hb, hml, hown, hts⟩ (c_X4_fromLeft (l := l) G cy a_0 H.size s_0 (x1 &&& ((w_rightScratches s_0) ^^^ (-1))) true  (f_X4_fromLeft s_0 (x1 &&& ((w_rightScratches s_0) ^^^ (-1))) true) rfl) (cwV 2 hts gX4_reaching_X4_fromLeft rfl rfl rfl ddV_X4_fromLeft ⟨Nat.le_of_ble_eq_true rfl, Nat.le_of_ble_eq_true rfl⟩) (preV_ (ci := 4) (q0 := 0) rfl rfl hP hK hD hN) rfl rfl hl.1 rfl (lv_room (Nat.le_of_ble_eq_true rfl)) dX4_reaching_108 ⟨Nat.le_of_ble_eq_true rfl, Nat.le_of_ble_eq_true rfl⟩) (fun H locs hP hD hS => ?_)
    have hP : va_P G vwCl [(a_0, wv s_0)] H := hP
    have hD : va_D A [(a_0, wv s_0)] := hD
    subst hf
    exact kr_l hx hb hr hlocks rfl hP hK hD hN hS hS.2.2 dX4_reaching_111
set_option maxHeartbeats 4000000 in
set_option maxRecDepth 100000 in
theorem c_X4_along {l : Launch} (G : va_G) (cy : Nat → ClassId) (a_0 : Nat) (sz : Nat) (s_0 : WT) (x1 : Int32)  (R : Int64) (hf : f_X4_along s_0 x1 = R) : Met l yX4_along wsX4_along ({ frames := 0, cells := 0, slots := 0, locals := 0 } : Room) (va_Pc [.ref a_0, .int x1] (pcW G cy [(a_0, wv s_0)] sz)) (va_Ql (fun r (_ : Unit) => r = R) (fun _ t => Wd G cy (va_A [(a_0, wv s_0)] sz) [(a_0, wv s_0)] t) (va_A [(a_0, wv s_0)] sz)) 0 0 (va_A [(a_0, wv s_0)] sz) := by
  refine Met.ofW (cc := cX4_along) (maxL := 2) (ret := (some .long)) (by decide) rfl ?_
  intro p e s m args below meth c s₁ B hml hv
  obtain ⟨rfl, hsz, hP, hK, hD0, hN⟩ := hv
  have hx := B.exec
  have hb := B.bytes
  have hr := B.returns
  have hts := atoms_spec (ws := wsX4_along) B.pre
  have hown : s.vm.findClass RX4 = some m.cls := findClass_of_methodNamed B.named
  have hlocks := B.notSynchronized
  subst hsz
  have hD := hD0.self (sz := s.heap.size)
  generalize hAe : va_A [(a_0, wv s_0)] s.heap.size = A at hD ⊢
  have hA : ∀ q : Nat, s.heap.size ≤ q → A q := fun q h => by rw [← hAe]; exact Or.inr h
  have hS : va_S A s.heap s.heap [] := va_S.rf
  have hP : va_P G vwCl [(a_0, wv s_0)] s.heap := hP
  have hl := lv_entry [.ref a_0, .int x1] (n := 2) (Nat.le_of_ble_eq_true rfl)
  rw [lg_entry_eq]
  generalize (lg_sl [.ref a_0, .int x1] ++ List.replicate (2 - (lg_sl [.ref a_0, .int x1]).length) Slot.unset).toArray = ls at hl ⊢
  have hl : lv_has ls 2 [(0, .ref a_0), (1, .int x1)] := hl
  unfold f_X4_along at hf
  refine lv_iload_n hx hb dX4_along_0 rfl (lv_at hl 1 rfl) ?_
  by_cases h_1 : x1 = 0
  · have hf := ip_ h_1 hf
    refine lv_tableIn (tgt := 28) (off := 27) hx hb dX4_along_1 (by show ¬ x1.toInt < 0; rw [h_1]; decide) (by show ¬ 2 < x1.toInt; rw [h_1]; decide) (by show (#[27, 32, 37] : Array Int)[(x1.toInt - 0).toNat]? = some 27; rw [h_1]; rfl) (by decide) ?_
    refine lv_aload_n hx hb dX4_along_28 rfl (lv_at hl 0 rfl) ?_
    refine va_get (D := G) (ci := 4) (v := .long (w_topRow s_0)) (C := RX4) (T := TX4) (N := 12) hx hb hts iw_X4_along_X4 hown hK hP 0 rfl rfl 6 (by decide) (hts (.fieldLink RX4 34 "PaneFrost$Window" "topRow" "J") (by decide +kernel)) (fun _ h9 => h9) rfl dX4_along_29 ?_
    subst hf
    exact kr_l hx hb hr hlocks rfl hP hK hD hN hS hS.2.2 dX4_along_32
  have hf := in_ h_1 hf
  by_cases h_2 : x1 = 1
  · have hf := ip_ h_2 hf
    refine lv_tableIn (tgt := 33) (off := 32) hx hb dX4_along_1 (by show ¬ x1.toInt < 0; rw [h_2]; decide) (by show ¬ 2 < x1.toInt; rw [h_2]; decide) (by show (#[27, 32, 37] : Array Int)[(x1.toInt - 0).toNat]? = some 32; rw [h_2]; rfl) (by decide) ?_
    refine lv_aload_n hx hb dX4_along_33 rfl (lv_at hl 0 rfl) ?_
    refine va_get (D := G) (ci := 4) (v := .long (w_rightColumn s_0)) (C := RX4) (T := TX4) (N := 12) hx hb hts iw_X4_along_X4 hown hK hP 0 rfl rfl 7 (by decide) (hts (.fieldLink RX4 37 "PaneFrost$Window" "rightColumn" "J") (by decide +kernel)) (fun _ h9 => h9) rfl dX4_along_34 ?_
    subst hf
    exact kr_l hx hb hr hlocks rfl hP hK hD hN hS hS.2.2 dX4_along_37
  have hf := in_ h_2 hf
  by_cases h_3 : x1 = 2
  · have hf := ip_ h_3 hf
    refine lv_tableIn (tgt := 38) (off := 37) hx hb dX4_along_1 (by show ¬ x1.toInt < 0; rw [h_3]; decide) (by show ¬ 2 < x1.toInt; rw [h_3]; decide) (by show (#[27, 32, 37] : Array Int)[(x1.toInt - 0).toNat]? = some 37; rw [h_3]; rfl) (by decide) ?_
    refine lv_aload_n hx hb dX4_along_38 rfl (lv_at hl 0 rfl) ?_
    refine va_get (D := G) (ci := 4) (v := .long (w_bottomRow s_0)) (C := RX4) (T := TX4) (N := 12) hx hb hts iw_X4_along_X4 hown hK hP 0 rfl rfl 8 (by decide) (hts (.fieldLink RX4 40 "PaneFrost$Window" "bottomRow" "J") (by decide +kernel)) (fun _ h9 => h9) rfl dX4_along_39 ?_
    subst hf
    exact kr_l hx hb hr hlocks rfl hP hK hD hN hS hS.2.2 dX4_along_42
  have hf := in_ h_3 hf
  have th_1 : ¬ x1.toInt = 0 := fun q => h_1 (Int32.toInt_inj.mp (q.trans (by decide)))
  have th_2 : ¬ x1.toInt = 1 := fun q => h_2 (Int32.toInt_inj.mp (q.trans (by decide)))
  have th_3 : ¬ x1.toInt = 2 := fun q => h_3 (Int32.toInt_inj.mp (q.trans (by decide)))
  have hdf : (x1.toInt < 0 ∨ 2 < x1.toInt) := by omega
  refine lv_tableOut (tgt := 43) hx hb dX4_along_1 hdf (by decide) ?_
  refine lv_aload_n hx hb dX4_along_43 rfl (lv_at hl 0 rfl) ?_
  refine va_get (D := G) (ci := 4) (v := .long (w_leftColumn s_0)) (C := RX4) (T := TX4) (N := 12) hx hb hts iw_X4_along_X4 hown hK hP 0 rfl rfl 9 (by decide) (hts (.fieldLink RX4 43 "PaneFrost$Window" "leftColumn" "J") (by decide +kernel)) (fun _ h9 => h9) rfl dX4_along_44 ?_
  subst hf
  exact kr_l hx hb hr hlocks rfl hP hK hD hN hS hS.2.2 dX4_along_47
set_option maxHeartbeats 4000000 in
set_option maxRecDepth 100000 in
theorem c_X4_coldFrom {l : Launch} (G : va_G) (cy : Nat → ClassId) (a_0 : Nat) (sz : Nat) (s_0 : WT) (x1 : Int64) (x3 : Int32)  (R : Int64) (hf : f_X4_coldFrom s_0 x1 x3 = R) : Met l yX4_coldFrom wsX4_coldFrom ({ frames := 2, cells := 0, slots := 0, locals := 49 } : Room) (va_Pc [.ref a_0, .long x1, .int x3] (pcW G cy [(a_0, wv s_0)] sz)) (va_Ql (fun r (_ : Unit) => r = R) (fun _ t => Wd G cy (va_A [(a_0, wv s_0)] sz) [(a_0, wv s_0)] t) (va_A [(a_0, wv s_0)] sz)) 0 0 (va_A [(a_0, wv s_0)] sz) := by
  refine Met.ofW (cc := cX4_coldFrom) (maxL := 4) (ret := (some .long)) (by decide) rfl ?_
  intro p e s m args below meth c s₁ B hml hv
  obtain ⟨rfl, hsz, hP, hK, hD0, hN⟩ := hv
  have hx := B.exec
  have hb := B.bytes
  have hr := B.returns
  have hts := atoms_spec (ws := wsX4_coldFrom) B.pre
  have hown : s.vm.findClass RX4 = some m.cls := findClass_of_methodNamed B.named
  have hlocks := B.notSynchronized
  subst hsz
  have hD := hD0.self (sz := s.heap.size)
  generalize hAe : va_A [(a_0, wv s_0)] s.heap.size = A at hD ⊢
  have hA : ∀ q : Nat, s.heap.size ≤ q → A q := fun q h => by rw [← hAe]; exact Or.inr h
  have hS : va_S A s.heap s.heap [] := va_S.rf
  have hP : va_P G vwCl [(a_0, wv s_0)] s.heap := hP
  have hl := lv_entry [.ref a_0, .long x1, .int x3] (n := 4) (Nat.le_of_ble_eq_true rfl)
  rw [lg_entry_eq]
  generalize (lg_sl [.ref a_0, .long x1, .int x3] ++ List.replicate (4 - (lg_sl [.ref a_0, .long x1, .int x3]).length) Slot.unset).toArray = ls at hl ⊢
  have hl : lv_has ls 4 [(0, .ref a_0), (1, .long x1), (3, .int x3)] := hl
  unfold f_X4_coldFrom at hf
  refine lv_aload_n hx hb dX4_coldFrom_0 rfl (lv_at hl 0 rfl) ?_
  refine lv_iload_n hx hb dX4_coldFrom_1 rfl (lv_at hl 2 rfl) ?_
  refine kc_i (w1 := [(a_0, wv s_0)]) (wr := []) hP hD hS hA [0] [] rfl rfl rfl (by decide) (va_runV (As := [.int x3]) (rest := []) ⟨hx, hb, hml, hown, hts⟩ (c_X4_kind (l := l) G cy a_0 s.heap.size s_0 x3  (f_X4_kind s_0 x3) rfl) (cwV 1 hts gX4_coldFrom_X4_kind rfl rfl rfl ddV_X4_kind ⟨Nat.le_of_ble_eq_true rfl, Nat.le_of_ble_eq_true rfl⟩) (preV_ (ci := 4) (q0 := 0) rfl rfl hP hK hD hN) rfl rfl hl.1 rfl (lv_room (Nat.le_of_ble_eq_true rfl)) dX4_coldFrom_2 ⟨Nat.le_of_ble_eq_true rfl, Nat.le_of_ble_eq_true rfl⟩) (fun H locs hP hD hS => ?_)
  have hP : va_P G vwCl [(a_0, wv s_0)] H := hP
  have hD : va_D A [(a_0, wv s_0)] := hD
  refine lv_iconst (v := 1) hx hb dX4_coldFrom_5 (by decide) ?_
  refine lv_icmp_ne (tgt := 24) hx hb dX4_coldFrom_6 (by decide) (fun h_1 => ?_) (fun h_1 => ?_)
  · have hf := in_ h_1 hf
    refine lv_aload_n hx hb dX4_coldFrom_24 rfl (lv_at hl 0 rfl) ?_
    refine lv_lload_n hx hb dX4_coldFrom_25 rfl (lv_at hl 1 rfl) ?_
    refine lv_iload_n hx hb dX4_coldFrom_26 rfl (lv_at hl 2 rfl) ?_
    refine kc_l (w1 := [(a_0, wv s_0)]) (wr := []) hP hD hS hA [0] [] rfl rfl rfl (by decide) (va_runV (As := [.long x1, .int x3]) (rest := []) ⟨hx, hb, hml, hown, hts⟩ (c_X4_reaching (l := l) G cy a_0 H.size s_0 x1 x3  (f_X4_reaching s_0 x1 x3) rfl) (cwV 2 hts gX4_coldFrom_X4_reaching rfl rfl rfl ddV_X4_reaching ⟨Nat.le_of_ble_eq_true rfl, Nat.le_of_ble_eq_true rfl⟩) (preV_ (ci := 4) (q0 := 0) rfl rfl hP hK hD hN) rfl rfl hl.1 rfl (lv_room (Nat.le_of_ble_eq_true rfl)) dX4_coldFrom_27 ⟨Nat.le_of_ble_eq_true rfl, Nat.le_of_ble_eq_true rfl⟩) (fun H locs hP hD hS => ?_)
    have hP : va_P G vwCl [(a_0, wv s_0)] H := hP
    have hD : va_D A [(a_0, wv s_0)] := hD
    subst hf
    exact kr_l hx hb hr hlocks rfl hP hK hD hN hS hS.2.2 dX4_coldFrom_30
  · have hf := ip_ h_1 hf
    refine lv_aload_n hx hb dX4_coldFrom_9 rfl (lv_at hl 0 rfl) ?_
    refine lv_lload_n hx hb dX4_coldFrom_10 rfl (lv_at hl 1 rfl) ?_
    refine lv_iload_n hx hb dX4_coldFrom_11 rfl (lv_at hl 2 rfl) ?_
    refine kc_l (w1 := [(a_0, wv s_0)]) (wr := []) hP hD hS hA [0] [] rfl rfl rfl (by decide) (va_runV (As := [.long x1, .int x3]) (rest := []) ⟨hx, hb, hml, hown, hts⟩ (c_X4_reaching (l := l) G cy a_0 H.size s_0 x1 x3  (f_X4_reaching s_0 x1 x3) rfl) (cwV 2 hts gX4_coldFrom_X4_reaching rfl rfl rfl ddV_X4_reaching ⟨Nat.le_of_ble_eq_true rfl, Nat.le_of_ble_eq_true rfl⟩) (preV_ (ci := 4) (q0 := 0) rfl rfl hP hK hD hN) rfl rfl hl.1 rfl (lv_room (Nat.le_of_ble_eq_true rfl)) dX4_coldFrom_12 ⟨Nat.le_of_ble_eq_true rfl, Nat.le_of_ble_eq_true rfl⟩) (fun H locs hP hD hS => ?_)
    have hP : va_P G vwCl [(a_0, wv s_0)] H := hP
    have hD : va_D A [(a_0, wv s_0)] := hD
    refine lv_aload_n hx hb dX4_coldFrom_15 rfl (lv_at hl 0 rfl) ?_
    refine lv_iload_n hx hb dX4_coldFrom_16 rfl (lv_at hl 2 rfl) ?_
    refine kc_l (w1 := [(a_0, wv s_0)]) (wr := []) hP hD hS hA [0] [] rfl rfl rfl (by decide) (va_runV (As := [.int x3]) (rest := [.long (f_X4_reaching s_0 x1 x3)]) ⟨hx, hb, hml, hown, hts⟩ (c_X4_along (l := l) G cy a_0 H.size s_0 x3  (f_X4_along s_0 x3) rfl) (cwV 1 hts gX4_coldFrom_X4_along rfl rfl rfl ddV_X4_along ⟨Nat.le_of_ble_eq_true rfl, Nat.le_of_ble_eq_true rfl⟩) (preV_ (ci := 4) (q0 := 0) rfl rfl hP hK hD hN) rfl rfl hl.1 rfl (lv_room (Nat.le_of_ble_eq_true rfl)) dX4_coldFrom_17 ⟨Nat.le_of_ble_eq_true rfl, Nat.le_of_ble_eq_true rfl⟩) (fun H locs hP hD hS => ?_)
    have hP : va_P G vwCl [(a_0, wv s_0)] H := hP
    have hD : va_D A [(a_0, wv s_0)] := hD
    refine lv_lor hx hb dX4_coldFrom_20 ?_
    refine lv_goto (tgt := 30) hx hb dX4_coldFrom_21 (by decide) ?_
    subst hf
    exact kr_l hx hb hr hlocks rfl hP hK hD hN hS hS.2.2 dX4_coldFrom_30
set_option maxHeartbeats 4000000 in
set_option maxRecDepth 100000 in
theorem c_X4_after {l : Launch} (G : va_G) (cy : Nat → ClassId) (a_0 : Nat) (sz : Nat) (s_0 : WT) (x1 : Int64)  (R : Int64) (hf : f_X4_after s_0 x1 = R) : Met l yX4_after wsX4_after ({ frames := 3, cells := 0, slots := 0, locals := 72 } : Room) (va_Pc [.ref a_0, .long x1] (pcW G cy [(a_0, wv s_0)] sz)) (va_Ql (fun r (_ : Unit) => r = R) (fun _ t => Wd G cy (va_A [(a_0, wv s_0)] sz) [(a_0, wv s_0)] t) (va_A [(a_0, wv s_0)] sz)) 0 0 (va_A [(a_0, wv s_0)] sz) := by
  refine Met.ofW (cc := cX4_after) (maxL := 5) (ret := (some .long)) (by decide) rfl ?_
  intro p e s m args below meth c s₁ B hml hv
  obtain ⟨rfl, hsz, hP, hK, hD0, hN⟩ := hv
  have hx := B.exec
  have hb := B.bytes
  have hr := B.returns
  have hts := atoms_spec (ws := wsX4_after) B.pre
  have hown : s.vm.findClass RX4 = some m.cls := findClass_of_methodNamed B.named
  have hlocks := B.notSynchronized
  subst hsz
  have hD := hD0.self (sz := s.heap.size)
  generalize hAe : va_A [(a_0, wv s_0)] s.heap.size = A at hD ⊢
  have hA : ∀ q : Nat, s.heap.size ≤ q → A q := fun q h => by rw [← hAe]; exact Or.inr h
  have hS : va_S A s.heap s.heap [] := va_S.rf
  have hP : va_P G vwCl [(a_0, wv s_0)] s.heap := hP
  have hl := lv_entry [.ref a_0, .long x1] (n := 5) (Nat.le_of_ble_eq_true rfl)
  rw [lg_entry_eq]
  generalize (lg_sl [.ref a_0, .long x1] ++ List.replicate (5 - (lg_sl [.ref a_0, .long x1]).length) Slot.unset).toArray = ls at hl ⊢
  have hl : lv_has ls 5 [(0, .ref a_0), (1, .long x1)] := hl
  unfold f_X4_after at hf
  refine lv_aload_n hx hb dX4_after_0 rfl (lv_at hl 0 rfl) ?_
  refine lv_lload_n hx hb dX4_after_1 rfl (lv_at hl 1 rfl) ?_
  refine lv_iconst (v := 0) hx hb dX4_after_2 (by decide) ?_
  refine kc_l (w1 := [(a_0, wv s_0)]) (wr := []) hP hD hS hA [0] [] rfl rfl rfl (by decide) (va_runV (As := [.long x1, .int 0]) (rest := []) ⟨hx, hb, hml, hown, hts⟩ (c_X4_coldFrom (l := l) G cy a_0 s.heap.size s_0 x1 0  (f_X4_coldFrom s_0 x1 0) rfl) (cwV 2 hts gX4_after_X4_coldFrom rfl rfl rfl ddV_X4_coldFrom ⟨Nat.le_of_ble_eq_true rfl, Nat.le_of_ble_eq_true rfl⟩) (preV_ (ci := 4) (q0 := 0) rfl rfl hP hK hD hN) rfl rfl hl.1 rfl (lv_room (Nat.le_of_ble_eq_true rfl)) dX4_after_3 ⟨Nat.le_of_ble_eq_true rfl, Nat.le_of_ble_eq_true rfl⟩) (fun H locs hP hD hS => ?_)
  have hP : va_P G vwCl [(a_0, wv s_0)] H := hP
  have hD : va_D A [(a_0, wv s_0)] := hD
  refine lv_aload_n hx hb dX4_after_6 rfl (lv_at hl 0 rfl) ?_
  refine lv_lload_n hx hb dX4_after_7 rfl (lv_at hl 1 rfl) ?_
  refine lv_iconst (v := 1) hx hb dX4_after_8 (by decide) ?_
  refine kc_l (w1 := [(a_0, wv s_0)]) (wr := []) hP hD hS hA [0] [] rfl rfl rfl (by decide) (va_runV (As := [.long x1, .int 1]) (rest := [.long (f_X4_coldFrom s_0 x1 0)]) ⟨hx, hb, hml, hown, hts⟩ (c_X4_coldFrom (l := l) G cy a_0 H.size s_0 x1 1  (f_X4_coldFrom s_0 x1 1) rfl) (cwV 2 hts gX4_after_X4_coldFrom rfl rfl rfl ddV_X4_coldFrom ⟨Nat.le_of_ble_eq_true rfl, Nat.le_of_ble_eq_true rfl⟩) (preV_ (ci := 4) (q0 := 0) rfl rfl hP hK hD hN) rfl rfl hl.1 rfl (lv_room (Nat.le_of_ble_eq_true rfl)) dX4_after_9 ⟨Nat.le_of_ble_eq_true rfl, Nat.le_of_ble_eq_true rfl⟩) (fun H locs hP hD hS => ?_)
  have hP : va_P G vwCl [(a_0, wv s_0)] H := hP
  have hD : va_D A [(a_0, wv s_0)] := hD
  refine lv_lxor hx hb dX4_after_12 ?_
  refine lv_aload_n hx hb dX4_after_13 rfl (lv_at hl 0 rfl) ?_
  refine lv_lload_n hx hb dX4_after_14 rfl (lv_at hl 1 rfl) ?_
  refine lv_iconst (v := 2) hx hb dX4_after_15 (by decide) ?_
  refine kc_l (w1 := [(a_0, wv s_0)]) (wr := []) hP hD hS hA [0] [] rfl rfl rfl (by decide) (va_runV (As := [.long x1, .int 2]) (rest := [.long ((f_X4_coldFrom s_0 x1 0) ^^^ (f_X4_coldFrom s_0 x1 1))]) ⟨hx, hb, hml, hown, hts⟩ (c_X4_coldFrom (l := l) G cy a_0 H.size s_0 x1 2  (f_X4_coldFrom s_0 x1 2) rfl) (cwV 2 hts gX4_after_X4_coldFrom rfl rfl rfl ddV_X4_coldFrom ⟨Nat.le_of_ble_eq_true rfl, Nat.le_of_ble_eq_true rfl⟩) (preV_ (ci := 4) (q0 := 0) rfl rfl hP hK hD hN) rfl rfl hl.1 rfl (lv_room (Nat.le_of_ble_eq_true rfl)) dX4_after_16 ⟨Nat.le_of_ble_eq_true rfl, Nat.le_of_ble_eq_true rfl⟩) (fun H locs hP hD hS => ?_)
  have hP : va_P G vwCl [(a_0, wv s_0)] H := hP
  have hD : va_D A [(a_0, wv s_0)] := hD
  refine lv_lxor hx hb dX4_after_19 ?_
  refine lv_aload_n hx hb dX4_after_20 rfl (lv_at hl 0 rfl) ?_
  refine lv_lload_n hx hb dX4_after_21 rfl (lv_at hl 1 rfl) ?_
  refine lv_iconst (v := 3) hx hb dX4_after_22 (by decide) ?_
  refine kc_l (w1 := [(a_0, wv s_0)]) (wr := []) hP hD hS hA [0] [] rfl rfl rfl (by decide) (va_runV (As := [.long x1, .int 3]) (rest := [.long (((f_X4_coldFrom s_0 x1 0) ^^^ (f_X4_coldFrom s_0 x1 1)) ^^^ (f_X4_coldFrom s_0 x1 2))]) ⟨hx, hb, hml, hown, hts⟩ (c_X4_coldFrom (l := l) G cy a_0 H.size s_0 x1 3  (f_X4_coldFrom s_0 x1 3) rfl) (cwV 2 hts gX4_after_X4_coldFrom rfl rfl rfl ddV_X4_coldFrom ⟨Nat.le_of_ble_eq_true rfl, Nat.le_of_ble_eq_true rfl⟩) (preV_ (ci := 4) (q0 := 0) rfl rfl hP hK hD hN) rfl rfl hl.1 rfl (lv_room (Nat.le_of_ble_eq_true rfl)) dX4_after_23 ⟨Nat.le_of_ble_eq_true rfl, Nat.le_of_ble_eq_true rfl⟩) (fun H locs hP hD hS => ?_)
  have hP : va_P G vwCl [(a_0, wv s_0)] H := hP
  have hD : va_D A [(a_0, wv s_0)] := hD
  refine lv_lxor hx hb dX4_after_26 ?_
  refine lv_topl (fun u_1 eu_1 => ?_)
  have hf := lt_e eu_1 hf
  refine lv_lstore_n (lv' := [(3, .long u_1), (0, .ref a_0), (1, .long x1)]) hx hb dX4_after_27 rfl hl (by decide) rfl (fun ls hl => ?_)
  refine lv_aload_n hx hb dX4_after_28 rfl (lv_at hl 1 rfl) ?_
  refine va_get (D := G) (ci := 4) (v := .int (w_rule s_0)) (C := RX4) (T := TX4) (N := 12) hx hb hts iw_X4_after_X4 hown hK hP 0 rfl rfl 2 (by decide) (hts (.fieldLink RX4 18 "PaneFrost$Window" "rule" "I") (by decide +kernel)) (fun _ h9 => h9) rfl dX4_after_29 ?_
  refine lv_if_ne (tgt := 39) hx hb dX4_after_32 (by decide) (fun h_2 => ?_) (fun h_2 => ?_)
  · have hf := in_ h_2 hf
    refine lv_aload_n hx hb dX4_after_39 rfl (lv_at hl 1 rfl) ?_
    refine va_get (D := G) (ci := 4) (v := .int (w_rule s_0)) (C := RX4) (T := TX4) (N := 12) hx hb hts iw_X4_after_X4 hown hK hP 0 rfl rfl 2 (by decide) (hts (.fieldLink RX4 18 "PaneFrost$Window" "rule" "I") (by decide +kernel)) (fun _ h9 => h9) rfl dX4_after_40 ?_
    refine lv_iconst (v := 1) hx hb dX4_after_43 (by decide) ?_
    refine lv_icmp_ne (tgt := 51) hx hb dX4_after_44 (by decide) (fun h_3 => ?_) (fun h_3 => ?_)
    · have hf := in_ h_3 hf
      refine lv_lload_n hx hb dX4_after_51 rfl (lv_at hl 2 rfl) ?_
      refine lv_lload_n hx hb dX4_after_52 rfl (lv_at hl 0 rfl) ?_
      refine lv_lxor hx hb dX4_after_53 ?_
      subst hf
      exact kr_l hx hb hr hlocks rfl hP hK hD hN hS hS.2.2 dX4_after_54
    · have hf := ip_ h_3 hf
      refine lv_lload_n hx hb dX4_after_47 rfl (lv_at hl 0 rfl) ?_
      refine lv_goto (tgt := 54) hx hb dX4_after_48 (by decide) ?_
      subst hf
      exact kr_l hx hb hr hlocks rfl hP hK hD hN hS hS.2.2 dX4_after_54
  · have hf := ip_ h_2 hf
    refine lv_lload_n hx hb dX4_after_35 rfl (lv_at hl 2 rfl) ?_
    refine lv_lload_n hx hb dX4_after_36 rfl (lv_at hl 0 rfl) ?_
    refine lv_lor hx hb dX4_after_37 ?_
    subst hf
    exact kr_l hx hb hr hlocks rfl hP hK hD hN hS hS.2.2 dX4_after_38
set_option maxHeartbeats 4000000 in
set_option maxRecDepth 100000 in
theorem c_X4_count {l : Launch} (G : va_G) (cy : Nat → ClassId) (a_0 : Nat) (sz : Nat) (s_0 : WT)  (R : Int32) (hf : f_X4_count s_0 = R) : Met l yX4_count wsX4_count ({ frames := 0, cells := 0, slots := 0, locals := 0 } : Room) (va_Pc [.ref a_0] (pcW G cy [(a_0, wv s_0)] sz)) (va_Qi (fun r (_ : Unit) => r = R) (fun _ t => Wd G cy (va_A [(a_0, wv s_0)] sz) [(a_0, wv s_0)] t) (va_A [(a_0, wv s_0)] sz)) 0 0 (va_A [(a_0, wv s_0)] sz) := by
  refine Met.ofW (cc := cX4_count) (maxL := 1) (ret := (some .int)) (by decide) rfl ?_
  intro p e s m args below meth c s₁ B hml hv
  obtain ⟨rfl, hsz, hP, hK, hD0, hN⟩ := hv
  have hx := B.exec
  have hb := B.bytes
  have hr := B.returns
  have hts := atoms_spec (ws := wsX4_count) B.pre
  have hown : s.vm.findClass RX4 = some m.cls := findClass_of_methodNamed B.named
  have hlocks := B.notSynchronized
  subst hsz
  have hD := hD0.self (sz := s.heap.size)
  generalize hAe : va_A [(a_0, wv s_0)] s.heap.size = A at hD ⊢
  have hA : ∀ q : Nat, s.heap.size ≤ q → A q := fun q h => by rw [← hAe]; exact Or.inr h
  have hS : va_S A s.heap s.heap [] := va_S.rf
  have hP : va_P G vwCl [(a_0, wv s_0)] s.heap := hP
  have hl := lv_entry [.ref a_0] (n := 1) (Nat.le_of_ble_eq_true rfl)
  rw [lg_entry_eq]
  generalize (lg_sl [.ref a_0] ++ List.replicate (1 - (lg_sl [.ref a_0]).length) Slot.unset).toArray = ls at hl ⊢
  have hl : lv_has ls 1 [(0, .ref a_0)] := hl
  unfold f_X4_count at hf
  refine lv_aload_n hx hb dX4_count_0 rfl (lv_at hl 0 rfl) ?_
  refine va_get (D := G) (ci := 4) (v := .int (w_rows s_0)) (C := RX4) (T := TX4) (N := 12) hx hb hts iw_X4_count_X4 hown hK hP 0 rfl rfl 0 (by decide) (hts (.fieldLink RX4 9 "PaneFrost$Window" "rows" "I") (by decide +kernel)) (fun _ h9 => h9) rfl dX4_count_1 ?_
  refine lv_aload_n hx hb dX4_count_4 rfl (lv_at hl 0 rfl) ?_
  refine va_get (D := G) (ci := 4) (v := .int (w_cells s_0)) (C := RX4) (T := TX4) (N := 12) hx hb hts iw_X4_count_X4 hown hK hP 0 rfl rfl 1 (by decide) (hts (.fieldLink RX4 15 "PaneFrost$Window" "cells" "I") (by decide +kernel)) (fun _ h9 => h9) rfl dX4_count_5 ?_
  refine lv_imul hx hb dX4_count_8 ?_
  subst hf
  exact kr_i hx hb hr hlocks rfl hP hK hD hN hS hS.2.2 dX4_count_9
set_option maxHeartbeats 4000000 in
set_option maxRecDepth 100000 in
theorem c_X5_holds {l : Launch} (G : va_G) (cy : Nat → ClassId)  (sz : Nat) (x0 : Int64) (x2 : Int32)  (R : Bool) (hf : f_X5_holds x0 x2 = R) : Met l yX5_holds wsX5_holds ({ frames := 0, cells := 0, slots := 0, locals := 0 } : Room) (va_Pc [.long x0, .int x2] (pcW G cy [] sz)) (va_Qi (fun r (_ : Unit) => r = bI R) (fun _ t => Wd G cy (va_A [] sz) [] t) (va_A [] sz)) 0 0 (va_A [] sz) := by
  refine Met.ofW (cc := cX5_holds) (maxL := 3) (ret := (some .boolean)) (by decide) rfl ?_
  intro p e s m args below meth c s₁ B hml hv
  obtain ⟨rfl, hsz, hP, hK, hD0, hN⟩ := hv
  have hx := B.exec
  have hb := B.bytes
  have hr := B.returns
  have hts := atoms_spec (ws := wsX5_holds) B.pre
  have hown : s.vm.findClass RX5 = some m.cls := findClass_of_methodNamed B.named
  have hlocks := B.notSynchronized
  subst hsz
  have hD := hD0.self (sz := s.heap.size)
  generalize hAe : va_A [] s.heap.size = A at hD ⊢
  have hA : ∀ q : Nat, s.heap.size ≤ q → A q := fun q h => by rw [← hAe]; exact Or.inr h
  have hS : va_S A s.heap s.heap [] := va_S.rf
  have hP : va_P G vwCl [] s.heap := hP
  have hl := lv_entry [.long x0, .int x2] (n := 3) (Nat.le_of_ble_eq_true rfl)
  rw [lg_entry_eq]
  generalize (lg_sl [.long x0, .int x2] ++ List.replicate (3 - (lg_sl [.long x0, .int x2]).length) Slot.unset).toArray = ls at hl ⊢
  have hl : lv_has ls 3 [(0, .long x0), (2, .int x2)] := hl
  unfold f_X5_holds at hf
  refine lv_lload_n hx hb dX5_holds_0 rfl (lv_at hl 0 rfl) ?_
  refine lv_iload_n hx hb dX5_holds_1 rfl (lv_at hl 1 rfl) ?_
  refine lv_lushr (v := (jus x0 x2)) hx hb dX5_holds_2 rfl ?_
  refine lv_lconst (v := 1) hx hb dX5_holds_3 rfl ?_
  refine lv_land hx hb dX5_holds_4 ?_
  refine lv_lconst (v := 0) hx hb dX5_holds_5 rfl ?_
  refine W.lcmp hx hb dX5_holds_6 ?_
  refine lv_if_eq (tgt := 14) hx hb dX5_holds_7 (by decide) (fun h_1 => ?_) (fun h_1 => ?_)
  · have hf := ip_ (lgc_eq.mp h_1) hf
    refine lv_iconst (v := 0) hx hb dX5_holds_14 (by decide) ?_
    subst hf
    exact kr_z (V := bI false) hx hb hr hlocks (bI_nar _) rfl hP hK hD hN hS hS.2.2 dX5_holds_15
  · have hf := in_ (fun q => h_1 (lgc_eq.mpr q)) hf
    refine lv_iconst (v := 1) hx hb dX5_holds_10 (by decide) ?_
    refine lv_goto (tgt := 15) hx hb dX5_holds_11 (by decide) ?_
    subst hf
    exact kr_z (V := bI true) hx hb hr hlocks (bI_nar _) rfl hP hK hD hN hS hS.2.2 dX5_holds_15
set_option maxHeartbeats 4000000 in
set_option maxRecDepth 100000 in
theorem c_J13_bitCount_95d88 {l : Launch} (G : va_G) (cy : Nat → ClassId)  (sz : Nat) (x0 : Int64)  (R : Int32) (hf : f_J13_bitCount_95d88 x0 = R) : Met l yJ13_bitCount_95d88 wsJ13_bitCount_95d88 ({ frames := 0, cells := 0, slots := 0, locals := 0 } : Room) (va_Pc [.long x0] (pcW G cy [] sz)) (va_Qi (fun r (_ : Unit) => r = R) (fun _ t => Wd G cy (va_A [] sz) [] t) (va_A [] sz)) 0 0 (va_A [] sz) := by
  refine Met.ofW (cc := cJ13_bitCount_95d88) (maxL := 2) (ret := (some .int)) (by decide) rfl ?_
  intro p e s m args below meth c s₁ B hml hv
  obtain ⟨rfl, hsz, hP, hK, hD0, hN⟩ := hv
  have hx := B.exec
  have hb := B.bytes
  have hr := B.returns
  have hts := atoms_spec (ws := wsJ13_bitCount_95d88) B.pre
  have hown : s.vm.findClass RJ13 = some m.cls := findClass_of_methodNamed B.named
  have hlocks := B.notSynchronized
  subst hsz
  have hD := hD0.self (sz := s.heap.size)
  generalize hAe : va_A [] s.heap.size = A at hD ⊢
  have hA : ∀ q : Nat, s.heap.size ≤ q → A q := fun q h => by rw [← hAe]; exact Or.inr h
  have hS : va_S A s.heap s.heap [] := va_S.rf
  have hP : va_P G vwCl [] s.heap := hP
  have hl := lv_entry [.long x0] (n := 2) (Nat.le_of_ble_eq_true rfl)
  rw [lg_entry_eq]
  generalize (lg_sl [.long x0] ++ List.replicate (2 - (lg_sl [.long x0]).length) Slot.unset).toArray = ls at hl ⊢
  have hl : lv_has ls 2 [(0, .long x0)] := hl
  unfold f_J13_bitCount_95d88 at hf
  refine lv_lload_n hx hb dJ13_bitCount_95d88_0 rfl (lv_at hl 0 rfl) ?_
  refine lv_lload_n hx hb dJ13_bitCount_95d88_1 rfl (lv_at hl 0 rfl) ?_
  refine lv_iconst (v := 1) hx hb dJ13_bitCount_95d88_2 (by decide) ?_
  refine lv_lushr (v := (jus x0 1)) hx hb dJ13_bitCount_95d88_3 rfl ?_
  refine lv_ldc2 (v := 6148914691236517205) hx hb hown (hts (.constantLong RJ13 314 (6148914691236517205)) (by decide +kernel)) dJ13_bitCount_95d88_4 ?_
  refine lv_land hx hb dJ13_bitCount_95d88_7 ?_
  refine lv_lsub hx hb dJ13_bitCount_95d88_8 ?_
  refine lv_lstore_n (lv' := [(0, .long (x0 - ((jus x0 1) &&& 6148914691236517205)))]) hx hb dJ13_bitCount_95d88_9 rfl hl (by decide) rfl (fun ls hl => ?_)
  refine lv_lload_n hx hb dJ13_bitCount_95d88_10 rfl (lv_at hl 0 rfl) ?_
  refine lv_ldc2 (v := 3689348814741910323) hx hb hown (hts (.constantLong RJ13 316 (3689348814741910323)) (by decide +kernel)) dJ13_bitCount_95d88_11 ?_
  refine lv_land hx hb dJ13_bitCount_95d88_14 ?_
  refine lv_lload_n hx hb dJ13_bitCount_95d88_15 rfl (lv_at hl 0 rfl) ?_
  refine lv_iconst (v := 2) hx hb dJ13_bitCount_95d88_16 (by decide) ?_
  refine lv_lushr (v := (jus (x0 - ((jus x0 1) &&& 6148914691236517205)) 2)) hx hb dJ13_bitCount_95d88_17 rfl ?_
  refine lv_ldc2 (v := 3689348814741910323) hx hb hown (hts (.constantLong RJ13 316 (3689348814741910323)) (by decide +kernel)) dJ13_bitCount_95d88_18 ?_
  refine lv_land hx hb dJ13_bitCount_95d88_21 ?_
  refine lv_ladd hx hb dJ13_bitCount_95d88_22 ?_
  refine lv_topl (fun u_1 eu_1 => ?_)
  have hf := lt_e eu_1 hf
  refine lv_lstore_n (lv' := [(0, .long u_1)]) hx hb dJ13_bitCount_95d88_23 rfl hl (by decide) rfl (fun ls hl => ?_)
  refine lv_lload_n hx hb dJ13_bitCount_95d88_24 rfl (lv_at hl 0 rfl) ?_
  refine lv_lload_n hx hb dJ13_bitCount_95d88_25 rfl (lv_at hl 0 rfl) ?_
  refine lv_iconst (v := 4) hx hb dJ13_bitCount_95d88_26 (by decide) ?_
  refine lv_lushr (v := (jus u_1 4)) hx hb dJ13_bitCount_95d88_27 rfl ?_
  refine lv_ladd hx hb dJ13_bitCount_95d88_28 ?_
  refine lv_ldc2 (v := 1085102592571150095) hx hb hown (hts (.constantLong RJ13 318 (1085102592571150095)) (by decide +kernel)) dJ13_bitCount_95d88_29 ?_
  refine lv_land hx hb dJ13_bitCount_95d88_32 ?_
  refine lv_lstore_n (lv' := [(0, .long ((u_1 + (jus u_1 4)) &&& 1085102592571150095))]) hx hb dJ13_bitCount_95d88_33 rfl hl (by decide) rfl (fun ls hl => ?_)
  refine lv_lload_n hx hb dJ13_bitCount_95d88_34 rfl (lv_at hl 0 rfl) ?_
  refine lv_lload_n hx hb dJ13_bitCount_95d88_35 rfl (lv_at hl 0 rfl) ?_
  refine lv_bipush (v := 8) hx hb dJ13_bitCount_95d88_36 (by decide) ?_
  refine lv_lushr (v := (jus ((u_1 + (jus u_1 4)) &&& 1085102592571150095) 8)) hx hb dJ13_bitCount_95d88_38 rfl ?_
  refine lv_ladd hx hb dJ13_bitCount_95d88_39 ?_
  refine lv_topl (fun u_2 eu_2 => ?_)
  have hf := lt_e eu_2 hf
  refine lv_lstore_n (lv' := [(0, .long u_2)]) hx hb dJ13_bitCount_95d88_40 rfl hl (by decide) rfl (fun ls hl => ?_)
  refine lv_lload_n hx hb dJ13_bitCount_95d88_41 rfl (lv_at hl 0 rfl) ?_
  refine lv_lload_n hx hb dJ13_bitCount_95d88_42 rfl (lv_at hl 0 rfl) ?_
  refine lv_bipush (v := 16) hx hb dJ13_bitCount_95d88_43 (by decide) ?_
  refine lv_lushr (v := (jus u_2 16)) hx hb dJ13_bitCount_95d88_45 rfl ?_
  refine lv_ladd hx hb dJ13_bitCount_95d88_46 ?_
  refine lv_lstore_n (lv' := [(0, .long (u_2 + (jus u_2 16)))]) hx hb dJ13_bitCount_95d88_47 rfl hl (by decide) rfl (fun ls hl => ?_)
  refine lv_lload_n hx hb dJ13_bitCount_95d88_48 rfl (lv_at hl 0 rfl) ?_
  refine lv_lload_n hx hb dJ13_bitCount_95d88_49 rfl (lv_at hl 0 rfl) ?_
  refine lv_bipush (v := 32) hx hb dJ13_bitCount_95d88_50 (by decide) ?_
  refine lv_lushr (v := (jus (u_2 + (jus u_2 16)) 32)) hx hb dJ13_bitCount_95d88_52 rfl ?_
  refine lv_ladd hx hb dJ13_bitCount_95d88_53 ?_
  refine lv_topl (fun u_3 eu_3 => ?_)
  have hf := lt_e eu_3 hf
  refine lv_lstore_n (lv' := [(0, .long u_3)]) hx hb dJ13_bitCount_95d88_54 rfl hl (by decide) rfl (fun ls hl => ?_)
  refine lv_lload_n hx hb dJ13_bitCount_95d88_55 rfl (lv_at hl 0 rfl) ?_
  refine lv_l2i (v := u_3.toInt32) hx hb dJ13_bitCount_95d88_56 rfl ?_
  refine lv_bipush (v := 127) hx hb dJ13_bitCount_95d88_57 (by decide) ?_
  refine lv_iand hx hb dJ13_bitCount_95d88_59 ?_
  subst hf
  exact kr_i hx hb hr hlocks rfl hP hK hD hN hS hS.2.2 dJ13_bitCount_95d88_60
set_option maxHeartbeats 4000000 in
set_option maxRecDepth 100000 in
theorem c_X4_copy {l : Launch} (G : va_G) (cy : Nat → ClassId) (a_0 : Nat) (a_r0 : Nat) (sz : Nat) (s_0 : WT) (s_r0 : WT)  (R : WT) (hf : f_X4_copy s_0 s_r0 = R) : Met l yX4_copy wsX4_copy ({ frames := 0, cells := 0, slots := 0, locals := 0 } : Room) (va_Pc [.ref a_0, .ref a_r0] (pcW G cy [(a_0, wv s_0), (a_r0, wv s_r0)] sz)) (va_Qv (fun _ : Unit => True) (fun _ t => Wd G cy (va_A [(a_0, wv s_0), (a_r0, wv s_r0)] sz) [(a_0, wv R), (a_r0, wv s_r0)] t) (va_A [(a_0, wv s_0), (a_r0, wv s_r0)] sz)) 0 0 (va_A [(a_0, wv s_0), (a_r0, wv s_r0)] sz) := by
  refine Met.ofW (cc := cX4_copy) (maxL := 2) (ret := none) (by decide) rfl ?_
  intro p e s m args below meth c s₁ B hml hv
  obtain ⟨rfl, hsz, hP, hK, hD0, hN⟩ := hv
  have hx := B.exec
  have hb := B.bytes
  have hr := B.returns
  have hts := atoms_spec (ws := wsX4_copy) B.pre
  have hown : s.vm.findClass RX4 = some m.cls := findClass_of_methodNamed B.named
  have hlocks := B.notSynchronized
  subst hsz
  have hD := hD0.self (sz := s.heap.size)
  generalize hAe : va_A [(a_0, wv s_0), (a_r0, wv s_r0)] s.heap.size = A at hD ⊢
  have hA : ∀ q : Nat, s.heap.size ≤ q → A q := fun q h => by rw [← hAe]; exact Or.inr h
  have hS : va_S A s.heap s.heap [] := va_S.rf
  have hP : va_P G vwCl [(a_0, wv s_0), (a_r0, wv s_r0)] s.heap := hP
  have hl := lv_entry [.ref a_0, .ref a_r0] (n := 2) (Nat.le_of_ble_eq_true rfl)
  rw [lg_entry_eq]
  generalize (lg_sl [.ref a_0, .ref a_r0] ++ List.replicate (2 - (lg_sl [.ref a_0, .ref a_r0]).length) Slot.unset).toArray = ls at hl ⊢
  have hl : lv_has ls 2 [(0, .ref a_0), (1, .ref a_r0)] := hl
  unfold f_X4_copy at hf
  refine lv_aload_n hx hb dX4_copy_0 rfl (lv_at hl 0 rfl) ?_
  refine lv_aload_n hx hb dX4_copy_1 rfl (lv_at hl 1 rfl) ?_
  refine va_get (D := G) (ci := 4) (v := .int (w_rows s_r0)) (C := RX4) (T := TX4) (N := 12) hx hb hts iw_X4_copy_X4 hown hK hP 1 rfl rfl 0 (by decide) (hts (.fieldLink RX4 9 "PaneFrost$Window" "rows" "I") (by decide +kernel)) (fun _ h9 => h9) rfl dX4_copy_2 ?_
  refine va_put (D := G) (ci := 4) (v := .int (w_rows s_r0)) (ty := .int) (C := RX4) (T := TX4) (N := 12) hx hb hts iw_X4_copy_X4 tyX4 tyX4_ok nmX4 hown hK hP hD hS 0 rfl rfl 0 (by decide) (hts (.fieldLink RX4 9 "PaneFrost$Window" "rows" "I") (by decide +kernel)) (fun _ h9 => h9) rfl (by decide +kernel) rfl rfl (Nat.le_of_ble_eq_true rfl) dX4_copy_5 (fun H locs hP hD hS => ?_)
  have hP : va_P G vwCl [(a_0, wv ((w_rows s_r0), w_cells s_0, w_rule s_0, w_nights s_0, w_frozen s_0, w_kinds s_0, w_topRow s_0, w_rightColumn s_0, w_bottomRow s_0, w_leftColumn s_0, w_rightScratches s_0, w_lowerScratches s_0)), (a_r0, wv s_r0)] H := hP
  have hD : va_D A [(a_0, wv ((w_rows s_r0), w_cells s_0, w_rule s_0, w_nights s_0, w_frozen s_0, w_kinds s_0, w_topRow s_0, w_rightColumn s_0, w_bottomRow s_0, w_leftColumn s_0, w_rightScratches s_0, w_lowerScratches s_0)), (a_r0, wv s_r0)] := hD
  refine lv_aload_n hx hb dX4_copy_8 rfl (lv_at hl 0 rfl) ?_
  refine lv_aload_n hx hb dX4_copy_9 rfl (lv_at hl 1 rfl) ?_
  refine va_get (D := G) (ci := 4) (v := .int (w_cells s_r0)) (C := RX4) (T := TX4) (N := 12) hx hb hts iw_X4_copy_X4 hown hK hP 1 rfl rfl 1 (by decide) (hts (.fieldLink RX4 15 "PaneFrost$Window" "cells" "I") (by decide +kernel)) (fun _ h9 => h9) rfl dX4_copy_10 ?_
  refine va_put (D := G) (ci := 4) (v := .int (w_cells s_r0)) (ty := .int) (C := RX4) (T := TX4) (N := 12) hx hb hts iw_X4_copy_X4 tyX4 tyX4_ok nmX4 hown hK hP hD hS 0 rfl rfl 1 (by decide) (hts (.fieldLink RX4 15 "PaneFrost$Window" "cells" "I") (by decide +kernel)) (fun _ h9 => h9) rfl (by decide +kernel) rfl rfl (Nat.le_of_ble_eq_true rfl) dX4_copy_13 (fun H locs hP hD hS => ?_)
  have hP : va_P G vwCl [(a_0, wv ((w_rows s_r0), (w_cells s_r0), w_rule s_0, w_nights s_0, w_frozen s_0, w_kinds s_0, w_topRow s_0, w_rightColumn s_0, w_bottomRow s_0, w_leftColumn s_0, w_rightScratches s_0, w_lowerScratches s_0)), (a_r0, wv s_r0)] H := hP
  have hD : va_D A [(a_0, wv ((w_rows s_r0), (w_cells s_r0), w_rule s_0, w_nights s_0, w_frozen s_0, w_kinds s_0, w_topRow s_0, w_rightColumn s_0, w_bottomRow s_0, w_leftColumn s_0, w_rightScratches s_0, w_lowerScratches s_0)), (a_r0, wv s_r0)] := hD
  refine lv_aload_n hx hb dX4_copy_16 rfl (lv_at hl 0 rfl) ?_
  refine lv_aload_n hx hb dX4_copy_17 rfl (lv_at hl 1 rfl) ?_
  refine va_get (D := G) (ci := 4) (v := .int (w_rule s_r0)) (C := RX4) (T := TX4) (N := 12) hx hb hts iw_X4_copy_X4 hown hK hP 1 rfl rfl 2 (by decide) (hts (.fieldLink RX4 18 "PaneFrost$Window" "rule" "I") (by decide +kernel)) (fun _ h9 => h9) rfl dX4_copy_18 ?_
  refine va_put (D := G) (ci := 4) (v := .int (w_rule s_r0)) (ty := .int) (C := RX4) (T := TX4) (N := 12) hx hb hts iw_X4_copy_X4 tyX4 tyX4_ok nmX4 hown hK hP hD hS 0 rfl rfl 2 (by decide) (hts (.fieldLink RX4 18 "PaneFrost$Window" "rule" "I") (by decide +kernel)) (fun _ h9 => h9) rfl (by decide +kernel) rfl rfl (Nat.le_of_ble_eq_true rfl) dX4_copy_21 (fun H locs hP hD hS => ?_)
  have hP : va_P G vwCl [(a_0, wv ((w_rows s_r0), (w_cells s_r0), (w_rule s_r0), w_nights s_0, w_frozen s_0, w_kinds s_0, w_topRow s_0, w_rightColumn s_0, w_bottomRow s_0, w_leftColumn s_0, w_rightScratches s_0, w_lowerScratches s_0)), (a_r0, wv s_r0)] H := hP
  have hD : va_D A [(a_0, wv ((w_rows s_r0), (w_cells s_r0), (w_rule s_r0), w_nights s_0, w_frozen s_0, w_kinds s_0, w_topRow s_0, w_rightColumn s_0, w_bottomRow s_0, w_leftColumn s_0, w_rightScratches s_0, w_lowerScratches s_0)), (a_r0, wv s_r0)] := hD
  refine lv_aload_n hx hb dX4_copy_24 rfl (lv_at hl 0 rfl) ?_
  refine lv_aload_n hx hb dX4_copy_25 rfl (lv_at hl 1 rfl) ?_
  refine va_get (D := G) (ci := 4) (v := .int (w_nights s_r0)) (C := RX4) (T := TX4) (N := 12) hx hb hts iw_X4_copy_X4 hown hK hP 1 rfl rfl 3 (by decide) (hts (.fieldLink RX4 21 "PaneFrost$Window" "nights" "I") (by decide +kernel)) (fun _ h9 => h9) rfl dX4_copy_26 ?_
  refine va_put (D := G) (ci := 4) (v := .int (w_nights s_r0)) (ty := .int) (C := RX4) (T := TX4) (N := 12) hx hb hts iw_X4_copy_X4 tyX4 tyX4_ok nmX4 hown hK hP hD hS 0 rfl rfl 3 (by decide) (hts (.fieldLink RX4 21 "PaneFrost$Window" "nights" "I") (by decide +kernel)) (fun _ h9 => h9) rfl (by decide +kernel) rfl rfl (Nat.le_of_ble_eq_true rfl) dX4_copy_29 (fun H locs hP hD hS => ?_)
  have hP : va_P G vwCl [(a_0, wv ((w_rows s_r0), (w_cells s_r0), (w_rule s_r0), (w_nights s_r0), w_frozen s_0, w_kinds s_0, w_topRow s_0, w_rightColumn s_0, w_bottomRow s_0, w_leftColumn s_0, w_rightScratches s_0, w_lowerScratches s_0)), (a_r0, wv s_r0)] H := hP
  have hD : va_D A [(a_0, wv ((w_rows s_r0), (w_cells s_r0), (w_rule s_r0), (w_nights s_r0), w_frozen s_0, w_kinds s_0, w_topRow s_0, w_rightColumn s_0, w_bottomRow s_0, w_leftColumn s_0, w_rightScratches s_0, w_lowerScratches s_0)), (a_r0, wv s_r0)] := hD
  refine lv_aload_n hx hb dX4_copy_32 rfl (lv_at hl 0 rfl) ?_
  refine lv_aload_n hx hb dX4_copy_33 rfl (lv_at hl 1 rfl) ?_
  refine va_get (D := G) (ci := 4) (v := .long (w_frozen s_r0)) (C := RX4) (T := TX4) (N := 12) hx hb hts iw_X4_copy_X4 hown hK hP 1 rfl rfl 4 (by decide) (hts (.fieldLink RX4 27 "PaneFrost$Window" "frozen" "J") (by decide +kernel)) (fun _ h9 => h9) rfl dX4_copy_34 ?_
  refine va_put (D := G) (ci := 4) (v := .long (w_frozen s_r0)) (ty := .long) (C := RX4) (T := TX4) (N := 12) hx hb hts iw_X4_copy_X4 tyX4 tyX4_ok nmX4 hown hK hP hD hS 0 rfl rfl 4 (by decide) (hts (.fieldLink RX4 27 "PaneFrost$Window" "frozen" "J") (by decide +kernel)) (fun _ h9 => h9) rfl (by decide +kernel) rfl rfl (Nat.le_of_ble_eq_true rfl) dX4_copy_37 (fun H locs hP hD hS => ?_)
  have hP : va_P G vwCl [(a_0, wv ((w_rows s_r0), (w_cells s_r0), (w_rule s_r0), (w_nights s_r0), (w_frozen s_r0), w_kinds s_0, w_topRow s_0, w_rightColumn s_0, w_bottomRow s_0, w_leftColumn s_0, w_rightScratches s_0, w_lowerScratches s_0)), (a_r0, wv s_r0)] H := hP
  have hD : va_D A [(a_0, wv ((w_rows s_r0), (w_cells s_r0), (w_rule s_r0), (w_nights s_r0), (w_frozen s_r0), w_kinds s_0, w_topRow s_0, w_rightColumn s_0, w_bottomRow s_0, w_leftColumn s_0, w_rightScratches s_0, w_lowerScratches s_0)), (a_r0, wv s_r0)] := hD
  refine lv_aload_n hx hb dX4_copy_40 rfl (lv_at hl 0 rfl) ?_
  refine lv_aload_n hx hb dX4_copy_41 rfl (lv_at hl 1 rfl) ?_
  refine va_get (D := G) (ci := 4) (v := .int (w_kinds s_r0)) (C := RX4) (T := TX4) (N := 12) hx hb hts iw_X4_copy_X4 hown hK hP 1 rfl rfl 5 (by decide) (hts (.fieldLink RX4 31 "PaneFrost$Window" "kinds" "I") (by decide +kernel)) (fun _ h9 => h9) rfl dX4_copy_42 ?_
  refine va_put (D := G) (ci := 4) (v := .int (w_kinds s_r0)) (ty := .int) (C := RX4) (T := TX4) (N := 12) hx hb hts iw_X4_copy_X4 tyX4 tyX4_ok nmX4 hown hK hP hD hS 0 rfl rfl 5 (by decide) (hts (.fieldLink RX4 31 "PaneFrost$Window" "kinds" "I") (by decide +kernel)) (fun _ h9 => h9) rfl (by decide +kernel) rfl rfl (Nat.le_of_ble_eq_true rfl) dX4_copy_45 (fun H locs hP hD hS => ?_)
  have hP : va_P G vwCl [(a_0, wv ((w_rows s_r0), (w_cells s_r0), (w_rule s_r0), (w_nights s_r0), (w_frozen s_r0), (w_kinds s_r0), w_topRow s_0, w_rightColumn s_0, w_bottomRow s_0, w_leftColumn s_0, w_rightScratches s_0, w_lowerScratches s_0)), (a_r0, wv s_r0)] H := hP
  have hD : va_D A [(a_0, wv ((w_rows s_r0), (w_cells s_r0), (w_rule s_r0), (w_nights s_r0), (w_frozen s_r0), (w_kinds s_r0), w_topRow s_0, w_rightColumn s_0, w_bottomRow s_0, w_leftColumn s_0, w_rightScratches s_0, w_lowerScratches s_0)), (a_r0, wv s_r0)] := hD
  refine lv_aload_n hx hb dX4_copy_48 rfl (lv_at hl 0 rfl) ?_
  refine lv_aload_n hx hb dX4_copy_49 rfl (lv_at hl 1 rfl) ?_
  refine va_get (D := G) (ci := 4) (v := .long (w_topRow s_r0)) (C := RX4) (T := TX4) (N := 12) hx hb hts iw_X4_copy_X4 hown hK hP 1 rfl rfl 6 (by decide) (hts (.fieldLink RX4 34 "PaneFrost$Window" "topRow" "J") (by decide +kernel)) (fun _ h9 => h9) rfl dX4_copy_50 ?_
  refine va_put (D := G) (ci := 4) (v := .long (w_topRow s_r0)) (ty := .long) (C := RX4) (T := TX4) (N := 12) hx hb hts iw_X4_copy_X4 tyX4 tyX4_ok nmX4 hown hK hP hD hS 0 rfl rfl 6 (by decide) (hts (.fieldLink RX4 34 "PaneFrost$Window" "topRow" "J") (by decide +kernel)) (fun _ h9 => h9) rfl (by decide +kernel) rfl rfl (Nat.le_of_ble_eq_true rfl) dX4_copy_53 (fun H locs hP hD hS => ?_)
  have hP : va_P G vwCl [(a_0, wv ((w_rows s_r0), (w_cells s_r0), (w_rule s_r0), (w_nights s_r0), (w_frozen s_r0), (w_kinds s_r0), (w_topRow s_r0), w_rightColumn s_0, w_bottomRow s_0, w_leftColumn s_0, w_rightScratches s_0, w_lowerScratches s_0)), (a_r0, wv s_r0)] H := hP
  have hD : va_D A [(a_0, wv ((w_rows s_r0), (w_cells s_r0), (w_rule s_r0), (w_nights s_r0), (w_frozen s_r0), (w_kinds s_r0), (w_topRow s_r0), w_rightColumn s_0, w_bottomRow s_0, w_leftColumn s_0, w_rightScratches s_0, w_lowerScratches s_0)), (a_r0, wv s_r0)] := hD
  refine lv_aload_n hx hb dX4_copy_56 rfl (lv_at hl 0 rfl) ?_
  refine lv_aload_n hx hb dX4_copy_57 rfl (lv_at hl 1 rfl) ?_
  refine va_get (D := G) (ci := 4) (v := .long (w_rightColumn s_r0)) (C := RX4) (T := TX4) (N := 12) hx hb hts iw_X4_copy_X4 hown hK hP 1 rfl rfl 7 (by decide) (hts (.fieldLink RX4 37 "PaneFrost$Window" "rightColumn" "J") (by decide +kernel)) (fun _ h9 => h9) rfl dX4_copy_58 ?_
  refine va_put (D := G) (ci := 4) (v := .long (w_rightColumn s_r0)) (ty := .long) (C := RX4) (T := TX4) (N := 12) hx hb hts iw_X4_copy_X4 tyX4 tyX4_ok nmX4 hown hK hP hD hS 0 rfl rfl 7 (by decide) (hts (.fieldLink RX4 37 "PaneFrost$Window" "rightColumn" "J") (by decide +kernel)) (fun _ h9 => h9) rfl (by decide +kernel) rfl rfl (Nat.le_of_ble_eq_true rfl) dX4_copy_61 (fun H locs hP hD hS => ?_)
  have hP : va_P G vwCl [(a_0, wv ((w_rows s_r0), (w_cells s_r0), (w_rule s_r0), (w_nights s_r0), (w_frozen s_r0), (w_kinds s_r0), (w_topRow s_r0), (w_rightColumn s_r0), w_bottomRow s_0, w_leftColumn s_0, w_rightScratches s_0, w_lowerScratches s_0)), (a_r0, wv s_r0)] H := hP
  have hD : va_D A [(a_0, wv ((w_rows s_r0), (w_cells s_r0), (w_rule s_r0), (w_nights s_r0), (w_frozen s_r0), (w_kinds s_r0), (w_topRow s_r0), (w_rightColumn s_r0), w_bottomRow s_0, w_leftColumn s_0, w_rightScratches s_0, w_lowerScratches s_0)), (a_r0, wv s_r0)] := hD
  refine lv_aload_n hx hb dX4_copy_64 rfl (lv_at hl 0 rfl) ?_
  refine lv_aload_n hx hb dX4_copy_65 rfl (lv_at hl 1 rfl) ?_
  refine va_get (D := G) (ci := 4) (v := .long (w_bottomRow s_r0)) (C := RX4) (T := TX4) (N := 12) hx hb hts iw_X4_copy_X4 hown hK hP 1 rfl rfl 8 (by decide) (hts (.fieldLink RX4 40 "PaneFrost$Window" "bottomRow" "J") (by decide +kernel)) (fun _ h9 => h9) rfl dX4_copy_66 ?_
  refine va_put (D := G) (ci := 4) (v := .long (w_bottomRow s_r0)) (ty := .long) (C := RX4) (T := TX4) (N := 12) hx hb hts iw_X4_copy_X4 tyX4 tyX4_ok nmX4 hown hK hP hD hS 0 rfl rfl 8 (by decide) (hts (.fieldLink RX4 40 "PaneFrost$Window" "bottomRow" "J") (by decide +kernel)) (fun _ h9 => h9) rfl (by decide +kernel) rfl rfl (Nat.le_of_ble_eq_true rfl) dX4_copy_69 (fun H locs hP hD hS => ?_)
  have hP : va_P G vwCl [(a_0, wv ((w_rows s_r0), (w_cells s_r0), (w_rule s_r0), (w_nights s_r0), (w_frozen s_r0), (w_kinds s_r0), (w_topRow s_r0), (w_rightColumn s_r0), (w_bottomRow s_r0), w_leftColumn s_0, w_rightScratches s_0, w_lowerScratches s_0)), (a_r0, wv s_r0)] H := hP
  have hD : va_D A [(a_0, wv ((w_rows s_r0), (w_cells s_r0), (w_rule s_r0), (w_nights s_r0), (w_frozen s_r0), (w_kinds s_r0), (w_topRow s_r0), (w_rightColumn s_r0), (w_bottomRow s_r0), w_leftColumn s_0, w_rightScratches s_0, w_lowerScratches s_0)), (a_r0, wv s_r0)] := hD
  refine lv_aload_n hx hb dX4_copy_72 rfl (lv_at hl 0 rfl) ?_
  refine lv_aload_n hx hb dX4_copy_73 rfl (lv_at hl 1 rfl) ?_
  refine va_get (D := G) (ci := 4) (v := .long (w_leftColumn s_r0)) (C := RX4) (T := TX4) (N := 12) hx hb hts iw_X4_copy_X4 hown hK hP 1 rfl rfl 9 (by decide) (hts (.fieldLink RX4 43 "PaneFrost$Window" "leftColumn" "J") (by decide +kernel)) (fun _ h9 => h9) rfl dX4_copy_74 ?_
  refine va_put (D := G) (ci := 4) (v := .long (w_leftColumn s_r0)) (ty := .long) (C := RX4) (T := TX4) (N := 12) hx hb hts iw_X4_copy_X4 tyX4 tyX4_ok nmX4 hown hK hP hD hS 0 rfl rfl 9 (by decide) (hts (.fieldLink RX4 43 "PaneFrost$Window" "leftColumn" "J") (by decide +kernel)) (fun _ h9 => h9) rfl (by decide +kernel) rfl rfl (Nat.le_of_ble_eq_true rfl) dX4_copy_77 (fun H locs hP hD hS => ?_)
  have hP : va_P G vwCl [(a_0, wv ((w_rows s_r0), (w_cells s_r0), (w_rule s_r0), (w_nights s_r0), (w_frozen s_r0), (w_kinds s_r0), (w_topRow s_r0), (w_rightColumn s_r0), (w_bottomRow s_r0), (w_leftColumn s_r0), w_rightScratches s_0, w_lowerScratches s_0)), (a_r0, wv s_r0)] H := hP
  have hD : va_D A [(a_0, wv ((w_rows s_r0), (w_cells s_r0), (w_rule s_r0), (w_nights s_r0), (w_frozen s_r0), (w_kinds s_r0), (w_topRow s_r0), (w_rightColumn s_r0), (w_bottomRow s_r0), (w_leftColumn s_r0), w_rightScratches s_0, w_lowerScratches s_0)), (a_r0, wv s_r0)] := hD
  refine lv_aload_n hx hb dX4_copy_80 rfl (lv_at hl 0 rfl) ?_
  refine lv_aload_n hx hb dX4_copy_81 rfl (lv_at hl 1 rfl) ?_
  refine va_get (D := G) (ci := 4) (v := .long (w_rightScratches s_r0)) (C := RX4) (T := TX4) (N := 12) hx hb hts iw_X4_copy_X4 hown hK hP 1 rfl rfl 10 (by decide) (hts (.fieldLink RX4 46 "PaneFrost$Window" "rightScratches" "J") (by decide +kernel)) (fun _ h9 => h9) rfl dX4_copy_82 ?_
  refine va_put (D := G) (ci := 4) (v := .long (w_rightScratches s_r0)) (ty := .long) (C := RX4) (T := TX4) (N := 12) hx hb hts iw_X4_copy_X4 tyX4 tyX4_ok nmX4 hown hK hP hD hS 0 rfl rfl 10 (by decide) (hts (.fieldLink RX4 46 "PaneFrost$Window" "rightScratches" "J") (by decide +kernel)) (fun _ h9 => h9) rfl (by decide +kernel) rfl rfl (Nat.le_of_ble_eq_true rfl) dX4_copy_85 (fun H locs hP hD hS => ?_)
  have hP : va_P G vwCl [(a_0, wv ((w_rows s_r0), (w_cells s_r0), (w_rule s_r0), (w_nights s_r0), (w_frozen s_r0), (w_kinds s_r0), (w_topRow s_r0), (w_rightColumn s_r0), (w_bottomRow s_r0), (w_leftColumn s_r0), (w_rightScratches s_r0), w_lowerScratches s_0)), (a_r0, wv s_r0)] H := hP
  have hD : va_D A [(a_0, wv ((w_rows s_r0), (w_cells s_r0), (w_rule s_r0), (w_nights s_r0), (w_frozen s_r0), (w_kinds s_r0), (w_topRow s_r0), (w_rightColumn s_r0), (w_bottomRow s_r0), (w_leftColumn s_r0), (w_rightScratches s_r0), w_lowerScratches s_0)), (a_r0, wv s_r0)] := hD
  refine lv_aload_n hx hb dX4_copy_88 rfl (lv_at hl 0 rfl) ?_
  refine lv_aload_n hx hb dX4_copy_89 rfl (lv_at hl 1 rfl) ?_
  refine va_get (D := G) (ci := 4) (v := .long (w_lowerScratches s_r0)) (C := RX4) (T := TX4) (N := 12) hx hb hts iw_X4_copy_X4 hown hK hP 1 rfl rfl 11 (by decide) (hts (.fieldLink RX4 49 "PaneFrost$Window" "lowerScratches" "J") (by decide +kernel)) (fun _ h9 => h9) rfl dX4_copy_90 ?_
  refine va_put (D := G) (ci := 4) (v := .long (w_lowerScratches s_r0)) (ty := .long) (C := RX4) (T := TX4) (N := 12) hx hb hts iw_X4_copy_X4 tyX4 tyX4_ok nmX4 hown hK hP hD hS 0 rfl rfl 11 (by decide) (hts (.fieldLink RX4 49 "PaneFrost$Window" "lowerScratches" "J") (by decide +kernel)) (fun _ h9 => h9) rfl (by decide +kernel) rfl rfl (Nat.le_of_ble_eq_true rfl) dX4_copy_93 (fun H locs hP hD hS => ?_)
  have hP : va_P G vwCl [(a_0, wv ((w_rows s_r0), (w_cells s_r0), (w_rule s_r0), (w_nights s_r0), (w_frozen s_r0), (w_kinds s_r0), (w_topRow s_r0), (w_rightColumn s_r0), (w_bottomRow s_r0), (w_leftColumn s_r0), (w_rightScratches s_r0), (w_lowerScratches s_r0))), (a_r0, wv s_r0)] H := hP
  have hD : va_D A [(a_0, wv ((w_rows s_r0), (w_cells s_r0), (w_rule s_r0), (w_nights s_r0), (w_frozen s_r0), (w_kinds s_r0), (w_topRow s_r0), (w_rightColumn s_r0), (w_bottomRow s_r0), (w_leftColumn s_r0), (w_rightScratches s_r0), (w_lowerScratches s_r0))), (a_r0, wv s_r0)] := hD
  subst hf
  exact kr_v hx hb hr hlocks hP hK hD hN hS hS.2.2 dX4_copy_96
set_option maxHeartbeats 4000000 in
set_option maxRecDepth 100000 in
theorem c_X4_layOut {l : Launch} (G : va_G) (cy : Nat → ClassId) (a_0 : Nat) (sz : Nat) (s_0 : WT) (n : Nat) (R : WT) (hf : f_X4_layOut n s_0 = some R) : Met l yX4_layOut wsX4_layOut ({ frames := 0, cells := 0, slots := 0, locals := 0 } : Room) (va_Pc [.ref a_0] (pcW G cy [(a_0, wv s_0)] sz)) (va_Qv (fun _ : Unit => True) (fun _ t => Wd G cy (va_A [(a_0, wv s_0)] sz) [(a_0, wv R)] t) (va_A [(a_0, wv s_0)] sz)) 0 0 (va_A [(a_0, wv s_0)] sz) := by
  refine Met.ofW (cc := cX4_layOut) (maxL := 2) (ret := none) (by decide) rfl ?_
  intro p e s m args below meth c s₁ B hml hv
  obtain ⟨rfl, hsz, hP, hK, hD0, hN⟩ := hv
  have hx := B.exec
  have hb := B.bytes
  have hr := B.returns
  have hts := atoms_spec (ws := wsX4_layOut) B.pre
  have hown : s.vm.findClass RX4 = some m.cls := findClass_of_methodNamed B.named
  have hlocks := B.notSynchronized
  subst hsz
  have hD := hD0.self (sz := s.heap.size)
  generalize hAe : va_A [(a_0, wv s_0)] s.heap.size = A at hD ⊢
  have hA : ∀ q : Nat, s.heap.size ≤ q → A q := fun q h => by rw [← hAe]; exact Or.inr h
  have hS : va_S A s.heap s.heap [] := va_S.rf
  have hP : va_P G vwCl [(a_0, wv s_0)] s.heap := hP
  have bl_39 : ∀ (k : Nat), ∀ (c_s_0 : WT) (y1 : Int32) (H : Heap) (locs : List Loc), f_X4_layOut_b39 n k c_s_0 y1 = some R → va_P G vwCl [(a_0, wv c_s_0)] H → va_D A [(a_0, wv c_s_0)] → va_S A s.heap H locs → ∀ (ls : Array Slot), lv_has ls 2 [(0, .ref a_0), (1, .int y1)] → W p l e ({ frames := 0, cells := 0, slots := 0, locals := 0 } : Room) s m [.ref a_0].toArray below meth c H locs 0 0 (MQ below (va_Qv (fun _ : Unit => True) (fun _ t => Wd G cy A [(a_0, wv R)] t) A) [.ref a_0].toArray s 0 0 A) (F0 m 39 ls []) := by
    intro k
    induction k with
    | zero =>
      intro c_s_0 y1 H locs hf; cases hf
    | succ k ih =>
      intro c_s_0 y1 H locs hf hP hD hS ls hl
      have hf := (f_X4_layOut_b39_s n k c_s_0 y1).symm.trans hf
      refine lv_iload_n hx hb dX4_layOut_39 rfl (lv_at hl 1 rfl) ?_
      refine lv_aload_n hx hb dX4_layOut_40 rfl (lv_at hl 0 rfl) ?_
      refine va_get (D := G) (ci := 4) (v := .int (w_rows c_s_0)) (C := RX4) (T := TX4) (N := 12) hx hb hts iw_X4_layOut_X4 hown hK hP 0 rfl rfl 0 (by decide) (hts (.fieldLink RX4 9 "PaneFrost$Window" "rows" "I") (by decide +kernel)) (fun _ h9 => h9) rfl dX4_layOut_41 ?_
      refine lv_icmp_ge (tgt := 70) hx hb dX4_layOut_44 (by decide) (fun h_1 => ?_) (fun h_1 => ?_)
      · have hf := ip_ h_1 hf
        refine lv_aload_n hx hb dX4_layOut_70 rfl (lv_at hl 0 rfl) ?_
        refine lv_aload_n hx hb dX4_layOut_71 rfl (lv_at hl 0 rfl) ?_
        refine va_get (D := G) (ci := 4) (v := .long (w_leftColumn c_s_0)) (C := RX4) (T := TX4) (N := 12) hx hb hts iw_X4_layOut_X4 hown hK hP 0 rfl rfl 9 (by decide) (hts (.fieldLink RX4 43 "PaneFrost$Window" "leftColumn" "J") (by decide +kernel)) (fun _ h9 => h9) rfl dX4_layOut_72 ?_
        refine lv_aload_n hx hb dX4_layOut_75 rfl (lv_at hl 0 rfl) ?_
        refine va_get (D := G) (ci := 4) (v := .int (w_cells c_s_0)) (C := RX4) (T := TX4) (N := 12) hx hb hts iw_X4_layOut_X4 hown hK hP 0 rfl rfl 1 (by decide) (hts (.fieldLink RX4 15 "PaneFrost$Window" "cells" "I") (by decide +kernel)) (fun _ h9 => h9) rfl dX4_layOut_76 ?_
        refine lv_iconst (v := 1) hx hb dX4_layOut_79 (by decide) ?_
        refine lv_isub hx hb dX4_layOut_80 ?_
        refine lv_lshl (v := (jsl (w_leftColumn c_s_0) ((w_cells c_s_0) - 1))) hx hb dX4_layOut_81 rfl ?_
        refine va_put (D := G) (ci := 4) (v := .long (jsl (w_leftColumn c_s_0) ((w_cells c_s_0) - 1))) (ty := .long) (C := RX4) (T := TX4) (N := 12) hx hb hts iw_X4_layOut_X4 tyX4 tyX4_ok nmX4 hown hK hP hD hS 0 rfl rfl 7 (by decide) (hts (.fieldLink RX4 37 "PaneFrost$Window" "rightColumn" "J") (by decide +kernel)) (fun _ h9 => h9) rfl (by decide +kernel) rfl rfl (Nat.le_of_ble_eq_true rfl) dX4_layOut_82 (fun H locs hP hD hS => ?_)
        have hP : va_P G vwCl [(a_0, wv (w_rows c_s_0, w_cells c_s_0, w_rule c_s_0, w_nights c_s_0, w_frozen c_s_0, w_kinds c_s_0, w_topRow c_s_0, (jsl (w_leftColumn c_s_0) ((w_cells c_s_0) - 1)), w_bottomRow c_s_0, w_leftColumn c_s_0, w_rightScratches c_s_0, w_lowerScratches c_s_0))] H := hP
        have hD : va_D A [(a_0, wv (w_rows c_s_0, w_cells c_s_0, w_rule c_s_0, w_nights c_s_0, w_frozen c_s_0, w_kinds c_s_0, w_topRow c_s_0, (jsl (w_leftColumn c_s_0) ((w_cells c_s_0) - 1)), w_bottomRow c_s_0, w_leftColumn c_s_0, w_rightScratches c_s_0, w_lowerScratches c_s_0))] := hD
        obtain rfl := Option.some.inj hf
        exact kr_v hx hb hr hlocks hP hK hD hN hS hS.2.2 dX4_layOut_85
      · have hf := in_ h_1 hf
        refine lv_aload_n hx hb dX4_layOut_47 rfl (lv_at hl 0 rfl) ?_
        refine lv_dup hx hb dX4_layOut_48 rfl ?_
        refine va_get (D := G) (ci := 4) (v := .long (w_leftColumn c_s_0)) (C := RX4) (T := TX4) (N := 12) hx hb hts iw_X4_layOut_X4 hown hK hP 0 rfl rfl 9 (by decide) (hts (.fieldLink RX4 43 "PaneFrost$Window" "leftColumn" "J") (by decide +kernel)) (fun _ h9 => h9) rfl dX4_layOut_49 ?_
        refine lv_lconst (v := 1) hx hb dX4_layOut_52 rfl ?_
        refine lv_iload_n hx hb dX4_layOut_53 rfl (lv_at hl 1 rfl) ?_
        refine lv_aload_n hx hb dX4_layOut_54 rfl (lv_at hl 0 rfl) ?_
        refine va_get (D := G) (ci := 4) (v := .int (w_cells c_s_0)) (C := RX4) (T := TX4) (N := 12) hx hb hts iw_X4_layOut_X4 hown hK hP 0 rfl rfl 1 (by decide) (hts (.fieldLink RX4 15 "PaneFrost$Window" "cells" "I") (by decide +kernel)) (fun _ h9 => h9) rfl dX4_layOut_55 ?_
        refine lv_imul hx hb dX4_layOut_58 ?_
        refine lv_lshl (v := (jsl 1 (y1 * (w_cells c_s_0)))) hx hb dX4_layOut_59 rfl ?_
        refine lv_lor hx hb dX4_layOut_60 ?_
        refine va_put (D := G) (ci := 4) (v := .long ((w_leftColumn c_s_0) ||| (jsl 1 (y1 * (w_cells c_s_0))))) (ty := .long) (C := RX4) (T := TX4) (N := 12) hx hb hts iw_X4_layOut_X4 tyX4 tyX4_ok nmX4 hown hK hP hD hS 0 rfl rfl 9 (by decide) (hts (.fieldLink RX4 43 "PaneFrost$Window" "leftColumn" "J") (by decide +kernel)) (fun _ h9 => h9) rfl (by decide +kernel) rfl rfl (Nat.le_of_ble_eq_true rfl) dX4_layOut_61 (fun H locs hP hD hS => ?_)
        have hP : va_P G vwCl [(a_0, wv (w_rows c_s_0, w_cells c_s_0, w_rule c_s_0, w_nights c_s_0, w_frozen c_s_0, w_kinds c_s_0, w_topRow c_s_0, w_rightColumn c_s_0, w_bottomRow c_s_0, ((w_leftColumn c_s_0) ||| (jsl 1 (y1 * (w_cells c_s_0)))), w_rightScratches c_s_0, w_lowerScratches c_s_0))] H := hP
        have hD : va_D A [(a_0, wv (w_rows c_s_0, w_cells c_s_0, w_rule c_s_0, w_nights c_s_0, w_frozen c_s_0, w_kinds c_s_0, w_topRow c_s_0, w_rightColumn c_s_0, w_bottomRow c_s_0, ((w_leftColumn c_s_0) ||| (jsl 1 (y1 * (w_cells c_s_0)))), w_rightScratches c_s_0, w_lowerScratches c_s_0))] := hD
        refine lv_iinc (v := (y1 + 1)) (lv' := [(1, .int (y1 + 1)), (0, .ref a_0)]) hx hb dX4_layOut_64 hl (k := 1) rfl rfl (by decide) rfl (fun ls hl => ?_)
        refine lv_goto (tgt := 39) hx hb dX4_layOut_67 (by decide) ?_
        exact ih (w_rows c_s_0, w_cells c_s_0, w_rule c_s_0, w_nights c_s_0, w_frozen c_s_0, w_kinds c_s_0, w_topRow c_s_0, w_rightColumn c_s_0, w_bottomRow c_s_0, ((w_leftColumn c_s_0) ||| (jsl 1 (y1 * (w_cells c_s_0)))), w_rightScratches c_s_0, w_lowerScratches c_s_0) (y1 + 1) _ _ hf hP hD hS ls (lv_sub hl [1, 0] rfl)
  have hl := lv_entry [.ref a_0] (n := 2) (Nat.le_of_ble_eq_true rfl)
  rw [lg_entry_eq]
  generalize (lg_sl [.ref a_0] ++ List.replicate (2 - (lg_sl [.ref a_0]).length) Slot.unset).toArray = ls at hl ⊢
  have hl : lv_has ls 2 [(0, .ref a_0)] := hl
  unfold f_X4_layOut at hf
  refine lv_aload_n hx hb dX4_layOut_0 rfl (lv_at hl 0 rfl) ?_
  refine lv_lconst (v := 1) hx hb dX4_layOut_1 rfl ?_
  refine lv_aload_n hx hb dX4_layOut_2 rfl (lv_at hl 0 rfl) ?_
  refine va_get (D := G) (ci := 4) (v := .int (w_cells s_0)) (C := RX4) (T := TX4) (N := 12) hx hb hts iw_X4_layOut_X4 hown hK hP 0 rfl rfl 1 (by decide) (hts (.fieldLink RX4 15 "PaneFrost$Window" "cells" "I") (by decide +kernel)) (fun _ h9 => h9) rfl dX4_layOut_3 ?_
  refine lv_lshl (v := (jsl 1 (w_cells s_0))) hx hb dX4_layOut_6 rfl ?_
  refine lv_lconst (v := 1) hx hb dX4_layOut_7 rfl ?_
  refine lv_lsub hx hb dX4_layOut_8 ?_
  refine va_put (D := G) (ci := 4) (v := .long ((jsl 1 (w_cells s_0)) - 1)) (ty := .long) (C := RX4) (T := TX4) (N := 12) hx hb hts iw_X4_layOut_X4 tyX4 tyX4_ok nmX4 hown hK hP hD hS 0 rfl rfl 6 (by decide) (hts (.fieldLink RX4 34 "PaneFrost$Window" "topRow" "J") (by decide +kernel)) (fun _ h9 => h9) rfl (by decide +kernel) rfl rfl (Nat.le_of_ble_eq_true rfl) dX4_layOut_9 (fun H locs hP hD hS => ?_)
  have hP : va_P G vwCl [(a_0, wv (w_rows s_0, w_cells s_0, w_rule s_0, w_nights s_0, w_frozen s_0, w_kinds s_0, ((jsl 1 (w_cells s_0)) - 1), w_rightColumn s_0, w_bottomRow s_0, w_leftColumn s_0, w_rightScratches s_0, w_lowerScratches s_0))] H := hP
  have hD : va_D A [(a_0, wv (w_rows s_0, w_cells s_0, w_rule s_0, w_nights s_0, w_frozen s_0, w_kinds s_0, ((jsl 1 (w_cells s_0)) - 1), w_rightColumn s_0, w_bottomRow s_0, w_leftColumn s_0, w_rightScratches s_0, w_lowerScratches s_0))] := hD
  refine lv_aload_n hx hb dX4_layOut_12 rfl (lv_at hl 0 rfl) ?_
  refine lv_aload_n hx hb dX4_layOut_13 rfl (lv_at hl 0 rfl) ?_
  refine va_get (D := G) (ci := 4) (v := .long ((jsl 1 (w_cells s_0)) - 1)) (C := RX4) (T := TX4) (N := 12) hx hb hts iw_X4_layOut_X4 hown hK hP 0 rfl rfl 6 (by decide) (hts (.fieldLink RX4 34 "PaneFrost$Window" "topRow" "J") (by decide +kernel)) (fun _ h9 => h9) rfl dX4_layOut_14 ?_
  refine lv_aload_n hx hb dX4_layOut_17 rfl (lv_at hl 0 rfl) ?_
  refine va_get (D := G) (ci := 4) (v := .int (w_rows s_0)) (C := RX4) (T := TX4) (N := 12) hx hb hts iw_X4_layOut_X4 hown hK hP 0 rfl rfl 0 (by decide) (hts (.fieldLink RX4 9 "PaneFrost$Window" "rows" "I") (by decide +kernel)) (fun _ h9 => h9) rfl dX4_layOut_18 ?_
  refine lv_iconst (v := 1) hx hb dX4_layOut_21 (by decide) ?_
  refine lv_isub hx hb dX4_layOut_22 ?_
  refine lv_aload_n hx hb dX4_layOut_23 rfl (lv_at hl 0 rfl) ?_
  refine va_get (D := G) (ci := 4) (v := .int (w_cells s_0)) (C := RX4) (T := TX4) (N := 12) hx hb hts iw_X4_layOut_X4 hown hK hP 0 rfl rfl 1 (by decide) (hts (.fieldLink RX4 15 "PaneFrost$Window" "cells" "I") (by decide +kernel)) (fun _ h9 => h9) rfl dX4_layOut_24 ?_
  refine lv_imul hx hb dX4_layOut_27 ?_
  refine lv_lshl (v := (jsl ((jsl 1 (w_cells s_0)) - 1) (((w_rows s_0) - 1) * (w_cells s_0)))) hx hb dX4_layOut_28 rfl ?_
  refine va_put (D := G) (ci := 4) (v := .long (jsl ((jsl 1 (w_cells s_0)) - 1) (((w_rows s_0) - 1) * (w_cells s_0)))) (ty := .long) (C := RX4) (T := TX4) (N := 12) hx hb hts iw_X4_layOut_X4 tyX4 tyX4_ok nmX4 hown hK hP hD hS 0 rfl rfl 8 (by decide) (hts (.fieldLink RX4 40 "PaneFrost$Window" "bottomRow" "J") (by decide +kernel)) (fun _ h9 => h9) rfl (by decide +kernel) rfl rfl (Nat.le_of_ble_eq_true rfl) dX4_layOut_29 (fun H locs hP hD hS => ?_)
  have hP : va_P G vwCl [(a_0, wv (w_rows s_0, w_cells s_0, w_rule s_0, w_nights s_0, w_frozen s_0, w_kinds s_0, ((jsl 1 (w_cells s_0)) - 1), w_rightColumn s_0, (jsl ((jsl 1 (w_cells s_0)) - 1) (((w_rows s_0) - 1) * (w_cells s_0))), w_leftColumn s_0, w_rightScratches s_0, w_lowerScratches s_0))] H := hP
  have hD : va_D A [(a_0, wv (w_rows s_0, w_cells s_0, w_rule s_0, w_nights s_0, w_frozen s_0, w_kinds s_0, ((jsl 1 (w_cells s_0)) - 1), w_rightColumn s_0, (jsl ((jsl 1 (w_cells s_0)) - 1) (((w_rows s_0) - 1) * (w_cells s_0))), w_leftColumn s_0, w_rightScratches s_0, w_lowerScratches s_0))] := hD
  refine lv_aload_n hx hb dX4_layOut_32 rfl (lv_at hl 0 rfl) ?_
  refine lv_lconst (v := 0) hx hb dX4_layOut_33 rfl ?_
  refine va_put (D := G) (ci := 4) (v := .long 0) (ty := .long) (C := RX4) (T := TX4) (N := 12) hx hb hts iw_X4_layOut_X4 tyX4 tyX4_ok nmX4 hown hK hP hD hS 0 rfl rfl 9 (by decide) (hts (.fieldLink RX4 43 "PaneFrost$Window" "leftColumn" "J") (by decide +kernel)) (fun _ h9 => h9) rfl (by decide +kernel) rfl rfl (Nat.le_of_ble_eq_true rfl) dX4_layOut_34 (fun H locs hP hD hS => ?_)
  have hP : va_P G vwCl [(a_0, wv (w_rows s_0, w_cells s_0, w_rule s_0, w_nights s_0, w_frozen s_0, w_kinds s_0, ((jsl 1 (w_cells s_0)) - 1), w_rightColumn s_0, (jsl ((jsl 1 (w_cells s_0)) - 1) (((w_rows s_0) - 1) * (w_cells s_0))), 0, w_rightScratches s_0, w_lowerScratches s_0))] H := hP
  have hD : va_D A [(a_0, wv (w_rows s_0, w_cells s_0, w_rule s_0, w_nights s_0, w_frozen s_0, w_kinds s_0, ((jsl 1 (w_cells s_0)) - 1), w_rightColumn s_0, (jsl ((jsl 1 (w_cells s_0)) - 1) (((w_rows s_0) - 1) * (w_cells s_0))), 0, w_rightScratches s_0, w_lowerScratches s_0))] := hD
  refine lv_iconst (v := 0) hx hb dX4_layOut_37 (by decide) ?_
  refine lv_istore_n (lv' := [(1, .int 0), (0, .ref a_0)]) hx hb dX4_layOut_38 rfl hl (by decide) rfl (fun ls hl => ?_)
  exact bl_39 n (w_rows s_0, w_cells s_0, w_rule s_0, w_nights s_0, w_frozen s_0, w_kinds s_0, ((jsl 1 (w_cells s_0)) - 1), w_rightColumn s_0, (jsl ((jsl 1 (w_cells s_0)) - 1) (((w_rows s_0) - 1) * (w_cells s_0))), 0, w_rightScratches s_0, w_lowerScratches s_0) 0 _ _ hf hP hD hS ls (lv_sub hl [1, 0] rfl)
set_option maxHeartbeats 4000000 in
set_option maxRecDepth 100000 in
theorem c_X4_replace {l : Launch} (G : va_G) (cy : Nat → ClassId) (a_0 : Nat) (sz : Nat) (s_0 : WT) (x1 : Int32) (x2 : Int32) (n : Nat) (R : WT) (hf : f_X4_replace n s_0 x1 x2 = some R) : Met l yX4_replace wsX4_replace ({ frames := 1, cells := 0, slots := 0, locals := 21 } : Room) (va_Pc [.ref a_0, .int x1, .int x2] (pcW G cy [(a_0, wv s_0)] sz)) (va_Qv (fun _ : Unit => True) (fun _ t => Wd G cy (va_A [(a_0, wv s_0)] sz) [(a_0, wv R)] t) (va_A [(a_0, wv s_0)] sz)) 0 0 (va_A [(a_0, wv s_0)] sz) := by
  refine Met.ofW (cc := cX4_replace) (maxL := 3) (ret := none) (by decide) rfl ?_
  intro p e s m args below meth c s₁ B hml hv
  obtain ⟨rfl, hsz, hP, hK, hD0, hN⟩ := hv
  have hx := B.exec
  have hb := B.bytes
  have hr := B.returns
  have hts := atoms_spec (ws := wsX4_replace) B.pre
  have hown : s.vm.findClass RX4 = some m.cls := findClass_of_methodNamed B.named
  have hlocks := B.notSynchronized
  subst hsz
  have hD := hD0.self (sz := s.heap.size)
  generalize hAe : va_A [(a_0, wv s_0)] s.heap.size = A at hD ⊢
  have hA : ∀ q : Nat, s.heap.size ≤ q → A q := fun q h => by rw [← hAe]; exact Or.inr h
  have hS : va_S A s.heap s.heap [] := va_S.rf
  have hP : va_P G vwCl [(a_0, wv s_0)] s.heap := hP
  have hl := lv_entry [.ref a_0, .int x1, .int x2] (n := 3) (Nat.le_of_ble_eq_true rfl)
  rw [lg_entry_eq]
  generalize (lg_sl [.ref a_0, .int x1, .int x2] ++ List.replicate (3 - (lg_sl [.ref a_0, .int x1, .int x2]).length) Slot.unset).toArray = ls at hl ⊢
  have hl : lv_has ls 3 [(0, .ref a_0), (1, .int x1), (2, .int x2)] := hl
  unfold f_X4_replace at hf
  refine lv_aload_n hx hb dX4_replace_0 rfl (lv_at hl 0 rfl) ?_
  refine lv_iload_n hx hb dX4_replace_1 rfl (lv_at hl 1 rfl) ?_
  refine va_put (D := G) (ci := 4) (v := .int x1) (ty := .int) (C := RX4) (T := TX4) (N := 12) hx hb hts iw_X4_replace_X4 tyX4 tyX4_ok nmX4 hown hK hP hD hS 0 rfl rfl 0 (by decide) (hts (.fieldLink RX4 9 "PaneFrost$Window" "rows" "I") (by decide +kernel)) (fun _ h9 => h9) rfl (by decide +kernel) rfl rfl (Nat.le_of_ble_eq_true rfl) dX4_replace_2 (fun H locs hP hD hS => ?_)
  have hP : va_P G vwCl [(a_0, wv (x1, w_cells s_0, w_rule s_0, w_nights s_0, w_frozen s_0, w_kinds s_0, w_topRow s_0, w_rightColumn s_0, w_bottomRow s_0, w_leftColumn s_0, w_rightScratches s_0, w_lowerScratches s_0))] H := hP
  have hD : va_D A [(a_0, wv (x1, w_cells s_0, w_rule s_0, w_nights s_0, w_frozen s_0, w_kinds s_0, w_topRow s_0, w_rightColumn s_0, w_bottomRow s_0, w_leftColumn s_0, w_rightScratches s_0, w_lowerScratches s_0))] := hD
  refine lv_aload_n hx hb dX4_replace_5 rfl (lv_at hl 0 rfl) ?_
  refine lv_iload_n hx hb dX4_replace_6 rfl (lv_at hl 2 rfl) ?_
  refine va_put (D := G) (ci := 4) (v := .int x2) (ty := .int) (C := RX4) (T := TX4) (N := 12) hx hb hts iw_X4_replace_X4 tyX4 tyX4_ok nmX4 hown hK hP hD hS 0 rfl rfl 1 (by decide) (hts (.fieldLink RX4 15 "PaneFrost$Window" "cells" "I") (by decide +kernel)) (fun _ h9 => h9) rfl (by decide +kernel) rfl rfl (Nat.le_of_ble_eq_true rfl) dX4_replace_7 (fun H locs hP hD hS => ?_)
  have hP : va_P G vwCl [(a_0, wv (x1, x2, w_rule s_0, w_nights s_0, w_frozen s_0, w_kinds s_0, w_topRow s_0, w_rightColumn s_0, w_bottomRow s_0, w_leftColumn s_0, w_rightScratches s_0, w_lowerScratches s_0))] H := hP
  have hD : va_D A [(a_0, wv (x1, x2, w_rule s_0, w_nights s_0, w_frozen s_0, w_kinds s_0, w_topRow s_0, w_rightColumn s_0, w_bottomRow s_0, w_leftColumn s_0, w_rightScratches s_0, w_lowerScratches s_0))] := hD
  refine lv_aload_n hx hb dX4_replace_10 rfl (lv_at hl 0 rfl) ?_
  refine lv_lconst (v := 0) hx hb dX4_replace_11 rfl ?_
  refine va_put (D := G) (ci := 4) (v := .long 0) (ty := .long) (C := RX4) (T := TX4) (N := 12) hx hb hts iw_X4_replace_X4 tyX4 tyX4_ok nmX4 hown hK hP hD hS 0 rfl rfl 4 (by decide) (hts (.fieldLink RX4 27 "PaneFrost$Window" "frozen" "J") (by decide +kernel)) (fun _ h9 => h9) rfl (by decide +kernel) rfl rfl (Nat.le_of_ble_eq_true rfl) dX4_replace_12 (fun H locs hP hD hS => ?_)
  have hP : va_P G vwCl [(a_0, wv (x1, x2, w_rule s_0, w_nights s_0, 0, w_kinds s_0, w_topRow s_0, w_rightColumn s_0, w_bottomRow s_0, w_leftColumn s_0, w_rightScratches s_0, w_lowerScratches s_0))] H := hP
  have hD : va_D A [(a_0, wv (x1, x2, w_rule s_0, w_nights s_0, 0, w_kinds s_0, w_topRow s_0, w_rightColumn s_0, w_bottomRow s_0, w_leftColumn s_0, w_rightScratches s_0, w_lowerScratches s_0))] := hD
  refine lv_aload_n hx hb dX4_replace_15 rfl (lv_at hl 0 rfl) ?_
  refine lv_iconst (v := 0) hx hb dX4_replace_16 (by decide) ?_
  refine va_put (D := G) (ci := 4) (v := .int 0) (ty := .int) (C := RX4) (T := TX4) (N := 12) hx hb hts iw_X4_replace_X4 tyX4 tyX4_ok nmX4 hown hK hP hD hS 0 rfl rfl 5 (by decide) (hts (.fieldLink RX4 31 "PaneFrost$Window" "kinds" "I") (by decide +kernel)) (fun _ h9 => h9) rfl (by decide +kernel) rfl rfl (Nat.le_of_ble_eq_true rfl) dX4_replace_17 (fun H locs hP hD hS => ?_)
  have hP : va_P G vwCl [(a_0, wv (x1, x2, w_rule s_0, w_nights s_0, 0, 0, w_topRow s_0, w_rightColumn s_0, w_bottomRow s_0, w_leftColumn s_0, w_rightScratches s_0, w_lowerScratches s_0))] H := hP
  have hD : va_D A [(a_0, wv (x1, x2, w_rule s_0, w_nights s_0, 0, 0, w_topRow s_0, w_rightColumn s_0, w_bottomRow s_0, w_leftColumn s_0, w_rightScratches s_0, w_lowerScratches s_0))] := hD
  refine lv_aload_n hx hb dX4_replace_20 rfl (lv_at hl 0 rfl) ?_
  refine lv_lconst (v := 0) hx hb dX4_replace_21 rfl ?_
  refine va_put (D := G) (ci := 4) (v := .long 0) (ty := .long) (C := RX4) (T := TX4) (N := 12) hx hb hts iw_X4_replace_X4 tyX4 tyX4_ok nmX4 hown hK hP hD hS 0 rfl rfl 10 (by decide) (hts (.fieldLink RX4 46 "PaneFrost$Window" "rightScratches" "J") (by decide +kernel)) (fun _ h9 => h9) rfl (by decide +kernel) rfl rfl (Nat.le_of_ble_eq_true rfl) dX4_replace_22 (fun H locs hP hD hS => ?_)
  have hP : va_P G vwCl [(a_0, wv (x1, x2, w_rule s_0, w_nights s_0, 0, 0, w_topRow s_0, w_rightColumn s_0, w_bottomRow s_0, w_leftColumn s_0, 0, w_lowerScratches s_0))] H := hP
  have hD : va_D A [(a_0, wv (x1, x2, w_rule s_0, w_nights s_0, 0, 0, w_topRow s_0, w_rightColumn s_0, w_bottomRow s_0, w_leftColumn s_0, 0, w_lowerScratches s_0))] := hD
  refine lv_aload_n hx hb dX4_replace_25 rfl (lv_at hl 0 rfl) ?_
  refine lv_lconst (v := 0) hx hb dX4_replace_26 rfl ?_
  refine va_put (D := G) (ci := 4) (v := .long 0) (ty := .long) (C := RX4) (T := TX4) (N := 12) hx hb hts iw_X4_replace_X4 tyX4 tyX4_ok nmX4 hown hK hP hD hS 0 rfl rfl 11 (by decide) (hts (.fieldLink RX4 49 "PaneFrost$Window" "lowerScratches" "J") (by decide +kernel)) (fun _ h9 => h9) rfl (by decide +kernel) rfl rfl (Nat.le_of_ble_eq_true rfl) dX4_replace_27 (fun H locs hP hD hS => ?_)
  have hP : va_P G vwCl [(a_0, wv (x1, x2, w_rule s_0, w_nights s_0, 0, 0, w_topRow s_0, w_rightColumn s_0, w_bottomRow s_0, w_leftColumn s_0, 0, 0))] H := hP
  have hD : va_D A [(a_0, wv (x1, x2, w_rule s_0, w_nights s_0, 0, 0, w_topRow s_0, w_rightColumn s_0, w_bottomRow s_0, w_leftColumn s_0, 0, 0))] := hD
  refine lv_aload_n hx hb dX4_replace_30 rfl (lv_at hl 0 rfl) ?_
  obtain ⟨r_1, hh_r_1, hf⟩ := obd_some hf
  refine kc_v (w1 := [(a_0, wv r_1)]) (wr := []) hP hD hS hA [0] [] rfl rfl rfl (by decide) (va_runV (As := []) (rest := []) ⟨hx, hb, hml, hown, hts⟩ (c_X4_layOut (l := l) G cy a_0 H.size (x1, x2, w_rule s_0, w_nights s_0, 0, 0, w_topRow s_0, w_rightColumn s_0, w_bottomRow s_0, w_leftColumn s_0, 0, 0) n r_1 hh_r_1) (cwV 0 hts gX4_replace_X4_layOut rfl rfl rfl ddV_X4_layOut ⟨Nat.le_of_ble_eq_true rfl, Nat.le_of_ble_eq_true rfl⟩) (preV_ (ci := 4) (q0 := 0) rfl rfl hP hK hD hN) rfl rfl hl.1 rfl (lv_room (Nat.le_of_ble_eq_true rfl)) dX4_replace_31 ⟨Nat.le_of_ble_eq_true rfl, Nat.le_of_ble_eq_true rfl⟩) (fun H locs hP hD hS => ?_)
  have hP : va_P G vwCl [(a_0, wv r_1)] H := hP
  have hD : va_D A [(a_0, wv r_1)] := hD
  obtain rfl := Option.some.inj hf
  exact kr_v hx hb hr hlocks hP hK hD hN hS hS.2.2 dX4_replace_34
set_option maxHeartbeats 4000000 in
set_option maxRecDepth 100000 in
theorem c_X4_renew {l : Launch} (G : va_G) (cy : Nat → ClassId) (a_0 : Nat) (sz : Nat) (s_0 : WT) (x1 : Int32) (x2 : Int32) (n : Nat) (R : WT) (hf : f_X4_renew n s_0 x1 x2 = some R) : Met l yX4_renew wsX4_renew ({ frames := 2, cells := 0, slots := 0, locals := 43 } : Room) (va_Pc [.ref a_0, .int x1, .int x2] (pcW G cy [(a_0, wv s_0)] sz)) (va_Qv (fun _ : Unit => True) (fun _ t => Wd G cy (va_A [(a_0, wv s_0)] sz) [(a_0, wv R)] t) (va_A [(a_0, wv s_0)] sz)) 0 0 (va_A [(a_0, wv s_0)] sz) := by
  refine Met.ofW (cc := cX4_renew) (maxL := 3) (ret := none) (by decide) rfl ?_
  intro p e s m args below meth c s₁ B hml hv
  obtain ⟨rfl, hsz, hP, hK, hD0, hN⟩ := hv
  have hx := B.exec
  have hb := B.bytes
  have hr := B.returns
  have hts := atoms_spec (ws := wsX4_renew) B.pre
  have hown : s.vm.findClass RX4 = some m.cls := findClass_of_methodNamed B.named
  have hlocks := B.notSynchronized
  subst hsz
  have hD := hD0.self (sz := s.heap.size)
  generalize hAe : va_A [(a_0, wv s_0)] s.heap.size = A at hD ⊢
  have hA : ∀ q : Nat, s.heap.size ≤ q → A q := fun q h => by rw [← hAe]; exact Or.inr h
  have hS : va_S A s.heap s.heap [] := va_S.rf
  have hP : va_P G vwCl [(a_0, wv s_0)] s.heap := hP
  have hl := lv_entry [.ref a_0, .int x1, .int x2] (n := 3) (Nat.le_of_ble_eq_true rfl)
  rw [lg_entry_eq]
  generalize (lg_sl [.ref a_0, .int x1, .int x2] ++ List.replicate (3 - (lg_sl [.ref a_0, .int x1, .int x2]).length) Slot.unset).toArray = ls at hl ⊢
  have hl : lv_has ls 3 [(0, .ref a_0), (1, .int x1), (2, .int x2)] := hl
  unfold f_X4_renew at hf
  refine lv_aload_n hx hb dX4_renew_0 rfl (lv_at hl 0 rfl) ?_
  refine lv_iconst (v := 0) hx hb dX4_renew_1 (by decide) ?_
  refine va_put (D := G) (ci := 4) (v := .int 0) (ty := .int) (C := RX4) (T := TX4) (N := 12) hx hb hts iw_X4_renew_X4 tyX4 tyX4_ok nmX4 hown hK hP hD hS 0 rfl rfl 2 (by decide) (hts (.fieldLink RX4 18 "PaneFrost$Window" "rule" "I") (by decide +kernel)) (fun _ h9 => h9) rfl (by decide +kernel) rfl rfl (Nat.le_of_ble_eq_true rfl) dX4_renew_2 (fun H locs hP hD hS => ?_)
  have hP : va_P G vwCl [(a_0, wv (w_rows s_0, w_cells s_0, 0, w_nights s_0, w_frozen s_0, w_kinds s_0, w_topRow s_0, w_rightColumn s_0, w_bottomRow s_0, w_leftColumn s_0, w_rightScratches s_0, w_lowerScratches s_0))] H := hP
  have hD : va_D A [(a_0, wv (w_rows s_0, w_cells s_0, 0, w_nights s_0, w_frozen s_0, w_kinds s_0, w_topRow s_0, w_rightColumn s_0, w_bottomRow s_0, w_leftColumn s_0, w_rightScratches s_0, w_lowerScratches s_0))] := hD
  refine lv_aload_n hx hb dX4_renew_5 rfl (lv_at hl 0 rfl) ?_
  refine lv_iconst (v := 0) hx hb dX4_renew_6 (by decide) ?_
  refine va_put (D := G) (ci := 4) (v := .int 0) (ty := .int) (C := RX4) (T := TX4) (N := 12) hx hb hts iw_X4_renew_X4 tyX4 tyX4_ok nmX4 hown hK hP hD hS 0 rfl rfl 3 (by decide) (hts (.fieldLink RX4 21 "PaneFrost$Window" "nights" "I") (by decide +kernel)) (fun _ h9 => h9) rfl (by decide +kernel) rfl rfl (Nat.le_of_ble_eq_true rfl) dX4_renew_7 (fun H locs hP hD hS => ?_)
  have hP : va_P G vwCl [(a_0, wv (w_rows s_0, w_cells s_0, 0, 0, w_frozen s_0, w_kinds s_0, w_topRow s_0, w_rightColumn s_0, w_bottomRow s_0, w_leftColumn s_0, w_rightScratches s_0, w_lowerScratches s_0))] H := hP
  have hD : va_D A [(a_0, wv (w_rows s_0, w_cells s_0, 0, 0, w_frozen s_0, w_kinds s_0, w_topRow s_0, w_rightColumn s_0, w_bottomRow s_0, w_leftColumn s_0, w_rightScratches s_0, w_lowerScratches s_0))] := hD
  refine lv_aload_n hx hb dX4_renew_10 rfl (lv_at hl 0 rfl) ?_
  refine lv_iload_n hx hb dX4_renew_11 rfl (lv_at hl 1 rfl) ?_
  refine lv_iload_n hx hb dX4_renew_12 rfl (lv_at hl 2 rfl) ?_
  obtain ⟨r_1, hh_r_1, hf⟩ := obd_some hf
  refine kc_v (w1 := [(a_0, wv r_1)]) (wr := []) hP hD hS hA [0] [] rfl rfl rfl (by decide) (va_runV (As := [.int x1, .int x2]) (rest := []) ⟨hx, hb, hml, hown, hts⟩ (c_X4_replace (l := l) G cy a_0 H.size (w_rows s_0, w_cells s_0, 0, 0, w_frozen s_0, w_kinds s_0, w_topRow s_0, w_rightColumn s_0, w_bottomRow s_0, w_leftColumn s_0, w_rightScratches s_0, w_lowerScratches s_0) x1 x2 n r_1 hh_r_1) (cwV 2 hts gX4_renew_X4_replace rfl rfl rfl ddV_X4_replace ⟨Nat.le_of_ble_eq_true rfl, Nat.le_of_ble_eq_true rfl⟩) (preV_ (ci := 4) (q0 := 0) rfl rfl hP hK hD hN) rfl rfl hl.1 rfl (lv_room (Nat.le_of_ble_eq_true rfl)) dX4_renew_13 ⟨Nat.le_of_ble_eq_true rfl, Nat.le_of_ble_eq_true rfl⟩) (fun H locs hP hD hS => ?_)
  have hP : va_P G vwCl [(a_0, wv r_1)] H := hP
  have hD : va_D A [(a_0, wv r_1)] := hD
  obtain rfl := Option.some.inj hf
  exact kr_v hx hb hr hlocks hP hK hD hN hS hS.2.2 dX4_renew_16
set_option maxHeartbeats 4000000 in
set_option maxRecDepth 100000 in
theorem c_X4_hasCell {l : Launch} (G : va_G) (cy : Nat → ClassId) (a_0 : Nat) (sz : Nat) (s_0 : WT) (x1 : Int32)  (R : Bool) (hf : f_X4_hasCell s_0 x1 = R) : Met l yX4_hasCell wsX4_hasCell ({ frames := 0, cells := 0, slots := 0, locals := 0 } : Room) (va_Pc [.ref a_0, .int x1] (pcW G cy [(a_0, wv s_0)] sz)) (va_Qi (fun r (_ : Unit) => r = bI R) (fun _ t => Wd G cy (va_A [(a_0, wv s_0)] sz) [(a_0, wv s_0)] t) (va_A [(a_0, wv s_0)] sz)) 0 0 (va_A [(a_0, wv s_0)] sz) := by
  refine Met.ofW (cc := cX4_hasCell) (maxL := 2) (ret := (some .boolean)) (by decide) rfl ?_
  intro p e s m args below meth c s₁ B hml hv
  obtain ⟨rfl, hsz, hP, hK, hD0, hN⟩ := hv
  have hx := B.exec
  have hb := B.bytes
  have hr := B.returns
  have hts := atoms_spec (ws := wsX4_hasCell) B.pre
  have hown : s.vm.findClass RX4 = some m.cls := findClass_of_methodNamed B.named
  have hlocks := B.notSynchronized
  subst hsz
  have hD := hD0.self (sz := s.heap.size)
  generalize hAe : va_A [(a_0, wv s_0)] s.heap.size = A at hD ⊢
  have hA : ∀ q : Nat, s.heap.size ≤ q → A q := fun q h => by rw [← hAe]; exact Or.inr h
  have hS : va_S A s.heap s.heap [] := va_S.rf
  have hP : va_P G vwCl [(a_0, wv s_0)] s.heap := hP
  have hl := lv_entry [.ref a_0, .int x1] (n := 2) (Nat.le_of_ble_eq_true rfl)
  rw [lg_entry_eq]
  generalize (lg_sl [.ref a_0, .int x1] ++ List.replicate (2 - (lg_sl [.ref a_0, .int x1]).length) Slot.unset).toArray = ls at hl ⊢
  have hl : lv_has ls 2 [(0, .ref a_0), (1, .int x1)] := hl
  unfold f_X4_hasCell at hf
  refine lv_iload_n hx hb dX4_hasCell_0 rfl (lv_at hl 1 rfl) ?_
  refine lv_if_lt (tgt := 21) hx hb dX4_hasCell_1 (by decide) (fun h_1 => ?_) (fun h_1 => ?_)
  · have hf := ip_ h_1 hf
    refine lv_iconst (v := 0) hx hb dX4_hasCell_21 (by decide) ?_
    subst hf
    exact kr_z (V := bI false) hx hb hr hlocks (bI_nar _) rfl hP hK hD hN hS hS.2.2 dX4_hasCell_22
  · have hf := in_ h_1 hf
    refine lv_iload_n hx hb dX4_hasCell_4 rfl (lv_at hl 1 rfl) ?_
    refine lv_aload_n hx hb dX4_hasCell_5 rfl (lv_at hl 0 rfl) ?_
    refine va_get (D := G) (ci := 4) (v := .int (w_rows s_0)) (C := RX4) (T := TX4) (N := 12) hx hb hts iw_X4_hasCell_X4 hown hK hP 0 rfl rfl 0 (by decide) (hts (.fieldLink RX4 9 "PaneFrost$Window" "rows" "I") (by decide +kernel)) (fun _ h9 => h9) rfl dX4_hasCell_6 ?_
    refine lv_aload_n hx hb dX4_hasCell_9 rfl (lv_at hl 0 rfl) ?_
    refine va_get (D := G) (ci := 4) (v := .int (w_cells s_0)) (C := RX4) (T := TX4) (N := 12) hx hb hts iw_X4_hasCell_X4 hown hK hP 0 rfl rfl 1 (by decide) (hts (.fieldLink RX4 15 "PaneFrost$Window" "cells" "I") (by decide +kernel)) (fun _ h9 => h9) rfl dX4_hasCell_10 ?_
    refine lv_imul hx hb dX4_hasCell_13 ?_
    refine lv_icmp_ge (tgt := 21) hx hb dX4_hasCell_14 (by decide) (fun h_2 => ?_) (fun h_2 => ?_)
    · have hf := ip_ h_2 hf
      refine lv_iconst (v := 0) hx hb dX4_hasCell_21 (by decide) ?_
      subst hf
      exact kr_z (V := bI false) hx hb hr hlocks (bI_nar _) rfl hP hK hD hN hS hS.2.2 dX4_hasCell_22
    · have hf := in_ h_2 hf
      refine lv_iconst (v := 1) hx hb dX4_hasCell_17 (by decide) ?_
      refine lv_goto (tgt := 22) hx hb dX4_hasCell_18 (by decide) ?_
      subst hf
      exact kr_z (V := bI true) hx hb hr hlocks (bI_nar _) rfl hP hK hD hN hS hS.2.2 dX4_hasCell_22
set_option maxHeartbeats 4000000 in
set_option maxRecDepth 100000 in
theorem c_X4_isFrozen {l : Launch} (G : va_G) (cy : Nat → ClassId) (a_0 : Nat) (sz : Nat) (s_0 : WT) (x1 : Int32)  (R : Bool) (hf : f_X4_isFrozen s_0 x1 = R) : Met l yX4_isFrozen wsX4_isFrozen ({ frames := 1, cells := 0, slots := 0, locals := 22 } : Room) (va_Pc [.ref a_0, .int x1] (pcW G cy [(a_0, wv s_0)] sz)) (va_Qi (fun r (_ : Unit) => r = bI R) (fun _ t => Wd G cy (va_A [(a_0, wv s_0)] sz) [(a_0, wv s_0)] t) (va_A [(a_0, wv s_0)] sz)) 0 0 (va_A [(a_0, wv s_0)] sz) := by
  refine Met.ofW (cc := cX4_isFrozen) (maxL := 2) (ret := (some .boolean)) (by decide) rfl ?_
  intro p e s m args below meth c s₁ B hml hv
  obtain ⟨rfl, hsz, hP, hK, hD0, hN⟩ := hv
  have hx := B.exec
  have hb := B.bytes
  have hr := B.returns
  have hts := atoms_spec (ws := wsX4_isFrozen) B.pre
  have hown : s.vm.findClass RX4 = some m.cls := findClass_of_methodNamed B.named
  have hlocks := B.notSynchronized
  subst hsz
  have hD := hD0.self (sz := s.heap.size)
  generalize hAe : va_A [(a_0, wv s_0)] s.heap.size = A at hD ⊢
  have hA : ∀ q : Nat, s.heap.size ≤ q → A q := fun q h => by rw [← hAe]; exact Or.inr h
  have hS : va_S A s.heap s.heap [] := va_S.rf
  have hP : va_P G vwCl [(a_0, wv s_0)] s.heap := hP
  have hl := lv_entry [.ref a_0, .int x1] (n := 2) (Nat.le_of_ble_eq_true rfl)
  rw [lg_entry_eq]
  generalize (lg_sl [.ref a_0, .int x1] ++ List.replicate (2 - (lg_sl [.ref a_0, .int x1]).length) Slot.unset).toArray = ls at hl ⊢
  have hl : lv_has ls 2 [(0, .ref a_0), (1, .int x1)] := hl
  unfold f_X4_isFrozen at hf
  refine lv_aload_n hx hb dX4_isFrozen_0 rfl (lv_at hl 0 rfl) ?_
  refine va_get (D := G) (ci := 4) (v := .long (w_frozen s_0)) (C := RX4) (T := TX4) (N := 12) hx hb hts iw_X4_isFrozen_X4 hown hK hP 0 rfl rfl 4 (by decide) (hts (.fieldLink RX4 27 "PaneFrost$Window" "frozen" "J") (by decide +kernel)) (fun _ h9 => h9) rfl dX4_isFrozen_1 ?_
  refine lv_iload_n hx hb dX4_isFrozen_4 rfl (lv_at hl 1 rfl) ?_
  refine kc_i (w1 := []) (wr := [(a_0, wv s_0)]) hP hD hS hA [] [0] rfl rfl rfl (by decide) (va_runSN (As := [.long (w_frozen s_0), .int x1]) (rest := []) ⟨hx, hb, hml, hown, hts⟩ (c_X5_holds (l := l) G cy  s.heap.size (w_frozen s_0) x1  (f_X5_holds (w_frozen s_0) x1) rfl) ⟨va_cnB 2 hts gX4_isFrozen_X5_holds_n56 rfl rfl rfl hN.1 (hts (.initialized RX5) (by decide +kernel)) ddN_X5_holds ⟨Nat.le_of_ble_eq_true rfl, Nat.le_of_ble_eq_true rfl⟩, hts (.static yX5_holds) (by decide +kernel), trivial⟩ (preS_ (hP.sub (ws' := []) [] rfl) hK (hD.sub (ws' := []) [] rfl rfl) hN) rfl rfl hl.1 rfl (lv_room (Nat.le_of_ble_eq_true rfl)) dX4_isFrozen_5 ⟨Nat.le_of_ble_eq_true rfl, Nat.le_of_ble_eq_true rfl⟩) (fun H locs hP hD hS => ?_)
  have hP : va_P G vwCl [(a_0, wv s_0)] H := hP
  have hD : va_D A [(a_0, wv s_0)] := hD
  subst hf
  exact kr_z (V := bI (f_X5_holds (w_frozen s_0) x1)) hx hb hr hlocks (bI_nar _) rfl hP hK hD hN hS hS.2.2 dX4_isFrozen_8
set_option maxHeartbeats 4000000 in
set_option maxRecDepth 100000 in
theorem c_X4_step {l : Launch} (G : va_G) (cy : Nat → ClassId) (a_0 : Nat) (sz : Nat) (s_0 : WT) (x1 : Int32)  (R : Int32) (hf : f_X4_step s_0 x1 = R) : Met l yX4_step wsX4_step ({ frames := 0, cells := 0, slots := 0, locals := 0 } : Room) (va_Pc [.ref a_0, .int x1] (pcW G cy [(a_0, wv s_0)] sz)) (va_Qi (fun r (_ : Unit) => r = R) (fun _ t => Wd G cy (va_A [(a_0, wv s_0)] sz) [(a_0, wv s_0)] t) (va_A [(a_0, wv s_0)] sz)) 0 0 (va_A [(a_0, wv s_0)] sz) := by
  refine Met.ofW (cc := cX4_step) (maxL := 2) (ret := (some .int)) (by decide) rfl ?_
  intro p e s m args below meth c s₁ B hml hv
  obtain ⟨rfl, hsz, hP, hK, hD0, hN⟩ := hv
  have hx := B.exec
  have hb := B.bytes
  have hr := B.returns
  have hts := atoms_spec (ws := wsX4_step) B.pre
  have hown : s.vm.findClass RX4 = some m.cls := findClass_of_methodNamed B.named
  have hlocks := B.notSynchronized
  subst hsz
  have hD := hD0.self (sz := s.heap.size)
  generalize hAe : va_A [(a_0, wv s_0)] s.heap.size = A at hD ⊢
  have hA : ∀ q : Nat, s.heap.size ≤ q → A q := fun q h => by rw [← hAe]; exact Or.inr h
  have hS : va_S A s.heap s.heap [] := va_S.rf
  have hP : va_P G vwCl [(a_0, wv s_0)] s.heap := hP
  have hl := lv_entry [.ref a_0, .int x1] (n := 2) (Nat.le_of_ble_eq_true rfl)
  rw [lg_entry_eq]
  generalize (lg_sl [.ref a_0, .int x1] ++ List.replicate (2 - (lg_sl [.ref a_0, .int x1]).length) Slot.unset).toArray = ls at hl ⊢
  have hl : lv_has ls 2 [(0, .ref a_0), (1, .int x1)] := hl
  unfold f_X4_step at hf
  refine lv_iload_n hx hb dX4_step_0 rfl (lv_at hl 1 rfl) ?_
  by_cases h_1 : x1 = 0
  · have hf := ip_ h_1 hf
    refine lv_tableIn (tgt := 28) (off := 27) hx hb dX4_step_1 (by show ¬ x1.toInt < 0; rw [h_1]; decide) (by show ¬ 2 < x1.toInt; rw [h_1]; decide) (by show (#[27, 33, 35] : Array Int)[(x1.toInt - 0).toNat]? = some 27; rw [h_1]; rfl) (by decide) ?_
    refine lv_aload_n hx hb dX4_step_28 rfl (lv_at hl 0 rfl) ?_
    refine va_get (D := G) (ci := 4) (v := .int (w_cells s_0)) (C := RX4) (T := TX4) (N := 12) hx hb hts iw_X4_step_X4 hown hK hP 0 rfl rfl 1 (by decide) (hts (.fieldLink RX4 15 "PaneFrost$Window" "cells" "I") (by decide +kernel)) (fun _ h9 => h9) rfl dX4_step_29 ?_
    refine lv_ineg hx hb dX4_step_32 ?_
    subst hf
    exact kr_i hx hb hr hlocks rfl hP hK hD hN hS hS.2.2 dX4_step_33
  have hf := in_ h_1 hf
  by_cases h_2 : x1 = 1
  · have hf := ip_ h_2 hf
    refine lv_tableIn (tgt := 34) (off := 33) hx hb dX4_step_1 (by show ¬ x1.toInt < 0; rw [h_2]; decide) (by show ¬ 2 < x1.toInt; rw [h_2]; decide) (by show (#[27, 33, 35] : Array Int)[(x1.toInt - 0).toNat]? = some 33; rw [h_2]; rfl) (by decide) ?_
    refine lv_iconst (v := 1) hx hb dX4_step_34 (by decide) ?_
    subst hf
    exact kr_i hx hb hr hlocks rfl hP hK hD hN hS hS.2.2 dX4_step_35
  have hf := in_ h_2 hf
  by_cases h_3 : x1 = 2
  · have hf := ip_ h_3 hf
    refine lv_tableIn (tgt := 36) (off := 35) hx hb dX4_step_1 (by show ¬ x1.toInt < 0; rw [h_3]; decide) (by show ¬ 2 < x1.toInt; rw [h_3]; decide) (by show (#[27, 33, 35] : Array Int)[(x1.toInt - 0).toNat]? = some 35; rw [h_3]; rfl) (by decide) ?_
    refine lv_aload_n hx hb dX4_step_36 rfl (lv_at hl 0 rfl) ?_
    refine va_get (D := G) (ci := 4) (v := .int (w_cells s_0)) (C := RX4) (T := TX4) (N := 12) hx hb hts iw_X4_step_X4 hown hK hP 0 rfl rfl 1 (by decide) (hts (.fieldLink RX4 15 "PaneFrost$Window" "cells" "I") (by decide +kernel)) (fun _ h9 => h9) rfl dX4_step_37 ?_
    subst hf
    exact kr_i hx hb hr hlocks rfl hP hK hD hN hS hS.2.2 dX4_step_40
  have hf := in_ h_3 hf
  have th_1 : ¬ x1.toInt = 0 := fun q => h_1 (Int32.toInt_inj.mp (q.trans (by decide)))
  have th_2 : ¬ x1.toInt = 1 := fun q => h_2 (Int32.toInt_inj.mp (q.trans (by decide)))
  have th_3 : ¬ x1.toInt = 2 := fun q => h_3 (Int32.toInt_inj.mp (q.trans (by decide)))
  have hdf : (x1.toInt < 0 ∨ 2 < x1.toInt) := by omega
  refine lv_tableOut (tgt := 41) hx hb dX4_step_1 hdf (by decide) ?_
  refine lv_iconst (v := (-1)) hx hb dX4_step_41 (by decide) ?_
  subst hf
  exact kr_i hx hb hr hlocks rfl hP hK hD hN hS hS.2.2 dX4_step_42
set_option maxHeartbeats 4000000 in
set_option maxRecDepth 100000 in
theorem c_X4_stepsAcross {l : Launch} (G : va_G) (cy : Nat → ClassId) (a_0 : Nat) (sz : Nat) (s_0 : WT) (x1 : Int32)  (R : Int32) (hf : f_X4_stepsAcross s_0 x1 = R) : Met l yX4_stepsAcross wsX4_stepsAcross ({ frames := 1, cells := 0, slots := 0, locals := 21 } : Room) (va_Pc [.ref a_0, .int x1] (pcW G cy [(a_0, wv s_0)] sz)) (va_Qi (fun r (_ : Unit) => r = R) (fun _ t => Wd G cy (va_A [(a_0, wv s_0)] sz) [(a_0, wv s_0)] t) (va_A [(a_0, wv s_0)] sz)) 0 0 (va_A [(a_0, wv s_0)] sz) := by
  refine Met.ofW (cc := cX4_stepsAcross) (maxL := 2) (ret := (some .int)) (by decide) rfl ?_
  intro p e s m args below meth c s₁ B hml hv
  obtain ⟨rfl, hsz, hP, hK, hD0, hN⟩ := hv
  have hx := B.exec
  have hb := B.bytes
  have hr := B.returns
  have hts := atoms_spec (ws := wsX4_stepsAcross) B.pre
  have hown : s.vm.findClass RX4 = some m.cls := findClass_of_methodNamed B.named
  have hlocks := B.notSynchronized
  subst hsz
  have hD := hD0.self (sz := s.heap.size)
  generalize hAe : va_A [(a_0, wv s_0)] s.heap.size = A at hD ⊢
  have hA : ∀ q : Nat, s.heap.size ≤ q → A q := fun q h => by rw [← hAe]; exact Or.inr h
  have hS : va_S A s.heap s.heap [] := va_S.rf
  have hP : va_P G vwCl [(a_0, wv s_0)] s.heap := hP
  have hl := lv_entry [.ref a_0, .int x1] (n := 2) (Nat.le_of_ble_eq_true rfl)
  rw [lg_entry_eq]
  generalize (lg_sl [.ref a_0, .int x1] ++ List.replicate (2 - (lg_sl [.ref a_0, .int x1]).length) Slot.unset).toArray = ls at hl ⊢
  have hl : lv_has ls 2 [(0, .ref a_0), (1, .int x1)] := hl
  unfold f_X4_stepsAcross at hf
  refine lv_aload_n hx hb dX4_stepsAcross_0 rfl (lv_at hl 0 rfl) ?_
  refine lv_iload_n hx hb dX4_stepsAcross_1 rfl (lv_at hl 1 rfl) ?_
  refine kc_i (w1 := [(a_0, wv s_0)]) (wr := []) hP hD hS hA [0] [] rfl rfl rfl (by decide) (va_runV (As := [.int x1]) (rest := []) ⟨hx, hb, hml, hown, hts⟩ (c_X4_step (l := l) G cy a_0 s.heap.size s_0 x1  (f_X4_step s_0 x1) rfl) (cwV 1 hts gX4_stepsAcross_X4_step rfl rfl rfl ddV_X4_step ⟨Nat.le_of_ble_eq_true rfl, Nat.le_of_ble_eq_true rfl⟩) (preV_ (ci := 4) (q0 := 0) rfl rfl hP hK hD hN) rfl rfl hl.1 rfl (lv_room (Nat.le_of_ble_eq_true rfl)) dX4_stepsAcross_2 ⟨Nat.le_of_ble_eq_true rfl, Nat.le_of_ble_eq_true rfl⟩) (fun H locs hP hD hS => ?_)
  have hP : va_P G vwCl [(a_0, wv s_0)] H := hP
  have hD : va_D A [(a_0, wv s_0)] := hD
  refine lv_iload_n hx hb dX4_stepsAcross_5 rfl (lv_at hl 1 rfl) ?_
  refine lv_if_eq (tgt := 14) hx hb dX4_stepsAcross_6 (by decide) (fun h_1 => ?_) (fun h_1 => ?_)
  · have hf := ip_ h_1 hf
    refine lv_aload_n hx hb dX4_stepsAcross_14 rfl (lv_at hl 0 rfl) ?_
    refine va_get (D := G) (ci := 4) (v := .int (w_rows s_0)) (C := RX4) (T := TX4) (N := 12) hx hb hts iw_X4_stepsAcross_X4 hown hK hP 0 rfl rfl 0 (by decide) (hts (.fieldLink RX4 9 "PaneFrost$Window" "rows" "I") (by decide +kernel)) (fun _ h9 => h9) rfl dX4_stepsAcross_15 ?_
    refine lv_goto (tgt := 25) hx hb dX4_stepsAcross_18 (by decide) ?_
    refine lv_iconst (v := 1) hx hb dX4_stepsAcross_25 (by decide) ?_
    refine lv_isub hx hb dX4_stepsAcross_26 ?_
    refine lv_imul hx hb dX4_stepsAcross_27 ?_
    subst hf
    exact kr_i hx hb hr hlocks rfl hP hK hD hN hS hS.2.2 dX4_stepsAcross_28
  · have hf := in_ h_1 hf
    refine lv_iload_n hx hb dX4_stepsAcross_9 rfl (lv_at hl 1 rfl) ?_
    refine lv_iconst (v := 2) hx hb dX4_stepsAcross_10 (by decide) ?_
    refine lv_icmp_ne (tgt := 21) hx hb dX4_stepsAcross_11 (by decide) (fun h_2 => ?_) (fun h_2 => ?_)
    · have hf := in_ h_2 hf
      refine lv_aload_n hx hb dX4_stepsAcross_21 rfl (lv_at hl 0 rfl) ?_
      refine va_get (D := G) (ci := 4) (v := .int (w_cells s_0)) (C := RX4) (T := TX4) (N := 12) hx hb hts iw_X4_stepsAcross_X4 hown hK hP 0 rfl rfl 1 (by decide) (hts (.fieldLink RX4 15 "PaneFrost$Window" "cells" "I") (by decide +kernel)) (fun _ h9 => h9) rfl dX4_stepsAcross_22 ?_
      refine lv_iconst (v := 1) hx hb dX4_stepsAcross_25 (by decide) ?_
      refine lv_isub hx hb dX4_stepsAcross_26 ?_
      refine lv_imul hx hb dX4_stepsAcross_27 ?_
      subst hf
      exact kr_i hx hb hr hlocks rfl hP hK hD hN hS hS.2.2 dX4_stepsAcross_28
    · have hf := ip_ h_2 hf
      refine lv_aload_n hx hb dX4_stepsAcross_14 rfl (lv_at hl 0 rfl) ?_
      refine va_get (D := G) (ci := 4) (v := .int (w_rows s_0)) (C := RX4) (T := TX4) (N := 12) hx hb hts iw_X4_stepsAcross_X4 hown hK hP 0 rfl rfl 0 (by decide) (hts (.fieldLink RX4 9 "PaneFrost$Window" "rows" "I") (by decide +kernel)) (fun _ h9 => h9) rfl dX4_stepsAcross_15 ?_
      refine lv_goto (tgt := 25) hx hb dX4_stepsAcross_18 (by decide) ?_
      refine lv_iconst (v := 1) hx hb dX4_stepsAcross_25 (by decide) ?_
      refine lv_isub hx hb dX4_stepsAcross_26 ?_
      refine lv_imul hx hb dX4_stepsAcross_27 ?_
      subst hf
      exact kr_i hx hb hr hlocks rfl hP hK hD hN hS hS.2.2 dX4_stepsAcross_28
set_option maxHeartbeats 4000000 in
set_option maxRecDepth 100000 in
theorem c_X4_beside {l : Launch} (G : va_G) (cy : Nat → ClassId) (a_0 : Nat) (sz : Nat) (s_0 : WT) (x1 : Int32) (x2 : Int32)  (R : Int32) (hf : f_X4_beside s_0 x1 x2 = R) : Met l yX4_beside wsX4_beside ({ frames := 2, cells := 0, slots := 0, locals := 42 } : Room) (va_Pc [.ref a_0, .int x1, .int x2] (pcW G cy [(a_0, wv s_0)] sz)) (va_Qi (fun r (_ : Unit) => r = R) (fun _ t => Wd G cy (va_A [(a_0, wv s_0)] sz) [(a_0, wv s_0)] t) (va_A [(a_0, wv s_0)] sz)) 0 0 (va_A [(a_0, wv s_0)] sz) := by
  refine Met.ofW (cc := cX4_beside) (maxL := 3) (ret := (some .int)) (by decide) rfl ?_
  intro p e s m args below meth c s₁ B hml hv
  obtain ⟨rfl, hsz, hP, hK, hD0, hN⟩ := hv
  have hx := B.exec
  have hb := B.bytes
  have hr := B.returns
  have hts := atoms_spec (ws := wsX4_beside) B.pre
  have hown : s.vm.findClass RX4 = some m.cls := findClass_of_methodNamed B.named
  have hlocks := B.notSynchronized
  subst hsz
  have hD := hD0.self (sz := s.heap.size)
  generalize hAe : va_A [(a_0, wv s_0)] s.heap.size = A at hD ⊢
  have hA : ∀ q : Nat, s.heap.size ≤ q → A q := fun q h => by rw [← hAe]; exact Or.inr h
  have hS : va_S A s.heap s.heap [] := va_S.rf
  have hP : va_P G vwCl [(a_0, wv s_0)] s.heap := hP
  have hl := lv_entry [.ref a_0, .int x1, .int x2] (n := 3) (Nat.le_of_ble_eq_true rfl)
  rw [lg_entry_eq]
  generalize (lg_sl [.ref a_0, .int x1, .int x2] ++ List.replicate (3 - (lg_sl [.ref a_0, .int x1, .int x2]).length) Slot.unset).toArray = ls at hl ⊢
  have hl : lv_has ls 3 [(0, .ref a_0), (1, .int x1), (2, .int x2)] := hl
  unfold f_X4_beside at hf
  refine lv_aload_n hx hb dX4_beside_0 rfl (lv_at hl 0 rfl) ?_
  refine lv_iload_n hx hb dX4_beside_1 rfl (lv_at hl 2 rfl) ?_
  refine kc_l (w1 := [(a_0, wv s_0)]) (wr := []) hP hD hS hA [0] [] rfl rfl rfl (by decide) (va_runV (As := [.int x2]) (rest := []) ⟨hx, hb, hml, hown, hts⟩ (c_X4_along (l := l) G cy a_0 s.heap.size s_0 x2  (f_X4_along s_0 x2) rfl) (cwV 1 hts gX4_beside_X4_along rfl rfl rfl ddV_X4_along ⟨Nat.le_of_ble_eq_true rfl, Nat.le_of_ble_eq_true rfl⟩) (preV_ (ci := 4) (q0 := 0) rfl rfl hP hK hD hN) rfl rfl hl.1 rfl (lv_room (Nat.le_of_ble_eq_true rfl)) dX4_beside_2 ⟨Nat.le_of_ble_eq_true rfl, Nat.le_of_ble_eq_true rfl⟩) (fun H locs hP hD hS => ?_)
  have hP : va_P G vwCl [(a_0, wv s_0)] H := hP
  have hD : va_D A [(a_0, wv s_0)] := hD
  refine lv_iload_n hx hb dX4_beside_5 rfl (lv_at hl 1 rfl) ?_
  refine kc_i (w1 := []) (wr := [(a_0, wv s_0)]) hP hD hS hA [] [0] rfl rfl rfl (by decide) (va_runSN (As := [.long (f_X4_along s_0 x2), .int x1]) (rest := []) ⟨hx, hb, hml, hown, hts⟩ (c_X5_holds (l := l) G cy  H.size (f_X4_along s_0 x2) x1  (f_X5_holds (f_X4_along s_0 x2) x1) rfl) ⟨va_cnB 2 hts gX4_beside_X5_holds_n56 rfl rfl rfl hN.1 (hts (.initialized RX5) (by decide +kernel)) ddN_X5_holds ⟨Nat.le_of_ble_eq_true rfl, Nat.le_of_ble_eq_true rfl⟩, hts (.static yX5_holds) (by decide +kernel), trivial⟩ (preS_ (hP.sub (ws' := []) [] rfl) hK (hD.sub (ws' := []) [] rfl rfl) hN) rfl rfl hl.1 rfl (lv_room (Nat.le_of_ble_eq_true rfl)) dX4_beside_6 ⟨Nat.le_of_ble_eq_true rfl, Nat.le_of_ble_eq_true rfl⟩) (fun H locs hP hD hS => ?_)
  have hP : va_P G vwCl [(a_0, wv s_0)] H := hP
  have hD : va_D A [(a_0, wv s_0)] := hD
  refine lv_if_ne (tgt := 20) hx hb dX4_beside_9 (by decide) (fun h_1 => ?_) (fun h_1 => ?_)
  · have hf := ip_ (bI_n0 h_1) hf
    refine lv_aload_n hx hb dX4_beside_20 rfl (lv_at hl 0 rfl) ?_
    refine lv_iload_n hx hb dX4_beside_21 rfl (lv_at hl 2 rfl) ?_
    refine kc_i (w1 := [(a_0, wv s_0)]) (wr := []) hP hD hS hA [0] [] rfl rfl rfl (by decide) (va_runV (As := [.int x2]) (rest := []) ⟨hx, hb, hml, hown, hts⟩ (c_X4_kind (l := l) G cy a_0 H.size s_0 x2  (f_X4_kind s_0 x2) rfl) (cwV 1 hts gX4_beside_X4_kind rfl rfl rfl ddV_X4_kind ⟨Nat.le_of_ble_eq_true rfl, Nat.le_of_ble_eq_true rfl⟩) (preV_ (ci := 4) (q0 := 0) rfl rfl hP hK hD hN) rfl rfl hl.1 rfl (lv_room (Nat.le_of_ble_eq_true rfl)) dX4_beside_22 ⟨Nat.le_of_ble_eq_true rfl, Nat.le_of_ble_eq_true rfl⟩) (fun H locs hP hD hS => ?_)
    have hP : va_P G vwCl [(a_0, wv s_0)] H := hP
    have hD : va_D A [(a_0, wv s_0)] := hD
    refine lv_iconst (v := 2) hx hb dX4_beside_25 (by decide) ?_
    refine lv_icmp_ne (tgt := 39) hx hb dX4_beside_26 (by decide) (fun h_2 => ?_) (fun h_2 => ?_)
    · have hf := in_ h_2 hf
      refine lv_iconst (v := (-1)) hx hb dX4_beside_39 (by decide) ?_
      subst hf
      exact kr_i hx hb hr hlocks rfl hP hK hD hN hS hS.2.2 dX4_beside_40
    · have hf := ip_ h_2 hf
      refine lv_iload_n hx hb dX4_beside_29 rfl (lv_at hl 1 rfl) ?_
      refine lv_aload_n hx hb dX4_beside_30 rfl (lv_at hl 0 rfl) ?_
      refine lv_iload_n hx hb dX4_beside_31 rfl (lv_at hl 2 rfl) ?_
      refine kc_i (w1 := [(a_0, wv s_0)]) (wr := []) hP hD hS hA [0] [] rfl rfl rfl (by decide) (va_runV (As := [.int x2]) (rest := [.int x1]) ⟨hx, hb, hml, hown, hts⟩ (c_X4_stepsAcross (l := l) G cy a_0 H.size s_0 x2  (f_X4_stepsAcross s_0 x2) rfl) (cwV 1 hts gX4_beside_X4_stepsAcross rfl rfl rfl ddV_X4_stepsAcross ⟨Nat.le_of_ble_eq_true rfl, Nat.le_of_ble_eq_true rfl⟩) (preV_ (ci := 4) (q0 := 0) rfl rfl hP hK hD hN) rfl rfl hl.1 rfl (lv_room (Nat.le_of_ble_eq_true rfl)) dX4_beside_32 ⟨Nat.le_of_ble_eq_true rfl, Nat.le_of_ble_eq_true rfl⟩) (fun H locs hP hD hS => ?_)
      have hP : va_P G vwCl [(a_0, wv s_0)] H := hP
      have hD : va_D A [(a_0, wv s_0)] := hD
      refine lv_isub hx hb dX4_beside_35 ?_
      refine lv_goto (tgt := 40) hx hb dX4_beside_36 (by decide) ?_
      subst hf
      exact kr_i hx hb hr hlocks rfl hP hK hD hN hS hS.2.2 dX4_beside_40
  · have hf := in_ (bI_0 h_1) hf
    refine lv_iload_n hx hb dX4_beside_12 rfl (lv_at hl 1 rfl) ?_
    refine lv_aload_n hx hb dX4_beside_13 rfl (lv_at hl 0 rfl) ?_
    refine lv_iload_n hx hb dX4_beside_14 rfl (lv_at hl 2 rfl) ?_
    refine kc_i (w1 := [(a_0, wv s_0)]) (wr := []) hP hD hS hA [0] [] rfl rfl rfl (by decide) (va_runV (As := [.int x2]) (rest := [.int x1]) ⟨hx, hb, hml, hown, hts⟩ (c_X4_step (l := l) G cy a_0 H.size s_0 x2  (f_X4_step s_0 x2) rfl) (cwV 1 hts gX4_beside_X4_step rfl rfl rfl ddV_X4_step ⟨Nat.le_of_ble_eq_true rfl, Nat.le_of_ble_eq_true rfl⟩) (preV_ (ci := 4) (q0 := 0) rfl rfl hP hK hD hN) rfl rfl hl.1 rfl (lv_room (Nat.le_of_ble_eq_true rfl)) dX4_beside_15 ⟨Nat.le_of_ble_eq_true rfl, Nat.le_of_ble_eq_true rfl⟩) (fun H locs hP hD hS => ?_)
    have hP : va_P G vwCl [(a_0, wv s_0)] H := hP
    have hD : va_D A [(a_0, wv s_0)] := hD
    refine lv_iadd hx hb dX4_beside_18 ?_
    subst hf
    exact kr_i hx hb hr hlocks rfl hP hK hD hN hS hS.2.2 dX4_beside_19
set_option maxHeartbeats 4000000 in
set_option maxRecDepth 100000 in
theorem c_X4_isScratched {l : Launch} (G : va_G) (cy : Nat → ClassId) (a_0 : Nat) (sz : Nat) (s_0 : WT) (x1 : Int32) (x2 : Int32)  (R : Bool) (hf : f_X4_isScratched s_0 x1 x2 = R) : Met l yX4_isScratched wsX4_isScratched ({ frames := 3, cells := 0, slots := 0, locals := 64 } : Room) (va_Pc [.ref a_0, .int x1, .int x2] (pcW G cy [(a_0, wv s_0)] sz)) (va_Qi (fun r (_ : Unit) => r = bI R) (fun _ t => Wd G cy (va_A [(a_0, wv s_0)] sz) [(a_0, wv s_0)] t) (va_A [(a_0, wv s_0)] sz)) 0 0 (va_A [(a_0, wv s_0)] sz) := by
  refine Met.ofW (cc := cX4_isScratched) (maxL := 4) (ret := (some .boolean)) (by decide) rfl ?_
  intro p e s m args below meth c s₁ B hml hv
  obtain ⟨rfl, hsz, hP, hK, hD0, hN⟩ := hv
  have hx := B.exec
  have hb := B.bytes
  have hr := B.returns
  have hts := atoms_spec (ws := wsX4_isScratched) B.pre
  have hown : s.vm.findClass RX4 = some m.cls := findClass_of_methodNamed B.named
  have hlocks := B.notSynchronized
  subst hsz
  have hD := hD0.self (sz := s.heap.size)
  generalize hAe : va_A [(a_0, wv s_0)] s.heap.size = A at hD ⊢
  have hA : ∀ q : Nat, s.heap.size ≤ q → A q := fun q h => by rw [← hAe]; exact Or.inr h
  have hS : va_S A s.heap s.heap [] := va_S.rf
  have hP : va_P G vwCl [(a_0, wv s_0)] s.heap := hP
  have hl := lv_entry [.ref a_0, .int x1, .int x2] (n := 4) (Nat.le_of_ble_eq_true rfl)
  rw [lg_entry_eq]
  generalize (lg_sl [.ref a_0, .int x1, .int x2] ++ List.replicate (4 - (lg_sl [.ref a_0, .int x1, .int x2]).length) Slot.unset).toArray = ls at hl ⊢
  have hl : lv_has ls 4 [(0, .ref a_0), (1, .int x1), (2, .int x2)] := hl
  unfold f_X4_isScratched at hf
  refine lv_aload_n hx hb dX4_isScratched_0 rfl (lv_at hl 0 rfl) ?_
  refine lv_iload_n hx hb dX4_isScratched_1 rfl (lv_at hl 1 rfl) ?_
  refine lv_iload_n hx hb dX4_isScratched_2 rfl (lv_at hl 2 rfl) ?_
  refine kc_i (w1 := [(a_0, wv s_0)]) (wr := []) hP hD hS hA [0] [] rfl rfl rfl (by decide) (va_runV (As := [.int x1, .int x2]) (rest := []) ⟨hx, hb, hml, hown, hts⟩ (c_X4_beside (l := l) G cy a_0 s.heap.size s_0 x1 x2  (f_X4_beside s_0 x1 x2) rfl) (cwV 2 hts gX4_isScratched_X4_beside rfl rfl rfl ddV_X4_beside ⟨Nat.le_of_ble_eq_true rfl, Nat.le_of_ble_eq_true rfl⟩) (preV_ (ci := 4) (q0 := 0) rfl rfl hP hK hD hN) rfl rfl hl.1 rfl (lv_room (Nat.le_of_ble_eq_true rfl)) dX4_isScratched_3 ⟨Nat.le_of_ble_eq_true rfl, Nat.le_of_ble_eq_true rfl⟩) (fun H locs hP hD hS => ?_)
  have hP : va_P G vwCl [(a_0, wv s_0)] H := hP
  have hD : va_D A [(a_0, wv s_0)] := hD
  refine lv_istore_n (lv' := [(3, .int (f_X4_beside s_0 x1 x2)), (0, .ref a_0), (1, .int x1), (2, .int x2)]) hx hb dX4_isScratched_6 rfl hl (by decide) rfl (fun ls hl => ?_)
  refine lv_iload_n hx hb dX4_isScratched_7 rfl (lv_at hl 0 rfl) ?_
  refine lv_iconst (v := (-1)) hx hb dX4_isScratched_8 (by decide) ?_
  refine lv_icmp_ne (tgt := 14) hx hb dX4_isScratched_9 (by decide) (fun h_1 => ?_) (fun h_1 => ?_)
  · have hf := in_ h_1 hf
    refine lv_iload_n hx hb dX4_isScratched_14 rfl (lv_at hl 3 rfl) ?_
    by_cases h_2 : x2 = 0
    · have hf := ip_ h_2 hf
      refine lv_tableIn (tgt := 40) (off := 25) hx hb dX4_isScratched_15 (by show ¬ x2.toInt < 0; rw [h_2]; decide) (by show ¬ 2 < x2.toInt; rw [h_2]; decide) (by show (#[25, 34, 43] : Array Int)[(x2.toInt - 0).toNat]? = some 25; rw [h_2]; rfl) (by decide) ?_
      refine lv_aload_n hx hb dX4_isScratched_40 rfl (lv_at hl 1 rfl) ?_
      refine va_get (D := G) (ci := 4) (v := .long (w_lowerScratches s_0)) (C := RX4) (T := TX4) (N := 12) hx hb hts iw_X4_isScratched_X4 hown hK hP 0 rfl rfl 11 (by decide) (hts (.fieldLink RX4 49 "PaneFrost$Window" "lowerScratches" "J") (by decide +kernel)) (fun _ h9 => h9) rfl dX4_isScratched_41 ?_
      refine lv_iload_n hx hb dX4_isScratched_44 rfl (lv_at hl 0 rfl) ?_
      refine kc_i (w1 := []) (wr := [(a_0, wv s_0)]) hP hD hS hA [] [0] rfl rfl rfl (by decide) (va_runSN (As := [.long (w_lowerScratches s_0), .int (f_X4_beside s_0 x1 x2)]) (rest := []) ⟨hx, hb, hml, hown, hts⟩ (c_X5_holds (l := l) G cy  H.size (w_lowerScratches s_0) (f_X4_beside s_0 x1 x2)  (f_X5_holds (w_lowerScratches s_0) (f_X4_beside s_0 x1 x2)) rfl) ⟨va_cnB 2 hts gX4_isScratched_X5_holds_n56 rfl rfl rfl hN.1 (hts (.initialized RX5) (by decide +kernel)) ddN_X5_holds ⟨Nat.le_of_ble_eq_true rfl, Nat.le_of_ble_eq_true rfl⟩, hts (.static yX5_holds) (by decide +kernel), trivial⟩ (preS_ (hP.sub (ws' := []) [] rfl) hK (hD.sub (ws' := []) [] rfl rfl) hN) rfl rfl hl.1 rfl (lv_room (Nat.le_of_ble_eq_true rfl)) dX4_isScratched_45 ⟨Nat.le_of_ble_eq_true rfl, Nat.le_of_ble_eq_true rfl⟩) (fun H locs hP hD hS => ?_)
      have hP : va_P G vwCl [(a_0, wv s_0)] H := hP
      have hD : va_D A [(a_0, wv s_0)] := hD
      subst hf
      exact kr_z (V := bI (f_X5_holds (w_lowerScratches s_0) (f_X4_beside s_0 x1 x2))) hx hb hr hlocks (bI_nar _) rfl hP hK hD hN hS hS.2.2 dX4_isScratched_48
    have hf := in_ h_2 hf
    by_cases h_3 : x2 = 1
    · have hf := ip_ h_3 hf
      refine lv_tableIn (tgt := 49) (off := 34) hx hb dX4_isScratched_15 (by show ¬ x2.toInt < 0; rw [h_3]; decide) (by show ¬ 2 < x2.toInt; rw [h_3]; decide) (by show (#[25, 34, 43] : Array Int)[(x2.toInt - 0).toNat]? = some 34; rw [h_3]; rfl) (by decide) ?_
      refine lv_aload_n hx hb dX4_isScratched_49 rfl (lv_at hl 1 rfl) ?_
      refine va_get (D := G) (ci := 4) (v := .long (w_rightScratches s_0)) (C := RX4) (T := TX4) (N := 12) hx hb hts iw_X4_isScratched_X4 hown hK hP 0 rfl rfl 10 (by decide) (hts (.fieldLink RX4 46 "PaneFrost$Window" "rightScratches" "J") (by decide +kernel)) (fun _ h9 => h9) rfl dX4_isScratched_50 ?_
      refine lv_iload_n hx hb dX4_isScratched_53 rfl (lv_at hl 2 rfl) ?_
      refine kc_i (w1 := []) (wr := [(a_0, wv s_0)]) hP hD hS hA [] [0] rfl rfl rfl (by decide) (va_runSN (As := [.long (w_rightScratches s_0), .int x1]) (rest := []) ⟨hx, hb, hml, hown, hts⟩ (c_X5_holds (l := l) G cy  H.size (w_rightScratches s_0) x1  (f_X5_holds (w_rightScratches s_0) x1) rfl) ⟨va_cnB 2 hts gX4_isScratched_X5_holds_n56 rfl rfl rfl hN.1 (hts (.initialized RX5) (by decide +kernel)) ddN_X5_holds ⟨Nat.le_of_ble_eq_true rfl, Nat.le_of_ble_eq_true rfl⟩, hts (.static yX5_holds) (by decide +kernel), trivial⟩ (preS_ (hP.sub (ws' := []) [] rfl) hK (hD.sub (ws' := []) [] rfl rfl) hN) rfl rfl hl.1 rfl (lv_room (Nat.le_of_ble_eq_true rfl)) dX4_isScratched_54 ⟨Nat.le_of_ble_eq_true rfl, Nat.le_of_ble_eq_true rfl⟩) (fun H locs hP hD hS => ?_)
      have hP : va_P G vwCl [(a_0, wv s_0)] H := hP
      have hD : va_D A [(a_0, wv s_0)] := hD
      subst hf
      exact kr_z (V := bI (f_X5_holds (w_rightScratches s_0) x1)) hx hb hr hlocks (bI_nar _) rfl hP hK hD hN hS hS.2.2 dX4_isScratched_57
    have hf := in_ h_3 hf
    by_cases h_4 : x2 = 2
    · have hf := ip_ h_4 hf
      refine lv_tableIn (tgt := 58) (off := 43) hx hb dX4_isScratched_15 (by show ¬ x2.toInt < 0; rw [h_4]; decide) (by show ¬ 2 < x2.toInt; rw [h_4]; decide) (by show (#[25, 34, 43] : Array Int)[(x2.toInt - 0).toNat]? = some 43; rw [h_4]; rfl) (by decide) ?_
      refine lv_aload_n hx hb dX4_isScratched_58 rfl (lv_at hl 1 rfl) ?_
      refine va_get (D := G) (ci := 4) (v := .long (w_lowerScratches s_0)) (C := RX4) (T := TX4) (N := 12) hx hb hts iw_X4_isScratched_X4 hown hK hP 0 rfl rfl 11 (by decide) (hts (.fieldLink RX4 49 "PaneFrost$Window" "lowerScratches" "J") (by decide +kernel)) (fun _ h9 => h9) rfl dX4_isScratched_59 ?_
      refine lv_iload_n hx hb dX4_isScratched_62 rfl (lv_at hl 2 rfl) ?_
      refine kc_i (w1 := []) (wr := [(a_0, wv s_0)]) hP hD hS hA [] [0] rfl rfl rfl (by decide) (va_runSN (As := [.long (w_lowerScratches s_0), .int x1]) (rest := []) ⟨hx, hb, hml, hown, hts⟩ (c_X5_holds (l := l) G cy  H.size (w_lowerScratches s_0) x1  (f_X5_holds (w_lowerScratches s_0) x1) rfl) ⟨va_cnB 2 hts gX4_isScratched_X5_holds_n56 rfl rfl rfl hN.1 (hts (.initialized RX5) (by decide +kernel)) ddN_X5_holds ⟨Nat.le_of_ble_eq_true rfl, Nat.le_of_ble_eq_true rfl⟩, hts (.static yX5_holds) (by decide +kernel), trivial⟩ (preS_ (hP.sub (ws' := []) [] rfl) hK (hD.sub (ws' := []) [] rfl rfl) hN) rfl rfl hl.1 rfl (lv_room (Nat.le_of_ble_eq_true rfl)) dX4_isScratched_63 ⟨Nat.le_of_ble_eq_true rfl, Nat.le_of_ble_eq_true rfl⟩) (fun H locs hP hD hS => ?_)
      have hP : va_P G vwCl [(a_0, wv s_0)] H := hP
      have hD : va_D A [(a_0, wv s_0)] := hD
      subst hf
      exact kr_z (V := bI (f_X5_holds (w_lowerScratches s_0) x1)) hx hb hr hlocks (bI_nar _) rfl hP hK hD hN hS hS.2.2 dX4_isScratched_66
    have hf := in_ h_4 hf
    have th_2 : ¬ x2.toInt = 0 := fun q => h_2 (Int32.toInt_inj.mp (q.trans (by decide)))
    have th_3 : ¬ x2.toInt = 1 := fun q => h_3 (Int32.toInt_inj.mp (q.trans (by decide)))
    have th_4 : ¬ x2.toInt = 2 := fun q => h_4 (Int32.toInt_inj.mp (q.trans (by decide)))
    have hdf : (x2.toInt < 0 ∨ 2 < x2.toInt) := by omega
    refine lv_tableOut (tgt := 67) hx hb dX4_isScratched_15 hdf (by decide) ?_
    refine lv_aload_n hx hb dX4_isScratched_67 rfl (lv_at hl 1 rfl) ?_
    refine va_get (D := G) (ci := 4) (v := .long (w_rightScratches s_0)) (C := RX4) (T := TX4) (N := 12) hx hb hts iw_X4_isScratched_X4 hown hK hP 0 rfl rfl 10 (by decide) (hts (.fieldLink RX4 46 "PaneFrost$Window" "rightScratches" "J") (by decide +kernel)) (fun _ h9 => h9) rfl dX4_isScratched_68 ?_
    refine lv_iload_n hx hb dX4_isScratched_71 rfl (lv_at hl 0 rfl) ?_
    refine kc_i (w1 := []) (wr := [(a_0, wv s_0)]) hP hD hS hA [] [0] rfl rfl rfl (by decide) (va_runSN (As := [.long (w_rightScratches s_0), .int (f_X4_beside s_0 x1 x2)]) (rest := []) ⟨hx, hb, hml, hown, hts⟩ (c_X5_holds (l := l) G cy  H.size (w_rightScratches s_0) (f_X4_beside s_0 x1 x2)  (f_X5_holds (w_rightScratches s_0) (f_X4_beside s_0 x1 x2)) rfl) ⟨va_cnB 2 hts gX4_isScratched_X5_holds_n56 rfl rfl rfl hN.1 (hts (.initialized RX5) (by decide +kernel)) ddN_X5_holds ⟨Nat.le_of_ble_eq_true rfl, Nat.le_of_ble_eq_true rfl⟩, hts (.static yX5_holds) (by decide +kernel), trivial⟩ (preS_ (hP.sub (ws' := []) [] rfl) hK (hD.sub (ws' := []) [] rfl rfl) hN) rfl rfl hl.1 rfl (lv_room (Nat.le_of_ble_eq_true rfl)) dX4_isScratched_72 ⟨Nat.le_of_ble_eq_true rfl, Nat.le_of_ble_eq_true rfl⟩) (fun H locs hP hD hS => ?_)
    have hP : va_P G vwCl [(a_0, wv s_0)] H := hP
    have hD : va_D A [(a_0, wv s_0)] := hD
    subst hf
    exact kr_z (V := bI (f_X5_holds (w_rightScratches s_0) (f_X4_beside s_0 x1 x2))) hx hb hr hlocks (bI_nar _) rfl hP hK hD hN hS hS.2.2 dX4_isScratched_75
  · have hf := ip_ h_1 hf
    refine lv_iconst (v := 0) hx hb dX4_isScratched_12 (by decide) ?_
    subst hf
    exact kr_z (V := bI false) hx hb hr hlocks (bI_nar _) rfl hP hK hD hN hS hS.2.2 dX4_isScratched_13
set_option maxHeartbeats 4000000 in
set_option maxRecDepth 100000 in
theorem c_X4_scratchesAt {l : Launch} (G : va_G) (cy : Nat → ClassId) (a_0 : Nat) (sz : Nat) (s_0 : WT) (x1 : Int32) (n : Nat) (R : Int32) (hf : f_X4_scratchesAt n s_0 x1 = some R) : Met l yX4_scratchesAt wsX4_scratchesAt ({ frames := 4, cells := 0, slots := 0, locals := 87 } : Room) (va_Pc [.ref a_0, .int x1] (pcW G cy [(a_0, wv s_0)] sz)) (va_Qi (fun r (_ : Unit) => r = R) (fun _ t => Wd G cy (va_A [(a_0, wv s_0)] sz) [(a_0, wv s_0)] t) (va_A [(a_0, wv s_0)] sz)) 0 0 (va_A [(a_0, wv s_0)] sz) := by
  refine Met.ofW (cc := cX4_scratchesAt) (maxL := 4) (ret := (some .int)) (by decide) rfl ?_
  intro p e s m args below meth c s₁ B hml hv
  obtain ⟨rfl, hsz, hP, hK, hD0, hN⟩ := hv
  have hx := B.exec
  have hb := B.bytes
  have hr := B.returns
  have hts := atoms_spec (ws := wsX4_scratchesAt) B.pre
  have hown : s.vm.findClass RX4 = some m.cls := findClass_of_methodNamed B.named
  have hlocks := B.notSynchronized
  subst hsz
  have hD := hD0.self (sz := s.heap.size)
  generalize hAe : va_A [(a_0, wv s_0)] s.heap.size = A at hD ⊢
  have hA : ∀ q : Nat, s.heap.size ≤ q → A q := fun q h => by rw [← hAe]; exact Or.inr h
  have hS : va_S A s.heap s.heap [] := va_S.rf
  have hP : va_P G vwCl [(a_0, wv s_0)] s.heap := hP
  have bl_4 : ∀ (y1 : Int32), ∀ (k : Nat), ∀ (y2 : Int32) (y3 : Int32) (H : Heap) (locs : List Loc), f_X4_scratchesAt_b4 n s_0 y1 k y2 y3 = some R → va_P G vwCl [(a_0, wv s_0)] H → va_D A [(a_0, wv s_0)] → va_S A s.heap H locs → ∀ (ls : Array Slot), lv_has ls 4 [(0, .ref a_0), (1, .int y1), (2, .int y2), (3, .int y3)] → W p l e ({ frames := 4, cells := 0, slots := 0, locals := 87 } : Room) s m [.ref a_0, .int x1].toArray below meth c H locs 0 0 (MQ below (va_Qi (fun r (_ : Unit) => r = R) (fun _ t => Wd G cy A [(a_0, wv s_0)] t) A) [.ref a_0, .int x1].toArray s 0 0 A) (F0 m 4 ls []) := by
    intro y1
    intro k
    induction k with
    | zero =>
      intro y2 y3 H locs hf; cases hf
    | succ k ih =>
      intro y2 y3 H locs hf hP hD hS ls hl
      have hf := (f_X4_scratchesAt_b4_s n s_0 y1 k y2 y3).symm.trans hf
      refine lv_iload_n hx hb dX4_scratchesAt_4 rfl (lv_at hl 3 rfl) ?_
      refine lv_iconst (v := 3) hx hb dX4_scratchesAt_5 (by decide) ?_
      refine lv_icmp_gt (tgt := 30) hx hb dX4_scratchesAt_6 (by decide) (fun h_1 => ?_) (fun h_1 => ?_)
      · have hf := ip_ h_1 hf
        refine lv_iload_n hx hb dX4_scratchesAt_30 rfl (lv_at hl 2 rfl) ?_
        obtain rfl := Option.some.inj hf
        exact kr_i hx hb hr hlocks rfl hP hK hD hN hS hS.2.2 dX4_scratchesAt_31
      · have hf := in_ h_1 hf
        refine lv_aload_n hx hb dX4_scratchesAt_9 rfl (lv_at hl 0 rfl) ?_
        refine lv_iload_n hx hb dX4_scratchesAt_10 rfl (lv_at hl 1 rfl) ?_
        refine lv_iload_n hx hb dX4_scratchesAt_11 rfl (lv_at hl 3 rfl) ?_
        refine kc_i (w1 := [(a_0, wv s_0)]) (wr := []) hP hD hS hA [0] [] rfl rfl rfl (by decide) (va_runV (As := [.int y1, .int y3]) (rest := []) ⟨hx, hb, hml, hown, hts⟩ (c_X4_isScratched (l := l) G cy a_0 H.size s_0 y1 y3  (f_X4_isScratched s_0 y1 y3) rfl) (cwV 2 hts gX4_scratchesAt_X4_isScratched rfl rfl rfl ddV_X4_isScratched ⟨Nat.le_of_ble_eq_true rfl, Nat.le_of_ble_eq_true rfl⟩) (preV_ (ci := 4) (q0 := 0) rfl rfl hP hK hD hN) rfl rfl hl.1 rfl (lv_room (Nat.le_of_ble_eq_true rfl)) dX4_scratchesAt_12 ⟨Nat.le_of_ble_eq_true rfl, Nat.le_of_ble_eq_true rfl⟩) (fun H locs hP hD hS => ?_)
        have hP : va_P G vwCl [(a_0, wv s_0)] H := hP
        have hD : va_D A [(a_0, wv s_0)] := hD
        refine lv_if_eq (tgt := 24) hx hb dX4_scratchesAt_15 (by decide) (fun h_2 => ?_) (fun h_2 => ?_)
        · have hf := in_ (bI_0 h_2) hf
          refine lv_iinc (v := (y3 + 1)) (lv' := [(3, .int (y3 + 1)), (0, .ref a_0), (1, .int y1), (2, .int y2)]) hx hb dX4_scratchesAt_24 hl (k := 3) rfl rfl (by decide) rfl (fun ls hl => ?_)
          refine lv_goto (tgt := 4) hx hb dX4_scratchesAt_27 (by decide) ?_
          exact ih y2 (y3 + 1) _ _ hf hP hD hS ls (lv_sub hl [1, 2, 3, 0] rfl)
        · have hf := ip_ (bI_n0 h_2) hf
          refine lv_iload_n hx hb dX4_scratchesAt_18 rfl (lv_at hl 2 rfl) ?_
          refine lv_iconst (v := 1) hx hb dX4_scratchesAt_19 (by decide) ?_
          refine lv_iload_n hx hb dX4_scratchesAt_20 rfl (lv_at hl 3 rfl) ?_
          refine lv_ishl hx hb dX4_scratchesAt_21 ?_
          refine lv_ior hx hb dX4_scratchesAt_22 ?_
          refine lv_istore_n (lv' := [(2, .int (y2 ||| (isl 1 y3))), (0, .ref a_0), (1, .int y1), (3, .int y3)]) hx hb dX4_scratchesAt_23 rfl hl (by decide) rfl (fun ls hl => ?_)
          refine lv_iinc (v := (y3 + 1)) (lv' := [(3, .int (y3 + 1)), (2, .int (y2 ||| (isl 1 y3))), (0, .ref a_0), (1, .int y1)]) hx hb dX4_scratchesAt_24 hl (k := 3) rfl rfl (by decide) rfl (fun ls hl => ?_)
          refine lv_goto (tgt := 4) hx hb dX4_scratchesAt_27 (by decide) ?_
          exact ih (y2 ||| (isl 1 y3)) (y3 + 1) _ _ hf hP hD hS ls (lv_sub hl [2, 3, 1, 0] rfl)
  have hl := lv_entry [.ref a_0, .int x1] (n := 4) (Nat.le_of_ble_eq_true rfl)
  rw [lg_entry_eq]
  generalize (lg_sl [.ref a_0, .int x1] ++ List.replicate (4 - (lg_sl [.ref a_0, .int x1]).length) Slot.unset).toArray = ls at hl ⊢
  have hl : lv_has ls 4 [(0, .ref a_0), (1, .int x1)] := hl
  unfold f_X4_scratchesAt at hf
  refine lv_iconst (v := 0) hx hb dX4_scratchesAt_0 (by decide) ?_
  refine lv_istore_n (lv' := [(2, .int 0), (0, .ref a_0), (1, .int x1)]) hx hb dX4_scratchesAt_1 rfl hl (by decide) rfl (fun ls hl => ?_)
  refine lv_iconst (v := 0) hx hb dX4_scratchesAt_2 (by decide) ?_
  refine lv_istore_n (lv' := [(3, .int 0), (2, .int 0), (0, .ref a_0), (1, .int x1)]) hx hb dX4_scratchesAt_3 rfl hl (by decide) rfl (fun ls hl => ?_)
  exact bl_4 x1 n 0 0 _ _ hf hP hD hS ls (lv_sub hl [2, 3, 1, 0] rfl)
set_option maxHeartbeats 4000000 in
set_option maxRecDepth 100000 in
theorem c_X4_scratches {l : Launch} (G : va_G) (cy : Nat → ClassId) (a_0 : Nat) (sz : Nat) (s_0 : WT)  (R : Int32) (hf : f_X4_scratches s_0 = R) : Met l yX4_scratches wsX4_scratches ({ frames := 1, cells := 0, slots := 0, locals := 21 } : Room) (va_Pc [.ref a_0] (pcW G cy [(a_0, wv s_0)] sz)) (va_Qi (fun r (_ : Unit) => r = R) (fun _ t => Wd G cy (va_A [(a_0, wv s_0)] sz) [(a_0, wv s_0)] t) (va_A [(a_0, wv s_0)] sz)) 0 0 (va_A [(a_0, wv s_0)] sz) := by
  refine Met.ofW (cc := cX4_scratches) (maxL := 5) (ret := (some .int)) (by decide) rfl ?_
  intro p e s m args below meth c s₁ B hml hv
  obtain ⟨rfl, hsz, hP, hK, hD0, hN⟩ := hv
  have hx := B.exec
  have hb := B.bytes
  have hr := B.returns
  have hts := atoms_spec (ws := wsX4_scratches) B.pre
  have hown : s.vm.findClass RX4 = some m.cls := findClass_of_methodNamed B.named
  have hlocks := B.notSynchronized
  subst hsz
  have hD := hD0.self (sz := s.heap.size)
  generalize hAe : va_A [(a_0, wv s_0)] s.heap.size = A at hD ⊢
  have hA : ∀ q : Nat, s.heap.size ≤ q → A q := fun q h => by rw [← hAe]; exact Or.inr h
  have hS : va_S A s.heap s.heap [] := va_S.rf
  have hP : va_P G vwCl [(a_0, wv s_0)] s.heap := hP
  have bl_29 : ∀ (z0 : Int64) (H : Heap) (locs : List Loc), f_X4_scratches_b29 s_0 z0 = R → va_P G vwCl [(a_0, wv s_0)] H → va_D A [(a_0, wv s_0)] → va_S A s.heap H locs → ∀ (ls : Array Slot), lv_has ls 5 [(0, .ref a_0)] → W p l e ({ frames := 1, cells := 0, slots := 0, locals := 21 } : Room) s m [.ref a_0].toArray below meth c H locs 0 0 (MQ below (va_Qi (fun r (_ : Unit) => r = R) (fun _ t => Wd G cy A [(a_0, wv s_0)] t) A) [.ref a_0].toArray s 0 0 A) (F0 m 29 ls [.long z0]) := by
    intro z0 H locs hf hP hD hS ls hl
    unfold f_X4_scratches_b29 at hf
    refine lv_lstore_n (lv' := [(1, .long z0), (0, .ref a_0)]) hx hb dX4_scratches_29 rfl hl (by decide) rfl (fun ls hl => ?_)
    refine lv_aload_n hx hb dX4_scratches_30 rfl (lv_at hl 1 rfl) ?_
    refine lv_iconst (v := 2) hx hb dX4_scratches_31 (by decide) ?_
    refine kc_i (w1 := [(a_0, wv s_0)]) (wr := []) hP hD hS hA [0] [] rfl rfl rfl (by decide) (va_runV (As := [.int 2]) (rest := []) ⟨hx, hb, hml, hown, hts⟩ (c_X4_kind (l := l) G cy a_0 H.size s_0 2  (f_X4_kind s_0 2) rfl) (cwV 1 hts gX4_scratches_X4_kind rfl rfl rfl ddV_X4_kind ⟨Nat.le_of_ble_eq_true rfl, Nat.le_of_ble_eq_true rfl⟩) (preV_ (ci := 4) (q0 := 0) rfl rfl hP hK hD hN) rfl rfl hl.1 rfl (lv_room (Nat.le_of_ble_eq_true rfl)) dX4_scratches_32 ⟨Nat.le_of_ble_eq_true rfl, Nat.le_of_ble_eq_true rfl⟩) (fun H locs hP hD hS => ?_)
    have hP : va_P G vwCl [(a_0, wv s_0)] H := hP
    have hD : va_D A [(a_0, wv s_0)] := hD
    refine lv_iconst (v := 2) hx hb dX4_scratches_35 (by decide) ?_
    refine lv_icmp_ne (tgt := 46) hx hb dX4_scratches_36 (by decide) (fun h_1 => ?_) (fun h_1 => ?_)
    · have hf := in_ h_1 hf
      refine lv_aload_n hx hb dX4_scratches_46 rfl (lv_at hl 1 rfl) ?_
      refine va_get (D := G) (ci := 4) (v := .long (w_lowerScratches s_0)) (C := RX4) (T := TX4) (N := 12) hx hb hts iw_X4_scratches_X4 hown hK hP 0 rfl rfl 11 (by decide) (hts (.fieldLink RX4 49 "PaneFrost$Window" "lowerScratches" "J") (by decide +kernel)) (fun _ h9 => h9) rfl dX4_scratches_47 ?_
      refine lv_aload_n hx hb dX4_scratches_50 rfl (lv_at hl 1 rfl) ?_
      refine va_get (D := G) (ci := 4) (v := .long (w_bottomRow s_0)) (C := RX4) (T := TX4) (N := 12) hx hb hts iw_X4_scratches_X4 hown hK hP 0 rfl rfl 8 (by decide) (hts (.fieldLink RX4 40 "PaneFrost$Window" "bottomRow" "J") (by decide +kernel)) (fun _ h9 => h9) rfl dX4_scratches_51 ?_
      refine lv_ldc2 (v := (-1)) hx hb hown (hts (.constantLong RX4 82 (-1)) (by decide +kernel)) dX4_scratches_54 ?_
      refine lv_lxor hx hb dX4_scratches_57 ?_
      refine lv_land hx hb dX4_scratches_58 ?_
      refine lv_topl (fun u_2 eu_2 => ?_)
      have hf := lt_e eu_2 hf
      refine lv_lstore_n (lv' := [(3, .long u_2), (1, .long z0), (0, .ref a_0)]) hx hb dX4_scratches_59 rfl hl (by decide) rfl (fun ls hl => ?_)
      refine lv_lload_n hx hb dX4_scratches_60 rfl (lv_at hl 1 rfl) ?_
      refine kc_i (w1 := []) (wr := [(a_0, wv s_0)]) hP hD hS hA [] [0] rfl rfl rfl (by decide) (va_runS (As := [.long z0]) (rest := []) ⟨hx, hb, hml, hown, hts⟩ (c_J13_bitCount_95d88 (l := l) G cy  H.size z0  (f_J13_bitCount_95d88 z0) rfl) (va_cwS 1 hts gX4_scratches_J13_bitCount_95d88 rfl rfl rfl ddN_J13_bitCount_95d88 ⟨Nat.le_of_ble_eq_true rfl, Nat.le_of_ble_eq_true rfl⟩) (preS_ (hP.sub (ws' := []) [] rfl) hK (hD.sub (ws' := []) [] rfl rfl) hN) rfl rfl hl.1 rfl (lv_room (Nat.le_of_ble_eq_true rfl)) dX4_scratches_61 ⟨Nat.le_of_ble_eq_true rfl, Nat.le_of_ble_eq_true rfl⟩) (fun H locs hP hD hS => ?_)
      have hP : va_P G vwCl [(a_0, wv s_0)] H := hP
      have hD : va_D A [(a_0, wv s_0)] := hD
      refine lv_lload_n hx hb dX4_scratches_64 rfl (lv_at hl 0 rfl) ?_
      refine kc_i (w1 := []) (wr := [(a_0, wv s_0)]) hP hD hS hA [] [0] rfl rfl rfl (by decide) (va_runS (As := [.long u_2]) (rest := [.int (f_J13_bitCount_95d88 z0)]) ⟨hx, hb, hml, hown, hts⟩ (c_J13_bitCount_95d88 (l := l) G cy  H.size u_2  (f_J13_bitCount_95d88 u_2) rfl) (va_cwS 1 hts gX4_scratches_J13_bitCount_95d88 rfl rfl rfl ddN_J13_bitCount_95d88 ⟨Nat.le_of_ble_eq_true rfl, Nat.le_of_ble_eq_true rfl⟩) (preS_ (hP.sub (ws' := []) [] rfl) hK (hD.sub (ws' := []) [] rfl rfl) hN) rfl rfl hl.1 rfl (lv_room (Nat.le_of_ble_eq_true rfl)) dX4_scratches_65 ⟨Nat.le_of_ble_eq_true rfl, Nat.le_of_ble_eq_true rfl⟩) (fun H locs hP hD hS => ?_)
      have hP : va_P G vwCl [(a_0, wv s_0)] H := hP
      have hD : va_D A [(a_0, wv s_0)] := hD
      refine lv_iadd hx hb dX4_scratches_68 ?_
      subst hf
      exact kr_i hx hb hr hlocks rfl hP hK hD hN hS hS.2.2 dX4_scratches_69
    · have hf := ip_ h_1 hf
      refine lv_aload_n hx hb dX4_scratches_39 rfl (lv_at hl 1 rfl) ?_
      refine va_get (D := G) (ci := 4) (v := .long (w_lowerScratches s_0)) (C := RX4) (T := TX4) (N := 12) hx hb hts iw_X4_scratches_X4 hown hK hP 0 rfl rfl 11 (by decide) (hts (.fieldLink RX4 49 "PaneFrost$Window" "lowerScratches" "J") (by decide +kernel)) (fun _ h9 => h9) rfl dX4_scratches_40 ?_
      refine lv_goto (tgt := 59) hx hb dX4_scratches_43 (by decide) ?_
      refine lv_lstore_n (lv' := [(3, .long (w_lowerScratches s_0)), (1, .long z0), (0, .ref a_0)]) hx hb dX4_scratches_59 rfl hl (by decide) rfl (fun ls hl => ?_)
      refine lv_lload_n hx hb dX4_scratches_60 rfl (lv_at hl 1 rfl) ?_
      refine kc_i (w1 := []) (wr := [(a_0, wv s_0)]) hP hD hS hA [] [0] rfl rfl rfl (by decide) (va_runS (As := [.long z0]) (rest := []) ⟨hx, hb, hml, hown, hts⟩ (c_J13_bitCount_95d88 (l := l) G cy  H.size z0  (f_J13_bitCount_95d88 z0) rfl) (va_cwS 1 hts gX4_scratches_J13_bitCount_95d88 rfl rfl rfl ddN_J13_bitCount_95d88 ⟨Nat.le_of_ble_eq_true rfl, Nat.le_of_ble_eq_true rfl⟩) (preS_ (hP.sub (ws' := []) [] rfl) hK (hD.sub (ws' := []) [] rfl rfl) hN) rfl rfl hl.1 rfl (lv_room (Nat.le_of_ble_eq_true rfl)) dX4_scratches_61 ⟨Nat.le_of_ble_eq_true rfl, Nat.le_of_ble_eq_true rfl⟩) (fun H locs hP hD hS => ?_)
      have hP : va_P G vwCl [(a_0, wv s_0)] H := hP
      have hD : va_D A [(a_0, wv s_0)] := hD
      refine lv_lload_n hx hb dX4_scratches_64 rfl (lv_at hl 0 rfl) ?_
      refine kc_i (w1 := []) (wr := [(a_0, wv s_0)]) hP hD hS hA [] [0] rfl rfl rfl (by decide) (va_runS (As := [.long (w_lowerScratches s_0)]) (rest := [.int (f_J13_bitCount_95d88 z0)]) ⟨hx, hb, hml, hown, hts⟩ (c_J13_bitCount_95d88 (l := l) G cy  H.size (w_lowerScratches s_0)  (f_J13_bitCount_95d88 (w_lowerScratches s_0)) rfl) (va_cwS 1 hts gX4_scratches_J13_bitCount_95d88 rfl rfl rfl ddN_J13_bitCount_95d88 ⟨Nat.le_of_ble_eq_true rfl, Nat.le_of_ble_eq_true rfl⟩) (preS_ (hP.sub (ws' := []) [] rfl) hK (hD.sub (ws' := []) [] rfl rfl) hN) rfl rfl hl.1 rfl (lv_room (Nat.le_of_ble_eq_true rfl)) dX4_scratches_65 ⟨Nat.le_of_ble_eq_true rfl, Nat.le_of_ble_eq_true rfl⟩) (fun H locs hP hD hS => ?_)
      have hP : va_P G vwCl [(a_0, wv s_0)] H := hP
      have hD : va_D A [(a_0, wv s_0)] := hD
      refine lv_iadd hx hb dX4_scratches_68 ?_
      subst hf
      exact kr_i hx hb hr hlocks rfl hP hK hD hN hS hS.2.2 dX4_scratches_69
  have hl := lv_entry [.ref a_0] (n := 5) (Nat.le_of_ble_eq_true rfl)
  rw [lg_entry_eq]
  generalize (lg_sl [.ref a_0] ++ List.replicate (5 - (lg_sl [.ref a_0]).length) Slot.unset).toArray = ls at hl ⊢
  have hl : lv_has ls 5 [(0, .ref a_0)] := hl
  unfold f_X4_scratches at hf
  refine lv_aload_n hx hb dX4_scratches_0 rfl (lv_at hl 0 rfl) ?_
  refine lv_iconst (v := 1) hx hb dX4_scratches_1 (by decide) ?_
  refine kc_i (w1 := [(a_0, wv s_0)]) (wr := []) hP hD hS hA [0] [] rfl rfl rfl (by decide) (va_runV (As := [.int 1]) (rest := []) ⟨hx, hb, hml, hown, hts⟩ (c_X4_kind (l := l) G cy a_0 s.heap.size s_0 1  (f_X4_kind s_0 1) rfl) (cwV 1 hts gX4_scratches_X4_kind rfl rfl rfl ddV_X4_kind ⟨Nat.le_of_ble_eq_true rfl, Nat.le_of_ble_eq_true rfl⟩) (preV_ (ci := 4) (q0 := 0) rfl rfl hP hK hD hN) rfl rfl hl.1 rfl (lv_room (Nat.le_of_ble_eq_true rfl)) dX4_scratches_2 ⟨Nat.le_of_ble_eq_true rfl, Nat.le_of_ble_eq_true rfl⟩) (fun H locs hP hD hS => ?_)
  have hP : va_P G vwCl [(a_0, wv s_0)] H := hP
  have hD : va_D A [(a_0, wv s_0)] := hD
  refine lv_iconst (v := 2) hx hb dX4_scratches_5 (by decide) ?_
  refine lv_icmp_ne (tgt := 16) hx hb dX4_scratches_6 (by decide) (fun h_3 => ?_) (fun h_3 => ?_)
  · have hf := in_ h_3 hf
    refine lv_aload_n hx hb dX4_scratches_16 rfl (lv_at hl 0 rfl) ?_
    refine va_get (D := G) (ci := 4) (v := .long (w_rightScratches s_0)) (C := RX4) (T := TX4) (N := 12) hx hb hts iw_X4_scratches_X4 hown hK hP 0 rfl rfl 10 (by decide) (hts (.fieldLink RX4 46 "PaneFrost$Window" "rightScratches" "J") (by decide +kernel)) (fun _ h9 => h9) rfl dX4_scratches_17 ?_
    refine lv_aload_n hx hb dX4_scratches_20 rfl (lv_at hl 0 rfl) ?_
    refine va_get (D := G) (ci := 4) (v := .long (w_rightColumn s_0)) (C := RX4) (T := TX4) (N := 12) hx hb hts iw_X4_scratches_X4 hown hK hP 0 rfl rfl 7 (by decide) (hts (.fieldLink RX4 37 "PaneFrost$Window" "rightColumn" "J") (by decide +kernel)) (fun _ h9 => h9) rfl dX4_scratches_21 ?_
    refine lv_ldc2 (v := (-1)) hx hb hown (hts (.constantLong RX4 82 (-1)) (by decide +kernel)) dX4_scratches_24 ?_
    refine lv_lxor hx hb dX4_scratches_27 ?_
    refine lv_land hx hb dX4_scratches_28 ?_
    exact bl_29  ((w_rightScratches s_0) &&& ((w_rightColumn s_0) ^^^ (-1))) _ _ hf hP hD hS ls (lv_sub hl [0] rfl)
  · have hf := ip_ h_3 hf
    refine lv_aload_n hx hb dX4_scratches_9 rfl (lv_at hl 0 rfl) ?_
    refine va_get (D := G) (ci := 4) (v := .long (w_rightScratches s_0)) (C := RX4) (T := TX4) (N := 12) hx hb hts iw_X4_scratches_X4 hown hK hP 0 rfl rfl 10 (by decide) (hts (.fieldLink RX4 46 "PaneFrost$Window" "rightScratches" "J") (by decide +kernel)) (fun _ h9 => h9) rfl dX4_scratches_10 ?_
    refine lv_goto (tgt := 29) hx hb dX4_scratches_13 (by decide) ?_
    exact bl_29  (w_rightScratches s_0) _ _ hf hP hD hS ls (lv_sub hl [0] rfl)
set_option maxHeartbeats 4000000 in
set_option maxRecDepth 100000 in
theorem c_X4_around {l : Launch} (G : va_G) (cy : Nat → ClassId) (a_0 : Nat) (sz : Nat) (s_0 : WT) (x1 : Int64)  (R : Int64) (hf : f_X4_around s_0 x1 = R) : Met l yX4_around wsX4_around ({ frames := 2, cells := 0, slots := 0, locals := 49 } : Room) (va_Pc [.ref a_0, .long x1] (pcW G cy [(a_0, wv s_0)] sz)) (va_Ql (fun r (_ : Unit) => r = R) (fun _ t => Wd G cy (va_A [(a_0, wv s_0)] sz) [(a_0, wv s_0)] t) (va_A [(a_0, wv s_0)] sz)) 0 0 (va_A [(a_0, wv s_0)] sz) := by
  refine Met.ofW (cc := cX4_around) (maxL := 3) (ret := (some .long)) (by decide) rfl ?_
  intro p e s m args below meth c s₁ B hml hv
  obtain ⟨rfl, hsz, hP, hK, hD0, hN⟩ := hv
  have hx := B.exec
  have hb := B.bytes
  have hr := B.returns
  have hts := atoms_spec (ws := wsX4_around) B.pre
  have hown : s.vm.findClass RX4 = some m.cls := findClass_of_methodNamed B.named
  have hlocks := B.notSynchronized
  subst hsz
  have hD := hD0.self (sz := s.heap.size)
  generalize hAe : va_A [(a_0, wv s_0)] s.heap.size = A at hD ⊢
  have hA : ∀ q : Nat, s.heap.size ≤ q → A q := fun q h => by rw [← hAe]; exact Or.inr h
  have hS : va_S A s.heap s.heap [] := va_S.rf
  have hP : va_P G vwCl [(a_0, wv s_0)] s.heap := hP
  have hl := lv_entry [.ref a_0, .long x1] (n := 3) (Nat.le_of_ble_eq_true rfl)
  rw [lg_entry_eq]
  generalize (lg_sl [.ref a_0, .long x1] ++ List.replicate (3 - (lg_sl [.ref a_0, .long x1]).length) Slot.unset).toArray = ls at hl ⊢
  have hl : lv_has ls 3 [(0, .ref a_0), (1, .long x1)] := hl
  unfold f_X4_around at hf
  refine lv_aload_n hx hb dX4_around_0 rfl (lv_at hl 0 rfl) ?_
  refine lv_lload_n hx hb dX4_around_1 rfl (lv_at hl 1 rfl) ?_
  refine lv_iconst (v := 0) hx hb dX4_around_2 (by decide) ?_
  refine kc_l (w1 := [(a_0, wv s_0)]) (wr := []) hP hD hS hA [0] [] rfl rfl rfl (by decide) (va_runV (As := [.long x1, .int 0]) (rest := []) ⟨hx, hb, hml, hown, hts⟩ (c_X4_reaching (l := l) G cy a_0 s.heap.size s_0 x1 0  (f_X4_reaching s_0 x1 0) rfl) (cwV 2 hts gX4_around_X4_reaching rfl rfl rfl ddV_X4_reaching ⟨Nat.le_of_ble_eq_true rfl, Nat.le_of_ble_eq_true rfl⟩) (preV_ (ci := 4) (q0 := 0) rfl rfl hP hK hD hN) rfl rfl hl.1 rfl (lv_room (Nat.le_of_ble_eq_true rfl)) dX4_around_3 ⟨Nat.le_of_ble_eq_true rfl, Nat.le_of_ble_eq_true rfl⟩) (fun H locs hP hD hS => ?_)
  have hP : va_P G vwCl [(a_0, wv s_0)] H := hP
  have hD : va_D A [(a_0, wv s_0)] := hD
  refine lv_aload_n hx hb dX4_around_6 rfl (lv_at hl 0 rfl) ?_
  refine lv_lload_n hx hb dX4_around_7 rfl (lv_at hl 1 rfl) ?_
  refine lv_iconst (v := 1) hx hb dX4_around_8 (by decide) ?_
  refine kc_l (w1 := [(a_0, wv s_0)]) (wr := []) hP hD hS hA [0] [] rfl rfl rfl (by decide) (va_runV (As := [.long x1, .int 1]) (rest := [.long (f_X4_reaching s_0 x1 0)]) ⟨hx, hb, hml, hown, hts⟩ (c_X4_reaching (l := l) G cy a_0 H.size s_0 x1 1  (f_X4_reaching s_0 x1 1) rfl) (cwV 2 hts gX4_around_X4_reaching rfl rfl rfl ddV_X4_reaching ⟨Nat.le_of_ble_eq_true rfl, Nat.le_of_ble_eq_true rfl⟩) (preV_ (ci := 4) (q0 := 0) rfl rfl hP hK hD hN) rfl rfl hl.1 rfl (lv_room (Nat.le_of_ble_eq_true rfl)) dX4_around_9 ⟨Nat.le_of_ble_eq_true rfl, Nat.le_of_ble_eq_true rfl⟩) (fun H locs hP hD hS => ?_)
  have hP : va_P G vwCl [(a_0, wv s_0)] H := hP
  have hD : va_D A [(a_0, wv s_0)] := hD
  refine lv_lor hx hb dX4_around_12 ?_
  refine lv_aload_n hx hb dX4_around_13 rfl (lv_at hl 0 rfl) ?_
  refine lv_lload_n hx hb dX4_around_14 rfl (lv_at hl 1 rfl) ?_
  refine lv_iconst (v := 2) hx hb dX4_around_15 (by decide) ?_
  refine kc_l (w1 := [(a_0, wv s_0)]) (wr := []) hP hD hS hA [0] [] rfl rfl rfl (by decide) (va_runV (As := [.long x1, .int 2]) (rest := [.long ((f_X4_reaching s_0 x1 0) ||| (f_X4_reaching s_0 x1 1))]) ⟨hx, hb, hml, hown, hts⟩ (c_X4_reaching (l := l) G cy a_0 H.size s_0 x1 2  (f_X4_reaching s_0 x1 2) rfl) (cwV 2 hts gX4_around_X4_reaching rfl rfl rfl ddV_X4_reaching ⟨Nat.le_of_ble_eq_true rfl, Nat.le_of_ble_eq_true rfl⟩) (preV_ (ci := 4) (q0 := 0) rfl rfl hP hK hD hN) rfl rfl hl.1 rfl (lv_room (Nat.le_of_ble_eq_true rfl)) dX4_around_16 ⟨Nat.le_of_ble_eq_true rfl, Nat.le_of_ble_eq_true rfl⟩) (fun H locs hP hD hS => ?_)
  have hP : va_P G vwCl [(a_0, wv s_0)] H := hP
  have hD : va_D A [(a_0, wv s_0)] := hD
  refine lv_lor hx hb dX4_around_19 ?_
  refine lv_aload_n hx hb dX4_around_20 rfl (lv_at hl 0 rfl) ?_
  refine lv_lload_n hx hb dX4_around_21 rfl (lv_at hl 1 rfl) ?_
  refine lv_iconst (v := 3) hx hb dX4_around_22 (by decide) ?_
  refine kc_l (w1 := [(a_0, wv s_0)]) (wr := []) hP hD hS hA [0] [] rfl rfl rfl (by decide) (va_runV (As := [.long x1, .int 3]) (rest := [.long (((f_X4_reaching s_0 x1 0) ||| (f_X4_reaching s_0 x1 1)) ||| (f_X4_reaching s_0 x1 2))]) ⟨hx, hb, hml, hown, hts⟩ (c_X4_reaching (l := l) G cy a_0 H.size s_0 x1 3  (f_X4_reaching s_0 x1 3) rfl) (cwV 2 hts gX4_around_X4_reaching rfl rfl rfl ddV_X4_reaching ⟨Nat.le_of_ble_eq_true rfl, Nat.le_of_ble_eq_true rfl⟩) (preV_ (ci := 4) (q0 := 0) rfl rfl hP hK hD hN) rfl rfl hl.1 rfl (lv_room (Nat.le_of_ble_eq_true rfl)) dX4_around_23 ⟨Nat.le_of_ble_eq_true rfl, Nat.le_of_ble_eq_true rfl⟩) (fun H locs hP hD hS => ?_)
  have hP : va_P G vwCl [(a_0, wv s_0)] H := hP
  have hD : va_D A [(a_0, wv s_0)] := hD
  refine lv_lor hx hb dX4_around_26 ?_
  subst hf
  exact kr_l hx hb hr hlocks rfl hP hK hD hN hS hS.2.2 dX4_around_27
set_option maxHeartbeats 4000000 in
set_option maxRecDepth 100000 in
theorem c_X4_cold {l : Launch} (G : va_G) (cy : Nat → ClassId) (a_0 : Nat) (sz : Nat) (s_0 : WT) (x1 : Int32) (n : Nat) (R : Int32) (hf : f_X4_cold n s_0 x1 = some R) : Met l yX4_cold wsX4_cold ({ frames := 3, cells := 0, slots := 0, locals := 72 } : Room) (va_Pc [.ref a_0, .int x1] (pcW G cy [(a_0, wv s_0)] sz)) (va_Qi (fun r (_ : Unit) => r = R) (fun _ t => Wd G cy (va_A [(a_0, wv s_0)] sz) [(a_0, wv s_0)] t) (va_A [(a_0, wv s_0)] sz)) 0 0 (va_A [(a_0, wv s_0)] sz) := by
  refine Met.ofW (cc := cX4_cold) (maxL := 4) (ret := (some .int)) (by decide) rfl ?_
  intro p e s m args below meth c s₁ B hml hv
  obtain ⟨rfl, hsz, hP, hK, hD0, hN⟩ := hv
  have hx := B.exec
  have hb := B.bytes
  have hr := B.returns
  have hts := atoms_spec (ws := wsX4_cold) B.pre
  have hown : s.vm.findClass RX4 = some m.cls := findClass_of_methodNamed B.named
  have hlocks := B.notSynchronized
  subst hsz
  have hD := hD0.self (sz := s.heap.size)
  generalize hAe : va_A [(a_0, wv s_0)] s.heap.size = A at hD ⊢
  have hA : ∀ q : Nat, s.heap.size ≤ q → A q := fun q h => by rw [← hAe]; exact Or.inr h
  have hS : va_S A s.heap s.heap [] := va_S.rf
  have hP : va_P G vwCl [(a_0, wv s_0)] s.heap := hP
  have bl_4 : ∀ (y1 : Int32), ∀ (k : Nat), ∀ (y2 : Int32) (y3 : Int32) (H : Heap) (locs : List Loc), f_X4_cold_b4 n s_0 y1 k y2 y3 = some R → va_P G vwCl [(a_0, wv s_0)] H → va_D A [(a_0, wv s_0)] → va_S A s.heap H locs → ∀ (ls : Array Slot), lv_has ls 4 [(0, .ref a_0), (1, .int y1), (2, .int y2), (3, .int y3)] → W p l e ({ frames := 3, cells := 0, slots := 0, locals := 72 } : Room) s m [.ref a_0, .int x1].toArray below meth c H locs 0 0 (MQ below (va_Qi (fun r (_ : Unit) => r = R) (fun _ t => Wd G cy A [(a_0, wv s_0)] t) A) [.ref a_0, .int x1].toArray s 0 0 A) (F0 m 4 ls []) := by
    intro y1
    intro k
    induction k with
    | zero =>
      intro y2 y3 H locs hf; cases hf
    | succ k ih =>
      intro y2 y3 H locs hf hP hD hS ls hl
      have hf := (f_X4_cold_b4_s n s_0 y1 k y2 y3).symm.trans hf
      refine lv_iload_n hx hb dX4_cold_4 rfl (lv_at hl 3 rfl) ?_
      refine lv_iconst (v := 3) hx hb dX4_cold_5 (by decide) ?_
      refine lv_icmp_gt (tgt := 34) hx hb dX4_cold_6 (by decide) (fun h_1 => ?_) (fun h_1 => ?_)
      · have hf := ip_ h_1 hf
        refine lv_iload_n hx hb dX4_cold_34 rfl (lv_at hl 2 rfl) ?_
        obtain rfl := Option.some.inj hf
        exact kr_i hx hb hr hlocks rfl hP hK hD hN hS hS.2.2 dX4_cold_35
      · have hf := in_ h_1 hf
        refine lv_aload_n hx hb dX4_cold_9 rfl (lv_at hl 0 rfl) ?_
        refine lv_aload_n hx hb dX4_cold_10 rfl (lv_at hl 0 rfl) ?_
        refine va_get (D := G) (ci := 4) (v := .long (w_frozen s_0)) (C := RX4) (T := TX4) (N := 12) hx hb hts iw_X4_cold_X4 hown hK hP 0 rfl rfl 4 (by decide) (hts (.fieldLink RX4 27 "PaneFrost$Window" "frozen" "J") (by decide +kernel)) (fun _ h9 => h9) rfl dX4_cold_11 ?_
        refine lv_iload_n hx hb dX4_cold_14 rfl (lv_at hl 3 rfl) ?_
        refine kc_l (w1 := [(a_0, wv s_0)]) (wr := []) hP hD hS hA [0] [] rfl rfl rfl (by decide) (va_runV (As := [.long (w_frozen s_0), .int y3]) (rest := []) ⟨hx, hb, hml, hown, hts⟩ (c_X4_coldFrom (l := l) G cy a_0 H.size s_0 (w_frozen s_0) y3  (f_X4_coldFrom s_0 (w_frozen s_0) y3) rfl) (cwV 2 hts gX4_cold_X4_coldFrom rfl rfl rfl ddV_X4_coldFrom ⟨Nat.le_of_ble_eq_true rfl, Nat.le_of_ble_eq_true rfl⟩) (preV_ (ci := 4) (q0 := 0) rfl rfl hP hK hD hN) rfl rfl hl.1 rfl (lv_room (Nat.le_of_ble_eq_true rfl)) dX4_cold_15 ⟨Nat.le_of_ble_eq_true rfl, Nat.le_of_ble_eq_true rfl⟩) (fun H locs hP hD hS => ?_)
        have hP : va_P G vwCl [(a_0, wv s_0)] H := hP
        have hD : va_D A [(a_0, wv s_0)] := hD
        refine lv_iload_n hx hb dX4_cold_18 rfl (lv_at hl 1 rfl) ?_
        refine kc_i (w1 := []) (wr := [(a_0, wv s_0)]) hP hD hS hA [] [0] rfl rfl rfl (by decide) (va_runSN (As := [.long (f_X4_coldFrom s_0 (w_frozen s_0) y3), .int y1]) (rest := []) ⟨hx, hb, hml, hown, hts⟩ (c_X5_holds (l := l) G cy  H.size (f_X4_coldFrom s_0 (w_frozen s_0) y3) y1  (f_X5_holds (f_X4_coldFrom s_0 (w_frozen s_0) y3) y1) rfl) ⟨va_cnB 2 hts gX4_cold_X5_holds_n56 rfl rfl rfl hN.1 (hts (.initialized RX5) (by decide +kernel)) ddN_X5_holds ⟨Nat.le_of_ble_eq_true rfl, Nat.le_of_ble_eq_true rfl⟩, hts (.static yX5_holds) (by decide +kernel), trivial⟩ (preS_ (hP.sub (ws' := []) [] rfl) hK (hD.sub (ws' := []) [] rfl rfl) hN) rfl rfl hl.1 rfl (lv_room (Nat.le_of_ble_eq_true rfl)) dX4_cold_19 ⟨Nat.le_of_ble_eq_true rfl, Nat.le_of_ble_eq_true rfl⟩) (fun H locs hP hD hS => ?_)
        have hP : va_P G vwCl [(a_0, wv s_0)] H := hP
        have hD : va_D A [(a_0, wv s_0)] := hD
        refine lv_if_eq (tgt := 28) hx hb dX4_cold_22 (by decide) (fun h_2 => ?_) (fun h_2 => ?_)
        · have hf := in_ (bI_0 h_2) hf
          refine lv_iinc (v := (y3 + 1)) (lv' := [(3, .int (y3 + 1)), (0, .ref a_0), (1, .int y1), (2, .int y2)]) hx hb dX4_cold_28 hl (k := 3) rfl rfl (by decide) rfl (fun ls hl => ?_)
          refine lv_goto (tgt := 4) hx hb dX4_cold_31 (by decide) ?_
          exact ih y2 (y3 + 1) _ _ hf hP hD hS ls (lv_sub hl [1, 2, 3, 0] rfl)
        · have hf := ip_ (bI_n0 h_2) hf
          refine lv_iinc (v := (y2 + 1)) (lv' := [(2, .int (y2 + 1)), (0, .ref a_0), (1, .int y1), (3, .int y3)]) hx hb dX4_cold_25 hl (k := 2) rfl rfl (by decide) rfl (fun ls hl => ?_)
          refine lv_iinc (v := (y3 + 1)) (lv' := [(3, .int (y3 + 1)), (2, .int (y2 + 1)), (0, .ref a_0), (1, .int y1)]) hx hb dX4_cold_28 hl (k := 3) rfl rfl (by decide) rfl (fun ls hl => ?_)
          refine lv_goto (tgt := 4) hx hb dX4_cold_31 (by decide) ?_
          exact ih (y2 + 1) (y3 + 1) _ _ hf hP hD hS ls (lv_sub hl [2, 3, 1, 0] rfl)
  have hl := lv_entry [.ref a_0, .int x1] (n := 4) (Nat.le_of_ble_eq_true rfl)
  rw [lg_entry_eq]
  generalize (lg_sl [.ref a_0, .int x1] ++ List.replicate (4 - (lg_sl [.ref a_0, .int x1]).length) Slot.unset).toArray = ls at hl ⊢
  have hl : lv_has ls 4 [(0, .ref a_0), (1, .int x1)] := hl
  unfold f_X4_cold at hf
  refine lv_iconst (v := 0) hx hb dX4_cold_0 (by decide) ?_
  refine lv_istore_n (lv' := [(2, .int 0), (0, .ref a_0), (1, .int x1)]) hx hb dX4_cold_1 rfl hl (by decide) rfl (fun ls hl => ?_)
  refine lv_iconst (v := 0) hx hb dX4_cold_2 (by decide) ?_
  refine lv_istore_n (lv' := [(3, .int 0), (2, .int 0), (0, .ref a_0), (1, .int x1)]) hx hb dX4_cold_3 rfl hl (by decide) rfl (fun ls hl => ?_)
  exact bl_4 x1 n 0 0 _ _ hf hP hD hS ls (lv_sub hl [2, 3, 1, 0] rfl)
set_option maxHeartbeats 4000000 in
set_option maxRecDepth 100000 in
theorem c_X4_staysClear {l : Launch} (G : va_G) (cy : Nat → ClassId) (a_0 : Nat) (sz : Nat) (s_0 : WT) (x1 : Int32) (x2 : Int32) (n : Nat) (R : Bool) (hf : f_X4_staysClear n s_0 x1 x2 = some R) : Met l yX4_staysClear wsX4_staysClear ({ frames := 4, cells := 0, slots := 0, locals := 96 } : Room) (va_Pc [.ref a_0, .int x1, .int x2] (pcW G cy [(a_0, wv s_0)] sz)) (va_Qi (fun r (_ : Unit) => r = bI R) (fun _ t => Wd G cy (va_A [(a_0, wv s_0)] sz) [(a_0, wv s_0)] t) (va_A [(a_0, wv s_0)] sz)) 0 0 (va_A [(a_0, wv s_0)] sz) := by
  refine Met.ofW (cc := cX4_staysClear) (maxL := 6) (ret := (some .boolean)) (by decide) rfl ?_
  intro p e s m args below meth c s₁ B hml hv
  obtain ⟨rfl, hsz, hP, hK, hD0, hN⟩ := hv
  have hx := B.exec
  have hb := B.bytes
  have hr := B.returns
  have hts := atoms_spec (ws := wsX4_staysClear) B.pre
  have hown : s.vm.findClass RX4 = some m.cls := findClass_of_methodNamed B.named
  have hlocks := B.notSynchronized
  subst hsz
  have hD := hD0.self (sz := s.heap.size)
  generalize hAe : va_A [(a_0, wv s_0)] s.heap.size = A at hD ⊢
  have hA : ∀ q : Nat, s.heap.size ≤ q → A q := fun q h => by rw [← hAe]; exact Or.inr h
  have hS : va_S A s.heap s.heap [] := va_S.rf
  have hP : va_P G vwCl [(a_0, wv s_0)] s.heap := hP
  have bl_8 : ∀ (y1 : Int32), ∀ (y2 : Int32), ∀ (k : Nat), ∀ (y3 : Int64) (y5 : Int32) (H : Heap) (locs : List Loc), f_X4_staysClear_b8 n s_0 y1 y2 k y3 y5 = some R → va_P G vwCl [(a_0, wv s_0)] H → va_D A [(a_0, wv s_0)] → va_S A s.heap H locs → ∀ (ls : Array Slot), lv_has ls 6 [(0, .ref a_0), (1, .int y1), (2, .int y2), (3, .long y3), (5, .int y5)] → W p l e ({ frames := 4, cells := 0, slots := 0, locals := 96 } : Room) s m [.ref a_0, .int x1, .int x2].toArray below meth c H locs 0 0 (MQ below (va_Qi (fun r (_ : Unit) => r = bI R) (fun _ t => Wd G cy A [(a_0, wv s_0)] t) A) [.ref a_0, .int x1, .int x2].toArray s 0 0 A) (F0 m 8 ls []) := by
    intro y1
    intro y2
    intro k
    induction k with
    | zero =>
      intro y3 y5 H locs hf; cases hf
    | succ k ih =>
      intro y3 y5 H locs hf hP hD hS ls hl
      have hf := (f_X4_staysClear_b8_s n s_0 y1 y2 k y3 y5).symm.trans hf
      refine lv_iload hx hb dX4_staysClear_8 (lv_at hl 4 rfl) ?_
      refine lv_iload_n hx hb dX4_staysClear_10 rfl (lv_at hl 2 rfl) ?_
      refine lv_icmp_ge (tgt := 36) hx hb dX4_staysClear_11 (by decide) (fun h_1 => ?_) (fun h_1 => ?_)
      · have hf := ip_ h_1 hf
        refine lv_iconst (v := 1) hx hb dX4_staysClear_36 (by decide) ?_
        obtain rfl := Option.some.inj hf
        exact kr_z (V := bI true) hx hb hr hlocks (bI_nar _) rfl hP hK hD hN hS hS.2.2 dX4_staysClear_37
      · have hf := in_ h_1 hf
        refine lv_aload_n hx hb dX4_staysClear_14 rfl (lv_at hl 0 rfl) ?_
        refine lv_lload_n hx hb dX4_staysClear_15 rfl (lv_at hl 3 rfl) ?_
        refine kc_l (w1 := [(a_0, wv s_0)]) (wr := []) hP hD hS hA [0] [] rfl rfl rfl (by decide) (va_runV (As := [.long y3]) (rest := []) ⟨hx, hb, hml, hown, hts⟩ (c_X4_after (l := l) G cy a_0 H.size s_0 y3  (f_X4_after s_0 y3) rfl) (cwV 1 hts gX4_staysClear_X4_after rfl rfl rfl ddV_X4_after ⟨Nat.le_of_ble_eq_true rfl, Nat.le_of_ble_eq_true rfl⟩) (preV_ (ci := 4) (q0 := 0) rfl rfl hP hK hD hN) rfl rfl hl.1 rfl (lv_room (Nat.le_of_ble_eq_true rfl)) dX4_staysClear_16 ⟨Nat.le_of_ble_eq_true rfl, Nat.le_of_ble_eq_true rfl⟩) (fun H locs hP hD hS => ?_)
        have hP : va_P G vwCl [(a_0, wv s_0)] H := hP
        have hD : va_D A [(a_0, wv s_0)] := hD
        refine lv_lstore_n (lv' := [(3, .long (f_X4_after s_0 y3)), (0, .ref a_0), (1, .int y1), (2, .int y2), (5, .int y5)]) hx hb dX4_staysClear_19 rfl hl (by decide) rfl (fun ls hl => ?_)
        refine lv_lload_n hx hb dX4_staysClear_20 rfl (lv_at hl 0 rfl) ?_
        refine lv_iload_n hx hb dX4_staysClear_21 rfl (lv_at hl 2 rfl) ?_
        refine kc_i (w1 := []) (wr := [(a_0, wv s_0)]) hP hD hS hA [] [0] rfl rfl rfl (by decide) (va_runSN (As := [.long (f_X4_after s_0 y3), .int y1]) (rest := []) ⟨hx, hb, hml, hown, hts⟩ (c_X5_holds (l := l) G cy  H.size (f_X4_after s_0 y3) y1  (f_X5_holds (f_X4_after s_0 y3) y1) rfl) ⟨va_cnB 2 hts gX4_staysClear_X5_holds_n56 rfl rfl rfl hN.1 (hts (.initialized RX5) (by decide +kernel)) ddN_X5_holds ⟨Nat.le_of_ble_eq_true rfl, Nat.le_of_ble_eq_true rfl⟩, hts (.static yX5_holds) (by decide +kernel), trivial⟩ (preS_ (hP.sub (ws' := []) [] rfl) hK (hD.sub (ws' := []) [] rfl rfl) hN) rfl rfl hl.1 rfl (lv_room (Nat.le_of_ble_eq_true rfl)) dX4_staysClear_22 ⟨Nat.le_of_ble_eq_true rfl, Nat.le_of_ble_eq_true rfl⟩) (fun H locs hP hD hS => ?_)
        have hP : va_P G vwCl [(a_0, wv s_0)] H := hP
        have hD : va_D A [(a_0, wv s_0)] := hD
        refine lv_if_eq (tgt := 30) hx hb dX4_staysClear_25 (by decide) (fun h_2 => ?_) (fun h_2 => ?_)
        · have hf := in_ (bI_0 h_2) hf
          refine lv_iinc (v := (y5 + 1)) (lv' := [(5, .int (y5 + 1)), (3, .long (f_X4_after s_0 y3)), (0, .ref a_0), (1, .int y1), (2, .int y2)]) hx hb dX4_staysClear_30 hl (k := 4) rfl rfl (by decide) rfl (fun ls hl => ?_)
          refine lv_goto (tgt := 8) hx hb dX4_staysClear_33 (by decide) ?_
          exact ih (f_X4_after s_0 y3) (y5 + 1) _ _ hf hP hD hS ls (lv_sub hl [2, 3, 4, 1, 0] rfl)
        · have hf := ip_ (bI_n0 h_2) hf
          refine lv_iconst (v := 0) hx hb dX4_staysClear_28 (by decide) ?_
          obtain rfl := Option.some.inj hf
          exact kr_z (V := bI false) hx hb hr hlocks (bI_nar _) rfl hP hK hD hN hS hS.2.2 dX4_staysClear_29
  have hl := lv_entry [.ref a_0, .int x1, .int x2] (n := 6) (Nat.le_of_ble_eq_true rfl)
  rw [lg_entry_eq]
  generalize (lg_sl [.ref a_0, .int x1, .int x2] ++ List.replicate (6 - (lg_sl [.ref a_0, .int x1, .int x2]).length) Slot.unset).toArray = ls at hl ⊢
  have hl : lv_has ls 6 [(0, .ref a_0), (1, .int x1), (2, .int x2)] := hl
  unfold f_X4_staysClear at hf
  refine lv_aload_n hx hb dX4_staysClear_0 rfl (lv_at hl 0 rfl) ?_
  refine va_get (D := G) (ci := 4) (v := .long (w_frozen s_0)) (C := RX4) (T := TX4) (N := 12) hx hb hts iw_X4_staysClear_X4 hown hK hP 0 rfl rfl 4 (by decide) (hts (.fieldLink RX4 27 "PaneFrost$Window" "frozen" "J") (by decide +kernel)) (fun _ h9 => h9) rfl dX4_staysClear_1 ?_
  refine lv_lstore_n (lv' := [(3, .long (w_frozen s_0)), (0, .ref a_0), (1, .int x1), (2, .int x2)]) hx hb dX4_staysClear_4 rfl hl (by decide) rfl (fun ls hl => ?_)
  refine lv_iconst (v := 0) hx hb dX4_staysClear_5 (by decide) ?_
  refine lv_istore (lv' := [(5, .int 0), (3, .long (w_frozen s_0)), (0, .ref a_0), (1, .int x1), (2, .int x2)]) hx hb dX4_staysClear_6 hl (by decide) rfl (fun ls hl => ?_)
  exact bl_8 x1 x2 n (w_frozen s_0) 0 _ _ hf hP hD hS ls (lv_sub hl [2, 3, 4, 1, 0] rfl)
set_option maxHeartbeats 4000000 in
set_option maxRecDepth 100000 in
theorem c_X4_patchFrom {l : Launch} (G : va_G) (cy : Nat → ClassId) (a_0 : Nat) (sz : Nat) (s_0 : WT) (x1 : Int64) (n : Nat) (R : Int64) (hf : f_X4_patchFrom n s_0 x1 = some R) : Met l yX4_patchFrom wsX4_patchFrom ({ frames := 3, cells := 0, slots := 0, locals := 71 } : Room) (va_Pc [.ref a_0, .long x1] (pcW G cy [(a_0, wv s_0)] sz)) (va_Ql (fun r (_ : Unit) => r = R) (fun _ t => Wd G cy (va_A [(a_0, wv s_0)] sz) [(a_0, wv s_0)] t) (va_A [(a_0, wv s_0)] sz)) 0 0 (va_A [(a_0, wv s_0)] sz) := by
  refine Met.ofW (cc := cX4_patchFrom) (maxL := 8) (ret := (some .long)) (by decide) rfl ?_
  intro p e s m args below meth c s₁ B hml hv
  obtain ⟨rfl, hsz, hP, hK, hD0, hN⟩ := hv
  have hx := B.exec
  have hb := B.bytes
  have hr := B.returns
  have hts := atoms_spec (ws := wsX4_patchFrom) B.pre
  have hown : s.vm.findClass RX4 = some m.cls := findClass_of_methodNamed B.named
  have hlocks := B.notSynchronized
  subst hsz
  have hD := hD0.self (sz := s.heap.size)
  generalize hAe : va_A [(a_0, wv s_0)] s.heap.size = A at hD ⊢
  have hA : ∀ q : Nat, s.heap.size ≤ q → A q := fun q h => by rw [← hAe]; exact Or.inr h
  have hS : va_S A s.heap s.heap [] := va_S.rf
  have hP : va_P G vwCl [(a_0, wv s_0)] s.heap := hP
  have bl_5 : ∀ (k : Nat), ∀ (y3 : Int64) (y5 : Int32) (H : Heap) (locs : List Loc), f_X4_patchFrom_b5 n s_0 k y3 y5 = some R → va_P G vwCl [(a_0, wv s_0)] H → va_D A [(a_0, wv s_0)] → va_S A s.heap H locs → ∀ (ls : Array Slot), lv_has ls 8 [(0, .ref a_0), (3, .long y3), (5, .int y5)] → W p l e ({ frames := 3, cells := 0, slots := 0, locals := 71 } : Room) s m [.ref a_0, .long x1].toArray below meth c H locs 0 0 (MQ below (va_Ql (fun r (_ : Unit) => r = R) (fun _ t => Wd G cy A [(a_0, wv s_0)] t) A) [.ref a_0, .long x1].toArray s 0 0 A) (F0 m 5 ls []) := by
    intro k
    induction k with
    | zero =>
      intro y3 y5 H locs hf; cases hf
    | succ k ih =>
      intro y3 y5 H locs hf hP hD hS ls hl
      have hf := (f_X4_patchFrom_b5_s n s_0 k y3 y5).symm.trans hf
      refine lv_iload hx hb dX4_patchFrom_5 (lv_at hl 2 rfl) ?_
      refine lv_bipush (v := 64) hx hb dX4_patchFrom_7 (by decide) ?_
      refine lv_icmp_ge (tgt := 44) hx hb dX4_patchFrom_9 (by decide) (fun h_1 => ?_) (fun h_1 => ?_)
      · have hf := ip_ h_1 hf
        refine lv_lload_n hx hb dX4_patchFrom_44 rfl (lv_at hl 1 rfl) ?_
        obtain rfl := Option.some.inj hf
        exact kr_l hx hb hr hlocks rfl hP hK hD hN hS hS.2.2 dX4_patchFrom_45
      · have hf := in_ h_1 hf
        refine lv_lload_n hx hb dX4_patchFrom_12 rfl (lv_at hl 1 rfl) ?_
        refine lv_aload_n hx hb dX4_patchFrom_13 rfl (lv_at hl 0 rfl) ?_
        refine lv_lload_n hx hb dX4_patchFrom_14 rfl (lv_at hl 1 rfl) ?_
        refine kc_l (w1 := [(a_0, wv s_0)]) (wr := []) hP hD hS hA [0] [] rfl rfl rfl (by decide) (va_runV (As := [.long y3]) (rest := [.long y3]) ⟨hx, hb, hml, hown, hts⟩ (c_X4_around (l := l) G cy a_0 H.size s_0 y3  (f_X4_around s_0 y3) rfl) (cwV 1 hts gX4_patchFrom_X4_around rfl rfl rfl ddV_X4_around ⟨Nat.le_of_ble_eq_true rfl, Nat.le_of_ble_eq_true rfl⟩) (preV_ (ci := 4) (q0 := 0) rfl rfl hP hK hD hN) rfl rfl hl.1 rfl (lv_room (Nat.le_of_ble_eq_true rfl)) dX4_patchFrom_15 ⟨Nat.le_of_ble_eq_true rfl, Nat.le_of_ble_eq_true rfl⟩) (fun H locs hP hD hS => ?_)
        have hP : va_P G vwCl [(a_0, wv s_0)] H := hP
        have hD : va_D A [(a_0, wv s_0)] := hD
        refine lv_aload_n hx hb dX4_patchFrom_18 rfl (lv_at hl 0 rfl) ?_
        refine va_get (D := G) (ci := 4) (v := .long (w_frozen s_0)) (C := RX4) (T := TX4) (N := 12) hx hb hts iw_X4_patchFrom_X4 hown hK hP 0 rfl rfl 4 (by decide) (hts (.fieldLink RX4 27 "PaneFrost$Window" "frozen" "J") (by decide +kernel)) (fun _ h9 => h9) rfl dX4_patchFrom_19 ?_
        refine lv_land hx hb dX4_patchFrom_22 ?_
        refine lv_lor hx hb dX4_patchFrom_23 ?_
        refine lv_topl (fun u_2 eu_2 => ?_)
        have hf := lt_e eu_2 hf
        refine lv_lstore (lv' := [(6, .long u_2), (0, .ref a_0), (3, .long y3), (5, .int y5)]) hx hb dX4_patchFrom_24 hl (by decide) rfl (fun ls hl => ?_)
        refine lv_lload hx hb dX4_patchFrom_26 (lv_at hl 0 rfl) ?_
        refine lv_lload_n hx hb dX4_patchFrom_28 rfl (lv_at hl 2 rfl) ?_
        refine W.lcmp hx hb dX4_patchFrom_29 ?_
        refine lv_if_ne (tgt := 35) hx hb dX4_patchFrom_30 (by decide) (fun h_3 => ?_) (fun h_3 => ?_)
        · have hf := in_ (fun q => h_3 (lgc_eq.mpr q)) hf
          refine lv_lload hx hb dX4_patchFrom_35 (lv_at hl 0 rfl) ?_
          refine lv_lstore_n (lv' := [(3, .long u_2), (6, .long u_2), (0, .ref a_0), (5, .int y5)]) hx hb dX4_patchFrom_37 rfl hl (by decide) rfl (fun ls hl => ?_)
          refine lv_iinc (v := (y5 + 1)) (lv' := [(5, .int (y5 + 1)), (3, .long u_2), (6, .long u_2), (0, .ref a_0)]) hx hb dX4_patchFrom_38 hl (k := 3) rfl rfl (by decide) rfl (fun ls hl => ?_)
          refine lv_goto (tgt := 5) hx hb dX4_patchFrom_41 (by decide) ?_
          exact ih u_2 (y5 + 1) _ _ hf hP hD hS ls (lv_sub hl [3, 1, 0] rfl)
        · have hf := ip_ (lgc_eq.mp h_3) hf
          refine lv_lload_n hx hb dX4_patchFrom_33 rfl (lv_at hl 2 rfl) ?_
          obtain rfl := Option.some.inj hf
          exact kr_l hx hb hr hlocks rfl hP hK hD hN hS hS.2.2 dX4_patchFrom_34
  have hl := lv_entry [.ref a_0, .long x1] (n := 8) (Nat.le_of_ble_eq_true rfl)
  rw [lg_entry_eq]
  generalize (lg_sl [.ref a_0, .long x1] ++ List.replicate (8 - (lg_sl [.ref a_0, .long x1]).length) Slot.unset).toArray = ls at hl ⊢
  have hl : lv_has ls 8 [(0, .ref a_0), (1, .long x1)] := hl
  unfold f_X4_patchFrom at hf
  refine lv_lload_n hx hb dX4_patchFrom_0 rfl (lv_at hl 1 rfl) ?_
  refine lv_lstore_n (lv' := [(3, .long x1), (0, .ref a_0), (1, .long x1)]) hx hb dX4_patchFrom_1 rfl hl (by decide) rfl (fun ls hl => ?_)
  refine lv_iconst (v := 0) hx hb dX4_patchFrom_2 (by decide) ?_
  refine lv_istore (lv' := [(5, .int 0), (3, .long x1), (0, .ref a_0), (1, .long x1)]) hx hb dX4_patchFrom_3 hl (by decide) rfl (fun ls hl => ?_)
  exact bl_5 n x1 0 _ _ hf hP hD hS ls (lv_sub hl [2, 1, 0] rfl)
set_option maxHeartbeats 4000000 in
set_option maxRecDepth 100000 in
theorem c_X4_patchAt {l : Launch} (G : va_G) (cy : Nat → ClassId) (a_0 : Nat) (sz : Nat) (s_0 : WT) (x1 : Int32) (n : Nat) (R : Int64) (hf : f_X4_patchAt n s_0 x1 = some R) : Met l yX4_patchAt wsX4_patchAt ({ frames := 4, cells := 0, slots := 0, locals := 98 } : Room) (va_Pc [.ref a_0, .int x1] (pcW G cy [(a_0, wv s_0)] sz)) (va_Ql (fun r (_ : Unit) => r = R) (fun _ t => Wd G cy (va_A [(a_0, wv s_0)] sz) [(a_0, wv s_0)] t) (va_A [(a_0, wv s_0)] sz)) 0 0 (va_A [(a_0, wv s_0)] sz) := by
  refine Met.ofW (cc := cX4_patchAt) (maxL := 2) (ret := (some .long)) (by decide) rfl ?_
  intro p e s m args below meth c s₁ B hml hv
  obtain ⟨rfl, hsz, hP, hK, hD0, hN⟩ := hv
  have hx := B.exec
  have hb := B.bytes
  have hr := B.returns
  have hts := atoms_spec (ws := wsX4_patchAt) B.pre
  have hown : s.vm.findClass RX4 = some m.cls := findClass_of_methodNamed B.named
  have hlocks := B.notSynchronized
  subst hsz
  have hD := hD0.self (sz := s.heap.size)
  generalize hAe : va_A [(a_0, wv s_0)] s.heap.size = A at hD ⊢
  have hA : ∀ q : Nat, s.heap.size ≤ q → A q := fun q h => by rw [← hAe]; exact Or.inr h
  have hS : va_S A s.heap s.heap [] := va_S.rf
  have hP : va_P G vwCl [(a_0, wv s_0)] s.heap := hP
  have hl := lv_entry [.ref a_0, .int x1] (n := 2) (Nat.le_of_ble_eq_true rfl)
  rw [lg_entry_eq]
  generalize (lg_sl [.ref a_0, .int x1] ++ List.replicate (2 - (lg_sl [.ref a_0, .int x1]).length) Slot.unset).toArray = ls at hl ⊢
  have hl : lv_has ls 2 [(0, .ref a_0), (1, .int x1)] := hl
  unfold f_X4_patchAt at hf
  refine lv_aload_n hx hb dX4_patchAt_0 rfl (lv_at hl 0 rfl) ?_
  refine lv_lconst (v := 1) hx hb dX4_patchAt_1 rfl ?_
  refine lv_iload_n hx hb dX4_patchAt_2 rfl (lv_at hl 1 rfl) ?_
  refine lv_lshl (v := (jsl 1 x1)) hx hb dX4_patchAt_3 rfl ?_
  refine lv_aload_n hx hb dX4_patchAt_4 rfl (lv_at hl 0 rfl) ?_
  refine va_get (D := G) (ci := 4) (v := .long (w_frozen s_0)) (C := RX4) (T := TX4) (N := 12) hx hb hts iw_X4_patchAt_X4 hown hK hP 0 rfl rfl 4 (by decide) (hts (.fieldLink RX4 27 "PaneFrost$Window" "frozen" "J") (by decide +kernel)) (fun _ h9 => h9) rfl dX4_patchAt_5 ?_
  refine lv_land hx hb dX4_patchAt_8 ?_
  obtain ⟨r_1, hh_r_1, hf⟩ := obd_some hf
  refine kc_l (w1 := [(a_0, wv s_0)]) (wr := []) hP hD hS hA [0] [] rfl rfl rfl (by decide) (va_runV (As := [.long ((jsl 1 x1) &&& (w_frozen s_0))]) (rest := []) ⟨hx, hb, hml, hown, hts⟩ (c_X4_patchFrom (l := l) G cy a_0 s.heap.size s_0 ((jsl 1 x1) &&& (w_frozen s_0)) n r_1 hh_r_1) (cwV 1 hts gX4_patchAt_X4_patchFrom rfl rfl rfl ddV_X4_patchFrom ⟨Nat.le_of_ble_eq_true rfl, Nat.le_of_ble_eq_true rfl⟩) (preV_ (ci := 4) (q0 := 0) rfl rfl hP hK hD hN) rfl rfl hl.1 rfl (lv_room (Nat.le_of_ble_eq_true rfl)) dX4_patchAt_9 ⟨Nat.le_of_ble_eq_true rfl, Nat.le_of_ble_eq_true rfl⟩) (fun H locs hP hD hS => ?_)
  have hP : va_P G vwCl [(a_0, wv s_0)] H := hP
  have hD : va_D A [(a_0, wv s_0)] := hD
  obtain rfl := Option.some.inj hf
  exact kr_l hx hb hr hlocks rfl hP hK hD hN hS hS.2.2 dX4_patchAt_12
set_option maxHeartbeats 4000000 in
set_option maxRecDepth 100000 in
theorem c_X4_patches {l : Launch} (G : va_G) (cy : Nat → ClassId) (a_0 : Nat) (sz : Nat) (s_0 : WT) (n : Nat) (R : Int32) (hf : f_X4_patches n s_0 = some R) : Met l yX4_patches wsX4_patches ({ frames := 4, cells := 0, slots := 0, locals := 98 } : Room) (va_Pc [.ref a_0] (pcW G cy [(a_0, wv s_0)] sz)) (va_Qi (fun r (_ : Unit) => r = R) (fun _ t => Wd G cy (va_A [(a_0, wv s_0)] sz) [(a_0, wv s_0)] t) (va_A [(a_0, wv s_0)] sz)) 0 0 (va_A [(a_0, wv s_0)] sz) := by
  refine Met.ofW (cc := cX4_patches) (maxL := 5) (ret := (some .int)) (by decide) rfl ?_
  intro p e s m args below meth c s₁ B hml hv
  obtain ⟨rfl, hsz, hP, hK, hD0, hN⟩ := hv
  have hx := B.exec
  have hb := B.bytes
  have hr := B.returns
  have hts := atoms_spec (ws := wsX4_patches) B.pre
  have hown : s.vm.findClass RX4 = some m.cls := findClass_of_methodNamed B.named
  have hlocks := B.notSynchronized
  subst hsz
  have hD := hD0.self (sz := s.heap.size)
  generalize hAe : va_A [(a_0, wv s_0)] s.heap.size = A at hD ⊢
  have hA : ∀ q : Nat, s.heap.size ≤ q → A q := fun q h => by rw [← hAe]; exact Or.inr h
  have hS : va_S A s.heap s.heap [] := va_S.rf
  have hP : va_P G vwCl [(a_0, wv s_0)] s.heap := hP
  have bl_10 : ∀ (k : Nat), ∀ (y1 : Int64) (y3 : Int32) (y4 : Int32) (H : Heap) (locs : List Loc), f_X4_patches_b10 n s_0 k y1 y3 y4 = some R → va_P G vwCl [(a_0, wv s_0)] H → va_D A [(a_0, wv s_0)] → va_S A s.heap H locs → ∀ (ls : Array Slot), lv_has ls 5 [(0, .ref a_0), (1, .long y1), (3, .int y3), (4, .int y4)] → W p l e ({ frames := 4, cells := 0, slots := 0, locals := 98 } : Room) s m [.ref a_0].toArray below meth c H locs 0 0 (MQ below (va_Qi (fun r (_ : Unit) => r = R) (fun _ t => Wd G cy A [(a_0, wv s_0)] t) A) [.ref a_0].toArray s 0 0 A) (F0 m 10 ls []) := by
    intro k
    induction k with
    | zero =>
      intro y1 y3 y4 H locs hf; cases hf
    | succ k ih =>
      intro y1 y3 y4 H locs hf hP hD hS ls hl
      have hf := (f_X4_patches_b10_s n s_0 k y1 y3 y4).symm.trans hf
      refine lv_iload hx hb dX4_patches_10 (lv_at hl 3 rfl) ?_
      refine lv_bipush (v := 64) hx hb dX4_patches_12 (by decide) ?_
      refine lv_icmp_ge (tgt := 47) hx hb dX4_patches_14 (by decide) (fun h_1 => ?_) (fun h_1 => ?_)
      · have hf := ip_ h_1 hf
        refine lv_iload_n hx hb dX4_patches_47 rfl (lv_at hl 2 rfl) ?_
        obtain rfl := Option.some.inj hf
        exact kr_i hx hb hr hlocks rfl hP hK hD hN hS hS.2.2 dX4_patches_48
      · have hf := in_ h_1 hf
        refine lv_lload_n hx hb dX4_patches_17 rfl (lv_at hl 1 rfl) ?_
        refine lv_lconst (v := 0) hx hb dX4_patches_18 rfl ?_
        refine W.lcmp hx hb dX4_patches_19 ?_
        refine lv_if_eq (tgt := 47) hx hb dX4_patches_20 (by decide) (fun h_2 => ?_) (fun h_2 => ?_)
        · have hf := ip_ (lgc_eq.mp h_2) hf
          refine lv_iload_n hx hb dX4_patches_47 rfl (lv_at hl 2 rfl) ?_
          obtain rfl := Option.some.inj hf
          exact kr_i hx hb hr hlocks rfl hP hK hD hN hS hS.2.2 dX4_patches_48
        · have hf := in_ (fun q => h_2 (lgc_eq.mpr q)) hf
          refine lv_lload_n hx hb dX4_patches_23 rfl (lv_at hl 1 rfl) ?_
          refine lv_aload_n hx hb dX4_patches_24 rfl (lv_at hl 0 rfl) ?_
          refine lv_lload_n hx hb dX4_patches_25 rfl (lv_at hl 1 rfl) ?_
          refine lv_lload_n hx hb dX4_patches_26 rfl (lv_at hl 1 rfl) ?_
          refine lv_lneg hx hb dX4_patches_27 ?_
          refine lv_land hx hb dX4_patches_28 ?_
          obtain ⟨r_3, hh_r_3, hf⟩ := obd_some hf
          refine kc_l (w1 := [(a_0, wv s_0)]) (wr := []) hP hD hS hA [0] [] rfl rfl rfl (by decide) (va_runV (As := [.long (y1 &&& (-y1))]) (rest := [.long y1]) ⟨hx, hb, hml, hown, hts⟩ (c_X4_patchFrom (l := l) G cy a_0 H.size s_0 (y1 &&& (-y1)) n r_3 hh_r_3) (cwV 1 hts gX4_patches_X4_patchFrom rfl rfl rfl ddV_X4_patchFrom ⟨Nat.le_of_ble_eq_true rfl, Nat.le_of_ble_eq_true rfl⟩) (preV_ (ci := 4) (q0 := 0) rfl rfl hP hK hD hN) rfl rfl hl.1 rfl (lv_room (Nat.le_of_ble_eq_true rfl)) dX4_patches_29 ⟨Nat.le_of_ble_eq_true rfl, Nat.le_of_ble_eq_true rfl⟩) (fun H locs hP hD hS => ?_)
          have hP : va_P G vwCl [(a_0, wv s_0)] H := hP
          have hD : va_D A [(a_0, wv s_0)] := hD
          refine lv_ldc2 (v := (-1)) hx hb hown (hts (.constantLong RX4 82 (-1)) (by decide +kernel)) dX4_patches_32 ?_
          refine lv_lxor hx hb dX4_patches_35 ?_
          refine lv_land hx hb dX4_patches_36 ?_
          refine lv_lstore_n (lv' := [(1, .long (y1 &&& (r_3 ^^^ (-1)))), (0, .ref a_0), (3, .int y3), (4, .int y4)]) hx hb dX4_patches_37 rfl hl (by decide) rfl (fun ls hl => ?_)
          refine lv_iinc (v := (y3 + 1)) (lv' := [(3, .int (y3 + 1)), (1, .long (y1 &&& (r_3 ^^^ (-1)))), (0, .ref a_0), (4, .int y4)]) hx hb dX4_patches_38 hl (k := 2) rfl rfl (by decide) rfl (fun ls hl => ?_)
          refine lv_iinc (v := (y4 + 1)) (lv' := [(4, .int (y4 + 1)), (3, .int (y3 + 1)), (1, .long (y1 &&& (r_3 ^^^ (-1)))), (0, .ref a_0)]) hx hb dX4_patches_41 hl (k := 3) rfl rfl (by decide) rfl (fun ls hl => ?_)
          refine lv_goto (tgt := 10) hx hb dX4_patches_44 (by decide) ?_
          exact ih (y1 &&& (r_3 ^^^ (-1))) (y3 + 1) (y4 + 1) _ _ hf hP hD hS ls (lv_sub hl [3, 2, 1, 0] rfl)
  have hl := lv_entry [.ref a_0] (n := 5) (Nat.le_of_ble_eq_true rfl)
  rw [lg_entry_eq]
  generalize (lg_sl [.ref a_0] ++ List.replicate (5 - (lg_sl [.ref a_0]).length) Slot.unset).toArray = ls at hl ⊢
  have hl : lv_has ls 5 [(0, .ref a_0)] := hl
  unfold f_X4_patches at hf
  refine lv_aload_n hx hb dX4_patches_0 rfl (lv_at hl 0 rfl) ?_
  refine va_get (D := G) (ci := 4) (v := .long (w_frozen s_0)) (C := RX4) (T := TX4) (N := 12) hx hb hts iw_X4_patches_X4 hown hK hP 0 rfl rfl 4 (by decide) (hts (.fieldLink RX4 27 "PaneFrost$Window" "frozen" "J") (by decide +kernel)) (fun _ h9 => h9) rfl dX4_patches_1 ?_
  refine lv_lstore_n (lv' := [(1, .long (w_frozen s_0)), (0, .ref a_0)]) hx hb dX4_patches_4 rfl hl (by decide) rfl (fun ls hl => ?_)
  refine lv_iconst (v := 0) hx hb dX4_patches_5 (by decide) ?_
  refine lv_istore_n (lv' := [(3, .int 0), (1, .long (w_frozen s_0)), (0, .ref a_0)]) hx hb dX4_patches_6 rfl hl (by decide) rfl (fun ls hl => ?_)
  refine lv_iconst (v := 0) hx hb dX4_patches_7 (by decide) ?_
  refine lv_istore (lv' := [(4, .int 0), (3, .int 0), (1, .long (w_frozen s_0)), (0, .ref a_0)]) hx hb dX4_patches_8 hl (by decide) rfl (fun ls hl => ?_)
  exact bl_10 n (w_frozen s_0) 0 0 _ _ hf hP hD hS ls (lv_sub hl [3, 2, 1, 0] rfl)
set_option maxHeartbeats 4000000 in
set_option maxRecDepth 100000 in
theorem c_X4_largestPatch {l : Launch} (G : va_G) (cy : Nat → ClassId) (a_0 : Nat) (sz : Nat) (s_0 : WT) (n : Nat) (R : Int32) (hf : f_X4_largestPatch n s_0 = some R) : Met l yX4_largestPatch wsX4_largestPatch ({ frames := 4, cells := 0, slots := 0, locals := 98 } : Room) (va_Pc [.ref a_0] (pcW G cy [(a_0, wv s_0)] sz)) (va_Qi (fun r (_ : Unit) => r = R) (fun _ t => Wd G cy (va_A [(a_0, wv s_0)] sz) [(a_0, wv s_0)] t) (va_A [(a_0, wv s_0)] sz)) 0 0 (va_A [(a_0, wv s_0)] sz) := by
  refine Met.ofW (cc := cX4_largestPatch) (maxL := 7) (ret := (some .int)) (by decide) rfl ?_
  intro p e s m args below meth c s₁ B hml hv
  obtain ⟨rfl, hsz, hP, hK, hD0, hN⟩ := hv
  have hx := B.exec
  have hb := B.bytes
  have hr := B.returns
  have hts := atoms_spec (ws := wsX4_largestPatch) B.pre
  have hown : s.vm.findClass RX4 = some m.cls := findClass_of_methodNamed B.named
  have hlocks := B.notSynchronized
  subst hsz
  have hD := hD0.self (sz := s.heap.size)
  generalize hAe : va_A [(a_0, wv s_0)] s.heap.size = A at hD ⊢
  have hA : ∀ q : Nat, s.heap.size ≤ q → A q := fun q h => by rw [← hAe]; exact Or.inr h
  have hS : va_S A s.heap s.heap [] := va_S.rf
  have hP : va_P G vwCl [(a_0, wv s_0)] s.heap := hP
  have bl_10 : ∀ (k : Nat), ∀ (y1 : Int64) (y3 : Int32) (y4 : Int32) (H : Heap) (locs : List Loc), f_X4_largestPatch_b10 n s_0 k y1 y3 y4 = some R → va_P G vwCl [(a_0, wv s_0)] H → va_D A [(a_0, wv s_0)] → va_S A s.heap H locs → ∀ (ls : Array Slot), lv_has ls 7 [(0, .ref a_0), (1, .long y1), (3, .int y3), (4, .int y4)] → W p l e ({ frames := 4, cells := 0, slots := 0, locals := 98 } : Room) s m [.ref a_0].toArray below meth c H locs 0 0 (MQ below (va_Qi (fun r (_ : Unit) => r = R) (fun _ t => Wd G cy A [(a_0, wv s_0)] t) A) [.ref a_0].toArray s 0 0 A) (F0 m 10 ls []) := by
    intro k
    induction k with
    | zero =>
      intro y1 y3 y4 H locs hf; cases hf
    | succ k ih =>
      intro y1 y3 y4 H locs hf hP hD hS ls hl
      have hf := (f_X4_largestPatch_b10_s n s_0 k y1 y3 y4).symm.trans hf
      refine lv_iload hx hb dX4_largestPatch_10 (lv_at hl 3 rfl) ?_
      refine lv_bipush (v := 64) hx hb dX4_largestPatch_12 (by decide) ?_
      refine lv_icmp_ge (tgt := 58) hx hb dX4_largestPatch_14 (by decide) (fun h_1 => ?_) (fun h_1 => ?_)
      · have hf := ip_ h_1 hf
        refine lv_iload_n hx hb dX4_largestPatch_58 rfl (lv_at hl 2 rfl) ?_
        obtain rfl := Option.some.inj hf
        exact kr_i hx hb hr hlocks rfl hP hK hD hN hS hS.2.2 dX4_largestPatch_59
      · have hf := in_ h_1 hf
        refine lv_lload_n hx hb dX4_largestPatch_17 rfl (lv_at hl 1 rfl) ?_
        refine lv_lconst (v := 0) hx hb dX4_largestPatch_18 rfl ?_
        refine W.lcmp hx hb dX4_largestPatch_19 ?_
        refine lv_if_eq (tgt := 58) hx hb dX4_largestPatch_20 (by decide) (fun h_2 => ?_) (fun h_2 => ?_)
        · have hf := ip_ (lgc_eq.mp h_2) hf
          refine lv_iload_n hx hb dX4_largestPatch_58 rfl (lv_at hl 2 rfl) ?_
          obtain rfl := Option.some.inj hf
          exact kr_i hx hb hr hlocks rfl hP hK hD hN hS hS.2.2 dX4_largestPatch_59
        · have hf := in_ (fun q => h_2 (lgc_eq.mpr q)) hf
          refine lv_aload_n hx hb dX4_largestPatch_23 rfl (lv_at hl 0 rfl) ?_
          refine lv_lload_n hx hb dX4_largestPatch_24 rfl (lv_at hl 1 rfl) ?_
          refine lv_lload_n hx hb dX4_largestPatch_25 rfl (lv_at hl 1 rfl) ?_
          refine lv_lneg hx hb dX4_largestPatch_26 ?_
          refine lv_land hx hb dX4_largestPatch_27 ?_
          obtain ⟨r_3, hh_r_3, hf⟩ := obd_some hf
          refine kc_l (w1 := [(a_0, wv s_0)]) (wr := []) hP hD hS hA [0] [] rfl rfl rfl (by decide) (va_runV (As := [.long (y1 &&& (-y1))]) (rest := []) ⟨hx, hb, hml, hown, hts⟩ (c_X4_patchFrom (l := l) G cy a_0 H.size s_0 (y1 &&& (-y1)) n r_3 hh_r_3) (cwV 1 hts gX4_largestPatch_X4_patchFrom rfl rfl rfl ddV_X4_patchFrom ⟨Nat.le_of_ble_eq_true rfl, Nat.le_of_ble_eq_true rfl⟩) (preV_ (ci := 4) (q0 := 0) rfl rfl hP hK hD hN) rfl rfl hl.1 rfl (lv_room (Nat.le_of_ble_eq_true rfl)) dX4_largestPatch_28 ⟨Nat.le_of_ble_eq_true rfl, Nat.le_of_ble_eq_true rfl⟩) (fun H locs hP hD hS => ?_)
          have hP : va_P G vwCl [(a_0, wv s_0)] H := hP
          have hD : va_D A [(a_0, wv s_0)] := hD
          refine lv_lstore (lv' := [(5, .long r_3), (0, .ref a_0), (1, .long y1), (3, .int y3), (4, .int y4)]) hx hb dX4_largestPatch_31 hl (by decide) rfl (fun ls hl => ?_)
          refine lv_lload_n hx hb dX4_largestPatch_33 rfl (lv_at hl 2 rfl) ?_
          refine lv_lload hx hb dX4_largestPatch_34 (lv_at hl 0 rfl) ?_
          refine lv_ldc2 (v := (-1)) hx hb hown (hts (.constantLong RX4 82 (-1)) (by decide +kernel)) dX4_largestPatch_36 ?_
          refine lv_lxor hx hb dX4_largestPatch_39 ?_
          refine lv_land hx hb dX4_largestPatch_40 ?_
          refine lv_lstore_n (lv' := [(1, .long (y1 &&& (r_3 ^^^ (-1)))), (5, .long r_3), (0, .ref a_0), (3, .int y3), (4, .int y4)]) hx hb dX4_largestPatch_41 rfl hl (by decide) rfl (fun ls hl => ?_)
          refine lv_iload_n hx hb dX4_largestPatch_42 rfl (lv_at hl 3 rfl) ?_
          refine lv_lload hx hb dX4_largestPatch_43 (lv_at hl 1 rfl) ?_
          refine kc_i (w1 := []) (wr := [(a_0, wv s_0)]) hP hD hS hA [] [0] rfl rfl rfl (by decide) (va_runS (As := [.long r_3]) (rest := [.int y3]) ⟨hx, hb, hml, hown, hts⟩ (c_J13_bitCount_95d88 (l := l) G cy  H.size r_3  (f_J13_bitCount_95d88 r_3) rfl) (va_cwS 1 hts gX4_largestPatch_J13_bitCount_95d88 rfl rfl rfl ddN_J13_bitCount_95d88 ⟨Nat.le_of_ble_eq_true rfl, Nat.le_of_ble_eq_true rfl⟩) (preS_ (hP.sub (ws' := []) [] rfl) hK (hD.sub (ws' := []) [] rfl rfl) hN) rfl rfl hl.1 rfl (lv_room (Nat.le_of_ble_eq_true rfl)) dX4_largestPatch_45 ⟨Nat.le_of_ble_eq_true rfl, Nat.le_of_ble_eq_true rfl⟩) (fun H locs hP hD hS => ?_)
          have hP : va_P G vwCl [(a_0, wv s_0)] H := hP
          have hD : va_D A [(a_0, wv s_0)] := hD
          refine va_mmax hx hb (hml.trans hl.1.symm) hown (hts (.methodLink RX4 120 Lib.Math.max.name) (by decide +kernel)) (hts (.static Lib.Math.max.name) (by decide +kernel)) (hts (.initialized "java/lang/Math") (by decide +kernel)) (hts (.code Lib.Math.max.name Lib.Math.max.code 2 (some .int)) (by decide +kernel)) (Nat.le_of_ble_eq_true rfl) (Nat.le_of_ble_eq_true rfl) (Nat.zero_le _) (Nat.zero_le _) dX4_largestPatch_48 ?_
          refine lv_istore_n (lv' := [(3, .int (imx y3 (f_J13_bitCount_95d88 r_3))), (1, .long (y1 &&& (r_3 ^^^ (-1)))), (5, .long r_3), (0, .ref a_0), (4, .int y4)]) hx hb dX4_largestPatch_51 rfl hl (by decide) rfl (fun ls hl => ?_)
          refine lv_iinc (v := (y4 + 1)) (lv' := [(4, .int (y4 + 1)), (3, .int (imx y3 (f_J13_bitCount_95d88 r_3))), (1, .long (y1 &&& (r_3 ^^^ (-1)))), (5, .long r_3), (0, .ref a_0)]) hx hb dX4_largestPatch_52 hl (k := 4) rfl rfl (by decide) rfl (fun ls hl => ?_)
          refine lv_goto (tgt := 10) hx hb dX4_largestPatch_55 (by decide) ?_
          exact ih (y1 &&& (r_3 ^^^ (-1))) (imx y3 (f_J13_bitCount_95d88 r_3)) (y4 + 1) _ _ hf hP hD hS ls (lv_sub hl [4, 2, 1, 0] rfl)
  have hl := lv_entry [.ref a_0] (n := 7) (Nat.le_of_ble_eq_true rfl)
  rw [lg_entry_eq]
  generalize (lg_sl [.ref a_0] ++ List.replicate (7 - (lg_sl [.ref a_0]).length) Slot.unset).toArray = ls at hl ⊢
  have hl : lv_has ls 7 [(0, .ref a_0)] := hl
  unfold f_X4_largestPatch at hf
  refine lv_aload_n hx hb dX4_largestPatch_0 rfl (lv_at hl 0 rfl) ?_
  refine va_get (D := G) (ci := 4) (v := .long (w_frozen s_0)) (C := RX4) (T := TX4) (N := 12) hx hb hts iw_X4_largestPatch_X4 hown hK hP 0 rfl rfl 4 (by decide) (hts (.fieldLink RX4 27 "PaneFrost$Window" "frozen" "J") (by decide +kernel)) (fun _ h9 => h9) rfl dX4_largestPatch_1 ?_
  refine lv_lstore_n (lv' := [(1, .long (w_frozen s_0)), (0, .ref a_0)]) hx hb dX4_largestPatch_4 rfl hl (by decide) rfl (fun ls hl => ?_)
  refine lv_iconst (v := 0) hx hb dX4_largestPatch_5 (by decide) ?_
  refine lv_istore_n (lv' := [(3, .int 0), (1, .long (w_frozen s_0)), (0, .ref a_0)]) hx hb dX4_largestPatch_6 rfl hl (by decide) rfl (fun ls hl => ?_)
  refine lv_iconst (v := 0) hx hb dX4_largestPatch_7 (by decide) ?_
  refine lv_istore (lv' := [(4, .int 0), (3, .int 0), (1, .long (w_frozen s_0)), (0, .ref a_0)]) hx hb dX4_largestPatch_8 hl (by decide) rfl (fun ls hl => ?_)
  exact bl_10 n (w_frozen s_0) 0 0 _ _ hf hP hD hS ls (lv_sub hl [3, 2, 1, 0] rfl)
set_option maxHeartbeats 4000000 in
set_option maxRecDepth 100000 in
theorem c_X4_turn {l : Launch} (G : va_G) (cy : Nat → ClassId) (a_0 : Nat) (sz : Nat) (s_0 : WT) (x1 : Int32)  (R : Int32 × WT) (hf : f_X4_turn s_0 x1 = R) : Met l yX4_turn wsX4_turn ({ frames := 2, cells := 0, slots := 0, locals := 43 } : Room) (va_Pc [.ref a_0, .int x1] (pcW G cy [(a_0, wv s_0)] sz)) (va_Qi (fun r (_ : Unit) => r = R.1) (fun _ t => Wd G cy (va_A [(a_0, wv s_0)] sz) [(a_0, wv R.2)] t) (va_A [(a_0, wv s_0)] sz)) 0 0 (va_A [(a_0, wv s_0)] sz) := by
  refine Met.ofW (cc := cX4_turn) (maxL := 2) (ret := (some .int)) (by decide) rfl ?_
  intro p e s m args below meth c s₁ B hml hv
  obtain ⟨rfl, hsz, hP, hK, hD0, hN⟩ := hv
  have hx := B.exec
  have hb := B.bytes
  have hr := B.returns
  have hts := atoms_spec (ws := wsX4_turn) B.pre
  have hown : s.vm.findClass RX4 = some m.cls := findClass_of_methodNamed B.named
  have hlocks := B.notSynchronized
  subst hsz
  have hD := hD0.self (sz := s.heap.size)
  generalize hAe : va_A [(a_0, wv s_0)] s.heap.size = A at hD ⊢
  have hA : ∀ q : Nat, s.heap.size ≤ q → A q := fun q h => by rw [← hAe]; exact Or.inr h
  have hS : va_S A s.heap s.heap [] := va_S.rf
  have hP : va_P G vwCl [(a_0, wv s_0)] s.heap := hP
  have hl := lv_entry [.ref a_0, .int x1] (n := 2) (Nat.le_of_ble_eq_true rfl)
  rw [lg_entry_eq]
  generalize (lg_sl [.ref a_0, .int x1] ++ List.replicate (2 - (lg_sl [.ref a_0, .int x1]).length) Slot.unset).toArray = ls at hl ⊢
  have hl : lv_has ls 2 [(0, .ref a_0), (1, .int x1)] := hl
  unfold f_X4_turn at hf
  refine lv_aload_n hx hb dX4_turn_0 rfl (lv_at hl 0 rfl) ?_
  refine lv_iload_n hx hb dX4_turn_1 rfl (lv_at hl 1 rfl) ?_
  refine kc_i (w1 := [(a_0, wv s_0)]) (wr := []) hP hD hS hA [0] [] rfl rfl rfl (by decide) (va_runV (As := [.int x1]) (rest := []) ⟨hx, hb, hml, hown, hts⟩ (c_X4_hasCell (l := l) G cy a_0 s.heap.size s_0 x1  (f_X4_hasCell s_0 x1) rfl) (cwV 1 hts gX4_turn_X4_hasCell rfl rfl rfl ddV_X4_hasCell ⟨Nat.le_of_ble_eq_true rfl, Nat.le_of_ble_eq_true rfl⟩) (preV_ (ci := 4) (q0 := 0) rfl rfl hP hK hD hN) rfl rfl hl.1 rfl (lv_room (Nat.le_of_ble_eq_true rfl)) dX4_turn_2 ⟨Nat.le_of_ble_eq_true rfl, Nat.le_of_ble_eq_true rfl⟩) (fun H locs hP hD hS => ?_)
  have hP : va_P G vwCl [(a_0, wv s_0)] H := hP
  have hD : va_D A [(a_0, wv s_0)] := hD
  refine lv_if_ne (tgt := 10) hx hb dX4_turn_5 (by decide) (fun h_1 => ?_) (fun h_1 => ?_)
  · have hf := ip_ (bI_n0 h_1) hf
    refine lv_aload_n hx hb dX4_turn_10 rfl (lv_at hl 0 rfl) ?_
    refine lv_dup hx hb dX4_turn_11 rfl ?_
    refine va_get (D := G) (ci := 4) (v := .long (w_frozen s_0)) (C := RX4) (T := TX4) (N := 12) hx hb hts iw_X4_turn_X4 hown hK hP 0 rfl rfl 4 (by decide) (hts (.fieldLink RX4 27 "PaneFrost$Window" "frozen" "J") (by decide +kernel)) (fun _ h9 => h9) rfl dX4_turn_12 ?_
    refine lv_lconst (v := 1) hx hb dX4_turn_15 rfl ?_
    refine lv_iload_n hx hb dX4_turn_16 rfl (lv_at hl 1 rfl) ?_
    refine lv_lshl (v := (jsl 1 x1)) hx hb dX4_turn_17 rfl ?_
    refine lv_lxor hx hb dX4_turn_18 ?_
    refine va_put (D := G) (ci := 4) (v := .long ((w_frozen s_0) ^^^ (jsl 1 x1))) (ty := .long) (C := RX4) (T := TX4) (N := 12) hx hb hts iw_X4_turn_X4 tyX4 tyX4_ok nmX4 hown hK hP hD hS 0 rfl rfl 4 (by decide) (hts (.fieldLink RX4 27 "PaneFrost$Window" "frozen" "J") (by decide +kernel)) (fun _ h9 => h9) rfl (by decide +kernel) rfl rfl (Nat.le_of_ble_eq_true rfl) dX4_turn_19 (fun H locs hP hD hS => ?_)
    have hP : va_P G vwCl [(a_0, wv (w_rows s_0, w_cells s_0, w_rule s_0, w_nights s_0, ((w_frozen s_0) ^^^ (jsl 1 x1)), w_kinds s_0, w_topRow s_0, w_rightColumn s_0, w_bottomRow s_0, w_leftColumn s_0, w_rightScratches s_0, w_lowerScratches s_0))] H := hP
    have hD : va_D A [(a_0, wv (w_rows s_0, w_cells s_0, w_rule s_0, w_nights s_0, ((w_frozen s_0) ^^^ (jsl 1 x1)), w_kinds s_0, w_topRow s_0, w_rightColumn s_0, w_bottomRow s_0, w_leftColumn s_0, w_rightScratches s_0, w_lowerScratches s_0))] := hD
    refine lv_aload_n hx hb dX4_turn_22 rfl (lv_at hl 0 rfl) ?_
    refine lv_iload_n hx hb dX4_turn_23 rfl (lv_at hl 1 rfl) ?_
    obtain ⟨r_2, hh_r_2⟩ : ∃ z, z = f_X4_isFrozen (w_rows s_0, w_cells s_0, w_rule s_0, w_nights s_0, ((w_frozen s_0) ^^^ (jsl 1 x1)), w_kinds s_0, w_topRow s_0, w_rightColumn s_0, w_bottomRow s_0, w_leftColumn s_0, w_rightScratches s_0, w_lowerScratches s_0) x1 := ⟨_, rfl⟩
    have hf := lt_e hh_r_2 hf
    refine kc_i (w1 := [(a_0, wv (w_rows s_0, w_cells s_0, w_rule s_0, w_nights s_0, ((w_frozen s_0) ^^^ (jsl 1 x1)), w_kinds s_0, w_topRow s_0, w_rightColumn s_0, w_bottomRow s_0, w_leftColumn s_0, w_rightScratches s_0, w_lowerScratches s_0))]) (wr := []) hP hD hS hA [0] [] rfl rfl rfl (by decide) (va_runV (As := [.int x1]) (rest := []) ⟨hx, hb, hml, hown, hts⟩ (c_X4_isFrozen (l := l) G cy a_0 H.size (w_rows s_0, w_cells s_0, w_rule s_0, w_nights s_0, ((w_frozen s_0) ^^^ (jsl 1 x1)), w_kinds s_0, w_topRow s_0, w_rightColumn s_0, w_bottomRow s_0, w_leftColumn s_0, w_rightScratches s_0, w_lowerScratches s_0) x1  r_2 hh_r_2.symm) (cwV 1 hts gX4_turn_X4_isFrozen rfl rfl rfl ddV_X4_isFrozen ⟨Nat.le_of_ble_eq_true rfl, Nat.le_of_ble_eq_true rfl⟩) (preV_ (ci := 4) (q0 := 0) rfl rfl hP hK hD hN) rfl rfl hl.1 rfl (lv_room (Nat.le_of_ble_eq_true rfl)) dX4_turn_24 ⟨Nat.le_of_ble_eq_true rfl, Nat.le_of_ble_eq_true rfl⟩) (fun H locs hP hD hS => ?_)
    have hP : va_P G vwCl [(a_0, wv (w_rows s_0, w_cells s_0, w_rule s_0, w_nights s_0, ((w_frozen s_0) ^^^ (jsl 1 x1)), w_kinds s_0, w_topRow s_0, w_rightColumn s_0, w_bottomRow s_0, w_leftColumn s_0, w_rightScratches s_0, w_lowerScratches s_0))] H := hP
    have hD : va_D A [(a_0, wv (w_rows s_0, w_cells s_0, w_rule s_0, w_nights s_0, ((w_frozen s_0) ^^^ (jsl 1 x1)), w_kinds s_0, w_topRow s_0, w_rightColumn s_0, w_bottomRow s_0, w_leftColumn s_0, w_rightScratches s_0, w_lowerScratches s_0))] := hD
    refine lv_if_eq (tgt := 34) hx hb dX4_turn_27 (by decide) (fun h_3 => ?_) (fun h_3 => ?_)
    · have hf := in_ (bI_0 h_3) hf
      refine lv_iconst (v := 0) hx hb dX4_turn_34 (by decide) ?_
      subst hf
      exact kr_i hx hb hr hlocks rfl hP hK hD hN hS hS.2.2 dX4_turn_35
    · have hf := ip_ (bI_n0 h_3) hf
      refine lv_iconst (v := 1) hx hb dX4_turn_30 (by decide) ?_
      refine lv_goto (tgt := 35) hx hb dX4_turn_31 (by decide) ?_
      subst hf
      exact kr_i hx hb hr hlocks rfl hP hK hD hN hS hS.2.2 dX4_turn_35
  · have hf := in_ (bI_0 h_1) hf
    refine lv_iconst (v := (-1)) hx hb dX4_turn_8 (by decide) ?_
    subst hf
    exact kr_i hx hb hr hlocks rfl hP hK hD hN hS hS.2.2 dX4_turn_9
set_option maxHeartbeats 4000000 in
set_option maxRecDepth 100000 in
theorem c_X5_isWithin {l : Launch} (G : va_G) (cy : Nat → ClassId)  (sz : Nat) (x0 : Int32) (x1 : Int32) (x2 : Int32)  (R : Bool) (hf : f_X5_isWithin x0 x1 x2 = R) : Met l yX5_isWithin wsX5_isWithin ({ frames := 0, cells := 0, slots := 0, locals := 0 } : Room) (va_Pc [.int x0, .int x1, .int x2] (pcW G cy [] sz)) (va_Qi (fun r (_ : Unit) => r = bI R) (fun _ t => Wd G cy (va_A [] sz) [] t) (va_A [] sz)) 0 0 (va_A [] sz) := by
  refine Met.ofW (cc := cX5_isWithin) (maxL := 3) (ret := (some .boolean)) (by decide) rfl ?_
  intro p e s m args below meth c s₁ B hml hv
  obtain ⟨rfl, hsz, hP, hK, hD0, hN⟩ := hv
  have hx := B.exec
  have hb := B.bytes
  have hr := B.returns
  have hts := atoms_spec (ws := wsX5_isWithin) B.pre
  have hown : s.vm.findClass RX5 = some m.cls := findClass_of_methodNamed B.named
  have hlocks := B.notSynchronized
  subst hsz
  have hD := hD0.self (sz := s.heap.size)
  generalize hAe : va_A [] s.heap.size = A at hD ⊢
  have hA : ∀ q : Nat, s.heap.size ≤ q → A q := fun q h => by rw [← hAe]; exact Or.inr h
  have hS : va_S A s.heap s.heap [] := va_S.rf
  have hP : va_P G vwCl [] s.heap := hP
  have hl := lv_entry [.int x0, .int x1, .int x2] (n := 3) (Nat.le_of_ble_eq_true rfl)
  rw [lg_entry_eq]
  generalize (lg_sl [.int x0, .int x1, .int x2] ++ List.replicate (3 - (lg_sl [.int x0, .int x1, .int x2]).length) Slot.unset).toArray = ls at hl ⊢
  have hl : lv_has ls 3 [(0, .int x0), (1, .int x1), (2, .int x2)] := hl
  unfold f_X5_isWithin at hf
  refine lv_iload_n hx hb dX5_isWithin_0 rfl (lv_at hl 0 rfl) ?_
  refine lv_iload_n hx hb dX5_isWithin_1 rfl (lv_at hl 1 rfl) ?_
  refine lv_icmp_lt (tgt := 14) hx hb dX5_isWithin_2 (by decide) (fun h_1 => ?_) (fun h_1 => ?_)
  · have hf := ip_ h_1 hf
    refine lv_iconst (v := 0) hx hb dX5_isWithin_14 (by decide) ?_
    subst hf
    exact kr_z (V := bI false) hx hb hr hlocks (bI_nar _) rfl hP hK hD hN hS hS.2.2 dX5_isWithin_15
  · have hf := in_ h_1 hf
    refine lv_iload_n hx hb dX5_isWithin_5 rfl (lv_at hl 0 rfl) ?_
    refine lv_iload_n hx hb dX5_isWithin_6 rfl (lv_at hl 2 rfl) ?_
    refine lv_icmp_gt (tgt := 14) hx hb dX5_isWithin_7 (by decide) (fun h_2 => ?_) (fun h_2 => ?_)
    · have hf := ip_ h_2 hf
      refine lv_iconst (v := 0) hx hb dX5_isWithin_14 (by decide) ?_
      subst hf
      exact kr_z (V := bI false) hx hb hr hlocks (bI_nar _) rfl hP hK hD hN hS hS.2.2 dX5_isWithin_15
    · have hf := in_ h_2 hf
      refine lv_iconst (v := 1) hx hb dX5_isWithin_10 (by decide) ?_
      refine lv_goto (tgt := 15) hx hb dX5_isWithin_11 (by decide) ?_
      subst hf
      exact kr_z (V := bI true) hx hb hr hlocks (bI_nar _) rfl hP hK hD hN hS hS.2.2 dX5_isWithin_15
set_option maxHeartbeats 4000000 in
set_option maxRecDepth 100000 in
theorem c_X4_scrape {l : Launch} (G : va_G) (cy : Nat → ClassId) (a_0 : Nat) (sz : Nat) (s_0 : WT) (x1 : Int32) (x2 : Int32)  (R : Int32 × WT) (hf : f_X4_scrape s_0 x1 x2 = R) : Met l yX4_scrape wsX4_scrape ({ frames := 4, cells := 0, slots := 0, locals := 87 } : Room) (va_Pc [.ref a_0, .int x1, .int x2] (pcW G cy [(a_0, wv s_0)] sz)) (va_Qi (fun r (_ : Unit) => r = R.1) (fun _ t => Wd G cy (va_A [(a_0, wv s_0)] sz) [(a_0, wv R.2)] t) (va_A [(a_0, wv s_0)] sz)) 0 0 (va_A [(a_0, wv s_0)] sz) := by
  refine Met.ofW (cc := cX4_scrape) (maxL := 6) (ret := (some .int)) (by decide) rfl ?_
  intro p e s m args below meth c s₁ B hml hv
  obtain ⟨rfl, hsz, hP, hK, hD0, hN⟩ := hv
  have hx := B.exec
  have hb := B.bytes
  have hr := B.returns
  have hts := atoms_spec (ws := wsX4_scrape) B.pre
  have hown : s.vm.findClass RX4 = some m.cls := findClass_of_methodNamed B.named
  have hlocks := B.notSynchronized
  subst hsz
  have hD := hD0.self (sz := s.heap.size)
  generalize hAe : va_A [(a_0, wv s_0)] s.heap.size = A at hD ⊢
  have hA : ∀ q : Nat, s.heap.size ≤ q → A q := fun q h => by rw [← hAe]; exact Or.inr h
  have hS : va_S A s.heap s.heap [] := va_S.rf
  have hP : va_P G vwCl [(a_0, wv s_0)] s.heap := hP
  have bl_49 : ∀ (c_s_0 : WT) (y1 : Int32) (y2 : Int32) (z0 : Int64) (z1 : Int32) (H : Heap) (locs : List Loc), f_X4_scrape_b49  c_s_0 y1 y2 z0 z1 = R → va_P G vwCl [(a_0, wv c_s_0)] H → va_D A [(a_0, wv c_s_0)] → va_S A s.heap H locs → ∀ (ls : Array Slot), lv_has ls 6 [(0, .ref a_0), (1, .int y1), (2, .int y2)] → W p l e ({ frames := 4, cells := 0, slots := 0, locals := 87 } : Room) s m [.ref a_0, .int x1, .int x2].toArray below meth c H locs 0 0 (MQ below (va_Qi (fun r (_ : Unit) => r = R.1) (fun _ t => Wd G cy A [(a_0, wv R.2)] t) A) [.ref a_0, .int x1, .int x2].toArray s 0 0 A) (F0 m 49 ls [.int z1, .long z0]) := by
    intro c_s_0 y1 y2 z0 z1 H locs hf hP hD hS ls hl
    unfold f_X4_scrape_b49 at hf
    refine lv_lshl (v := (jsl z0 z1)) hx hb dX4_scrape_49 rfl ?_
    refine lv_lstore (lv' := [(4, .long (jsl z0 z1)), (0, .ref a_0), (1, .int y1), (2, .int y2)]) hx hb dX4_scrape_50 hl (by decide) rfl (fun ls hl => ?_)
    refine lv_iload_n hx hb dX4_scrape_52 rfl (lv_at hl 3 rfl) ?_
    refine lv_iconst (v := 1) hx hb dX4_scrape_53 (by decide) ?_
    refine lv_icmp_eq (tgt := 62) hx hb dX4_scrape_54 (by decide) (fun h_1 => ?_) (fun h_1 => ?_)
    · have hf := ip_ h_1 hf
      refine lv_aload_n hx hb dX4_scrape_62 rfl (lv_at hl 1 rfl) ?_
      refine lv_dup hx hb dX4_scrape_63 rfl ?_
      refine va_get (D := G) (ci := 4) (v := .long (w_rightScratches c_s_0)) (C := RX4) (T := TX4) (N := 12) hx hb hts iw_X4_scrape_X4 hown hK hP 0 rfl rfl 10 (by decide) (hts (.fieldLink RX4 46 "PaneFrost$Window" "rightScratches" "J") (by decide +kernel)) (fun _ h9 => h9) rfl dX4_scrape_64 ?_
      refine lv_lload hx hb dX4_scrape_67 (lv_at hl 0 rfl) ?_
      refine lv_lxor hx hb dX4_scrape_69 ?_
      refine va_put (D := G) (ci := 4) (v := .long ((w_rightScratches c_s_0) ^^^ (jsl z0 z1))) (ty := .long) (C := RX4) (T := TX4) (N := 12) hx hb hts iw_X4_scrape_X4 tyX4 tyX4_ok nmX4 hown hK hP hD hS 0 rfl rfl 10 (by decide) (hts (.fieldLink RX4 46 "PaneFrost$Window" "rightScratches" "J") (by decide +kernel)) (fun _ h9 => h9) rfl (by decide +kernel) rfl rfl (Nat.le_of_ble_eq_true rfl) dX4_scrape_70 (fun H locs hP hD hS => ?_)
      have hP : va_P G vwCl [(a_0, wv (w_rows c_s_0, w_cells c_s_0, w_rule c_s_0, w_nights c_s_0, w_frozen c_s_0, w_kinds c_s_0, w_topRow c_s_0, w_rightColumn c_s_0, w_bottomRow c_s_0, w_leftColumn c_s_0, ((w_rightScratches c_s_0) ^^^ (jsl z0 z1)), w_lowerScratches c_s_0))] H := hP
      have hD : va_D A [(a_0, wv (w_rows c_s_0, w_cells c_s_0, w_rule c_s_0, w_nights c_s_0, w_frozen c_s_0, w_kinds c_s_0, w_topRow c_s_0, w_rightColumn c_s_0, w_bottomRow c_s_0, w_leftColumn c_s_0, ((w_rightScratches c_s_0) ^^^ (jsl z0 z1)), w_lowerScratches c_s_0))] := hD
      refine lv_goto (tgt := 87) hx hb dX4_scrape_73 (by decide) ?_
      refine lv_aload_n hx hb dX4_scrape_87 rfl (lv_at hl 1 rfl) ?_
      refine lv_iload_n hx hb dX4_scrape_88 rfl (lv_at hl 2 rfl) ?_
      refine lv_iload_n hx hb dX4_scrape_89 rfl (lv_at hl 3 rfl) ?_
      obtain ⟨r_2, hh_r_2⟩ : ∃ z, z = f_X4_isScratched (w_rows c_s_0, w_cells c_s_0, w_rule c_s_0, w_nights c_s_0, w_frozen c_s_0, w_kinds c_s_0, w_topRow c_s_0, w_rightColumn c_s_0, w_bottomRow c_s_0, w_leftColumn c_s_0, ((w_rightScratches c_s_0) ^^^ (jsl z0 z1)), w_lowerScratches c_s_0) y1 y2 := ⟨_, rfl⟩
      have hf := lt_e hh_r_2 hf
      refine kc_i (w1 := [(a_0, wv (w_rows c_s_0, w_cells c_s_0, w_rule c_s_0, w_nights c_s_0, w_frozen c_s_0, w_kinds c_s_0, w_topRow c_s_0, w_rightColumn c_s_0, w_bottomRow c_s_0, w_leftColumn c_s_0, ((w_rightScratches c_s_0) ^^^ (jsl z0 z1)), w_lowerScratches c_s_0))]) (wr := []) hP hD hS hA [0] [] rfl rfl rfl (by decide) (va_runV (As := [.int y1, .int y2]) (rest := []) ⟨hx, hb, hml, hown, hts⟩ (c_X4_isScratched (l := l) G cy a_0 H.size (w_rows c_s_0, w_cells c_s_0, w_rule c_s_0, w_nights c_s_0, w_frozen c_s_0, w_kinds c_s_0, w_topRow c_s_0, w_rightColumn c_s_0, w_bottomRow c_s_0, w_leftColumn c_s_0, ((w_rightScratches c_s_0) ^^^ (jsl z0 z1)), w_lowerScratches c_s_0) y1 y2  r_2 hh_r_2.symm) (cwV 2 hts gX4_scrape_X4_isScratched rfl rfl rfl ddV_X4_isScratched ⟨Nat.le_of_ble_eq_true rfl, Nat.le_of_ble_eq_true rfl⟩) (preV_ (ci := 4) (q0 := 0) rfl rfl hP hK hD hN) rfl rfl hl.1 rfl (lv_room (Nat.le_of_ble_eq_true rfl)) dX4_scrape_90 ⟨Nat.le_of_ble_eq_true rfl, Nat.le_of_ble_eq_true rfl⟩) (fun H locs hP hD hS => ?_)
      have hP : va_P G vwCl [(a_0, wv (w_rows c_s_0, w_cells c_s_0, w_rule c_s_0, w_nights c_s_0, w_frozen c_s_0, w_kinds c_s_0, w_topRow c_s_0, w_rightColumn c_s_0, w_bottomRow c_s_0, w_leftColumn c_s_0, ((w_rightScratches c_s_0) ^^^ (jsl z0 z1)), w_lowerScratches c_s_0))] H := hP
      have hD : va_D A [(a_0, wv (w_rows c_s_0, w_cells c_s_0, w_rule c_s_0, w_nights c_s_0, w_frozen c_s_0, w_kinds c_s_0, w_topRow c_s_0, w_rightColumn c_s_0, w_bottomRow c_s_0, w_leftColumn c_s_0, ((w_rightScratches c_s_0) ^^^ (jsl z0 z1)), w_lowerScratches c_s_0))] := hD
      refine lv_if_eq (tgt := 100) hx hb dX4_scrape_93 (by decide) (fun h_3 => ?_) (fun h_3 => ?_)
      · have hf := in_ (bI_0 h_3) hf
        refine lv_iconst (v := 0) hx hb dX4_scrape_100 (by decide) ?_
        subst hf
        exact kr_i hx hb hr hlocks rfl hP hK hD hN hS hS.2.2 dX4_scrape_101
      · have hf := ip_ (bI_n0 h_3) hf
        refine lv_iconst (v := 1) hx hb dX4_scrape_96 (by decide) ?_
        refine lv_goto (tgt := 101) hx hb dX4_scrape_97 (by decide) ?_
        subst hf
        exact kr_i hx hb hr hlocks rfl hP hK hD hN hS hS.2.2 dX4_scrape_101
    · have hf := in_ h_1 hf
      refine lv_iload_n hx hb dX4_scrape_57 rfl (lv_at hl 3 rfl) ?_
      refine lv_iconst (v := 3) hx hb dX4_scrape_58 (by decide) ?_
      refine lv_icmp_ne (tgt := 76) hx hb dX4_scrape_59 (by decide) (fun h_4 => ?_) (fun h_4 => ?_)
      · have hf := in_ h_4 hf
        refine lv_aload_n hx hb dX4_scrape_76 rfl (lv_at hl 1 rfl) ?_
        refine lv_dup hx hb dX4_scrape_77 rfl ?_
        refine va_get (D := G) (ci := 4) (v := .long (w_lowerScratches c_s_0)) (C := RX4) (T := TX4) (N := 12) hx hb hts iw_X4_scrape_X4 hown hK hP 0 rfl rfl 11 (by decide) (hts (.fieldLink RX4 49 "PaneFrost$Window" "lowerScratches" "J") (by decide +kernel)) (fun _ h9 => h9) rfl dX4_scrape_78 ?_
        refine lv_lload hx hb dX4_scrape_81 (lv_at hl 0 rfl) ?_
        refine lv_lxor hx hb dX4_scrape_83 ?_
        refine va_put (D := G) (ci := 4) (v := .long ((w_lowerScratches c_s_0) ^^^ (jsl z0 z1))) (ty := .long) (C := RX4) (T := TX4) (N := 12) hx hb hts iw_X4_scrape_X4 tyX4 tyX4_ok nmX4 hown hK hP hD hS 0 rfl rfl 11 (by decide) (hts (.fieldLink RX4 49 "PaneFrost$Window" "lowerScratches" "J") (by decide +kernel)) (fun _ h9 => h9) rfl (by decide +kernel) rfl rfl (Nat.le_of_ble_eq_true rfl) dX4_scrape_84 (fun H locs hP hD hS => ?_)
        have hP : va_P G vwCl [(a_0, wv (w_rows c_s_0, w_cells c_s_0, w_rule c_s_0, w_nights c_s_0, w_frozen c_s_0, w_kinds c_s_0, w_topRow c_s_0, w_rightColumn c_s_0, w_bottomRow c_s_0, w_leftColumn c_s_0, w_rightScratches c_s_0, ((w_lowerScratches c_s_0) ^^^ (jsl z0 z1))))] H := hP
        have hD : va_D A [(a_0, wv (w_rows c_s_0, w_cells c_s_0, w_rule c_s_0, w_nights c_s_0, w_frozen c_s_0, w_kinds c_s_0, w_topRow c_s_0, w_rightColumn c_s_0, w_bottomRow c_s_0, w_leftColumn c_s_0, w_rightScratches c_s_0, ((w_lowerScratches c_s_0) ^^^ (jsl z0 z1))))] := hD
        refine lv_aload_n hx hb dX4_scrape_87 rfl (lv_at hl 1 rfl) ?_
        refine lv_iload_n hx hb dX4_scrape_88 rfl (lv_at hl 2 rfl) ?_
        refine lv_iload_n hx hb dX4_scrape_89 rfl (lv_at hl 3 rfl) ?_
        obtain ⟨r_5, hh_r_5⟩ : ∃ z, z = f_X4_isScratched (w_rows c_s_0, w_cells c_s_0, w_rule c_s_0, w_nights c_s_0, w_frozen c_s_0, w_kinds c_s_0, w_topRow c_s_0, w_rightColumn c_s_0, w_bottomRow c_s_0, w_leftColumn c_s_0, w_rightScratches c_s_0, ((w_lowerScratches c_s_0) ^^^ (jsl z0 z1))) y1 y2 := ⟨_, rfl⟩
        have hf := lt_e hh_r_5 hf
        refine kc_i (w1 := [(a_0, wv (w_rows c_s_0, w_cells c_s_0, w_rule c_s_0, w_nights c_s_0, w_frozen c_s_0, w_kinds c_s_0, w_topRow c_s_0, w_rightColumn c_s_0, w_bottomRow c_s_0, w_leftColumn c_s_0, w_rightScratches c_s_0, ((w_lowerScratches c_s_0) ^^^ (jsl z0 z1))))]) (wr := []) hP hD hS hA [0] [] rfl rfl rfl (by decide) (va_runV (As := [.int y1, .int y2]) (rest := []) ⟨hx, hb, hml, hown, hts⟩ (c_X4_isScratched (l := l) G cy a_0 H.size (w_rows c_s_0, w_cells c_s_0, w_rule c_s_0, w_nights c_s_0, w_frozen c_s_0, w_kinds c_s_0, w_topRow c_s_0, w_rightColumn c_s_0, w_bottomRow c_s_0, w_leftColumn c_s_0, w_rightScratches c_s_0, ((w_lowerScratches c_s_0) ^^^ (jsl z0 z1))) y1 y2  r_5 hh_r_5.symm) (cwV 2 hts gX4_scrape_X4_isScratched rfl rfl rfl ddV_X4_isScratched ⟨Nat.le_of_ble_eq_true rfl, Nat.le_of_ble_eq_true rfl⟩) (preV_ (ci := 4) (q0 := 0) rfl rfl hP hK hD hN) rfl rfl hl.1 rfl (lv_room (Nat.le_of_ble_eq_true rfl)) dX4_scrape_90 ⟨Nat.le_of_ble_eq_true rfl, Nat.le_of_ble_eq_true rfl⟩) (fun H locs hP hD hS => ?_)
        have hP : va_P G vwCl [(a_0, wv (w_rows c_s_0, w_cells c_s_0, w_rule c_s_0, w_nights c_s_0, w_frozen c_s_0, w_kinds c_s_0, w_topRow c_s_0, w_rightColumn c_s_0, w_bottomRow c_s_0, w_leftColumn c_s_0, w_rightScratches c_s_0, ((w_lowerScratches c_s_0) ^^^ (jsl z0 z1))))] H := hP
        have hD : va_D A [(a_0, wv (w_rows c_s_0, w_cells c_s_0, w_rule c_s_0, w_nights c_s_0, w_frozen c_s_0, w_kinds c_s_0, w_topRow c_s_0, w_rightColumn c_s_0, w_bottomRow c_s_0, w_leftColumn c_s_0, w_rightScratches c_s_0, ((w_lowerScratches c_s_0) ^^^ (jsl z0 z1))))] := hD
        refine lv_if_eq (tgt := 100) hx hb dX4_scrape_93 (by decide) (fun h_6 => ?_) (fun h_6 => ?_)
        · have hf := in_ (bI_0 h_6) hf
          refine lv_iconst (v := 0) hx hb dX4_scrape_100 (by decide) ?_
          subst hf
          exact kr_i hx hb hr hlocks rfl hP hK hD hN hS hS.2.2 dX4_scrape_101
        · have hf := ip_ (bI_n0 h_6) hf
          refine lv_iconst (v := 1) hx hb dX4_scrape_96 (by decide) ?_
          refine lv_goto (tgt := 101) hx hb dX4_scrape_97 (by decide) ?_
          subst hf
          exact kr_i hx hb hr hlocks rfl hP hK hD hN hS hS.2.2 dX4_scrape_101
      · have hf := ip_ h_4 hf
        refine lv_aload_n hx hb dX4_scrape_62 rfl (lv_at hl 1 rfl) ?_
        refine lv_dup hx hb dX4_scrape_63 rfl ?_
        refine va_get (D := G) (ci := 4) (v := .long (w_rightScratches c_s_0)) (C := RX4) (T := TX4) (N := 12) hx hb hts iw_X4_scrape_X4 hown hK hP 0 rfl rfl 10 (by decide) (hts (.fieldLink RX4 46 "PaneFrost$Window" "rightScratches" "J") (by decide +kernel)) (fun _ h9 => h9) rfl dX4_scrape_64 ?_
        refine lv_lload hx hb dX4_scrape_67 (lv_at hl 0 rfl) ?_
        refine lv_lxor hx hb dX4_scrape_69 ?_
        refine va_put (D := G) (ci := 4) (v := .long ((w_rightScratches c_s_0) ^^^ (jsl z0 z1))) (ty := .long) (C := RX4) (T := TX4) (N := 12) hx hb hts iw_X4_scrape_X4 tyX4 tyX4_ok nmX4 hown hK hP hD hS 0 rfl rfl 10 (by decide) (hts (.fieldLink RX4 46 "PaneFrost$Window" "rightScratches" "J") (by decide +kernel)) (fun _ h9 => h9) rfl (by decide +kernel) rfl rfl (Nat.le_of_ble_eq_true rfl) dX4_scrape_70 (fun H locs hP hD hS => ?_)
        have hP : va_P G vwCl [(a_0, wv (w_rows c_s_0, w_cells c_s_0, w_rule c_s_0, w_nights c_s_0, w_frozen c_s_0, w_kinds c_s_0, w_topRow c_s_0, w_rightColumn c_s_0, w_bottomRow c_s_0, w_leftColumn c_s_0, ((w_rightScratches c_s_0) ^^^ (jsl z0 z1)), w_lowerScratches c_s_0))] H := hP
        have hD : va_D A [(a_0, wv (w_rows c_s_0, w_cells c_s_0, w_rule c_s_0, w_nights c_s_0, w_frozen c_s_0, w_kinds c_s_0, w_topRow c_s_0, w_rightColumn c_s_0, w_bottomRow c_s_0, w_leftColumn c_s_0, ((w_rightScratches c_s_0) ^^^ (jsl z0 z1)), w_lowerScratches c_s_0))] := hD
        refine lv_goto (tgt := 87) hx hb dX4_scrape_73 (by decide) ?_
        refine lv_aload_n hx hb dX4_scrape_87 rfl (lv_at hl 1 rfl) ?_
        refine lv_iload_n hx hb dX4_scrape_88 rfl (lv_at hl 2 rfl) ?_
        refine lv_iload_n hx hb dX4_scrape_89 rfl (lv_at hl 3 rfl) ?_
        obtain ⟨r_7, hh_r_7⟩ : ∃ z, z = f_X4_isScratched (w_rows c_s_0, w_cells c_s_0, w_rule c_s_0, w_nights c_s_0, w_frozen c_s_0, w_kinds c_s_0, w_topRow c_s_0, w_rightColumn c_s_0, w_bottomRow c_s_0, w_leftColumn c_s_0, ((w_rightScratches c_s_0) ^^^ (jsl z0 z1)), w_lowerScratches c_s_0) y1 y2 := ⟨_, rfl⟩
        have hf := lt_e hh_r_7 hf
        refine kc_i (w1 := [(a_0, wv (w_rows c_s_0, w_cells c_s_0, w_rule c_s_0, w_nights c_s_0, w_frozen c_s_0, w_kinds c_s_0, w_topRow c_s_0, w_rightColumn c_s_0, w_bottomRow c_s_0, w_leftColumn c_s_0, ((w_rightScratches c_s_0) ^^^ (jsl z0 z1)), w_lowerScratches c_s_0))]) (wr := []) hP hD hS hA [0] [] rfl rfl rfl (by decide) (va_runV (As := [.int y1, .int y2]) (rest := []) ⟨hx, hb, hml, hown, hts⟩ (c_X4_isScratched (l := l) G cy a_0 H.size (w_rows c_s_0, w_cells c_s_0, w_rule c_s_0, w_nights c_s_0, w_frozen c_s_0, w_kinds c_s_0, w_topRow c_s_0, w_rightColumn c_s_0, w_bottomRow c_s_0, w_leftColumn c_s_0, ((w_rightScratches c_s_0) ^^^ (jsl z0 z1)), w_lowerScratches c_s_0) y1 y2  r_7 hh_r_7.symm) (cwV 2 hts gX4_scrape_X4_isScratched rfl rfl rfl ddV_X4_isScratched ⟨Nat.le_of_ble_eq_true rfl, Nat.le_of_ble_eq_true rfl⟩) (preV_ (ci := 4) (q0 := 0) rfl rfl hP hK hD hN) rfl rfl hl.1 rfl (lv_room (Nat.le_of_ble_eq_true rfl)) dX4_scrape_90 ⟨Nat.le_of_ble_eq_true rfl, Nat.le_of_ble_eq_true rfl⟩) (fun H locs hP hD hS => ?_)
        have hP : va_P G vwCl [(a_0, wv (w_rows c_s_0, w_cells c_s_0, w_rule c_s_0, w_nights c_s_0, w_frozen c_s_0, w_kinds c_s_0, w_topRow c_s_0, w_rightColumn c_s_0, w_bottomRow c_s_0, w_leftColumn c_s_0, ((w_rightScratches c_s_0) ^^^ (jsl z0 z1)), w_lowerScratches c_s_0))] H := hP
        have hD : va_D A [(a_0, wv (w_rows c_s_0, w_cells c_s_0, w_rule c_s_0, w_nights c_s_0, w_frozen c_s_0, w_kinds c_s_0, w_topRow c_s_0, w_rightColumn c_s_0, w_bottomRow c_s_0, w_leftColumn c_s_0, ((w_rightScratches c_s_0) ^^^ (jsl z0 z1)), w_lowerScratches c_s_0))] := hD
        refine lv_if_eq (tgt := 100) hx hb dX4_scrape_93 (by decide) (fun h_8 => ?_) (fun h_8 => ?_)
        · have hf := in_ (bI_0 h_8) hf
          refine lv_iconst (v := 0) hx hb dX4_scrape_100 (by decide) ?_
          subst hf
          exact kr_i hx hb hr hlocks rfl hP hK hD hN hS hS.2.2 dX4_scrape_101
        · have hf := ip_ (bI_n0 h_8) hf
          refine lv_iconst (v := 1) hx hb dX4_scrape_96 (by decide) ?_
          refine lv_goto (tgt := 101) hx hb dX4_scrape_97 (by decide) ?_
          subst hf
          exact kr_i hx hb hr hlocks rfl hP hK hD hN hS hS.2.2 dX4_scrape_101
  have hl := lv_entry [.ref a_0, .int x1, .int x2] (n := 6) (Nat.le_of_ble_eq_true rfl)
  rw [lg_entry_eq]
  generalize (lg_sl [.ref a_0, .int x1, .int x2] ++ List.replicate (6 - (lg_sl [.ref a_0, .int x1, .int x2]).length) Slot.unset).toArray = ls at hl ⊢
  have hl : lv_has ls 6 [(0, .ref a_0), (1, .int x1), (2, .int x2)] := hl
  unfold f_X4_scrape at hf
  refine lv_aload_n hx hb dX4_scrape_0 rfl (lv_at hl 0 rfl) ?_
  refine lv_iload_n hx hb dX4_scrape_1 rfl (lv_at hl 1 rfl) ?_
  refine kc_i (w1 := [(a_0, wv s_0)]) (wr := []) hP hD hS hA [0] [] rfl rfl rfl (by decide) (va_runV (As := [.int x1]) (rest := []) ⟨hx, hb, hml, hown, hts⟩ (c_X4_hasCell (l := l) G cy a_0 s.heap.size s_0 x1  (f_X4_hasCell s_0 x1) rfl) (cwV 1 hts gX4_scrape_X4_hasCell rfl rfl rfl ddV_X4_hasCell ⟨Nat.le_of_ble_eq_true rfl, Nat.le_of_ble_eq_true rfl⟩) (preV_ (ci := 4) (q0 := 0) rfl rfl hP hK hD hN) rfl rfl hl.1 rfl (lv_room (Nat.le_of_ble_eq_true rfl)) dX4_scrape_2 ⟨Nat.le_of_ble_eq_true rfl, Nat.le_of_ble_eq_true rfl⟩) (fun H locs hP hD hS => ?_)
  have hP : va_P G vwCl [(a_0, wv s_0)] H := hP
  have hD : va_D A [(a_0, wv s_0)] := hD
  refine lv_if_eq (tgt := 17) hx hb dX4_scrape_5 (by decide) (fun h_9 => ?_) (fun h_9 => ?_)
  · have hf := in_ (bI_0 h_9) hf
    refine lv_iconst (v := (-1)) hx hb dX4_scrape_17 (by decide) ?_
    subst hf
    exact kr_i hx hb hr hlocks rfl hP hK hD hN hS hS.2.2 dX4_scrape_18
  · have hf := ip_ (bI_n0 h_9) hf
    refine lv_iload_n hx hb dX4_scrape_8 rfl (lv_at hl 2 rfl) ?_
    refine lv_iconst (v := 0) hx hb dX4_scrape_9 (by decide) ?_
    refine lv_iconst (v := 3) hx hb dX4_scrape_10 (by decide) ?_
    refine kc_i (w1 := []) (wr := [(a_0, wv s_0)]) hP hD hS hA [] [0] rfl rfl rfl (by decide) (va_runSN (As := [.int x2, .int 0, .int 3]) (rest := []) ⟨hx, hb, hml, hown, hts⟩ (c_X5_isWithin (l := l) G cy  H.size x2 0 3  (f_X5_isWithin x2 0 3) rfl) ⟨va_cnB 3 hts gX4_scrape_X5_isWithin_n132 rfl rfl rfl hN.2.1 (hts (.initialized RX5) (by decide +kernel)) ddN_X5_isWithin ⟨Nat.le_of_ble_eq_true rfl, Nat.le_of_ble_eq_true rfl⟩, hts (.static yX5_isWithin) (by decide +kernel), trivial⟩ (preS_ (hP.sub (ws' := []) [] rfl) hK (hD.sub (ws' := []) [] rfl rfl) hN) rfl rfl hl.1 rfl (lv_room (Nat.le_of_ble_eq_true rfl)) dX4_scrape_11 ⟨Nat.le_of_ble_eq_true rfl, Nat.le_of_ble_eq_true rfl⟩) (fun H locs hP hD hS => ?_)
    have hP : va_P G vwCl [(a_0, wv s_0)] H := hP
    have hD : va_D A [(a_0, wv s_0)] := hD
    refine lv_if_ne (tgt := 19) hx hb dX4_scrape_14 (by decide) (fun h_10 => ?_) (fun h_10 => ?_)
    · have hf := ip_ (bI_n0 h_10) hf
      refine lv_aload_n hx hb dX4_scrape_19 rfl (lv_at hl 0 rfl) ?_
      refine lv_iload_n hx hb dX4_scrape_20 rfl (lv_at hl 1 rfl) ?_
      refine lv_iload_n hx hb dX4_scrape_21 rfl (lv_at hl 2 rfl) ?_
      refine kc_i (w1 := [(a_0, wv s_0)]) (wr := []) hP hD hS hA [0] [] rfl rfl rfl (by decide) (va_runV (As := [.int x1, .int x2]) (rest := []) ⟨hx, hb, hml, hown, hts⟩ (c_X4_beside (l := l) G cy a_0 H.size s_0 x1 x2  (f_X4_beside s_0 x1 x2) rfl) (cwV 2 hts gX4_scrape_X4_beside rfl rfl rfl ddV_X4_beside ⟨Nat.le_of_ble_eq_true rfl, Nat.le_of_ble_eq_true rfl⟩) (preV_ (ci := 4) (q0 := 0) rfl rfl hP hK hD hN) rfl rfl hl.1 rfl (lv_room (Nat.le_of_ble_eq_true rfl)) dX4_scrape_22 ⟨Nat.le_of_ble_eq_true rfl, Nat.le_of_ble_eq_true rfl⟩) (fun H locs hP hD hS => ?_)
      have hP : va_P G vwCl [(a_0, wv s_0)] H := hP
      have hD : va_D A [(a_0, wv s_0)] := hD
      refine lv_istore_n (lv' := [(3, .int (f_X4_beside s_0 x1 x2)), (0, .ref a_0), (1, .int x1), (2, .int x2)]) hx hb dX4_scrape_25 rfl hl (by decide) rfl (fun ls hl => ?_)
      refine lv_iload_n hx hb dX4_scrape_26 rfl (lv_at hl 0 rfl) ?_
      refine lv_iconst (v := (-1)) hx hb dX4_scrape_27 (by decide) ?_
      refine lv_icmp_ne (tgt := 33) hx hb dX4_scrape_28 (by decide) (fun h_11 => ?_) (fun h_11 => ?_)
      · have hf := in_ h_11 hf
        refine lv_lconst (v := 1) hx hb dX4_scrape_33 rfl ?_
        refine lv_iload_n hx hb dX4_scrape_34 rfl (lv_at hl 3 rfl) ?_
        refine lv_iconst (v := 1) hx hb dX4_scrape_35 (by decide) ?_
        refine lv_icmp_eq (tgt := 44) hx hb dX4_scrape_36 (by decide) (fun h_12 => ?_) (fun h_12 => ?_)
        · have hf := ip_ h_12 hf
          refine lv_iload_n hx hb dX4_scrape_44 rfl (lv_at hl 2 rfl) ?_
          refine lv_goto (tgt := 49) hx hb dX4_scrape_45 (by decide) ?_
          exact bl_49  s_0 x1 x2 1 x1 _ _ hf hP hD hS ls (lv_sub hl [1, 2, 3] rfl)
        · have hf := in_ h_12 hf
          refine lv_iload_n hx hb dX4_scrape_39 rfl (lv_at hl 3 rfl) ?_
          refine lv_iconst (v := 2) hx hb dX4_scrape_40 (by decide) ?_
          refine lv_icmp_ne (tgt := 48) hx hb dX4_scrape_41 (by decide) (fun h_13 => ?_) (fun h_13 => ?_)
          · have hf := in_ h_13 hf
            refine lv_iload_n hx hb dX4_scrape_48 rfl (lv_at hl 0 rfl) ?_
            exact bl_49  s_0 x1 x2 1 (f_X4_beside s_0 x1 x2) _ _ hf hP hD hS ls (lv_sub hl [1, 2, 3] rfl)
          · have hf := ip_ h_13 hf
            refine lv_iload_n hx hb dX4_scrape_44 rfl (lv_at hl 2 rfl) ?_
            refine lv_goto (tgt := 49) hx hb dX4_scrape_45 (by decide) ?_
            exact bl_49  s_0 x1 x2 1 x1 _ _ hf hP hD hS ls (lv_sub hl [1, 2, 3] rfl)
      · have hf := ip_ h_11 hf
        refine lv_iconst (v := (-1)) hx hb dX4_scrape_31 (by decide) ?_
        subst hf
        exact kr_i hx hb hr hlocks rfl hP hK hD hN hS hS.2.2 dX4_scrape_32
    · have hf := in_ (bI_0 h_10) hf
      refine lv_iconst (v := (-1)) hx hb dX4_scrape_17 (by decide) ?_
      subst hf
      exact kr_i hx hb hr hlocks rfl hP hK hD hN hS hS.2.2 dX4_scrape_18
set_option maxHeartbeats 4000000 in
set_option maxRecDepth 100000 in
theorem c_X4_overwriteKind {l : Launch} (G : va_G) (cy : Nat → ClassId) (a_0 : Nat) (sz : Nat) (s_0 : WT) (x1 : Int32) (x2 : Int32)  (R : WT) (hf : f_X4_overwriteKind s_0 x1 x2 = R) : Met l yX4_overwriteKind wsX4_overwriteKind ({ frames := 0, cells := 0, slots := 0, locals := 0 } : Room) (va_Pc [.ref a_0, .int x1, .int x2] (pcW G cy [(a_0, wv s_0)] sz)) (va_Qv (fun _ : Unit => True) (fun _ t => Wd G cy (va_A [(a_0, wv s_0)] sz) [(a_0, wv R)] t) (va_A [(a_0, wv s_0)] sz)) 0 0 (va_A [(a_0, wv s_0)] sz) := by
  refine Met.ofW (cc := cX4_overwriteKind) (maxL := 3) (ret := none) (by decide) rfl ?_
  intro p e s m args below meth c s₁ B hml hv
  obtain ⟨rfl, hsz, hP, hK, hD0, hN⟩ := hv
  have hx := B.exec
  have hb := B.bytes
  have hr := B.returns
  have hts := atoms_spec (ws := wsX4_overwriteKind) B.pre
  have hown : s.vm.findClass RX4 = some m.cls := findClass_of_methodNamed B.named
  have hlocks := B.notSynchronized
  subst hsz
  have hD := hD0.self (sz := s.heap.size)
  generalize hAe : va_A [(a_0, wv s_0)] s.heap.size = A at hD ⊢
  have hA : ∀ q : Nat, s.heap.size ≤ q → A q := fun q h => by rw [← hAe]; exact Or.inr h
  have hS : va_S A s.heap s.heap [] := va_S.rf
  have hP : va_P G vwCl [(a_0, wv s_0)] s.heap := hP
  have hl := lv_entry [.ref a_0, .int x1, .int x2] (n := 3) (Nat.le_of_ble_eq_true rfl)
  rw [lg_entry_eq]
  generalize (lg_sl [.ref a_0, .int x1, .int x2] ++ List.replicate (3 - (lg_sl [.ref a_0, .int x1, .int x2]).length) Slot.unset).toArray = ls at hl ⊢
  have hl : lv_has ls 3 [(0, .ref a_0), (1, .int x1), (2, .int x2)] := hl
  unfold f_X4_overwriteKind at hf
  refine lv_aload_n hx hb dX4_overwriteKind_0 rfl (lv_at hl 0 rfl) ?_
  refine lv_aload_n hx hb dX4_overwriteKind_1 rfl (lv_at hl 0 rfl) ?_
  refine va_get (D := G) (ci := 4) (v := .int (w_kinds s_0)) (C := RX4) (T := TX4) (N := 12) hx hb hts iw_X4_overwriteKind_X4 hown hK hP 0 rfl rfl 5 (by decide) (hts (.fieldLink RX4 31 "PaneFrost$Window" "kinds" "I") (by decide +kernel)) (fun _ h9 => h9) rfl dX4_overwriteKind_2 ?_
  refine lv_iconst (v := 3) hx hb dX4_overwriteKind_5 (by decide) ?_
  refine lv_iconst (v := 2) hx hb dX4_overwriteKind_6 (by decide) ?_
  refine lv_iload_n hx hb dX4_overwriteKind_7 rfl (lv_at hl 1 rfl) ?_
  refine lv_imul hx hb dX4_overwriteKind_8 ?_
  refine lv_ishl hx hb dX4_overwriteKind_9 ?_
  refine lv_iconst (v := (-1)) hx hb dX4_overwriteKind_10 (by decide) ?_
  refine lv_ixor hx hb dX4_overwriteKind_11 ?_
  refine lv_iand hx hb dX4_overwriteKind_12 ?_
  refine lv_iload_n hx hb dX4_overwriteKind_13 rfl (lv_at hl 2 rfl) ?_
  refine lv_iconst (v := 2) hx hb dX4_overwriteKind_14 (by decide) ?_
  refine lv_iload_n hx hb dX4_overwriteKind_15 rfl (lv_at hl 1 rfl) ?_
  refine lv_imul hx hb dX4_overwriteKind_16 ?_
  refine lv_ishl hx hb dX4_overwriteKind_17 ?_
  refine lv_ior hx hb dX4_overwriteKind_18 ?_
  refine va_put (D := G) (ci := 4) (v := .int (((w_kinds s_0) &&& ((isl 3 (2 * x1)) ^^^ (-1))) ||| (isl x2 (2 * x1)))) (ty := .int) (C := RX4) (T := TX4) (N := 12) hx hb hts iw_X4_overwriteKind_X4 tyX4 tyX4_ok nmX4 hown hK hP hD hS 0 rfl rfl 5 (by decide) (hts (.fieldLink RX4 31 "PaneFrost$Window" "kinds" "I") (by decide +kernel)) (fun _ h9 => h9) rfl (by decide +kernel) rfl rfl (Nat.le_of_ble_eq_true rfl) dX4_overwriteKind_19 (fun H locs hP hD hS => ?_)
  have hP : va_P G vwCl [(a_0, wv (w_rows s_0, w_cells s_0, w_rule s_0, w_nights s_0, w_frozen s_0, (((w_kinds s_0) &&& ((isl 3 (2 * x1)) ^^^ (-1))) ||| (isl x2 (2 * x1))), w_topRow s_0, w_rightColumn s_0, w_bottomRow s_0, w_leftColumn s_0, w_rightScratches s_0, w_lowerScratches s_0))] H := hP
  have hD : va_D A [(a_0, wv (w_rows s_0, w_cells s_0, w_rule s_0, w_nights s_0, w_frozen s_0, (((w_kinds s_0) &&& ((isl 3 (2 * x1)) ^^^ (-1))) ||| (isl x2 (2 * x1))), w_topRow s_0, w_rightColumn s_0, w_bottomRow s_0, w_leftColumn s_0, w_rightScratches s_0, w_lowerScratches s_0))] := hD
  subst hf
  exact kr_v hx hb hr hlocks hP hK hD hN hS hS.2.2 dX4_overwriteKind_22
set_option maxHeartbeats 4000000 in
set_option maxRecDepth 100000 in
theorem c_X4_putKind {l : Launch} (G : va_G) (cy : Nat → ClassId) (a_0 : Nat) (sz : Nat) (s_0 : WT) (x1 : Int32) (x2 : Int32)  (R : Int32 × WT) (hf : f_X4_putKind s_0 x1 x2 = R) : Met l yX4_putKind wsX4_putKind ({ frames := 1, cells := 0, slots := 0, locals := 22 } : Room) (va_Pc [.ref a_0, .int x1, .int x2] (pcW G cy [(a_0, wv s_0)] sz)) (va_Qi (fun r (_ : Unit) => r = R.1) (fun _ t => Wd G cy (va_A [(a_0, wv s_0)] sz) [(a_0, wv R.2)] t) (va_A [(a_0, wv s_0)] sz)) 0 0 (va_A [(a_0, wv s_0)] sz) := by
  refine Met.ofW (cc := cX4_putKind) (maxL := 4) (ret := (some .int)) (by decide) rfl ?_
  intro p e s m args below meth c s₁ B hml hv
  obtain ⟨rfl, hsz, hP, hK, hD0, hN⟩ := hv
  have hx := B.exec
  have hb := B.bytes
  have hr := B.returns
  have hts := atoms_spec (ws := wsX4_putKind) B.pre
  have hown : s.vm.findClass RX4 = some m.cls := findClass_of_methodNamed B.named
  have hlocks := B.notSynchronized
  subst hsz
  have hD := hD0.self (sz := s.heap.size)
  generalize hAe : va_A [(a_0, wv s_0)] s.heap.size = A at hD ⊢
  have hA : ∀ q : Nat, s.heap.size ≤ q → A q := fun q h => by rw [← hAe]; exact Or.inr h
  have hS : va_S A s.heap s.heap [] := va_S.rf
  have hP : va_P G vwCl [(a_0, wv s_0)] s.heap := hP
  have hl := lv_entry [.ref a_0, .int x1, .int x2] (n := 4) (Nat.le_of_ble_eq_true rfl)
  rw [lg_entry_eq]
  generalize (lg_sl [.ref a_0, .int x1, .int x2] ++ List.replicate (4 - (lg_sl [.ref a_0, .int x1, .int x2]).length) Slot.unset).toArray = ls at hl ⊢
  have hl : lv_has ls 4 [(0, .ref a_0), (1, .int x1), (2, .int x2)] := hl
  unfold f_X4_putKind at hf
  refine lv_iload_n hx hb dX4_putKind_0 rfl (lv_at hl 1 rfl) ?_
  refine lv_iconst (v := 0) hx hb dX4_putKind_1 (by decide) ?_
  refine lv_iconst (v := 3) hx hb dX4_putKind_2 (by decide) ?_
  refine kc_i (w1 := []) (wr := [(a_0, wv s_0)]) hP hD hS hA [] [0] rfl rfl rfl (by decide) (va_runSN (As := [.int x1, .int 0, .int 3]) (rest := []) ⟨hx, hb, hml, hown, hts⟩ (c_X5_isWithin (l := l) G cy  s.heap.size x1 0 3  (f_X5_isWithin x1 0 3) rfl) ⟨va_cnB 3 hts gX4_putKind_X5_isWithin_n132 rfl rfl rfl hN.2.1 (hts (.initialized RX5) (by decide +kernel)) ddN_X5_isWithin ⟨Nat.le_of_ble_eq_true rfl, Nat.le_of_ble_eq_true rfl⟩, hts (.static yX5_isWithin) (by decide +kernel), trivial⟩ (preS_ (hP.sub (ws' := []) [] rfl) hK (hD.sub (ws' := []) [] rfl rfl) hN) rfl rfl hl.1 rfl (lv_room (Nat.le_of_ble_eq_true rfl)) dX4_putKind_3 ⟨Nat.le_of_ble_eq_true rfl, Nat.le_of_ble_eq_true rfl⟩) (fun H locs hP hD hS => ?_)
  have hP : va_P G vwCl [(a_0, wv s_0)] H := hP
  have hD : va_D A [(a_0, wv s_0)] := hD
  refine lv_if_eq (tgt := 18) hx hb dX4_putKind_6 (by decide) (fun h_1 => ?_) (fun h_1 => ?_)
  · have hf := in_ (bI_0 h_1) hf
    refine lv_iconst (v := (-1)) hx hb dX4_putKind_18 (by decide) ?_
    subst hf
    exact kr_i hx hb hr hlocks rfl hP hK hD hN hS hS.2.2 dX4_putKind_19
  · have hf := ip_ (bI_n0 h_1) hf
    refine lv_iload_n hx hb dX4_putKind_9 rfl (lv_at hl 2 rfl) ?_
    refine lv_iconst (v := 0) hx hb dX4_putKind_10 (by decide) ?_
    refine lv_iconst (v := 2) hx hb dX4_putKind_11 (by decide) ?_
    refine kc_i (w1 := []) (wr := [(a_0, wv s_0)]) hP hD hS hA [] [0] rfl rfl rfl (by decide) (va_runSN (As := [.int x2, .int 0, .int 2]) (rest := []) ⟨hx, hb, hml, hown, hts⟩ (c_X5_isWithin (l := l) G cy  H.size x2 0 2  (f_X5_isWithin x2 0 2) rfl) ⟨va_cnB 3 hts gX4_putKind_X5_isWithin_n132 rfl rfl rfl hN.2.1 (hts (.initialized RX5) (by decide +kernel)) ddN_X5_isWithin ⟨Nat.le_of_ble_eq_true rfl, Nat.le_of_ble_eq_true rfl⟩, hts (.static yX5_isWithin) (by decide +kernel), trivial⟩ (preS_ (hP.sub (ws' := []) [] rfl) hK (hD.sub (ws' := []) [] rfl rfl) hN) rfl rfl hl.1 rfl (lv_room (Nat.le_of_ble_eq_true rfl)) dX4_putKind_12 ⟨Nat.le_of_ble_eq_true rfl, Nat.le_of_ble_eq_true rfl⟩) (fun H locs hP hD hS => ?_)
    have hP : va_P G vwCl [(a_0, wv s_0)] H := hP
    have hD : va_D A [(a_0, wv s_0)] := hD
    refine lv_if_ne (tgt := 20) hx hb dX4_putKind_15 (by decide) (fun h_2 => ?_) (fun h_2 => ?_)
    · have hf := ip_ (bI_n0 h_2) hf
      refine lv_aload_n hx hb dX4_putKind_20 rfl (lv_at hl 0 rfl) ?_
      refine lv_iload_n hx hb dX4_putKind_21 rfl (lv_at hl 1 rfl) ?_
      refine kc_i (w1 := [(a_0, wv s_0)]) (wr := []) hP hD hS hA [0] [] rfl rfl rfl (by decide) (va_runV (As := [.int x1]) (rest := []) ⟨hx, hb, hml, hown, hts⟩ (c_X4_kind (l := l) G cy a_0 H.size s_0 x1  (f_X4_kind s_0 x1) rfl) (cwV 1 hts gX4_putKind_X4_kind rfl rfl rfl ddV_X4_kind ⟨Nat.le_of_ble_eq_true rfl, Nat.le_of_ble_eq_true rfl⟩) (preV_ (ci := 4) (q0 := 0) rfl rfl hP hK hD hN) rfl rfl hl.1 rfl (lv_room (Nat.le_of_ble_eq_true rfl)) dX4_putKind_22 ⟨Nat.le_of_ble_eq_true rfl, Nat.le_of_ble_eq_true rfl⟩) (fun H locs hP hD hS => ?_)
      have hP : va_P G vwCl [(a_0, wv s_0)] H := hP
      have hD : va_D A [(a_0, wv s_0)] := hD
      refine lv_istore_n (lv' := [(3, .int (f_X4_kind s_0 x1)), (0, .ref a_0), (1, .int x1), (2, .int x2)]) hx hb dX4_putKind_25 rfl hl (by decide) rfl (fun ls hl => ?_)
      refine lv_aload_n hx hb dX4_putKind_26 rfl (lv_at hl 1 rfl) ?_
      refine lv_iload_n hx hb dX4_putKind_27 rfl (lv_at hl 2 rfl) ?_
      refine lv_iload_n hx hb dX4_putKind_28 rfl (lv_at hl 3 rfl) ?_
      refine kc_v (w1 := [(a_0, wv (f_X4_overwriteKind s_0 x1 x2))]) (wr := []) hP hD hS hA [0] [] rfl rfl rfl (by decide) (va_runV (As := [.int x1, .int x2]) (rest := []) ⟨hx, hb, hml, hown, hts⟩ (c_X4_overwriteKind (l := l) G cy a_0 H.size s_0 x1 x2  (f_X4_overwriteKind s_0 x1 x2) rfl) (cwV 2 hts gX4_putKind_X4_overwriteKind rfl rfl rfl ddV_X4_overwriteKind ⟨Nat.le_of_ble_eq_true rfl, Nat.le_of_ble_eq_true rfl⟩) (preV_ (ci := 4) (q0 := 0) rfl rfl hP hK hD hN) rfl rfl hl.1 rfl (lv_room (Nat.le_of_ble_eq_true rfl)) dX4_putKind_29 ⟨Nat.le_of_ble_eq_true rfl, Nat.le_of_ble_eq_true rfl⟩) (fun H locs hP hD hS => ?_)
      have hP : va_P G vwCl [(a_0, wv (f_X4_overwriteKind s_0 x1 x2))] H := hP
      have hD : va_D A [(a_0, wv (f_X4_overwriteKind s_0 x1 x2))] := hD
      refine lv_iload_n hx hb dX4_putKind_32 rfl (lv_at hl 0 rfl) ?_
      refine lv_iconst (v := 2) hx hb dX4_putKind_33 (by decide) ?_
      refine lv_icmp_eq (tgt := 42) hx hb dX4_putKind_34 (by decide) (fun h_3 => ?_) (fun h_3 => ?_)
      · have hf := ip_ h_3 hf
        refine lv_aload_n hx hb dX4_putKind_42 rfl (lv_at hl 1 rfl) ?_
        refine lv_iload_n hx hb dX4_putKind_43 rfl (lv_at hl 2 rfl) ?_
        refine lv_iconst (v := 2) hx hb dX4_putKind_44 (by decide) ?_
        refine lv_ixor hx hb dX4_putKind_45 ?_
        refine lv_iload_n hx hb dX4_putKind_46 rfl (lv_at hl 3 rfl) ?_
        refine kc_v (w1 := [(a_0, wv (f_X4_overwriteKind (f_X4_overwriteKind s_0 x1 x2) (x1 ^^^ 2) x2))]) (wr := []) hP hD hS hA [0] [] rfl rfl rfl (by decide) (va_runV (As := [.int (x1 ^^^ 2), .int x2]) (rest := []) ⟨hx, hb, hml, hown, hts⟩ (c_X4_overwriteKind (l := l) G cy a_0 H.size (f_X4_overwriteKind s_0 x1 x2) (x1 ^^^ 2) x2  (f_X4_overwriteKind (f_X4_overwriteKind s_0 x1 x2) (x1 ^^^ 2) x2) rfl) (cwV 2 hts gX4_putKind_X4_overwriteKind rfl rfl rfl ddV_X4_overwriteKind ⟨Nat.le_of_ble_eq_true rfl, Nat.le_of_ble_eq_true rfl⟩) (preV_ (ci := 4) (q0 := 0) rfl rfl hP hK hD hN) rfl rfl hl.1 rfl (lv_room (Nat.le_of_ble_eq_true rfl)) dX4_putKind_47 ⟨Nat.le_of_ble_eq_true rfl, Nat.le_of_ble_eq_true rfl⟩) (fun H locs hP hD hS => ?_)
        have hP : va_P G vwCl [(a_0, wv (f_X4_overwriteKind (f_X4_overwriteKind s_0 x1 x2) (x1 ^^^ 2) x2))] H := hP
        have hD : va_D A [(a_0, wv (f_X4_overwriteKind (f_X4_overwriteKind s_0 x1 x2) (x1 ^^^ 2) x2))] := hD
        refine lv_iload_n hx hb dX4_putKind_50 rfl (lv_at hl 0 rfl) ?_
        subst hf
        exact kr_i hx hb hr hlocks rfl hP hK hD hN hS hS.2.2 dX4_putKind_51
      · have hf := in_ h_3 hf
        refine lv_iload_n hx hb dX4_putKind_37 rfl (lv_at hl 3 rfl) ?_
        refine lv_iconst (v := 2) hx hb dX4_putKind_38 (by decide) ?_
        refine lv_icmp_ne (tgt := 50) hx hb dX4_putKind_39 (by decide) (fun h_4 => ?_) (fun h_4 => ?_)
        · have hf := in_ h_4 hf
          refine lv_iload_n hx hb dX4_putKind_50 rfl (lv_at hl 0 rfl) ?_
          subst hf
          exact kr_i hx hb hr hlocks rfl hP hK hD hN hS hS.2.2 dX4_putKind_51
        · have hf := ip_ h_4 hf
          refine lv_aload_n hx hb dX4_putKind_42 rfl (lv_at hl 1 rfl) ?_
          refine lv_iload_n hx hb dX4_putKind_43 rfl (lv_at hl 2 rfl) ?_
          refine lv_iconst (v := 2) hx hb dX4_putKind_44 (by decide) ?_
          refine lv_ixor hx hb dX4_putKind_45 ?_
          refine lv_iload_n hx hb dX4_putKind_46 rfl (lv_at hl 3 rfl) ?_
          refine kc_v (w1 := [(a_0, wv (f_X4_overwriteKind (f_X4_overwriteKind s_0 x1 x2) (x1 ^^^ 2) x2))]) (wr := []) hP hD hS hA [0] [] rfl rfl rfl (by decide) (va_runV (As := [.int (x1 ^^^ 2), .int x2]) (rest := []) ⟨hx, hb, hml, hown, hts⟩ (c_X4_overwriteKind (l := l) G cy a_0 H.size (f_X4_overwriteKind s_0 x1 x2) (x1 ^^^ 2) x2  (f_X4_overwriteKind (f_X4_overwriteKind s_0 x1 x2) (x1 ^^^ 2) x2) rfl) (cwV 2 hts gX4_putKind_X4_overwriteKind rfl rfl rfl ddV_X4_overwriteKind ⟨Nat.le_of_ble_eq_true rfl, Nat.le_of_ble_eq_true rfl⟩) (preV_ (ci := 4) (q0 := 0) rfl rfl hP hK hD hN) rfl rfl hl.1 rfl (lv_room (Nat.le_of_ble_eq_true rfl)) dX4_putKind_47 ⟨Nat.le_of_ble_eq_true rfl, Nat.le_of_ble_eq_true rfl⟩) (fun H locs hP hD hS => ?_)
          have hP : va_P G vwCl [(a_0, wv (f_X4_overwriteKind (f_X4_overwriteKind s_0 x1 x2) (x1 ^^^ 2) x2))] H := hP
          have hD : va_D A [(a_0, wv (f_X4_overwriteKind (f_X4_overwriteKind s_0 x1 x2) (x1 ^^^ 2) x2))] := hD
          refine lv_iload_n hx hb dX4_putKind_50 rfl (lv_at hl 0 rfl) ?_
          subst hf
          exact kr_i hx hb hr hlocks rfl hP hK hD hN hS hS.2.2 dX4_putKind_51
    · have hf := in_ (bI_0 h_2) hf
      refine lv_iconst (v := (-1)) hx hb dX4_putKind_18 (by decide) ?_
      subst hf
      exact kr_i hx hb hr hlocks rfl hP hK hD hN hS hS.2.2 dX4_putKind_19
set_option maxHeartbeats 4000000 in
set_option maxRecDepth 100000 in
theorem c_X4_putRule {l : Launch} (G : va_G) (cy : Nat → ClassId) (a_0 : Nat) (sz : Nat) (s_0 : WT) (x1 : Int32)  (R : Int32 × WT) (hf : f_X4_putRule s_0 x1 = R) : Met l yX4_putRule wsX4_putRule ({ frames := 1, cells := 0, slots := 0, locals := 22 } : Room) (va_Pc [.ref a_0, .int x1] (pcW G cy [(a_0, wv s_0)] sz)) (va_Qi (fun r (_ : Unit) => r = R.1) (fun _ t => Wd G cy (va_A [(a_0, wv s_0)] sz) [(a_0, wv R.2)] t) (va_A [(a_0, wv s_0)] sz)) 0 0 (va_A [(a_0, wv s_0)] sz) := by
  refine Met.ofW (cc := cX4_putRule) (maxL := 3) (ret := (some .int)) (by decide) rfl ?_
  intro p e s m args below meth c s₁ B hml hv
  obtain ⟨rfl, hsz, hP, hK, hD0, hN⟩ := hv
  have hx := B.exec
  have hb := B.bytes
  have hr := B.returns
  have hts := atoms_spec (ws := wsX4_putRule) B.pre
  have hown : s.vm.findClass RX4 = some m.cls := findClass_of_methodNamed B.named
  have hlocks := B.notSynchronized
  subst hsz
  have hD := hD0.self (sz := s.heap.size)
  generalize hAe : va_A [(a_0, wv s_0)] s.heap.size = A at hD ⊢
  have hA : ∀ q : Nat, s.heap.size ≤ q → A q := fun q h => by rw [← hAe]; exact Or.inr h
  have hS : va_S A s.heap s.heap [] := va_S.rf
  have hP : va_P G vwCl [(a_0, wv s_0)] s.heap := hP
  have hl := lv_entry [.ref a_0, .int x1] (n := 3) (Nat.le_of_ble_eq_true rfl)
  rw [lg_entry_eq]
  generalize (lg_sl [.ref a_0, .int x1] ++ List.replicate (3 - (lg_sl [.ref a_0, .int x1]).length) Slot.unset).toArray = ls at hl ⊢
  have hl : lv_has ls 3 [(0, .ref a_0), (1, .int x1)] := hl
  unfold f_X4_putRule at hf
  refine lv_iload_n hx hb dX4_putRule_0 rfl (lv_at hl 1 rfl) ?_
  refine lv_iconst (v := 0) hx hb dX4_putRule_1 (by decide) ?_
  refine lv_iconst (v := 2) hx hb dX4_putRule_2 (by decide) ?_
  refine kc_i (w1 := []) (wr := [(a_0, wv s_0)]) hP hD hS hA [] [0] rfl rfl rfl (by decide) (va_runSN (As := [.int x1, .int 0, .int 2]) (rest := []) ⟨hx, hb, hml, hown, hts⟩ (c_X5_isWithin (l := l) G cy  s.heap.size x1 0 2  (f_X5_isWithin x1 0 2) rfl) ⟨va_cnB 3 hts gX4_putRule_X5_isWithin_n132 rfl rfl rfl hN.2.1 (hts (.initialized RX5) (by decide +kernel)) ddN_X5_isWithin ⟨Nat.le_of_ble_eq_true rfl, Nat.le_of_ble_eq_true rfl⟩, hts (.static yX5_isWithin) (by decide +kernel), trivial⟩ (preS_ (hP.sub (ws' := []) [] rfl) hK (hD.sub (ws' := []) [] rfl rfl) hN) rfl rfl hl.1 rfl (lv_room (Nat.le_of_ble_eq_true rfl)) dX4_putRule_3 ⟨Nat.le_of_ble_eq_true rfl, Nat.le_of_ble_eq_true rfl⟩) (fun H locs hP hD hS => ?_)
  have hP : va_P G vwCl [(a_0, wv s_0)] H := hP
  have hD : va_D A [(a_0, wv s_0)] := hD
  refine lv_if_ne (tgt := 11) hx hb dX4_putRule_6 (by decide) (fun h_1 => ?_) (fun h_1 => ?_)
  · have hf := ip_ (bI_n0 h_1) hf
    refine lv_aload_n hx hb dX4_putRule_11 rfl (lv_at hl 0 rfl) ?_
    refine va_get (D := G) (ci := 4) (v := .int (w_rule s_0)) (C := RX4) (T := TX4) (N := 12) hx hb hts iw_X4_putRule_X4 hown hK hP 0 rfl rfl 2 (by decide) (hts (.fieldLink RX4 18 "PaneFrost$Window" "rule" "I") (by decide +kernel)) (fun _ h9 => h9) rfl dX4_putRule_12 ?_
    refine lv_istore_n (lv' := [(2, .int (w_rule s_0)), (0, .ref a_0), (1, .int x1)]) hx hb dX4_putRule_15 rfl hl (by decide) rfl (fun ls hl => ?_)
    refine lv_aload_n hx hb dX4_putRule_16 rfl (lv_at hl 1 rfl) ?_
    refine lv_iload_n hx hb dX4_putRule_17 rfl (lv_at hl 2 rfl) ?_
    refine va_put (D := G) (ci := 4) (v := .int x1) (ty := .int) (C := RX4) (T := TX4) (N := 12) hx hb hts iw_X4_putRule_X4 tyX4 tyX4_ok nmX4 hown hK hP hD hS 0 rfl rfl 2 (by decide) (hts (.fieldLink RX4 18 "PaneFrost$Window" "rule" "I") (by decide +kernel)) (fun _ h9 => h9) rfl (by decide +kernel) rfl rfl (Nat.le_of_ble_eq_true rfl) dX4_putRule_18 (fun H locs hP hD hS => ?_)
    have hP : va_P G vwCl [(a_0, wv (w_rows s_0, w_cells s_0, x1, w_nights s_0, w_frozen s_0, w_kinds s_0, w_topRow s_0, w_rightColumn s_0, w_bottomRow s_0, w_leftColumn s_0, w_rightScratches s_0, w_lowerScratches s_0))] H := hP
    have hD : va_D A [(a_0, wv (w_rows s_0, w_cells s_0, x1, w_nights s_0, w_frozen s_0, w_kinds s_0, w_topRow s_0, w_rightColumn s_0, w_bottomRow s_0, w_leftColumn s_0, w_rightScratches s_0, w_lowerScratches s_0))] := hD
    refine lv_iload_n hx hb dX4_putRule_21 rfl (lv_at hl 0 rfl) ?_
    subst hf
    exact kr_i hx hb hr hlocks rfl hP hK hD hN hS hS.2.2 dX4_putRule_22
  · have hf := in_ (bI_0 h_1) hf
    refine lv_iconst (v := (-1)) hx hb dX4_putRule_9 (by decide) ?_
    subst hf
    exact kr_i hx hb hr hlocks rfl hP hK hD hN hS hS.2.2 dX4_putRule_10
set_option maxHeartbeats 4000000 in
set_option maxRecDepth 100000 in
theorem c_X4_thaw {l : Launch} (G : va_G) (cy : Nat → ClassId) (a_0 : Nat) (sz : Nat) (s_0 : WT) (x1 : Int32) (x2 : Int32) (n : Nat) (R : Int32 × WT) (hf : f_X4_thaw n s_0 x1 x2 = some R) : Met l yX4_thaw wsX4_thaw ({ frames := 3, cells := 0, slots := 0, locals := 71 } : Room) (va_Pc [.ref a_0, .int x1, .int x2] (pcW G cy [(a_0, wv s_0)] sz)) (va_Qi (fun r (_ : Unit) => r = R.1) (fun _ t => Wd G cy (va_A [(a_0, wv s_0)] sz) [(a_0, wv R.2)] t) (va_A [(a_0, wv s_0)] sz)) 0 0 (va_A [(a_0, wv s_0)] sz) := by
  refine Met.ofW (cc := cX4_thaw) (maxL := 6) (ret := (some .int)) (by decide) rfl ?_
  intro p e s m args below meth c s₁ B hml hv
  obtain ⟨rfl, hsz, hP, hK, hD0, hN⟩ := hv
  have hx := B.exec
  have hb := B.bytes
  have hr := B.returns
  have hts := atoms_spec (ws := wsX4_thaw) B.pre
  have hown : s.vm.findClass RX4 = some m.cls := findClass_of_methodNamed B.named
  have hlocks := B.notSynchronized
  subst hsz
  have hD := hD0.self (sz := s.heap.size)
  generalize hAe : va_A [(a_0, wv s_0)] s.heap.size = A at hD ⊢
  have hA : ∀ q : Nat, s.heap.size ≤ q → A q := fun q h => by rw [← hAe]; exact Or.inr h
  have hS : va_S A s.heap s.heap [] := va_S.rf
  have hP : va_P G vwCl [(a_0, wv s_0)] s.heap := hP
  have bl_27 : ∀ (y2 : Int32), ∀ (k : Nat), ∀ (c_s_0 : WT) (y3 : Int64) (y5 : Int32) (H : Heap) (locs : List Loc), f_X4_thaw_b27 n y2 k c_s_0 y3 y5 = some R → va_P G vwCl [(a_0, wv c_s_0)] H → va_D A [(a_0, wv c_s_0)] → va_S A s.heap H locs → ∀ (ls : Array Slot), lv_has ls 6 [(0, .ref a_0), (2, .int y2), (3, .long y3), (5, .int y5)] → W p l e ({ frames := 3, cells := 0, slots := 0, locals := 71 } : Room) s m [.ref a_0, .int x1, .int x2].toArray below meth c H locs 0 0 (MQ below (va_Qi (fun r (_ : Unit) => r = R.1) (fun _ t => Wd G cy A [(a_0, wv R.2)] t) A) [.ref a_0, .int x1, .int x2].toArray s 0 0 A) (F0 m 27 ls []) := by
    intro y2
    intro k
    induction k with
    | zero =>
      intro c_s_0 y3 y5 H locs hf; cases hf
    | succ k ih =>
      intro c_s_0 y3 y5 H locs hf hP hD hS ls hl
      have hf := (f_X4_thaw_b27_s n y2 k c_s_0 y3 y5).symm.trans hf
      refine lv_iload hx hb dX4_thaw_27 (lv_at hl 3 rfl) ?_
      refine lv_iload_n hx hb dX4_thaw_29 rfl (lv_at hl 1 rfl) ?_
      refine lv_icmp_ge (tgt := 47) hx hb dX4_thaw_30 (by decide) (fun h_1 => ?_) (fun h_1 => ?_)
      · have hf := ip_ h_1 hf
        refine lv_aload_n hx hb dX4_thaw_47 rfl (lv_at hl 0 rfl) ?_
        refine va_get (D := G) (ci := 4) (v := .long (w_frozen c_s_0)) (C := RX4) (T := TX4) (N := 12) hx hb hts iw_X4_thaw_X4 hown hK hP 0 rfl rfl 4 (by decide) (hts (.fieldLink RX4 27 "PaneFrost$Window" "frozen" "J") (by decide +kernel)) (fun _ h9 => h9) rfl dX4_thaw_48 ?_
        refine lv_lload_n hx hb dX4_thaw_51 rfl (lv_at hl 2 rfl) ?_
        refine lv_land hx hb dX4_thaw_52 ?_
        refine kc_i (w1 := []) (wr := [(a_0, wv c_s_0)]) hP hD hS hA [] [0] rfl rfl rfl (by decide) (va_runS (As := [.long ((w_frozen c_s_0) &&& y3)]) (rest := []) ⟨hx, hb, hml, hown, hts⟩ (c_J13_bitCount_95d88 (l := l) G cy  H.size ((w_frozen c_s_0) &&& y3)  (f_J13_bitCount_95d88 ((w_frozen c_s_0) &&& y3)) rfl) (va_cwS 1 hts gX4_thaw_J13_bitCount_95d88 rfl rfl rfl ddN_J13_bitCount_95d88 ⟨Nat.le_of_ble_eq_true rfl, Nat.le_of_ble_eq_true rfl⟩) (preS_ (hP.sub (ws' := []) [] rfl) hK (hD.sub (ws' := []) [] rfl rfl) hN) rfl rfl hl.1 rfl (lv_room (Nat.le_of_ble_eq_true rfl)) dX4_thaw_53 ⟨Nat.le_of_ble_eq_true rfl, Nat.le_of_ble_eq_true rfl⟩) (fun H locs hP hD hS => ?_)
        have hP : va_P G vwCl [(a_0, wv c_s_0)] H := hP
        have hD : va_D A [(a_0, wv c_s_0)] := hD
        refine lv_istore (lv' := [(5, .int (f_J13_bitCount_95d88 ((w_frozen c_s_0) &&& y3))), (0, .ref a_0), (2, .int y2), (3, .long y3)]) hx hb dX4_thaw_56 hl (by decide) rfl (fun ls hl => ?_)
        refine lv_aload_n hx hb dX4_thaw_58 rfl (lv_at hl 1 rfl) ?_
        refine lv_dup hx hb dX4_thaw_59 rfl ?_
        refine va_get (D := G) (ci := 4) (v := .long (w_frozen c_s_0)) (C := RX4) (T := TX4) (N := 12) hx hb hts iw_X4_thaw_X4 hown hK hP 0 rfl rfl 4 (by decide) (hts (.fieldLink RX4 27 "PaneFrost$Window" "frozen" "J") (by decide +kernel)) (fun _ h9 => h9) rfl dX4_thaw_60 ?_
        refine lv_lload_n hx hb dX4_thaw_63 rfl (lv_at hl 3 rfl) ?_
        refine lv_ldc2 (v := (-1)) hx hb hown (hts (.constantLong RX4 82 (-1)) (by decide +kernel)) dX4_thaw_64 ?_
        refine lv_lxor hx hb dX4_thaw_67 ?_
        refine lv_land hx hb dX4_thaw_68 ?_
        refine va_put (D := G) (ci := 4) (v := .long ((w_frozen c_s_0) &&& (y3 ^^^ (-1)))) (ty := .long) (C := RX4) (T := TX4) (N := 12) hx hb hts iw_X4_thaw_X4 tyX4 tyX4_ok nmX4 hown hK hP hD hS 0 rfl rfl 4 (by decide) (hts (.fieldLink RX4 27 "PaneFrost$Window" "frozen" "J") (by decide +kernel)) (fun _ h9 => h9) rfl (by decide +kernel) rfl rfl (Nat.le_of_ble_eq_true rfl) dX4_thaw_69 (fun H locs hP hD hS => ?_)
        have hP : va_P G vwCl [(a_0, wv (w_rows c_s_0, w_cells c_s_0, w_rule c_s_0, w_nights c_s_0, ((w_frozen c_s_0) &&& (y3 ^^^ (-1))), w_kinds c_s_0, w_topRow c_s_0, w_rightColumn c_s_0, w_bottomRow c_s_0, w_leftColumn c_s_0, w_rightScratches c_s_0, w_lowerScratches c_s_0))] H := hP
        have hD : va_D A [(a_0, wv (w_rows c_s_0, w_cells c_s_0, w_rule c_s_0, w_nights c_s_0, ((w_frozen c_s_0) &&& (y3 ^^^ (-1))), w_kinds c_s_0, w_topRow c_s_0, w_rightColumn c_s_0, w_bottomRow c_s_0, w_leftColumn c_s_0, w_rightScratches c_s_0, w_lowerScratches c_s_0))] := hD
        refine lv_iload hx hb dX4_thaw_72 (lv_at hl 0 rfl) ?_
        obtain rfl := Option.some.inj hf
        exact kr_i hx hb hr hlocks rfl hP hK hD hN hS hS.2.2 dX4_thaw_74
      · have hf := in_ h_1 hf
        refine lv_lload_n hx hb dX4_thaw_33 rfl (lv_at hl 2 rfl) ?_
        refine lv_aload_n hx hb dX4_thaw_34 rfl (lv_at hl 0 rfl) ?_
        refine lv_lload_n hx hb dX4_thaw_35 rfl (lv_at hl 2 rfl) ?_
        refine kc_l (w1 := [(a_0, wv c_s_0)]) (wr := []) hP hD hS hA [0] [] rfl rfl rfl (by decide) (va_runV (As := [.long y3]) (rest := [.long y3]) ⟨hx, hb, hml, hown, hts⟩ (c_X4_around (l := l) G cy a_0 H.size c_s_0 y3  (f_X4_around c_s_0 y3) rfl) (cwV 1 hts gX4_thaw_X4_around rfl rfl rfl ddV_X4_around ⟨Nat.le_of_ble_eq_true rfl, Nat.le_of_ble_eq_true rfl⟩) (preV_ (ci := 4) (q0 := 0) rfl rfl hP hK hD hN) rfl rfl hl.1 rfl (lv_room (Nat.le_of_ble_eq_true rfl)) dX4_thaw_36 ⟨Nat.le_of_ble_eq_true rfl, Nat.le_of_ble_eq_true rfl⟩) (fun H locs hP hD hS => ?_)
        have hP : va_P G vwCl [(a_0, wv c_s_0)] H := hP
        have hD : va_D A [(a_0, wv c_s_0)] := hD
        refine lv_lor hx hb dX4_thaw_39 ?_
        refine lv_lstore_n (lv' := [(3, .long (y3 ||| (f_X4_around c_s_0 y3))), (0, .ref a_0), (2, .int y2), (5, .int y5)]) hx hb dX4_thaw_40 rfl hl (by decide) rfl (fun ls hl => ?_)
        refine lv_iinc (v := (y5 + 1)) (lv' := [(5, .int (y5 + 1)), (3, .long (y3 ||| (f_X4_around c_s_0 y3))), (0, .ref a_0), (2, .int y2)]) hx hb dX4_thaw_41 hl (k := 3) rfl rfl (by decide) rfl (fun ls hl => ?_)
        refine lv_goto (tgt := 27) hx hb dX4_thaw_44 (by decide) ?_
        exact ih c_s_0 (y3 ||| (f_X4_around c_s_0 y3)) (y5 + 1) _ _ hf hP hD hS ls (lv_sub hl [2, 3, 1, 0] rfl)
  have hl := lv_entry [.ref a_0, .int x1, .int x2] (n := 6) (Nat.le_of_ble_eq_true rfl)
  rw [lg_entry_eq]
  generalize (lg_sl [.ref a_0, .int x1, .int x2] ++ List.replicate (6 - (lg_sl [.ref a_0, .int x1, .int x2]).length) Slot.unset).toArray = ls at hl ⊢
  have hl : lv_has ls 6 [(0, .ref a_0), (1, .int x1), (2, .int x2)] := hl
  unfold f_X4_thaw at hf
  refine lv_aload_n hx hb dX4_thaw_0 rfl (lv_at hl 0 rfl) ?_
  refine lv_iload_n hx hb dX4_thaw_1 rfl (lv_at hl 1 rfl) ?_
  refine kc_i (w1 := [(a_0, wv s_0)]) (wr := []) hP hD hS hA [0] [] rfl rfl rfl (by decide) (va_runV (As := [.int x1]) (rest := []) ⟨hx, hb, hml, hown, hts⟩ (c_X4_hasCell (l := l) G cy a_0 s.heap.size s_0 x1  (f_X4_hasCell s_0 x1) rfl) (cwV 1 hts gX4_thaw_X4_hasCell rfl rfl rfl ddV_X4_hasCell ⟨Nat.le_of_ble_eq_true rfl, Nat.le_of_ble_eq_true rfl⟩) (preV_ (ci := 4) (q0 := 0) rfl rfl hP hK hD hN) rfl rfl hl.1 rfl (lv_room (Nat.le_of_ble_eq_true rfl)) dX4_thaw_2 ⟨Nat.le_of_ble_eq_true rfl, Nat.le_of_ble_eq_true rfl⟩) (fun H locs hP hD hS => ?_)
  have hP : va_P G vwCl [(a_0, wv s_0)] H := hP
  have hD : va_D A [(a_0, wv s_0)] := hD
  refine lv_if_eq (tgt := 18) hx hb dX4_thaw_5 (by decide) (fun h_2 => ?_) (fun h_2 => ?_)
  · have hf := in_ (bI_0 h_2) hf
    refine lv_iconst (v := (-1)) hx hb dX4_thaw_18 (by decide) ?_
    obtain rfl := Option.some.inj hf
    exact kr_i hx hb hr hlocks rfl hP hK hD hN hS hS.2.2 dX4_thaw_19
  · have hf := ip_ (bI_n0 h_2) hf
    refine lv_iload_n hx hb dX4_thaw_8 rfl (lv_at hl 2 rfl) ?_
    refine lv_iconst (v := 0) hx hb dX4_thaw_9 (by decide) ?_
    refine lv_bipush (v := 9) hx hb dX4_thaw_10 (by decide) ?_
    refine kc_i (w1 := []) (wr := [(a_0, wv s_0)]) hP hD hS hA [] [0] rfl rfl rfl (by decide) (va_runSN (As := [.int x2, .int 0, .int 9]) (rest := []) ⟨hx, hb, hml, hown, hts⟩ (c_X5_isWithin (l := l) G cy  H.size x2 0 9  (f_X5_isWithin x2 0 9) rfl) ⟨va_cnB 3 hts gX4_thaw_X5_isWithin_n132 rfl rfl rfl hN.2.1 (hts (.initialized RX5) (by decide +kernel)) ddN_X5_isWithin ⟨Nat.le_of_ble_eq_true rfl, Nat.le_of_ble_eq_true rfl⟩, hts (.static yX5_isWithin) (by decide +kernel), trivial⟩ (preS_ (hP.sub (ws' := []) [] rfl) hK (hD.sub (ws' := []) [] rfl rfl) hN) rfl rfl hl.1 rfl (lv_room (Nat.le_of_ble_eq_true rfl)) dX4_thaw_12 ⟨Nat.le_of_ble_eq_true rfl, Nat.le_of_ble_eq_true rfl⟩) (fun H locs hP hD hS => ?_)
    have hP : va_P G vwCl [(a_0, wv s_0)] H := hP
    have hD : va_D A [(a_0, wv s_0)] := hD
    refine lv_if_ne (tgt := 20) hx hb dX4_thaw_15 (by decide) (fun h_3 => ?_) (fun h_3 => ?_)
    · have hf := ip_ (bI_n0 h_3) hf
      refine lv_lconst (v := 1) hx hb dX4_thaw_20 rfl ?_
      refine lv_iload_n hx hb dX4_thaw_21 rfl (lv_at hl 1 rfl) ?_
      refine lv_lshl (v := (jsl 1 x1)) hx hb dX4_thaw_22 rfl ?_
      refine lv_lstore_n (lv' := [(3, .long (jsl 1 x1)), (0, .ref a_0), (1, .int x1), (2, .int x2)]) hx hb dX4_thaw_23 rfl hl (by decide) rfl (fun ls hl => ?_)
      refine lv_iconst (v := 0) hx hb dX4_thaw_24 (by decide) ?_
      refine lv_istore (lv' := [(5, .int 0), (3, .long (jsl 1 x1)), (0, .ref a_0), (1, .int x1), (2, .int x2)]) hx hb dX4_thaw_25 hl (by decide) rfl (fun ls hl => ?_)
      exact bl_27 x2 n s_0 (jsl 1 x1) 0 _ _ hf hP hD hS ls (lv_sub hl [2, 4, 1, 0] rfl)
    · have hf := in_ (bI_0 h_3) hf
      refine lv_iconst (v := (-1)) hx hb dX4_thaw_18 (by decide) ?_
      obtain rfl := Option.some.inj hf
      exact kr_i hx hb hr hlocks rfl hP hK hD hN hS hS.2.2 dX4_thaw_19
set_option maxHeartbeats 4000000 in
set_option maxRecDepth 100000 in
theorem c_X4_pass {l : Launch} (G : va_G) (cy : Nat → ClassId) (a_0 : Nat) (sz : Nat) (s_0 : WT) (x1 : Int32) (n : Nat) (R : Int32 × WT) (hf : f_X4_pass n s_0 x1 = some R) : Met l yX4_pass wsX4_pass ({ frames := 4, cells := 0, slots := 0, locals := 96 } : Room) (va_Pc [.ref a_0, .int x1] (pcW G cy [(a_0, wv s_0)] sz)) (va_Qi (fun r (_ : Unit) => r = R.1) (fun _ t => Wd G cy (va_A [(a_0, wv s_0)] sz) [(a_0, wv R.2)] t) (va_A [(a_0, wv s_0)] sz)) 0 0 (va_A [(a_0, wv s_0)] sz) := by
  refine Met.ofW (cc := cX4_pass) (maxL := 3) (ret := (some .int)) (by decide) rfl ?_
  intro p e s m args below meth c s₁ B hml hv
  obtain ⟨rfl, hsz, hP, hK, hD0, hN⟩ := hv
  have hx := B.exec
  have hb := B.bytes
  have hr := B.returns
  have hts := atoms_spec (ws := wsX4_pass) B.pre
  have hown : s.vm.findClass RX4 = some m.cls := findClass_of_methodNamed B.named
  have hlocks := B.notSynchronized
  subst hsz
  have hD := hD0.self (sz := s.heap.size)
  generalize hAe : va_A [(a_0, wv s_0)] s.heap.size = A at hD ⊢
  have hA : ∀ q : Nat, s.heap.size ≤ q → A q := fun q h => by rw [← hAe]; exact Or.inr h
  have hS : va_S A s.heap s.heap [] := va_S.rf
  have hP : va_P G vwCl [(a_0, wv s_0)] s.heap := hP
  have bl_14 : ∀ (y1 : Int32), ∀ (k : Nat), ∀ (c_s_0 : WT) (y2 : Int32) (H : Heap) (locs : List Loc), f_X4_pass_b14 n y1 k c_s_0 y2 = some R → va_P G vwCl [(a_0, wv c_s_0)] H → va_D A [(a_0, wv c_s_0)] → va_S A s.heap H locs → ∀ (ls : Array Slot), lv_has ls 3 [(0, .ref a_0), (1, .int y1), (2, .int y2)] → W p l e ({ frames := 4, cells := 0, slots := 0, locals := 96 } : Room) s m [.ref a_0, .int x1].toArray below meth c H locs 0 0 (MQ below (va_Qi (fun r (_ : Unit) => r = R.1) (fun _ t => Wd G cy A [(a_0, wv R.2)] t) A) [.ref a_0, .int x1].toArray s 0 0 A) (F0 m 14 ls []) := by
    intro y1
    intro k
    induction k with
    | zero =>
      intro c_s_0 y2 H locs hf; cases hf
    | succ k ih =>
      intro c_s_0 y2 H locs hf hP hD hS ls hl
      have hf := (f_X4_pass_b14_s n y1 k c_s_0 y2).symm.trans hf
      refine lv_iload_n hx hb dX4_pass_14 rfl (lv_at hl 2 rfl) ?_
      refine lv_iload_n hx hb dX4_pass_15 rfl (lv_at hl 1 rfl) ?_
      refine lv_icmp_ge (tgt := 37) hx hb dX4_pass_16 (by decide) (fun h_1 => ?_) (fun h_1 => ?_)
      · have hf := ip_ h_1 hf
        refine lv_aload_n hx hb dX4_pass_37 rfl (lv_at hl 0 rfl) ?_
        refine lv_dup hx hb dX4_pass_38 rfl ?_
        refine va_get (D := G) (ci := 4) (v := .int (w_nights c_s_0)) (C := RX4) (T := TX4) (N := 12) hx hb hts iw_X4_pass_X4 hown hK hP 0 rfl rfl 3 (by decide) (hts (.fieldLink RX4 21 "PaneFrost$Window" "nights" "I") (by decide +kernel)) (fun _ h9 => h9) rfl dX4_pass_39 ?_
        refine lv_iload_n hx hb dX4_pass_42 rfl (lv_at hl 1 rfl) ?_
        refine lv_iadd hx hb dX4_pass_43 ?_
        refine va_put (D := G) (ci := 4) (v := .int ((w_nights c_s_0) + y1)) (ty := .int) (C := RX4) (T := TX4) (N := 12) hx hb hts iw_X4_pass_X4 tyX4 tyX4_ok nmX4 hown hK hP hD hS 0 rfl rfl 3 (by decide) (hts (.fieldLink RX4 21 "PaneFrost$Window" "nights" "I") (by decide +kernel)) (fun _ h9 => h9) rfl (by decide +kernel) rfl rfl (Nat.le_of_ble_eq_true rfl) dX4_pass_44 (fun H locs hP hD hS => ?_)
        have hP : va_P G vwCl [(a_0, wv (w_rows c_s_0, w_cells c_s_0, w_rule c_s_0, ((w_nights c_s_0) + y1), w_frozen c_s_0, w_kinds c_s_0, w_topRow c_s_0, w_rightColumn c_s_0, w_bottomRow c_s_0, w_leftColumn c_s_0, w_rightScratches c_s_0, w_lowerScratches c_s_0))] H := hP
        have hD : va_D A [(a_0, wv (w_rows c_s_0, w_cells c_s_0, w_rule c_s_0, ((w_nights c_s_0) + y1), w_frozen c_s_0, w_kinds c_s_0, w_topRow c_s_0, w_rightColumn c_s_0, w_bottomRow c_s_0, w_leftColumn c_s_0, w_rightScratches c_s_0, w_lowerScratches c_s_0))] := hD
        refine lv_aload_n hx hb dX4_pass_47 rfl (lv_at hl 0 rfl) ?_
        refine va_get (D := G) (ci := 4) (v := .long (w_frozen c_s_0)) (C := RX4) (T := TX4) (N := 12) hx hb hts iw_X4_pass_X4 hown hK hP 0 rfl rfl 4 (by decide) (hts (.fieldLink RX4 27 "PaneFrost$Window" "frozen" "J") (by decide +kernel)) (fun _ h9 => h9) rfl dX4_pass_48 ?_
        refine kc_i (w1 := []) (wr := [(a_0, wv (w_rows c_s_0, w_cells c_s_0, w_rule c_s_0, ((w_nights c_s_0) + y1), w_frozen c_s_0, w_kinds c_s_0, w_topRow c_s_0, w_rightColumn c_s_0, w_bottomRow c_s_0, w_leftColumn c_s_0, w_rightScratches c_s_0, w_lowerScratches c_s_0))]) hP hD hS hA [] [0] rfl rfl rfl (by decide) (va_runS (As := [.long (w_frozen c_s_0)]) (rest := []) ⟨hx, hb, hml, hown, hts⟩ (c_J13_bitCount_95d88 (l := l) G cy  H.size (w_frozen c_s_0)  (f_J13_bitCount_95d88 (w_frozen c_s_0)) rfl) (va_cwS 1 hts gX4_pass_J13_bitCount_95d88 rfl rfl rfl ddN_J13_bitCount_95d88 ⟨Nat.le_of_ble_eq_true rfl, Nat.le_of_ble_eq_true rfl⟩) (preS_ (hP.sub (ws' := []) [] rfl) hK (hD.sub (ws' := []) [] rfl rfl) hN) rfl rfl hl.1 rfl (lv_room (Nat.le_of_ble_eq_true rfl)) dX4_pass_51 ⟨Nat.le_of_ble_eq_true rfl, Nat.le_of_ble_eq_true rfl⟩) (fun H locs hP hD hS => ?_)
        have hP : va_P G vwCl [(a_0, wv (w_rows c_s_0, w_cells c_s_0, w_rule c_s_0, ((w_nights c_s_0) + y1), w_frozen c_s_0, w_kinds c_s_0, w_topRow c_s_0, w_rightColumn c_s_0, w_bottomRow c_s_0, w_leftColumn c_s_0, w_rightScratches c_s_0, w_lowerScratches c_s_0))] H := hP
        have hD : va_D A [(a_0, wv (w_rows c_s_0, w_cells c_s_0, w_rule c_s_0, ((w_nights c_s_0) + y1), w_frozen c_s_0, w_kinds c_s_0, w_topRow c_s_0, w_rightColumn c_s_0, w_bottomRow c_s_0, w_leftColumn c_s_0, w_rightScratches c_s_0, w_lowerScratches c_s_0))] := hD
        obtain rfl := Option.some.inj hf
        exact kr_i hx hb hr hlocks rfl hP hK hD hN hS hS.2.2 dX4_pass_54
      · have hf := in_ h_1 hf
        refine lv_aload_n hx hb dX4_pass_19 rfl (lv_at hl 0 rfl) ?_
        refine lv_aload_n hx hb dX4_pass_20 rfl (lv_at hl 0 rfl) ?_
        refine lv_aload_n hx hb dX4_pass_21 rfl (lv_at hl 0 rfl) ?_
        refine va_get (D := G) (ci := 4) (v := .long (w_frozen c_s_0)) (C := RX4) (T := TX4) (N := 12) hx hb hts iw_X4_pass_X4 hown hK hP 0 rfl rfl 4 (by decide) (hts (.fieldLink RX4 27 "PaneFrost$Window" "frozen" "J") (by decide +kernel)) (fun _ h9 => h9) rfl dX4_pass_22 ?_
        refine kc_l (w1 := [(a_0, wv c_s_0)]) (wr := []) hP hD hS hA [0] [] rfl rfl rfl (by decide) (va_runV (As := [.long (w_frozen c_s_0)]) (rest := [.ref a_0]) ⟨hx, hb, hml, hown, hts⟩ (c_X4_after (l := l) G cy a_0 H.size c_s_0 (w_frozen c_s_0)  (f_X4_after c_s_0 (w_frozen c_s_0)) rfl) (cwV 1 hts gX4_pass_X4_after rfl rfl rfl ddV_X4_after ⟨Nat.le_of_ble_eq_true rfl, Nat.le_of_ble_eq_true rfl⟩) (preV_ (ci := 4) (q0 := 0) rfl rfl hP hK hD hN) rfl rfl hl.1 rfl (lv_room (Nat.le_of_ble_eq_true rfl)) dX4_pass_25 ⟨Nat.le_of_ble_eq_true rfl, Nat.le_of_ble_eq_true rfl⟩) (fun H locs hP hD hS => ?_)
        have hP : va_P G vwCl [(a_0, wv c_s_0)] H := hP
        have hD : va_D A [(a_0, wv c_s_0)] := hD
        refine va_put (D := G) (ci := 4) (v := .long (f_X4_after c_s_0 (w_frozen c_s_0))) (ty := .long) (C := RX4) (T := TX4) (N := 12) hx hb hts iw_X4_pass_X4 tyX4 tyX4_ok nmX4 hown hK hP hD hS 0 rfl rfl 4 (by decide) (hts (.fieldLink RX4 27 "PaneFrost$Window" "frozen" "J") (by decide +kernel)) (fun _ h9 => h9) rfl (by decide +kernel) rfl rfl (Nat.le_of_ble_eq_true rfl) dX4_pass_28 (fun H locs hP hD hS => ?_)
        have hP : va_P G vwCl [(a_0, wv (w_rows c_s_0, w_cells c_s_0, w_rule c_s_0, w_nights c_s_0, (f_X4_after c_s_0 (w_frozen c_s_0)), w_kinds c_s_0, w_topRow c_s_0, w_rightColumn c_s_0, w_bottomRow c_s_0, w_leftColumn c_s_0, w_rightScratches c_s_0, w_lowerScratches c_s_0))] H := hP
        have hD : va_D A [(a_0, wv (w_rows c_s_0, w_cells c_s_0, w_rule c_s_0, w_nights c_s_0, (f_X4_after c_s_0 (w_frozen c_s_0)), w_kinds c_s_0, w_topRow c_s_0, w_rightColumn c_s_0, w_bottomRow c_s_0, w_leftColumn c_s_0, w_rightScratches c_s_0, w_lowerScratches c_s_0))] := hD
        refine lv_iinc (v := (y2 + 1)) (lv' := [(2, .int (y2 + 1)), (0, .ref a_0), (1, .int y1)]) hx hb dX4_pass_31 hl (k := 2) rfl rfl (by decide) rfl (fun ls hl => ?_)
        refine lv_goto (tgt := 14) hx hb dX4_pass_34 (by decide) ?_
        exact ih (w_rows c_s_0, w_cells c_s_0, w_rule c_s_0, w_nights c_s_0, (f_X4_after c_s_0 (w_frozen c_s_0)), w_kinds c_s_0, w_topRow c_s_0, w_rightColumn c_s_0, w_bottomRow c_s_0, w_leftColumn c_s_0, w_rightScratches c_s_0, w_lowerScratches c_s_0) (y2 + 1) _ _ hf hP hD hS ls (lv_sub hl [1, 2, 0] rfl)
  have hl := lv_entry [.ref a_0, .int x1] (n := 3) (Nat.le_of_ble_eq_true rfl)
  rw [lg_entry_eq]
  generalize (lg_sl [.ref a_0, .int x1] ++ List.replicate (3 - (lg_sl [.ref a_0, .int x1]).length) Slot.unset).toArray = ls at hl ⊢
  have hl : lv_has ls 3 [(0, .ref a_0), (1, .int x1)] := hl
  unfold f_X4_pass at hf
  refine lv_iload_n hx hb dX4_pass_0 rfl (lv_at hl 1 rfl) ?_
  refine lv_iconst (v := 1) hx hb dX4_pass_1 (by decide) ?_
  refine lv_bipush (v := 60) hx hb dX4_pass_2 (by decide) ?_
  refine kc_i (w1 := []) (wr := [(a_0, wv s_0)]) hP hD hS hA [] [0] rfl rfl rfl (by decide) (va_runSN (As := [.int x1, .int 1, .int 60]) (rest := []) ⟨hx, hb, hml, hown, hts⟩ (c_X5_isWithin (l := l) G cy  s.heap.size x1 1 60  (f_X5_isWithin x1 1 60) rfl) ⟨va_cnB 3 hts gX4_pass_X5_isWithin_n132 rfl rfl rfl hN.2.1 (hts (.initialized RX5) (by decide +kernel)) ddN_X5_isWithin ⟨Nat.le_of_ble_eq_true rfl, Nat.le_of_ble_eq_true rfl⟩, hts (.static yX5_isWithin) (by decide +kernel), trivial⟩ (preS_ (hP.sub (ws' := []) [] rfl) hK (hD.sub (ws' := []) [] rfl rfl) hN) rfl rfl hl.1 rfl (lv_room (Nat.le_of_ble_eq_true rfl)) dX4_pass_4 ⟨Nat.le_of_ble_eq_true rfl, Nat.le_of_ble_eq_true rfl⟩) (fun H locs hP hD hS => ?_)
  have hP : va_P G vwCl [(a_0, wv s_0)] H := hP
  have hD : va_D A [(a_0, wv s_0)] := hD
  refine lv_if_ne (tgt := 12) hx hb dX4_pass_7 (by decide) (fun h_2 => ?_) (fun h_2 => ?_)
  · have hf := ip_ (bI_n0 h_2) hf
    refine lv_iconst (v := 0) hx hb dX4_pass_12 (by decide) ?_
    refine lv_istore_n (lv' := [(2, .int 0), (0, .ref a_0), (1, .int x1)]) hx hb dX4_pass_13 rfl hl (by decide) rfl (fun ls hl => ?_)
    exact bl_14 x1 n s_0 0 _ _ hf hP hD hS ls (lv_sub hl [1, 2, 0] rfl)
  · have hf := in_ (bI_0 h_2) hf
    refine lv_iconst (v := (-1)) hx hb dX4_pass_10 (by decide) ?_
    obtain rfl := Option.some.inj hf
    exact kr_i hx hb hr hlocks rfl hP hK hD hN hS hS.2.2 dX4_pass_11
