theorem ddN_L_call : yL_call.cls ≠ "java/lang/invoke/MethodHandle" ∧ yL_call.cls ≠ "java/lang/invoke/VarHandle" ∧ (parseMethodDescriptor yL_call.desc).map (fun d => d.parameters.length) = some 5 := by decide +kernel
theorem ddV_L_call : yL_call.cls = RL ∧ yL_call.cls ≠ "java/lang/invoke/MethodHandle" ∧ yL_call.cls ≠ "java/lang/invoke/VarHandle" ∧ (parseMethodDescriptor yL_call.desc).map (fun d => d.parameters.length) = some 5 := by decide +kernel
theorem ddN_L_clear : yL_clear.cls ≠ "java/lang/invoke/MethodHandle" ∧ yL_clear.cls ≠ "java/lang/invoke/VarHandle" ∧ (parseMethodDescriptor yL_clear.desc).map (fun d => d.parameters.length) = some 5 := by decide +kernel
theorem ddV_L_clear : yL_clear.cls = RL ∧ yL_clear.cls ≠ "java/lang/invoke/MethodHandle" ∧ yL_clear.cls ≠ "java/lang/invoke/VarHandle" ∧ (parseMethodDescriptor yL_clear.desc).map (fun d => d.parameters.length) = some 5 := by decide +kernel
theorem ddN_L_doScript : yL_doScript.cls ≠ "java/lang/invoke/MethodHandle" ∧ yL_doScript.cls ≠ "java/lang/invoke/VarHandle" ∧ (parseMethodDescriptor yL_doScript.desc).map (fun d => d.parameters.length) = some 3 := by decide +kernel
theorem ddV_L_doScript : yL_doScript.cls = RL ∧ yL_doScript.cls ≠ "java/lang/invoke/MethodHandle" ∧ yL_doScript.cls ≠ "java/lang/invoke/VarHandle" ∧ (parseMethodDescriptor yL_doScript.desc).map (fun d => d.parameters.length) = some 3 := by decide +kernel
theorem ddN_L_doSimulate : yL_doSimulate.cls ≠ "java/lang/invoke/MethodHandle" ∧ yL_doSimulate.cls ≠ "java/lang/invoke/VarHandle" ∧ (parseMethodDescriptor yL_doSimulate.desc).map (fun d => d.parameters.length) = some 3 := by decide +kernel
theorem ddV_L_doSimulate : yL_doSimulate.cls = RL ∧ yL_doSimulate.cls ≠ "java/lang/invoke/MethodHandle" ∧ yL_doSimulate.cls ≠ "java/lang/invoke/VarHandle" ∧ (parseMethodDescriptor yL_doSimulate.desc).map (fun d => d.parameters.length) = some 3 := by decide +kernel
theorem ddN_L_looks : yL_looks.cls ≠ "java/lang/invoke/MethodHandle" ∧ yL_looks.cls ≠ "java/lang/invoke/VarHandle" ∧ (parseMethodDescriptor yL_looks.desc).map (fun d => d.parameters.length) = some 2 := by decide +kernel
theorem ddV_L_looks : yL_looks.cls = RL ∧ yL_looks.cls ≠ "java/lang/invoke/MethodHandle" ∧ yL_looks.cls ≠ "java/lang/invoke/VarHandle" ∧ (parseMethodDescriptor yL_looks.desc).map (fun d => d.parameters.length) = some 2 := by decide +kernel
theorem ddN_L_thrown : yL_thrown.cls ≠ "java/lang/invoke/MethodHandle" ∧ yL_thrown.cls ≠ "java/lang/invoke/VarHandle" ∧ (parseMethodDescriptor yL_thrown.desc).map (fun d => d.parameters.length) = some 1 := by decide +kernel
theorem ddV_L_thrown : yL_thrown.cls = RL ∧ yL_thrown.cls ≠ "java/lang/invoke/MethodHandle" ∧ yL_thrown.cls ≠ "java/lang/invoke/VarHandle" ∧ (parseMethodDescriptor yL_thrown.desc).map (fun d => d.parameters.length) = some 1 := by decide +kernel
theorem ddN_L_tryAbout : yL_tryAbout.cls ≠ "java/lang/invoke/MethodHandle" ∧ yL_tryAbout.cls ≠ "java/lang/invoke/VarHandle" ∧ (parseMethodDescriptor yL_tryAbout.desc).map (fun d => d.parameters.length) = some 2 := by decide +kernel
theorem ddV_L_tryAbout : yL_tryAbout.cls = RL ∧ yL_tryAbout.cls ≠ "java/lang/invoke/MethodHandle" ∧ yL_tryAbout.cls ≠ "java/lang/invoke/VarHandle" ∧ (parseMethodDescriptor yL_tryAbout.desc).map (fun d => d.parameters.length) = some 2 := by decide +kernel
theorem ddN_L_tryAgain : yL_tryAgain.cls ≠ "java/lang/invoke/MethodHandle" ∧ yL_tryAgain.cls ≠ "java/lang/invoke/VarHandle" ∧ (parseMethodDescriptor yL_tryAgain.desc).map (fun d => d.parameters.length) = some 2 := by decide +kernel
theorem ddV_L_tryAgain : yL_tryAgain.cls = RL ∧ yL_tryAgain.cls ≠ "java/lang/invoke/MethodHandle" ∧ yL_tryAgain.cls ≠ "java/lang/invoke/VarHandle" ∧ (parseMethodDescriptor yL_tryAgain.desc).map (fun d => d.parameters.length) = some 2 := by decide +kernel
theorem ddN_L_tryAppend : yL_tryAppend.cls ≠ "java/lang/invoke/MethodHandle" ∧ yL_tryAppend.cls ≠ "java/lang/invoke/VarHandle" ∧ (parseMethodDescriptor yL_tryAppend.desc).map (fun d => d.parameters.length) = some 2 := by decide +kernel
theorem ddV_L_tryAppend : yL_tryAppend.cls = RL ∧ yL_tryAppend.cls ≠ "java/lang/invoke/MethodHandle" ∧ yL_tryAppend.cls ≠ "java/lang/invoke/VarHandle" ∧ (parseMethodDescriptor yL_tryAppend.desc).map (fun d => d.parameters.length) = some 2 := by decide +kernel
theorem ddN_L_tryBack : yL_tryBack.cls ≠ "java/lang/invoke/MethodHandle" ∧ yL_tryBack.cls ≠ "java/lang/invoke/VarHandle" ∧ (parseMethodDescriptor yL_tryBack.desc).map (fun d => d.parameters.length) = some 2 := by decide +kernel
theorem ddV_L_tryBack : yL_tryBack.cls = RL ∧ yL_tryBack.cls ≠ "java/lang/invoke/MethodHandle" ∧ yL_tryBack.cls ≠ "java/lang/invoke/VarHandle" ∧ (parseMethodDescriptor yL_tryBack.desc).map (fun d => d.parameters.length) = some 2 := by decide +kernel
theorem ddN_L_tryBefores : yL_tryBefores.cls ≠ "java/lang/invoke/MethodHandle" ∧ yL_tryBefores.cls ≠ "java/lang/invoke/VarHandle" ∧ (parseMethodDescriptor yL_tryBefores.desc).map (fun d => d.parameters.length) = some 1 := by decide +kernel
theorem ddV_L_tryBefores : yL_tryBefores.cls = RL ∧ yL_tryBefores.cls ≠ "java/lang/invoke/MethodHandle" ∧ yL_tryBefores.cls ≠ "java/lang/invoke/VarHandle" ∧ (parseMethodDescriptor yL_tryBefores.desc).map (fun d => d.parameters.length) = some 1 := by decide +kernel
theorem ddN_L_tryBorder : yL_tryBorder.cls ≠ "java/lang/invoke/MethodHandle" ∧ yL_tryBorder.cls ≠ "java/lang/invoke/VarHandle" ∧ (parseMethodDescriptor yL_tryBorder.desc).map (fun d => d.parameters.length) = some 3 := by decide +kernel
theorem ddV_L_tryBorder : yL_tryBorder.cls = RL ∧ yL_tryBorder.cls ≠ "java/lang/invoke/MethodHandle" ∧ yL_tryBorder.cls ≠ "java/lang/invoke/VarHandle" ∧ (parseMethodDescriptor yL_tryBorder.desc).map (fun d => d.parameters.length) = some 3 := by decide +kernel
theorem ddN_L_tryBreathe : yL_tryBreathe.cls ≠ "java/lang/invoke/MethodHandle" ∧ yL_tryBreathe.cls ≠ "java/lang/invoke/VarHandle" ∧ (parseMethodDescriptor yL_tryBreathe.desc).map (fun d => d.parameters.length) = some 3 := by decide +kernel
theorem ddV_L_tryBreathe : yL_tryBreathe.cls = RL ∧ yL_tryBreathe.cls ≠ "java/lang/invoke/MethodHandle" ∧ yL_tryBreathe.cls ≠ "java/lang/invoke/VarHandle" ∧ (parseMethodDescriptor yL_tryBreathe.desc).map (fun d => d.parameters.length) = some 3 := by decide +kernel
theorem ddN_L_tryCell : yL_tryCell.cls ≠ "java/lang/invoke/MethodHandle" ∧ yL_tryCell.cls ≠ "java/lang/invoke/VarHandle" ∧ (parseMethodDescriptor yL_tryCell.desc).map (fun d => d.parameters.length) = some 3 := by decide +kernel
theorem ddV_L_tryCell : yL_tryCell.cls = RL ∧ yL_tryCell.cls ≠ "java/lang/invoke/MethodHandle" ∧ yL_tryCell.cls ≠ "java/lang/invoke/VarHandle" ∧ (parseMethodDescriptor yL_tryCell.desc).map (fun d => d.parameters.length) = some 3 := by decide +kernel
theorem ddN_L_tryFlip : yL_tryFlip.cls ≠ "java/lang/invoke/MethodHandle" ∧ yL_tryFlip.cls ≠ "java/lang/invoke/VarHandle" ∧ (parseMethodDescriptor yL_tryFlip.desc).map (fun d => d.parameters.length) = some 2 := by decide +kernel
theorem ddV_L_tryFlip : yL_tryFlip.cls = RL ∧ yL_tryFlip.cls ≠ "java/lang/invoke/MethodHandle" ∧ yL_tryFlip.cls ≠ "java/lang/invoke/VarHandle" ∧ (parseMethodDescriptor yL_tryFlip.desc).map (fun d => d.parameters.length) = some 2 := by decide +kernel
theorem ddN_L_tryFreezes : yL_tryFreezes.cls ≠ "java/lang/invoke/MethodHandle" ∧ yL_tryFreezes.cls ≠ "java/lang/invoke/VarHandle" ∧ (parseMethodDescriptor yL_tryFreezes.desc).map (fun d => d.parameters.length) = some 2 := by decide +kernel
theorem ddV_L_tryFreezes : yL_tryFreezes.cls = RL ∧ yL_tryFreezes.cls ≠ "java/lang/invoke/MethodHandle" ∧ yL_tryFreezes.cls ≠ "java/lang/invoke/VarHandle" ∧ (parseMethodDescriptor yL_tryFreezes.desc).map (fun d => d.parameters.length) = some 2 := by decide +kernel
theorem ddN_L_tryKeep : yL_tryKeep.cls ≠ "java/lang/invoke/MethodHandle" ∧ yL_tryKeep.cls ≠ "java/lang/invoke/VarHandle" ∧ (parseMethodDescriptor yL_tryKeep.desc).map (fun d => d.parameters.length) = some 2 := by decide +kernel
theorem ddV_L_tryKeep : yL_tryKeep.cls = RL ∧ yL_tryKeep.cls ≠ "java/lang/invoke/MethodHandle" ∧ yL_tryKeep.cls ≠ "java/lang/invoke/VarHandle" ∧ (parseMethodDescriptor yL_tryKeep.desc).map (fun d => d.parameters.length) = some 2 := by decide +kernel
theorem ddN_L_tryKeeps : yL_tryKeeps.cls ≠ "java/lang/invoke/MethodHandle" ∧ yL_tryKeeps.cls ≠ "java/lang/invoke/VarHandle" ∧ (parseMethodDescriptor yL_tryKeeps.desc).map (fun d => d.parameters.length) = some 3 := by decide +kernel
theorem ddV_L_tryKeeps : yL_tryKeeps.cls = RL ∧ yL_tryKeeps.cls ≠ "java/lang/invoke/MethodHandle" ∧ yL_tryKeeps.cls ≠ "java/lang/invoke/VarHandle" ∧ (parseMethodDescriptor yL_tryKeeps.desc).map (fun d => d.parameters.length) = some 3 := by decide +kernel
theorem ddN_L_tryLoad : yL_tryLoad.cls ≠ "java/lang/invoke/MethodHandle" ∧ yL_tryLoad.cls ≠ "java/lang/invoke/VarHandle" ∧ (parseMethodDescriptor yL_tryLoad.desc).map (fun d => d.parameters.length) = some 1 := by decide +kernel
theorem ddV_L_tryLoad : yL_tryLoad.cls = RL ∧ yL_tryLoad.cls ≠ "java/lang/invoke/MethodHandle" ∧ yL_tryLoad.cls ≠ "java/lang/invoke/VarHandle" ∧ (parseMethodDescriptor yL_tryLoad.desc).map (fun d => d.parameters.length) = some 1 := by decide +kernel
theorem ddN_L_tryNext : yL_tryNext.cls ≠ "java/lang/invoke/MethodHandle" ∧ yL_tryNext.cls ≠ "java/lang/invoke/VarHandle" ∧ (parseMethodDescriptor yL_tryNext.desc).map (fun d => d.parameters.length) = some 3 := by decide +kernel
theorem ddV_L_tryNext : yL_tryNext.cls = RL ∧ yL_tryNext.cls ≠ "java/lang/invoke/MethodHandle" ∧ yL_tryNext.cls ≠ "java/lang/invoke/VarHandle" ∧ (parseMethodDescriptor yL_tryNext.desc).map (fun d => d.parameters.length) = some 3 := by decide +kernel
theorem ddN_L_tryNights : yL_tryNights.cls ≠ "java/lang/invoke/MethodHandle" ∧ yL_tryNights.cls ≠ "java/lang/invoke/VarHandle" ∧ (parseMethodDescriptor yL_tryNights.desc).map (fun d => d.parameters.length) = some 2 := by decide +kernel
theorem ddV_L_tryNights : yL_tryNights.cls = RL ∧ yL_tryNights.cls ≠ "java/lang/invoke/MethodHandle" ∧ yL_tryNights.cls ≠ "java/lang/invoke/VarHandle" ∧ (parseMethodDescriptor yL_tryNights.desc).map (fun d => d.parameters.length) = some 2 := by decide +kernel
theorem ddN_L_tryRule : yL_tryRule.cls ≠ "java/lang/invoke/MethodHandle" ∧ yL_tryRule.cls ≠ "java/lang/invoke/VarHandle" ∧ (parseMethodDescriptor yL_tryRule.desc).map (fun d => d.parameters.length) = some 2 := by decide +kernel
theorem ddV_L_tryRule : yL_tryRule.cls = RL ∧ yL_tryRule.cls ≠ "java/lang/invoke/MethodHandle" ∧ yL_tryRule.cls ≠ "java/lang/invoke/VarHandle" ∧ (parseMethodDescriptor yL_tryRule.desc).map (fun d => d.parameters.length) = some 2 := by decide +kernel
theorem ddN_L_tryScratch : yL_tryScratch.cls ≠ "java/lang/invoke/MethodHandle" ∧ yL_tryScratch.cls ≠ "java/lang/invoke/VarHandle" ∧ (parseMethodDescriptor yL_tryScratch.desc).map (fun d => d.parameters.length) = some 3 := by decide +kernel
theorem ddV_L_tryScratch : yL_tryScratch.cls = RL ∧ yL_tryScratch.cls ≠ "java/lang/invoke/MethodHandle" ∧ yL_tryScratch.cls ≠ "java/lang/invoke/VarHandle" ∧ (parseMethodDescriptor yL_tryScratch.desc).map (fun d => d.parameters.length) = some 3 := by decide +kernel
theorem ddN_L_trySide : yL_trySide.cls ≠ "java/lang/invoke/MethodHandle" ∧ yL_trySide.cls ≠ "java/lang/invoke/VarHandle" ∧ (parseMethodDescriptor yL_trySide.desc).map (fun d => d.parameters.length) = some 2 := by decide +kernel
theorem ddV_L_trySide : yL_trySide.cls = RL ∧ yL_trySide.cls ≠ "java/lang/invoke/MethodHandle" ∧ yL_trySide.cls ≠ "java/lang/invoke/VarHandle" ∧ (parseMethodDescriptor yL_trySide.desc).map (fun d => d.parameters.length) = some 2 := by decide +kernel
theorem ddN_L_trySize : yL_trySize.cls ≠ "java/lang/invoke/MethodHandle" ∧ yL_trySize.cls ≠ "java/lang/invoke/VarHandle" ∧ (parseMethodDescriptor yL_trySize.desc).map (fun d => d.parameters.length) = some 3 := by decide +kernel
theorem ddV_L_trySize : yL_trySize.cls = RL ∧ yL_trySize.cls ≠ "java/lang/invoke/MethodHandle" ∧ yL_trySize.cls ≠ "java/lang/invoke/VarHandle" ∧ (parseMethodDescriptor yL_trySize.desc).map (fun d => d.parameters.length) = some 3 := by decide +kernel
theorem ddN_L_tryUndo : yL_tryUndo.cls ≠ "java/lang/invoke/MethodHandle" ∧ yL_tryUndo.cls ≠ "java/lang/invoke/VarHandle" ∧ (parseMethodDescriptor yL_tryUndo.desc).map (fun d => d.parameters.length) = some 1 := by decide +kernel
theorem ddV_L_tryUndo : yL_tryUndo.cls = RL ∧ yL_tryUndo.cls ≠ "java/lang/invoke/MethodHandle" ∧ yL_tryUndo.cls ≠ "java/lang/invoke/VarHandle" ∧ (parseMethodDescriptor yL_tryUndo.desc).map (fun d => d.parameters.length) = some 1 := by decide +kernel
theorem ddN_L_was : yL_was.cls ≠ "java/lang/invoke/MethodHandle" ∧ yL_was.cls ≠ "java/lang/invoke/VarHandle" ∧ (parseMethodDescriptor yL_was.desc).map (fun d => d.parameters.length) = some 1 := by decide +kernel
theorem ddV_L_was : yL_was.cls = RL ∧ yL_was.cls ≠ "java/lang/invoke/MethodHandle" ∧ yL_was.cls ≠ "java/lang/invoke/VarHandle" ∧ (parseMethodDescriptor yL_was.desc).map (fun d => d.parameters.length) = some 1 := by decide +kernel
theorem ddN_X5_frozen : yX5_frozen.cls ≠ "java/lang/invoke/MethodHandle" ∧ yX5_frozen.cls ≠ "java/lang/invoke/VarHandle" ∧ (parseMethodDescriptor yX5_frozen.desc).map (fun d => d.parameters.length) = some 0 := by decide +kernel
theorem ddV_X5_frozen : yX5_frozen.cls = RX5 ∧ yX5_frozen.cls ≠ "java/lang/invoke/MethodHandle" ∧ yX5_frozen.cls ≠ "java/lang/invoke/VarHandle" ∧ (parseMethodDescriptor yX5_frozen.desc).map (fun d => d.parameters.length) = some 0 := by decide +kernel
set_option maxHeartbeats 4000000 in
set_option maxRecDepth 100000 in
theorem c_L_thrown {l : Launch} (G : va_G) (cy : Nat → ClassId)  (sz : Nat) (x0 : Int32)  (R : Bool) (hf : f_L_thrown x0 = R) : Met l yL_thrown wsL_thrown ({ frames := 0, cells := 0, slots := 0, locals := 0 } : Room) (va_Pc [.int x0] (pcW G cy [] sz)) (va_Qi (fun r (_ : Unit) => r = bI R) (fun _ t => Wd G cy (va_A [] sz) [] t) (va_A [] sz)) 0 0 (va_A [] sz) := by
  refine Met.ofW (cc := cL_thrown) (maxL := 1) (ret := (some .boolean)) (by decide) rfl ?_
  intro p e s m args below meth c s₁ B hml hv
  obtain ⟨rfl, hsz, hP, hK, hD0, hN⟩ := hv
  have hx := B.exec
  have hb := B.bytes
  have hr := B.returns
  have hts := atoms_spec (ws := wsL_thrown) B.pre
  have hown : s.vm.findClass RL = some m.cls := findClass_of_methodNamed B.named
  have hlocks := B.notSynchronized
  subst hsz
  have hD := hD0.self (sz := s.heap.size)
  generalize hAe : va_A [] s.heap.size = A at hD ⊢
  have hA : ∀ q : Nat, s.heap.size ≤ q → A q := fun q h => by rw [← hAe]; exact Or.inr h
  have hS : va_S A s.heap s.heap [] := va_S.rf
  have hP : va_P G vwCl [] s.heap := hP
  have hl := lv_entry [.int x0] (n := 1) (Nat.le_of_ble_eq_true rfl)
  rw [lg_entry_eq]
  generalize (lg_sl [.int x0] ++ List.replicate (1 - (lg_sl [.int x0]).length) Slot.unset).toArray = ls at hl ⊢
  have hl : lv_has ls 1 [(0, .int x0)] := hl
  unfold f_L_thrown at hf
  refine lv_iload_n hx hb dL_thrown_0 rfl (lv_at hl 0 rfl) ?_
  refine lv_ldc (v := (-9999001)) hx hb hown (hts (.constant RL 52 (-9999001)) (by decide +kernel)) dL_thrown_1 ?_
  refine lv_icmp_eq (tgt := 18) hx hb dL_thrown_3 (by decide) (fun h_1 => ?_) (fun h_1 => ?_)
  · have hf := ip_ h_1 hf
    refine lv_iconst (v := 1) hx hb dL_thrown_18 (by decide) ?_
    refine lv_goto (tgt := 23) hx hb dL_thrown_19 (by decide) ?_
    subst hf
    exact kr_z (V := bI true) hx hb hr hlocks (bI_nar _) rfl hP hK hD hN hS hS.2.2 dL_thrown_23
  · have hf := in_ h_1 hf
    refine lv_iload_n hx hb dL_thrown_6 rfl (lv_at hl 0 rfl) ?_
    refine lv_ldc (v := (-9999002)) hx hb hown (hts (.constant RL 29 (-9999002)) (by decide +kernel)) dL_thrown_7 ?_
    refine lv_icmp_eq (tgt := 18) hx hb dL_thrown_9 (by decide) (fun h_2 => ?_) (fun h_2 => ?_)
    · have hf := ip_ h_2 hf
      refine lv_iconst (v := 1) hx hb dL_thrown_18 (by decide) ?_
      refine lv_goto (tgt := 23) hx hb dL_thrown_19 (by decide) ?_
      subst hf
      exact kr_z (V := bI true) hx hb hr hlocks (bI_nar _) rfl hP hK hD hN hS hS.2.2 dL_thrown_23
    · have hf := in_ h_2 hf
      refine lv_iload_n hx hb dL_thrown_12 rfl (lv_at hl 0 rfl) ?_
      refine lv_ldc (v := (-9999003)) hx hb hown (hts (.constant RL 38 (-9999003)) (by decide +kernel)) dL_thrown_13 ?_
      refine lv_icmp_ne (tgt := 22) hx hb dL_thrown_15 (by decide) (fun h_3 => ?_) (fun h_3 => ?_)
      · have hf := in_ h_3 hf
        refine lv_iconst (v := 0) hx hb dL_thrown_22 (by decide) ?_
        subst hf
        exact kr_z (V := bI false) hx hb hr hlocks (bI_nar _) rfl hP hK hD hN hS hS.2.2 dL_thrown_23
      · have hf := ip_ h_3 hf
        refine lv_iconst (v := 1) hx hb dL_thrown_18 (by decide) ?_
        refine lv_goto (tgt := 23) hx hb dL_thrown_19 (by decide) ?_
        subst hf
        exact kr_z (V := bI true) hx hb hr hlocks (bI_nar _) rfl hP hK hD hN hS hS.2.2 dL_thrown_23
set_option maxHeartbeats 4000000 in
set_option maxRecDepth 100000 in
theorem c_L_call {l : Launch} (hfl : l.stackTraces = false) (G : va_G) (cy : Nat → ClassId) (b_0 bk_0 : Nat → Nat) (sz : Nat) (o_0 : OT) (x1 : Int32) (x2 : Int32) (x3 : Int32) (x4 : Int32) (n : Nat) (R : Int32 × OT) (hf : f_L_call n o_0 x1 x2 x3 x4 = some R) : Met l yL_call wsL_call ({ frames := 10, cells := 3, slots := 18, locals := 194 } : Room) (va_Pc [.ref (b_0 0), .int x1, .int x2, .int x3, .int x4] (pcN G cy (oW cy b_0 bk_0 o_0) sz)) (va_Qi (fun r (_ : Unit) => r = R.1) (fun _ t => Wd G cy (va_A (oW cy b_0 bk_0 o_0) sz) (oW cy b_0 bk_0 R.2) t) (va_A (oW cy b_0 bk_0 o_0) sz)) 3 18 (va_A (oW cy b_0 bk_0 o_0) sz) := by
  refine Met.ofW (cc := cL_call) (maxL := 5) (ret := (some .int)) (by decide) rfl ?_
  intro p e s m args below meth c s₁ B hml hv
  obtain ⟨rfl, ⟨⟨hsz, hP, hK, hD0, hN⟩, hE⟩, hXN⟩ := hv
  have hx := B.exec
  have hb := B.bytes
  have hr := B.returns
  have hts := atoms_spec (ws := wsL_call) B.pre
  have hown : s.vm.findClass RL = some m.cls := findClass_of_methodNamed B.named
  have hlocks := B.notSynchronized
  subst hsz
  have hD := hD0.self (sz := s.heap.size)
  generalize hAe : va_A (oW cy b_0 bk_0 o_0) s.heap.size = A at hD hE ⊢
  have hA : ∀ q : Nat, s.heap.size ≤ q → A q := fun q h => by rw [← hAe]; exact Or.inr h
  have hS : va_S A s.heap s.heap [] := va_S.rf
  have hP : va_P G vwCl (oW cy b_0 bk_0 o_0) s.heap := hP
  have hl := lv_entry [.ref (b_0 0), .int x1, .int x2, .int x3, .int x4] (n := 5) (Nat.le_of_ble_eq_true rfl)
  rw [lg_entry_eq]
  generalize (lg_sl [.ref (b_0 0), .int x1, .int x2, .int x3, .int x4] ++ List.replicate (5 - (lg_sl [.ref (b_0 0), .int x1, .int x2, .int x3, .int x4]).length) Slot.unset).toArray = ls at hl ⊢
  have hl : lv_has ls 5 [(0, .ref (b_0 0)), (1, .int x1), (2, .int x2), (3, .int x3), (4, .int x4)] := hl
  unfold f_L_call at hf
  refine W.widen (k := 0) (n := 6 * 0) (Nat.le_refl _) (Nat.le_refl _) ?_
  refine lv_iload_n hx hb dL_call_0 rfl (lv_at hl 1 rfl) ?_
  by_cases h_1 : x1 = 0
  · have hf := ip_ h_1 hf
    refine lv_tableIn (tgt := 92) (off := 91) hx hb dL_call_1 (by show ¬ x1.toInt < 0; rw [h_1]; decide) (by show ¬ 18 < x1.toInt; rw [h_1]; decide) (by show (#[91, 97, 102, 108, 115, 122, 128, 135, 141, 148, 155, 161, 168, 174, 179, 185, 190, 196, 203] : Array Int)[(x1.toInt - 0).toNat]? = some 91; rw [h_1]; rfl) (by decide) ?_
    refine lv_aload_n hx hb dL_call_92 rfl (lv_at hl 0 rfl) ?_
    refine lv_iload_n hx hb dL_call_93 rfl (lv_at hl 2 rfl) ?_
    obtain ⟨r_2, hh_r_2, hf⟩ := obd_some hf
    refine kbx_i (R0 := r_2) (w1 := fun (u : Int32 × TT × (Nat → Int32)) => oW cy b_0 bk_0 (u.2.1, u.2.2, o_0.2.2.1, o_0.2.2.2.1, o_0.2.2.2.2.1, o_0.2.2.2.2.2.1, o_0.2.2.2.2.2.2.1, o_0.2.2.2.2.2.2.2.1, o_0.2.2.2.2.2.2.2.2.1, o_0.2.2.2.2.2.2.2.2.2.1, o_0.2.2.2.2.2.2.2.2.2.2.1, o_0.2.2.2.2.2.2.2.2.2.2.2.1, o_0.2.2.2.2.2.2.2.2.2.2.2.2)) (V := fun (u : Int32 × TT × (Nat → Int32)) => u.1) hS (Nat.le_of_ble_eq_true rfl) (Jn_1 hP hD hS hA) (vx_runSX (As := [.ref (b_0 0), .int x2]) (rest := []) ⟨hx, hb, hml, hown, hts⟩ (c_L_tryAppend (l := l) hfl G cy (b_0 0) (b_0 1) (b_0 2) (b_0 3) (b_0 4) (b_0 5) (b_0 6) (b_0 7) (b_0 8) (b_0 9) (b_0 10) (b_0 11) (b_0 12) (b_0 13) bk_0 s.heap.size o_0.1 o_0.2.1 o_0.2.2.1 o_0.2.2.2.1 o_0.2.2.2.2.1 o_0.2.2.2.2.2.1 o_0.2.2.2.2.2.2.1 o_0.2.2.2.2.2.2.2.1 o_0.2.2.2.2.2.2.2.2.1 o_0.2.2.2.2.2.2.2.2.2.1 o_0.2.2.2.2.2.2.2.2.2.2.1 o_0.2.2.2.2.2.2.2.2.2.2.2.1 o_0.2.2.2.2.2.2.2.2.2.2.2.2 x2  r_2 hh_r_2) (vx_cwSW 2 hts gL_call_L_tryAppend rfl rfl rfl ddN_L_tryAppend ⟨(Nat.le_of_ble_eq_true rfl), (Nat.le_of_ble_eq_true rfl)⟩) (preSN hXN (hE.kept hS.2.1) (Jn_1 hP hD hS hA).1 hP hK hD hN) rfl rfl hl.1 rfl (lv_room (Nat.le_of_ble_eq_true rfl)) dL_call_94 ⟨by show 0 + 2 ≤ 3; omega, by show 6 * 0 + 12 ≤ 18; omega⟩) (fun H locs hP hD hS => ?_)
    have hP : va_P G vwCl (oW cy b_0 bk_0 (r_2.2.1, r_2.2.2, o_0.2.2.1, o_0.2.2.2.1, o_0.2.2.2.2.1, o_0.2.2.2.2.2.1, o_0.2.2.2.2.2.2.1, o_0.2.2.2.2.2.2.2.1, o_0.2.2.2.2.2.2.2.2.1, o_0.2.2.2.2.2.2.2.2.2.1, o_0.2.2.2.2.2.2.2.2.2.2.1, o_0.2.2.2.2.2.2.2.2.2.2.2.1, o_0.2.2.2.2.2.2.2.2.2.2.2.2)) H := hP
    have hD : va_D A (oW cy b_0 bk_0 (r_2.2.1, r_2.2.2, o_0.2.2.1, o_0.2.2.2.1, o_0.2.2.2.2.1, o_0.2.2.2.2.2.1, o_0.2.2.2.2.2.2.1, o_0.2.2.2.2.2.2.2.1, o_0.2.2.2.2.2.2.2.2.1, o_0.2.2.2.2.2.2.2.2.2.1, o_0.2.2.2.2.2.2.2.2.2.2.1, o_0.2.2.2.2.2.2.2.2.2.2.2.1, o_0.2.2.2.2.2.2.2.2.2.2.2.2)) := hD
    refine W.widen (k := 3) (n := 18) (by omega) (by omega) ?_
    obtain rfl := Option.some.inj hf
    exact kr_i hx hb hr hlocks rfl hP hK hD hN hS hS.2.2 dL_call_97
  have hf := in_ h_1 hf
  by_cases h_3 : x1 = 1
  · have hf := ip_ h_3 hf
    refine lv_tableIn (tgt := 98) (off := 97) hx hb dL_call_1 (by show ¬ x1.toInt < 0; rw [h_3]; decide) (by show ¬ 18 < x1.toInt; rw [h_3]; decide) (by show (#[91, 97, 102, 108, 115, 122, 128, 135, 141, 148, 155, 161, 168, 174, 179, 185, 190, 196, 203] : Array Int)[(x1.toInt - 0).toNat]? = some 97; rw [h_3]; rfl) (by decide) ?_
    refine lv_aload_n hx hb dL_call_98 rfl (lv_at hl 0 rfl) ?_
    obtain ⟨r_4, hh_r_4, hf⟩ := obd_some hf
    refine kbx_i (R0 := r_4) (w1 := fun (u : Int32 × TT × WT × PT × Bool × Bool) => oW cy b_0 bk_0 (u.2.1, o_0.2.1, u.2.2.1, o_0.2.2.2.1, u.2.2.2.1, o_0.2.2.2.2.2.1, u.2.2.2.2.1, o_0.2.2.2.2.2.2.2.1, u.2.2.2.2.2, o_0.2.2.2.2.2.2.2.2.2.1, o_0.2.2.2.2.2.2.2.2.2.2.1, o_0.2.2.2.2.2.2.2.2.2.2.2.1, o_0.2.2.2.2.2.2.2.2.2.2.2.2)) (V := fun (u : Int32 × TT × WT × PT × Bool × Bool) => u.1) hS (Nat.le_of_ble_eq_true rfl) (Jn_1 hP hD hS hA) (vx_runSX (As := [.ref (b_0 0)]) (rest := []) ⟨hx, hb, hml, hown, hts⟩ (c_L_tryLoad (l := l) hfl G cy (b_0 0) (b_0 1) (b_0 2) (b_0 3) (b_0 4) (b_0 5) (b_0 6) (b_0 7) (b_0 8) (b_0 9) (b_0 10) (b_0 11) (b_0 12) (b_0 13) bk_0 s.heap.size o_0.1 o_0.2.1 o_0.2.2.1 o_0.2.2.2.1 o_0.2.2.2.2.1 o_0.2.2.2.2.2.1 o_0.2.2.2.2.2.2.1 o_0.2.2.2.2.2.2.2.1 o_0.2.2.2.2.2.2.2.2.1 o_0.2.2.2.2.2.2.2.2.2.1 o_0.2.2.2.2.2.2.2.2.2.2.1 o_0.2.2.2.2.2.2.2.2.2.2.2.1 o_0.2.2.2.2.2.2.2.2.2.2.2.2 n r_4 hh_r_4) (vx_cwSW 1 hts gL_call_L_tryLoad rfl rfl rfl ddN_L_tryLoad ⟨(Nat.le_of_ble_eq_true rfl), (Nat.le_of_ble_eq_true rfl)⟩) (preSN hXN (hE.kept hS.2.1) (Jn_1 hP hD hS hA).1 hP hK hD hN) rfl rfl hl.1 rfl (lv_room (Nat.le_of_ble_eq_true rfl)) dL_call_99 ⟨by show 0 + 1 ≤ 3; omega, by show 6 * 0 + 6 ≤ 18; omega⟩) (fun H locs hP hD hS => ?_)
    have hP : va_P G vwCl (oW cy b_0 bk_0 (r_4.2.1, o_0.2.1, r_4.2.2.1, o_0.2.2.2.1, r_4.2.2.2.1, o_0.2.2.2.2.2.1, r_4.2.2.2.2.1, o_0.2.2.2.2.2.2.2.1, r_4.2.2.2.2.2, o_0.2.2.2.2.2.2.2.2.2.1, o_0.2.2.2.2.2.2.2.2.2.2.1, o_0.2.2.2.2.2.2.2.2.2.2.2.1, o_0.2.2.2.2.2.2.2.2.2.2.2.2)) H := hP
    have hD : va_D A (oW cy b_0 bk_0 (r_4.2.1, o_0.2.1, r_4.2.2.1, o_0.2.2.2.1, r_4.2.2.2.1, o_0.2.2.2.2.2.1, r_4.2.2.2.2.1, o_0.2.2.2.2.2.2.2.1, r_4.2.2.2.2.2, o_0.2.2.2.2.2.2.2.2.2.1, o_0.2.2.2.2.2.2.2.2.2.2.1, o_0.2.2.2.2.2.2.2.2.2.2.2.1, o_0.2.2.2.2.2.2.2.2.2.2.2.2)) := hD
    refine W.widen (k := 3) (n := 18) (by omega) (by omega) ?_
    obtain rfl := Option.some.inj hf
    exact kr_i hx hb hr hlocks rfl hP hK hD hN hS hS.2.2 dL_call_102
  have hf := in_ h_3 hf
  by_cases h_5 : x1 = 2
  · have hf := ip_ h_5 hf
    refine lv_tableIn (tgt := 103) (off := 102) hx hb dL_call_1 (by show ¬ x1.toInt < 0; rw [h_5]; decide) (by show ¬ 18 < x1.toInt; rw [h_5]; decide) (by show (#[91, 97, 102, 108, 115, 122, 128, 135, 141, 148, 155, 161, 168, 174, 179, 185, 190, 196, 203] : Array Int)[(x1.toInt - 0).toNat]? = some 102; rw [h_5]; rfl) (by decide) ?_
    refine lv_aload_n hx hb dL_call_103 rfl (lv_at hl 0 rfl) ?_
    refine lv_iload_n hx hb dL_call_104 rfl (lv_at hl 2 rfl) ?_
    obtain ⟨r_6, hh_r_6, hf⟩ := obd_some hf
    refine kbx_i (R0 := r_6) (w1 := fun (u : Int32) => oW cy b_0 bk_0 o_0) (V := fun (u : Int32) => u) hS (Nat.le_of_ble_eq_true rfl) (Jn_1 hP hD hS hA) (vx_runSX (As := [.ref (b_0 0), .int x2]) (rest := []) ⟨hx, hb, hml, hown, hts⟩ (c_L_tryAbout (l := l) hfl G cy (b_0 0) (b_0 1) (b_0 2) (b_0 3) (b_0 4) (b_0 5) (b_0 6) (b_0 7) (b_0 8) (b_0 9) (b_0 10) (b_0 11) (b_0 12) (b_0 13) bk_0 s.heap.size o_0.1 o_0.2.1 o_0.2.2.1 o_0.2.2.2.1 o_0.2.2.2.2.1 o_0.2.2.2.2.2.1 o_0.2.2.2.2.2.2.1 o_0.2.2.2.2.2.2.2.1 o_0.2.2.2.2.2.2.2.2.1 o_0.2.2.2.2.2.2.2.2.2.1 o_0.2.2.2.2.2.2.2.2.2.2.1 o_0.2.2.2.2.2.2.2.2.2.2.2.1 o_0.2.2.2.2.2.2.2.2.2.2.2.2 x2 n r_6 hh_r_6) (vx_cwSW 2 hts gL_call_L_tryAbout rfl rfl rfl ddN_L_tryAbout ⟨(Nat.le_of_ble_eq_true rfl), (Nat.le_of_ble_eq_true rfl)⟩) (preSN hXN (hE.kept hS.2.1) (Jn_1 hP hD hS hA).1 hP hK hD hN) rfl rfl hl.1 rfl (lv_room (Nat.le_of_ble_eq_true rfl)) dL_call_105 ⟨by show 0 + 1 ≤ 3; omega, by show 6 * 0 + 6 ≤ 18; omega⟩) (fun H locs hP hD hS => ?_)
    have hP : va_P G vwCl (oW cy b_0 bk_0 o_0) H := hP
    have hD : va_D A (oW cy b_0 bk_0 o_0) := hD
    refine W.widen (k := 3) (n := 18) (by omega) (by omega) ?_
    obtain rfl := Option.some.inj hf
    exact kr_i hx hb hr hlocks rfl hP hK hD hN hS hS.2.2 dL_call_108
  have hf := in_ h_5 hf
  by_cases h_7 : x1 = 3
  · have hf := ip_ h_7 hf
    refine lv_tableIn (tgt := 109) (off := 108) hx hb dL_call_1 (by show ¬ x1.toInt < 0; rw [h_7]; decide) (by show ¬ 18 < x1.toInt; rw [h_7]; decide) (by show (#[91, 97, 102, 108, 115, 122, 128, 135, 141, 148, 155, 161, 168, 174, 179, 185, 190, 196, 203] : Array Int)[(x1.toInt - 0).toNat]? = some 108; rw [h_7]; rfl) (by decide) ?_
    refine lv_aload_n hx hb dL_call_109 rfl (lv_at hl 0 rfl) ?_
    refine lv_iload_n hx hb dL_call_110 rfl (lv_at hl 2 rfl) ?_
    refine lv_iload_n hx hb dL_call_111 rfl (lv_at hl 3 rfl) ?_
    obtain ⟨r_8, hh_r_8, hf⟩ := obd_some hf
    refine kbx_i (R0 := r_8) (w1 := fun (u : Int32) => oW cy b_0 bk_0 o_0) (V := fun (u : Int32) => u) hS (Nat.le_of_ble_eq_true rfl) (Jn_1 hP hD hS hA) (vx_runSX (As := [.ref (b_0 0), .int x2, .int x3]) (rest := []) ⟨hx, hb, hml, hown, hts⟩ (c_L_tryCell (l := l) hfl G cy (b_0 0) (b_0 1) (b_0 2) (b_0 3) (b_0 4) (b_0 5) (b_0 6) (b_0 7) (b_0 8) (b_0 9) (b_0 10) (b_0 11) (b_0 12) (b_0 13) bk_0 s.heap.size o_0.1 o_0.2.1 o_0.2.2.1 o_0.2.2.2.1 o_0.2.2.2.2.1 o_0.2.2.2.2.2.1 o_0.2.2.2.2.2.2.1 o_0.2.2.2.2.2.2.2.1 o_0.2.2.2.2.2.2.2.2.1 o_0.2.2.2.2.2.2.2.2.2.1 o_0.2.2.2.2.2.2.2.2.2.2.1 o_0.2.2.2.2.2.2.2.2.2.2.2.1 o_0.2.2.2.2.2.2.2.2.2.2.2.2 x2 x3 n r_8 hh_r_8) (vx_cwSW 3 hts gL_call_L_tryCell rfl rfl rfl ddN_L_tryCell ⟨(Nat.le_of_ble_eq_true rfl), (Nat.le_of_ble_eq_true rfl)⟩) (preSN hXN (hE.kept hS.2.1) (Jn_1 hP hD hS hA).1 hP hK hD hN) rfl rfl hl.1 rfl (lv_room (Nat.le_of_ble_eq_true rfl)) dL_call_112 ⟨by show 0 + 2 ≤ 3; omega, by show 6 * 0 + 12 ≤ 18; omega⟩) (fun H locs hP hD hS => ?_)
    have hP : va_P G vwCl (oW cy b_0 bk_0 o_0) H := hP
    have hD : va_D A (oW cy b_0 bk_0 o_0) := hD
    refine W.widen (k := 3) (n := 18) (by omega) (by omega) ?_
    obtain rfl := Option.some.inj hf
    exact kr_i hx hb hr hlocks rfl hP hK hD hN hS hS.2.2 dL_call_115
  have hf := in_ h_7 hf
  by_cases h_9 : x1 = 4
  · have hf := ip_ h_9 hf
    refine lv_tableIn (tgt := 116) (off := 115) hx hb dL_call_1 (by show ¬ x1.toInt < 0; rw [h_9]; decide) (by show ¬ 18 < x1.toInt; rw [h_9]; decide) (by show (#[91, 97, 102, 108, 115, 122, 128, 135, 141, 148, 155, 161, 168, 174, 179, 185, 190, 196, 203] : Array Int)[(x1.toInt - 0).toNat]? = some 115; rw [h_9]; rfl) (by decide) ?_
    refine lv_aload_n hx hb dL_call_116 rfl (lv_at hl 0 rfl) ?_
    refine lv_iload_n hx hb dL_call_117 rfl (lv_at hl 2 rfl) ?_
    refine lv_iload_n hx hb dL_call_118 rfl (lv_at hl 3 rfl) ?_
    obtain ⟨r_10, hh_r_10, hf⟩ := obd_some hf
    refine kbx_i (R0 := r_10) (w1 := fun (u : Int32) => oW cy b_0 bk_0 o_0) (V := fun (u : Int32) => u) hS (Nat.le_of_ble_eq_true rfl) (Jn_1 hP hD hS hA) (vx_runSX (As := [.ref (b_0 0), .int x2, .int x3]) (rest := []) ⟨hx, hb, hml, hown, hts⟩ (c_L_tryNext (l := l) hfl G cy (b_0 0) (b_0 1) (b_0 2) (b_0 3) (b_0 4) (b_0 5) (b_0 6) (b_0 7) (b_0 8) (b_0 9) (b_0 10) (b_0 11) (b_0 12) (b_0 13) bk_0 s.heap.size o_0.1 o_0.2.1 o_0.2.2.1 o_0.2.2.2.1 o_0.2.2.2.2.1 o_0.2.2.2.2.2.1 o_0.2.2.2.2.2.2.1 o_0.2.2.2.2.2.2.2.1 o_0.2.2.2.2.2.2.2.2.1 o_0.2.2.2.2.2.2.2.2.2.1 o_0.2.2.2.2.2.2.2.2.2.2.1 o_0.2.2.2.2.2.2.2.2.2.2.2.1 o_0.2.2.2.2.2.2.2.2.2.2.2.2 x2 x3  r_10 hh_r_10) (vx_cwSW 3 hts gL_call_L_tryNext rfl rfl rfl ddN_L_tryNext ⟨(Nat.le_of_ble_eq_true rfl), (Nat.le_of_ble_eq_true rfl)⟩) (preSN hXN (hE.kept hS.2.1) (Jn_1 hP hD hS hA).1 hP hK hD hN) rfl rfl hl.1 rfl (lv_room (Nat.le_of_ble_eq_true rfl)) dL_call_119 ⟨by show 0 + 2 ≤ 3; omega, by show 6 * 0 + 12 ≤ 18; omega⟩) (fun H locs hP hD hS => ?_)
    have hP : va_P G vwCl (oW cy b_0 bk_0 o_0) H := hP
    have hD : va_D A (oW cy b_0 bk_0 o_0) := hD
    refine W.widen (k := 3) (n := 18) (by omega) (by omega) ?_
    obtain rfl := Option.some.inj hf
    exact kr_i hx hb hr hlocks rfl hP hK hD hN hS hS.2.2 dL_call_122
  have hf := in_ h_9 hf
  by_cases h_11 : x1 = 5
  · have hf := ip_ h_11 hf
    refine lv_tableIn (tgt := 123) (off := 122) hx hb dL_call_1 (by show ¬ x1.toInt < 0; rw [h_11]; decide) (by show ¬ 18 < x1.toInt; rw [h_11]; decide) (by show (#[91, 97, 102, 108, 115, 122, 128, 135, 141, 148, 155, 161, 168, 174, 179, 185, 190, 196, 203] : Array Int)[(x1.toInt - 0).toNat]? = some 122; rw [h_11]; rfl) (by decide) ?_
    refine lv_aload_n hx hb dL_call_123 rfl (lv_at hl 0 rfl) ?_
    refine lv_iload_n hx hb dL_call_124 rfl (lv_at hl 2 rfl) ?_
    obtain ⟨r_12, hh_r_12, hf⟩ := obd_some hf
    refine kbx_i (R0 := r_12) (w1 := fun (u : Int32) => oW cy b_0 bk_0 o_0) (V := fun (u : Int32) => u) hS (Nat.le_of_ble_eq_true rfl) (Jn_1 hP hD hS hA) (vx_runSX (As := [.ref (b_0 0), .int x2]) (rest := []) ⟨hx, hb, hml, hown, hts⟩ (c_L_trySide (l := l) hfl G cy (b_0 0) (b_0 1) (b_0 2) (b_0 3) (b_0 4) (b_0 5) (b_0 6) (b_0 7) (b_0 8) (b_0 9) (b_0 10) (b_0 11) (b_0 12) (b_0 13) bk_0 s.heap.size o_0.1 o_0.2.1 o_0.2.2.1 o_0.2.2.2.1 o_0.2.2.2.2.1 o_0.2.2.2.2.2.1 o_0.2.2.2.2.2.2.1 o_0.2.2.2.2.2.2.2.1 o_0.2.2.2.2.2.2.2.2.1 o_0.2.2.2.2.2.2.2.2.2.1 o_0.2.2.2.2.2.2.2.2.2.2.1 o_0.2.2.2.2.2.2.2.2.2.2.2.1 o_0.2.2.2.2.2.2.2.2.2.2.2.2 x2  r_12 hh_r_12) (vx_cwSW 2 hts gL_call_L_trySide rfl rfl rfl ddN_L_trySide ⟨(Nat.le_of_ble_eq_true rfl), (Nat.le_of_ble_eq_true rfl)⟩) (preSN hXN (hE.kept hS.2.1) (Jn_1 hP hD hS hA).1 hP hK hD hN) rfl rfl hl.1 rfl (lv_room (Nat.le_of_ble_eq_true rfl)) dL_call_125 ⟨by show 0 + 1 ≤ 3; omega, by show 6 * 0 + 6 ≤ 18; omega⟩) (fun H locs hP hD hS => ?_)
    have hP : va_P G vwCl (oW cy b_0 bk_0 o_0) H := hP
    have hD : va_D A (oW cy b_0 bk_0 o_0) := hD
    refine W.widen (k := 3) (n := 18) (by omega) (by omega) ?_
    obtain rfl := Option.some.inj hf
    exact kr_i hx hb hr hlocks rfl hP hK hD hN hS hS.2.2 dL_call_128
  have hf := in_ h_11 hf
  by_cases h_13 : x1 = 6
  · have hf := ip_ h_13 hf
    refine lv_tableIn (tgt := 129) (off := 128) hx hb dL_call_1 (by show ¬ x1.toInt < 0; rw [h_13]; decide) (by show ¬ 18 < x1.toInt; rw [h_13]; decide) (by show (#[91, 97, 102, 108, 115, 122, 128, 135, 141, 148, 155, 161, 168, 174, 179, 185, 190, 196, 203] : Array Int)[(x1.toInt - 0).toNat]? = some 128; rw [h_13]; rfl) (by decide) ?_
    refine lv_aload_n hx hb dL_call_129 rfl (lv_at hl 0 rfl) ?_
    refine lv_iload_n hx hb dL_call_130 rfl (lv_at hl 2 rfl) ?_
    refine lv_iload_n hx hb dL_call_131 rfl (lv_at hl 3 rfl) ?_
    obtain ⟨r_14, hh_r_14, hf⟩ := obd_some hf
    refine kbx_i (R0 := r_14) (w1 := fun (u : Int32 × WT × PT × (Nat → WT)) => oW cy b_0 bk_0 (o_0.1, o_0.2.1, u.2.1, o_0.2.2.2.1, u.2.2.1, u.2.2.2, o_0.2.2.2.2.2.2.1, o_0.2.2.2.2.2.2.2.1, o_0.2.2.2.2.2.2.2.2.1, o_0.2.2.2.2.2.2.2.2.2.1, o_0.2.2.2.2.2.2.2.2.2.2.1, o_0.2.2.2.2.2.2.2.2.2.2.2.1, o_0.2.2.2.2.2.2.2.2.2.2.2.2)) (V := fun (u : Int32 × WT × PT × (Nat → WT)) => u.1) hS (Nat.le_of_ble_eq_true rfl) (Jn_1 hP hD hS hA) (vx_runSX (As := [.ref (b_0 0), .int x2, .int x3]) (rest := []) ⟨hx, hb, hml, hown, hts⟩ (c_L_trySize (l := l) hfl G cy (b_0 0) (b_0 1) (b_0 2) (b_0 3) (b_0 4) (b_0 5) (b_0 6) (b_0 7) (b_0 8) (b_0 9) (b_0 10) (b_0 11) (b_0 12) (b_0 13) bk_0 s.heap.size o_0.1 o_0.2.1 o_0.2.2.1 o_0.2.2.2.1 o_0.2.2.2.2.1 o_0.2.2.2.2.2.1 o_0.2.2.2.2.2.2.1 o_0.2.2.2.2.2.2.2.1 o_0.2.2.2.2.2.2.2.2.1 o_0.2.2.2.2.2.2.2.2.2.1 o_0.2.2.2.2.2.2.2.2.2.2.1 o_0.2.2.2.2.2.2.2.2.2.2.2.1 o_0.2.2.2.2.2.2.2.2.2.2.2.2 x2 x3 n r_14 hh_r_14) (vx_cwSW 3 hts gL_call_L_trySize rfl rfl rfl ddN_L_trySize ⟨(Nat.le_of_ble_eq_true rfl), (Nat.le_of_ble_eq_true rfl)⟩) (preSN hXN (hE.kept hS.2.1) (Jn_1 hP hD hS hA).1 hP hK hD hN) rfl rfl hl.1 rfl (lv_room (Nat.le_of_ble_eq_true rfl)) dL_call_132 ⟨by show 0 + 2 ≤ 3; omega, by show 6 * 0 + 12 ≤ 18; omega⟩) (fun H locs hP hD hS => ?_)
    have hP : va_P G vwCl (oW cy b_0 bk_0 (o_0.1, o_0.2.1, r_14.2.1, o_0.2.2.2.1, r_14.2.2.1, r_14.2.2.2, o_0.2.2.2.2.2.2.1, o_0.2.2.2.2.2.2.2.1, o_0.2.2.2.2.2.2.2.2.1, o_0.2.2.2.2.2.2.2.2.2.1, o_0.2.2.2.2.2.2.2.2.2.2.1, o_0.2.2.2.2.2.2.2.2.2.2.2.1, o_0.2.2.2.2.2.2.2.2.2.2.2.2)) H := hP
    have hD : va_D A (oW cy b_0 bk_0 (o_0.1, o_0.2.1, r_14.2.1, o_0.2.2.2.1, r_14.2.2.1, r_14.2.2.2, o_0.2.2.2.2.2.2.1, o_0.2.2.2.2.2.2.2.1, o_0.2.2.2.2.2.2.2.2.1, o_0.2.2.2.2.2.2.2.2.2.1, o_0.2.2.2.2.2.2.2.2.2.2.1, o_0.2.2.2.2.2.2.2.2.2.2.2.1, o_0.2.2.2.2.2.2.2.2.2.2.2.2)) := hD
    refine W.widen (k := 3) (n := 18) (by omega) (by omega) ?_
    obtain rfl := Option.some.inj hf
    exact kr_i hx hb hr hlocks rfl hP hK hD hN hS hS.2.2 dL_call_135
  have hf := in_ h_13 hf
  by_cases h_15 : x1 = 7
  · have hf := ip_ h_15 hf
    refine lv_tableIn (tgt := 136) (off := 135) hx hb dL_call_1 (by show ¬ x1.toInt < 0; rw [h_15]; decide) (by show ¬ 18 < x1.toInt; rw [h_15]; decide) (by show (#[91, 97, 102, 108, 115, 122, 128, 135, 141, 148, 155, 161, 168, 174, 179, 185, 190, 196, 203] : Array Int)[(x1.toInt - 0).toNat]? = some 135; rw [h_15]; rfl) (by decide) ?_
    refine lv_aload_n hx hb dL_call_136 rfl (lv_at hl 0 rfl) ?_
    refine lv_iload_n hx hb dL_call_137 rfl (lv_at hl 2 rfl) ?_
    obtain ⟨r_16, hh_r_16, hf⟩ := obd_some hf
    refine kbx_i (R0 := r_16) (w1 := fun (u : Int32 × WT × PT × (Nat → WT)) => oW cy b_0 bk_0 (o_0.1, o_0.2.1, u.2.1, o_0.2.2.2.1, u.2.2.1, u.2.2.2, o_0.2.2.2.2.2.2.1, o_0.2.2.2.2.2.2.2.1, o_0.2.2.2.2.2.2.2.2.1, o_0.2.2.2.2.2.2.2.2.2.1, o_0.2.2.2.2.2.2.2.2.2.2.1, o_0.2.2.2.2.2.2.2.2.2.2.2.1, o_0.2.2.2.2.2.2.2.2.2.2.2.2)) (V := fun (u : Int32 × WT × PT × (Nat → WT)) => u.1) hS (Nat.le_of_ble_eq_true rfl) (Jn_1 hP hD hS hA) (vx_runSX (As := [.ref (b_0 0), .int x2]) (rest := []) ⟨hx, hb, hml, hown, hts⟩ (c_L_tryFlip (l := l) hfl G cy (b_0 0) (b_0 1) (b_0 2) (b_0 3) (b_0 4) (b_0 5) (b_0 6) (b_0 7) (b_0 8) (b_0 9) (b_0 10) (b_0 11) (b_0 12) (b_0 13) bk_0 s.heap.size o_0.1 o_0.2.1 o_0.2.2.1 o_0.2.2.2.1 o_0.2.2.2.2.1 o_0.2.2.2.2.2.1 o_0.2.2.2.2.2.2.1 o_0.2.2.2.2.2.2.2.1 o_0.2.2.2.2.2.2.2.2.1 o_0.2.2.2.2.2.2.2.2.2.1 o_0.2.2.2.2.2.2.2.2.2.2.1 o_0.2.2.2.2.2.2.2.2.2.2.2.1 o_0.2.2.2.2.2.2.2.2.2.2.2.2 x2  r_16 hh_r_16) (vx_cwSW 2 hts gL_call_L_tryFlip rfl rfl rfl ddN_L_tryFlip ⟨(Nat.le_of_ble_eq_true rfl), (Nat.le_of_ble_eq_true rfl)⟩) (preSN hXN (hE.kept hS.2.1) (Jn_1 hP hD hS hA).1 hP hK hD hN) rfl rfl hl.1 rfl (lv_room (Nat.le_of_ble_eq_true rfl)) dL_call_138 ⟨by show 0 + 1 ≤ 3; omega, by show 6 * 0 + 6 ≤ 18; omega⟩) (fun H locs hP hD hS => ?_)
    have hP : va_P G vwCl (oW cy b_0 bk_0 (o_0.1, o_0.2.1, r_16.2.1, o_0.2.2.2.1, r_16.2.2.1, r_16.2.2.2, o_0.2.2.2.2.2.2.1, o_0.2.2.2.2.2.2.2.1, o_0.2.2.2.2.2.2.2.2.1, o_0.2.2.2.2.2.2.2.2.2.1, o_0.2.2.2.2.2.2.2.2.2.2.1, o_0.2.2.2.2.2.2.2.2.2.2.2.1, o_0.2.2.2.2.2.2.2.2.2.2.2.2)) H := hP
    have hD : va_D A (oW cy b_0 bk_0 (o_0.1, o_0.2.1, r_16.2.1, o_0.2.2.2.1, r_16.2.2.1, r_16.2.2.2, o_0.2.2.2.2.2.2.1, o_0.2.2.2.2.2.2.2.1, o_0.2.2.2.2.2.2.2.2.1, o_0.2.2.2.2.2.2.2.2.2.1, o_0.2.2.2.2.2.2.2.2.2.2.1, o_0.2.2.2.2.2.2.2.2.2.2.2.1, o_0.2.2.2.2.2.2.2.2.2.2.2.2)) := hD
    refine W.widen (k := 3) (n := 18) (by omega) (by omega) ?_
    obtain rfl := Option.some.inj hf
    exact kr_i hx hb hr hlocks rfl hP hK hD hN hS hS.2.2 dL_call_141
  have hf := in_ h_15 hf
  by_cases h_17 : x1 = 8
  · have hf := ip_ h_17 hf
    refine lv_tableIn (tgt := 142) (off := 141) hx hb dL_call_1 (by show ¬ x1.toInt < 0; rw [h_17]; decide) (by show ¬ 18 < x1.toInt; rw [h_17]; decide) (by show (#[91, 97, 102, 108, 115, 122, 128, 135, 141, 148, 155, 161, 168, 174, 179, 185, 190, 196, 203] : Array Int)[(x1.toInt - 0).toNat]? = some 141; rw [h_17]; rfl) (by decide) ?_
    refine lv_aload_n hx hb dL_call_142 rfl (lv_at hl 0 rfl) ?_
    refine lv_iload_n hx hb dL_call_143 rfl (lv_at hl 2 rfl) ?_
    refine lv_iload_n hx hb dL_call_144 rfl (lv_at hl 3 rfl) ?_
    obtain ⟨r_18, hh_r_18, hf⟩ := obd_some hf
    refine kbx_i (R0 := r_18) (w1 := fun (u : Int32 × WT × PT × (Nat → WT)) => oW cy b_0 bk_0 (o_0.1, o_0.2.1, u.2.1, o_0.2.2.2.1, u.2.2.1, u.2.2.2, o_0.2.2.2.2.2.2.1, o_0.2.2.2.2.2.2.2.1, o_0.2.2.2.2.2.2.2.2.1, o_0.2.2.2.2.2.2.2.2.2.1, o_0.2.2.2.2.2.2.2.2.2.2.1, o_0.2.2.2.2.2.2.2.2.2.2.2.1, o_0.2.2.2.2.2.2.2.2.2.2.2.2)) (V := fun (u : Int32 × WT × PT × (Nat → WT)) => u.1) hS (Nat.le_of_ble_eq_true rfl) (Jn_1 hP hD hS hA) (vx_runSX (As := [.ref (b_0 0), .int x2, .int x3]) (rest := []) ⟨hx, hb, hml, hown, hts⟩ (c_L_tryScratch (l := l) hfl G cy (b_0 0) (b_0 1) (b_0 2) (b_0 3) (b_0 4) (b_0 5) (b_0 6) (b_0 7) (b_0 8) (b_0 9) (b_0 10) (b_0 11) (b_0 12) (b_0 13) bk_0 s.heap.size o_0.1 o_0.2.1 o_0.2.2.1 o_0.2.2.2.1 o_0.2.2.2.2.1 o_0.2.2.2.2.2.1 o_0.2.2.2.2.2.2.1 o_0.2.2.2.2.2.2.2.1 o_0.2.2.2.2.2.2.2.2.1 o_0.2.2.2.2.2.2.2.2.2.1 o_0.2.2.2.2.2.2.2.2.2.2.1 o_0.2.2.2.2.2.2.2.2.2.2.2.1 o_0.2.2.2.2.2.2.2.2.2.2.2.2 x2 x3  r_18 hh_r_18) (vx_cwSW 3 hts gL_call_L_tryScratch rfl rfl rfl ddN_L_tryScratch ⟨(Nat.le_of_ble_eq_true rfl), (Nat.le_of_ble_eq_true rfl)⟩) (preSN hXN (hE.kept hS.2.1) (Jn_1 hP hD hS hA).1 hP hK hD hN) rfl rfl hl.1 rfl (lv_room (Nat.le_of_ble_eq_true rfl)) dL_call_145 ⟨by show 0 + 3 ≤ 3; omega, by show 6 * 0 + 18 ≤ 18; omega⟩) (fun H locs hP hD hS => ?_)
    have hP : va_P G vwCl (oW cy b_0 bk_0 (o_0.1, o_0.2.1, r_18.2.1, o_0.2.2.2.1, r_18.2.2.1, r_18.2.2.2, o_0.2.2.2.2.2.2.1, o_0.2.2.2.2.2.2.2.1, o_0.2.2.2.2.2.2.2.2.1, o_0.2.2.2.2.2.2.2.2.2.1, o_0.2.2.2.2.2.2.2.2.2.2.1, o_0.2.2.2.2.2.2.2.2.2.2.2.1, o_0.2.2.2.2.2.2.2.2.2.2.2.2)) H := hP
    have hD : va_D A (oW cy b_0 bk_0 (o_0.1, o_0.2.1, r_18.2.1, o_0.2.2.2.1, r_18.2.2.1, r_18.2.2.2, o_0.2.2.2.2.2.2.1, o_0.2.2.2.2.2.2.2.1, o_0.2.2.2.2.2.2.2.2.1, o_0.2.2.2.2.2.2.2.2.2.1, o_0.2.2.2.2.2.2.2.2.2.2.1, o_0.2.2.2.2.2.2.2.2.2.2.2.1, o_0.2.2.2.2.2.2.2.2.2.2.2.2)) := hD
    refine W.widen (k := 3) (n := 18) (by omega) (by omega) ?_
    obtain rfl := Option.some.inj hf
    exact kr_i hx hb hr hlocks rfl hP hK hD hN hS hS.2.2 dL_call_148
  have hf := in_ h_17 hf
  by_cases h_19 : x1 = 9
  · have hf := ip_ h_19 hf
    refine lv_tableIn (tgt := 149) (off := 148) hx hb dL_call_1 (by show ¬ x1.toInt < 0; rw [h_19]; decide) (by show ¬ 18 < x1.toInt; rw [h_19]; decide) (by show (#[91, 97, 102, 108, 115, 122, 128, 135, 141, 148, 155, 161, 168, 174, 179, 185, 190, 196, 203] : Array Int)[(x1.toInt - 0).toNat]? = some 148; rw [h_19]; rfl) (by decide) ?_
    refine lv_aload_n hx hb dL_call_149 rfl (lv_at hl 0 rfl) ?_
    refine lv_iload_n hx hb dL_call_150 rfl (lv_at hl 2 rfl) ?_
    refine lv_iload_n hx hb dL_call_151 rfl (lv_at hl 3 rfl) ?_
    obtain ⟨r_20, hh_r_20, hf⟩ := obd_some hf
    refine kbx_i (R0 := r_20) (w1 := fun (u : Int32 × WT × PT × (Nat → WT)) => oW cy b_0 bk_0 (o_0.1, o_0.2.1, u.2.1, o_0.2.2.2.1, u.2.2.1, u.2.2.2, o_0.2.2.2.2.2.2.1, o_0.2.2.2.2.2.2.2.1, o_0.2.2.2.2.2.2.2.2.1, o_0.2.2.2.2.2.2.2.2.2.1, o_0.2.2.2.2.2.2.2.2.2.2.1, o_0.2.2.2.2.2.2.2.2.2.2.2.1, o_0.2.2.2.2.2.2.2.2.2.2.2.2)) (V := fun (u : Int32 × WT × PT × (Nat → WT)) => u.1) hS (Nat.le_of_ble_eq_true rfl) (Jn_1 hP hD hS hA) (vx_runSX (As := [.ref (b_0 0), .int x2, .int x3]) (rest := []) ⟨hx, hb, hml, hown, hts⟩ (c_L_tryBorder (l := l) hfl G cy (b_0 0) (b_0 1) (b_0 2) (b_0 3) (b_0 4) (b_0 5) (b_0 6) (b_0 7) (b_0 8) (b_0 9) (b_0 10) (b_0 11) (b_0 12) (b_0 13) bk_0 s.heap.size o_0.1 o_0.2.1 o_0.2.2.1 o_0.2.2.2.1 o_0.2.2.2.2.1 o_0.2.2.2.2.2.1 o_0.2.2.2.2.2.2.1 o_0.2.2.2.2.2.2.2.1 o_0.2.2.2.2.2.2.2.2.1 o_0.2.2.2.2.2.2.2.2.2.1 o_0.2.2.2.2.2.2.2.2.2.2.1 o_0.2.2.2.2.2.2.2.2.2.2.2.1 o_0.2.2.2.2.2.2.2.2.2.2.2.2 x2 x3  r_20 hh_r_20) (vx_cwSW 3 hts gL_call_L_tryBorder rfl rfl rfl ddN_L_tryBorder ⟨(Nat.le_of_ble_eq_true rfl), (Nat.le_of_ble_eq_true rfl)⟩) (preSN hXN (hE.kept hS.2.1) (Jn_1 hP hD hS hA).1 hP hK hD hN) rfl rfl hl.1 rfl (lv_room (Nat.le_of_ble_eq_true rfl)) dL_call_152 ⟨by show 0 + 2 ≤ 3; omega, by show 6 * 0 + 12 ≤ 18; omega⟩) (fun H locs hP hD hS => ?_)
    have hP : va_P G vwCl (oW cy b_0 bk_0 (o_0.1, o_0.2.1, r_20.2.1, o_0.2.2.2.1, r_20.2.2.1, r_20.2.2.2, o_0.2.2.2.2.2.2.1, o_0.2.2.2.2.2.2.2.1, o_0.2.2.2.2.2.2.2.2.1, o_0.2.2.2.2.2.2.2.2.2.1, o_0.2.2.2.2.2.2.2.2.2.2.1, o_0.2.2.2.2.2.2.2.2.2.2.2.1, o_0.2.2.2.2.2.2.2.2.2.2.2.2)) H := hP
    have hD : va_D A (oW cy b_0 bk_0 (o_0.1, o_0.2.1, r_20.2.1, o_0.2.2.2.1, r_20.2.2.1, r_20.2.2.2, o_0.2.2.2.2.2.2.1, o_0.2.2.2.2.2.2.2.1, o_0.2.2.2.2.2.2.2.2.1, o_0.2.2.2.2.2.2.2.2.2.1, o_0.2.2.2.2.2.2.2.2.2.2.1, o_0.2.2.2.2.2.2.2.2.2.2.2.1, o_0.2.2.2.2.2.2.2.2.2.2.2.2)) := hD
    refine W.widen (k := 3) (n := 18) (by omega) (by omega) ?_
    obtain rfl := Option.some.inj hf
    exact kr_i hx hb hr hlocks rfl hP hK hD hN hS hS.2.2 dL_call_155
  have hf := in_ h_19 hf
  by_cases h_21 : x1 = 10
  · have hf := ip_ h_21 hf
    refine lv_tableIn (tgt := 156) (off := 155) hx hb dL_call_1 (by show ¬ x1.toInt < 0; rw [h_21]; decide) (by show ¬ 18 < x1.toInt; rw [h_21]; decide) (by show (#[91, 97, 102, 108, 115, 122, 128, 135, 141, 148, 155, 161, 168, 174, 179, 185, 190, 196, 203] : Array Int)[(x1.toInt - 0).toNat]? = some 155; rw [h_21]; rfl) (by decide) ?_
    refine lv_aload_n hx hb dL_call_156 rfl (lv_at hl 0 rfl) ?_
    refine lv_iload_n hx hb dL_call_157 rfl (lv_at hl 2 rfl) ?_
    obtain ⟨r_22, hh_r_22, hf⟩ := obd_some hf
    refine kbx_i (R0 := r_22) (w1 := fun (u : Int32 × WT × PT × (Nat → WT)) => oW cy b_0 bk_0 (o_0.1, o_0.2.1, u.2.1, o_0.2.2.2.1, u.2.2.1, u.2.2.2, o_0.2.2.2.2.2.2.1, o_0.2.2.2.2.2.2.2.1, o_0.2.2.2.2.2.2.2.2.1, o_0.2.2.2.2.2.2.2.2.2.1, o_0.2.2.2.2.2.2.2.2.2.2.1, o_0.2.2.2.2.2.2.2.2.2.2.2.1, o_0.2.2.2.2.2.2.2.2.2.2.2.2)) (V := fun (u : Int32 × WT × PT × (Nat → WT)) => u.1) hS (Nat.le_of_ble_eq_true rfl) (Jn_1 hP hD hS hA) (vx_runSX (As := [.ref (b_0 0), .int x2]) (rest := []) ⟨hx, hb, hml, hown, hts⟩ (c_L_tryRule (l := l) hfl G cy (b_0 0) (b_0 1) (b_0 2) (b_0 3) (b_0 4) (b_0 5) (b_0 6) (b_0 7) (b_0 8) (b_0 9) (b_0 10) (b_0 11) (b_0 12) (b_0 13) bk_0 s.heap.size o_0.1 o_0.2.1 o_0.2.2.1 o_0.2.2.2.1 o_0.2.2.2.2.1 o_0.2.2.2.2.2.1 o_0.2.2.2.2.2.2.1 o_0.2.2.2.2.2.2.2.1 o_0.2.2.2.2.2.2.2.2.1 o_0.2.2.2.2.2.2.2.2.2.1 o_0.2.2.2.2.2.2.2.2.2.2.1 o_0.2.2.2.2.2.2.2.2.2.2.2.1 o_0.2.2.2.2.2.2.2.2.2.2.2.2 x2  r_22 hh_r_22) (vx_cwSW 2 hts gL_call_L_tryRule rfl rfl rfl ddN_L_tryRule ⟨(Nat.le_of_ble_eq_true rfl), (Nat.le_of_ble_eq_true rfl)⟩) (preSN hXN (hE.kept hS.2.1) (Jn_1 hP hD hS hA).1 hP hK hD hN) rfl rfl hl.1 rfl (lv_room (Nat.le_of_ble_eq_true rfl)) dL_call_158 ⟨by show 0 + 1 ≤ 3; omega, by show 6 * 0 + 6 ≤ 18; omega⟩) (fun H locs hP hD hS => ?_)
    have hP : va_P G vwCl (oW cy b_0 bk_0 (o_0.1, o_0.2.1, r_22.2.1, o_0.2.2.2.1, r_22.2.2.1, r_22.2.2.2, o_0.2.2.2.2.2.2.1, o_0.2.2.2.2.2.2.2.1, o_0.2.2.2.2.2.2.2.2.1, o_0.2.2.2.2.2.2.2.2.2.1, o_0.2.2.2.2.2.2.2.2.2.2.1, o_0.2.2.2.2.2.2.2.2.2.2.2.1, o_0.2.2.2.2.2.2.2.2.2.2.2.2)) H := hP
    have hD : va_D A (oW cy b_0 bk_0 (o_0.1, o_0.2.1, r_22.2.1, o_0.2.2.2.1, r_22.2.2.1, r_22.2.2.2, o_0.2.2.2.2.2.2.1, o_0.2.2.2.2.2.2.2.1, o_0.2.2.2.2.2.2.2.2.1, o_0.2.2.2.2.2.2.2.2.2.1, o_0.2.2.2.2.2.2.2.2.2.2.1, o_0.2.2.2.2.2.2.2.2.2.2.2.1, o_0.2.2.2.2.2.2.2.2.2.2.2.2)) := hD
    refine W.widen (k := 3) (n := 18) (by omega) (by omega) ?_
    obtain rfl := Option.some.inj hf
    exact kr_i hx hb hr hlocks rfl hP hK hD hN hS hS.2.2 dL_call_161
  have hf := in_ h_21 hf
  by_cases h_23 : x1 = 11
  · have hf := ip_ h_23 hf
    refine lv_tableIn (tgt := 162) (off := 161) hx hb dL_call_1 (by show ¬ x1.toInt < 0; rw [h_23]; decide) (by show ¬ 18 < x1.toInt; rw [h_23]; decide) (by show (#[91, 97, 102, 108, 115, 122, 128, 135, 141, 148, 155, 161, 168, 174, 179, 185, 190, 196, 203] : Array Int)[(x1.toInt - 0).toNat]? = some 161; rw [h_23]; rfl) (by decide) ?_
    refine lv_aload_n hx hb dL_call_162 rfl (lv_at hl 0 rfl) ?_
    refine lv_iload_n hx hb dL_call_163 rfl (lv_at hl 2 rfl) ?_
    refine lv_iload_n hx hb dL_call_164 rfl (lv_at hl 3 rfl) ?_
    obtain ⟨r_24, hh_r_24, hf⟩ := obd_some hf
    refine kbx_i (R0 := r_24) (w1 := fun (u : Int32 × WT × PT × (Nat → WT)) => oW cy b_0 bk_0 (o_0.1, o_0.2.1, u.2.1, o_0.2.2.2.1, u.2.2.1, u.2.2.2, o_0.2.2.2.2.2.2.1, o_0.2.2.2.2.2.2.2.1, o_0.2.2.2.2.2.2.2.2.1, o_0.2.2.2.2.2.2.2.2.2.1, o_0.2.2.2.2.2.2.2.2.2.2.1, o_0.2.2.2.2.2.2.2.2.2.2.2.1, o_0.2.2.2.2.2.2.2.2.2.2.2.2)) (V := fun (u : Int32 × WT × PT × (Nat → WT)) => u.1) hS (Nat.le_of_ble_eq_true rfl) (Jn_1 hP hD hS hA) (vx_runSX (As := [.ref (b_0 0), .int x2, .int x3]) (rest := []) ⟨hx, hb, hml, hown, hts⟩ (c_L_tryBreathe (l := l) hfl G cy (b_0 0) (b_0 1) (b_0 2) (b_0 3) (b_0 4) (b_0 5) (b_0 6) (b_0 7) (b_0 8) (b_0 9) (b_0 10) (b_0 11) (b_0 12) (b_0 13) bk_0 s.heap.size o_0.1 o_0.2.1 o_0.2.2.1 o_0.2.2.2.1 o_0.2.2.2.2.1 o_0.2.2.2.2.2.1 o_0.2.2.2.2.2.2.1 o_0.2.2.2.2.2.2.2.1 o_0.2.2.2.2.2.2.2.2.1 o_0.2.2.2.2.2.2.2.2.2.1 o_0.2.2.2.2.2.2.2.2.2.2.1 o_0.2.2.2.2.2.2.2.2.2.2.2.1 o_0.2.2.2.2.2.2.2.2.2.2.2.2 x2 x3 n r_24 hh_r_24) (vx_cwSW 3 hts gL_call_L_tryBreathe rfl rfl rfl ddN_L_tryBreathe ⟨(Nat.le_of_ble_eq_true rfl), (Nat.le_of_ble_eq_true rfl)⟩) (preSN hXN (hE.kept hS.2.1) (Jn_1 hP hD hS hA).1 hP hK hD hN) rfl rfl hl.1 rfl (lv_room (Nat.le_of_ble_eq_true rfl)) dL_call_165 ⟨by show 0 + 2 ≤ 3; omega, by show 6 * 0 + 12 ≤ 18; omega⟩) (fun H locs hP hD hS => ?_)
    have hP : va_P G vwCl (oW cy b_0 bk_0 (o_0.1, o_0.2.1, r_24.2.1, o_0.2.2.2.1, r_24.2.2.1, r_24.2.2.2, o_0.2.2.2.2.2.2.1, o_0.2.2.2.2.2.2.2.1, o_0.2.2.2.2.2.2.2.2.1, o_0.2.2.2.2.2.2.2.2.2.1, o_0.2.2.2.2.2.2.2.2.2.2.1, o_0.2.2.2.2.2.2.2.2.2.2.2.1, o_0.2.2.2.2.2.2.2.2.2.2.2.2)) H := hP
    have hD : va_D A (oW cy b_0 bk_0 (o_0.1, o_0.2.1, r_24.2.1, o_0.2.2.2.1, r_24.2.2.1, r_24.2.2.2, o_0.2.2.2.2.2.2.1, o_0.2.2.2.2.2.2.2.1, o_0.2.2.2.2.2.2.2.2.1, o_0.2.2.2.2.2.2.2.2.2.1, o_0.2.2.2.2.2.2.2.2.2.2.1, o_0.2.2.2.2.2.2.2.2.2.2.2.1, o_0.2.2.2.2.2.2.2.2.2.2.2.2)) := hD
    refine W.widen (k := 3) (n := 18) (by omega) (by omega) ?_
    obtain rfl := Option.some.inj hf
    exact kr_i hx hb hr hlocks rfl hP hK hD hN hS hS.2.2 dL_call_168
  have hf := in_ h_23 hf
  by_cases h_25 : x1 = 12
  · have hf := ip_ h_25 hf
    refine lv_tableIn (tgt := 169) (off := 168) hx hb dL_call_1 (by show ¬ x1.toInt < 0; rw [h_25]; decide) (by show ¬ 18 < x1.toInt; rw [h_25]; decide) (by show (#[91, 97, 102, 108, 115, 122, 128, 135, 141, 148, 155, 161, 168, 174, 179, 185, 190, 196, 203] : Array Int)[(x1.toInt - 0).toNat]? = some 168; rw [h_25]; rfl) (by decide) ?_
    refine lv_aload_n hx hb dL_call_169 rfl (lv_at hl 0 rfl) ?_
    refine lv_iload_n hx hb dL_call_170 rfl (lv_at hl 2 rfl) ?_
    obtain ⟨r_26, hh_r_26, hf⟩ := obd_some hf
    refine kbx_i (R0 := r_26) (w1 := fun (u : Int32 × WT × PT × (Nat → WT)) => oW cy b_0 bk_0 (o_0.1, o_0.2.1, u.2.1, o_0.2.2.2.1, u.2.2.1, u.2.2.2, o_0.2.2.2.2.2.2.1, o_0.2.2.2.2.2.2.2.1, o_0.2.2.2.2.2.2.2.2.1, o_0.2.2.2.2.2.2.2.2.2.1, o_0.2.2.2.2.2.2.2.2.2.2.1, o_0.2.2.2.2.2.2.2.2.2.2.2.1, o_0.2.2.2.2.2.2.2.2.2.2.2.2)) (V := fun (u : Int32 × WT × PT × (Nat → WT)) => u.1) hS (Nat.le_of_ble_eq_true rfl) (Jn_1 hP hD hS hA) (vx_runSX (As := [.ref (b_0 0), .int x2]) (rest := []) ⟨hx, hb, hml, hown, hts⟩ (c_L_tryNights (l := l) hfl G cy (b_0 0) (b_0 1) (b_0 2) (b_0 3) (b_0 4) (b_0 5) (b_0 6) (b_0 7) (b_0 8) (b_0 9) (b_0 10) (b_0 11) (b_0 12) (b_0 13) bk_0 s.heap.size o_0.1 o_0.2.1 o_0.2.2.1 o_0.2.2.2.1 o_0.2.2.2.2.1 o_0.2.2.2.2.2.1 o_0.2.2.2.2.2.2.1 o_0.2.2.2.2.2.2.2.1 o_0.2.2.2.2.2.2.2.2.1 o_0.2.2.2.2.2.2.2.2.2.1 o_0.2.2.2.2.2.2.2.2.2.2.1 o_0.2.2.2.2.2.2.2.2.2.2.2.1 o_0.2.2.2.2.2.2.2.2.2.2.2.2 x2 n r_26 hh_r_26) (vx_cwSW 2 hts gL_call_L_tryNights rfl rfl rfl ddN_L_tryNights ⟨(Nat.le_of_ble_eq_true rfl), (Nat.le_of_ble_eq_true rfl)⟩) (preSN hXN (hE.kept hS.2.1) (Jn_1 hP hD hS hA).1 hP hK hD hN) rfl rfl hl.1 rfl (lv_room (Nat.le_of_ble_eq_true rfl)) dL_call_171 ⟨by show 0 + 1 ≤ 3; omega, by show 6 * 0 + 6 ≤ 18; omega⟩) (fun H locs hP hD hS => ?_)
    have hP : va_P G vwCl (oW cy b_0 bk_0 (o_0.1, o_0.2.1, r_26.2.1, o_0.2.2.2.1, r_26.2.2.1, r_26.2.2.2, o_0.2.2.2.2.2.2.1, o_0.2.2.2.2.2.2.2.1, o_0.2.2.2.2.2.2.2.2.1, o_0.2.2.2.2.2.2.2.2.2.1, o_0.2.2.2.2.2.2.2.2.2.2.1, o_0.2.2.2.2.2.2.2.2.2.2.2.1, o_0.2.2.2.2.2.2.2.2.2.2.2.2)) H := hP
    have hD : va_D A (oW cy b_0 bk_0 (o_0.1, o_0.2.1, r_26.2.1, o_0.2.2.2.1, r_26.2.2.1, r_26.2.2.2, o_0.2.2.2.2.2.2.1, o_0.2.2.2.2.2.2.2.1, o_0.2.2.2.2.2.2.2.2.1, o_0.2.2.2.2.2.2.2.2.2.1, o_0.2.2.2.2.2.2.2.2.2.2.1, o_0.2.2.2.2.2.2.2.2.2.2.2.1, o_0.2.2.2.2.2.2.2.2.2.2.2.2)) := hD
    refine W.widen (k := 3) (n := 18) (by omega) (by omega) ?_
    obtain rfl := Option.some.inj hf
    exact kr_i hx hb hr hlocks rfl hP hK hD hN hS hS.2.2 dL_call_174
  have hf := in_ h_25 hf
  by_cases h_27 : x1 = 13
  · have hf := ip_ h_27 hf
    refine lv_tableIn (tgt := 175) (off := 174) hx hb dL_call_1 (by show ¬ x1.toInt < 0; rw [h_27]; decide) (by show ¬ 18 < x1.toInt; rw [h_27]; decide) (by show (#[91, 97, 102, 108, 115, 122, 128, 135, 141, 148, 155, 161, 168, 174, 179, 185, 190, 196, 203] : Array Int)[(x1.toInt - 0).toNat]? = some 174; rw [h_27]; rfl) (by decide) ?_
    refine lv_aload_n hx hb dL_call_175 rfl (lv_at hl 0 rfl) ?_
    obtain ⟨r_28, hh_r_28, hf⟩ := obd_some hf
    refine kbx_i (R0 := r_28) (w1 := fun (u : Int32 × WT × PT) => oW cy b_0 bk_0 (o_0.1, o_0.2.1, u.2.1, o_0.2.2.2.1, u.2.2, o_0.2.2.2.2.2.1, o_0.2.2.2.2.2.2.1, o_0.2.2.2.2.2.2.2.1, o_0.2.2.2.2.2.2.2.2.1, o_0.2.2.2.2.2.2.2.2.2.1, o_0.2.2.2.2.2.2.2.2.2.2.1, o_0.2.2.2.2.2.2.2.2.2.2.2.1, o_0.2.2.2.2.2.2.2.2.2.2.2.2)) (V := fun (u : Int32 × WT × PT) => u.1) hS (Nat.le_of_ble_eq_true rfl) (Jn_1 hP hD hS hA) (vx_runSX (As := [.ref (b_0 0)]) (rest := []) ⟨hx, hb, hml, hown, hts⟩ (c_L_tryUndo (l := l) hfl G cy (b_0 0) (b_0 1) (b_0 2) (b_0 3) (b_0 4) (b_0 5) (b_0 6) (b_0 7) (b_0 8) (b_0 9) (b_0 10) (b_0 11) (b_0 12) (b_0 13) bk_0 s.heap.size o_0.1 o_0.2.1 o_0.2.2.1 o_0.2.2.2.1 o_0.2.2.2.2.1 o_0.2.2.2.2.2.1 o_0.2.2.2.2.2.2.1 o_0.2.2.2.2.2.2.2.1 o_0.2.2.2.2.2.2.2.2.1 o_0.2.2.2.2.2.2.2.2.2.1 o_0.2.2.2.2.2.2.2.2.2.2.1 o_0.2.2.2.2.2.2.2.2.2.2.2.1 o_0.2.2.2.2.2.2.2.2.2.2.2.2  r_28 hh_r_28) (vx_cwSW 1 hts gL_call_L_tryUndo rfl rfl rfl ddN_L_tryUndo ⟨(Nat.le_of_ble_eq_true rfl), (Nat.le_of_ble_eq_true rfl)⟩) (preSN hXN (hE.kept hS.2.1) (Jn_1 hP hD hS hA).1 hP hK hD hN) rfl rfl hl.1 rfl (lv_room (Nat.le_of_ble_eq_true rfl)) dL_call_176 ⟨by show 0 + 1 ≤ 3; omega, by show 6 * 0 + 6 ≤ 18; omega⟩) (fun H locs hP hD hS => ?_)
    have hP : va_P G vwCl (oW cy b_0 bk_0 (o_0.1, o_0.2.1, r_28.2.1, o_0.2.2.2.1, r_28.2.2, o_0.2.2.2.2.2.1, o_0.2.2.2.2.2.2.1, o_0.2.2.2.2.2.2.2.1, o_0.2.2.2.2.2.2.2.2.1, o_0.2.2.2.2.2.2.2.2.2.1, o_0.2.2.2.2.2.2.2.2.2.2.1, o_0.2.2.2.2.2.2.2.2.2.2.2.1, o_0.2.2.2.2.2.2.2.2.2.2.2.2)) H := hP
    have hD : va_D A (oW cy b_0 bk_0 (o_0.1, o_0.2.1, r_28.2.1, o_0.2.2.2.1, r_28.2.2, o_0.2.2.2.2.2.1, o_0.2.2.2.2.2.2.1, o_0.2.2.2.2.2.2.2.1, o_0.2.2.2.2.2.2.2.2.1, o_0.2.2.2.2.2.2.2.2.2.1, o_0.2.2.2.2.2.2.2.2.2.2.1, o_0.2.2.2.2.2.2.2.2.2.2.2.1, o_0.2.2.2.2.2.2.2.2.2.2.2.2)) := hD
    refine W.widen (k := 3) (n := 18) (by omega) (by omega) ?_
    obtain rfl := Option.some.inj hf
    exact kr_i hx hb hr hlocks rfl hP hK hD hN hS hS.2.2 dL_call_179
  have hf := in_ h_27 hf
  by_cases h_29 : x1 = 14
  · have hf := ip_ h_29 hf
    refine lv_tableIn (tgt := 180) (off := 179) hx hb dL_call_1 (by show ¬ x1.toInt < 0; rw [h_29]; decide) (by show ¬ 18 < x1.toInt; rw [h_29]; decide) (by show (#[91, 97, 102, 108, 115, 122, 128, 135, 141, 148, 155, 161, 168, 174, 179, 185, 190, 196, 203] : Array Int)[(x1.toInt - 0).toNat]? = some 179; rw [h_29]; rfl) (by decide) ?_
    refine lv_aload_n hx hb dL_call_180 rfl (lv_at hl 0 rfl) ?_
    refine lv_iload_n hx hb dL_call_181 rfl (lv_at hl 2 rfl) ?_
    obtain ⟨r_30, hh_r_30, hf⟩ := obd_some hf
    refine kbx_i (R0 := r_30) (w1 := fun (u : Int32 × (Nat → Int64)) => oW cy b_0 bk_0 (o_0.1, o_0.2.1, o_0.2.2.1, o_0.2.2.2.1, o_0.2.2.2.2.1, o_0.2.2.2.2.2.1, o_0.2.2.2.2.2.2.1, o_0.2.2.2.2.2.2.2.1, o_0.2.2.2.2.2.2.2.2.1, o_0.2.2.2.2.2.2.2.2.2.1, o_0.2.2.2.2.2.2.2.2.2.2.1, o_0.2.2.2.2.2.2.2.2.2.2.2.1, u.2)) (V := fun (u : Int32 × (Nat → Int64)) => u.1) hS (Nat.le_of_ble_eq_true rfl) (Jn_1 hP hD hS hA) (vx_runSX (As := [.ref (b_0 0), .int x2]) (rest := []) ⟨hx, hb, hml, hown, hts⟩ (c_L_tryAgain (l := l) hfl G cy (b_0 0) (b_0 1) (b_0 2) (b_0 3) (b_0 4) (b_0 5) (b_0 6) (b_0 7) (b_0 8) (b_0 9) (b_0 10) (b_0 11) (b_0 12) (b_0 13) bk_0 s.heap.size o_0.1 o_0.2.1 o_0.2.2.1 o_0.2.2.2.1 o_0.2.2.2.2.1 o_0.2.2.2.2.2.1 o_0.2.2.2.2.2.2.1 o_0.2.2.2.2.2.2.2.1 o_0.2.2.2.2.2.2.2.2.1 o_0.2.2.2.2.2.2.2.2.2.1 o_0.2.2.2.2.2.2.2.2.2.2.1 o_0.2.2.2.2.2.2.2.2.2.2.2.1 o_0.2.2.2.2.2.2.2.2.2.2.2.2 x2 n r_30 hh_r_30) (vx_cwSW 2 hts gL_call_L_tryAgain rfl rfl rfl ddN_L_tryAgain ⟨(Nat.le_of_ble_eq_true rfl), (Nat.le_of_ble_eq_true rfl)⟩) (preSN hXN (hE.kept hS.2.1) (Jn_1 hP hD hS hA).1 hP hK hD hN) rfl rfl hl.1 rfl (lv_room (Nat.le_of_ble_eq_true rfl)) dL_call_182 ⟨by show 0 + 1 ≤ 3; omega, by show 6 * 0 + 6 ≤ 18; omega⟩) (fun H locs hP hD hS => ?_)
    have hP : va_P G vwCl (oW cy b_0 bk_0 (o_0.1, o_0.2.1, o_0.2.2.1, o_0.2.2.2.1, o_0.2.2.2.2.1, o_0.2.2.2.2.2.1, o_0.2.2.2.2.2.2.1, o_0.2.2.2.2.2.2.2.1, o_0.2.2.2.2.2.2.2.2.1, o_0.2.2.2.2.2.2.2.2.2.1, o_0.2.2.2.2.2.2.2.2.2.2.1, o_0.2.2.2.2.2.2.2.2.2.2.2.1, r_30.2)) H := hP
    have hD : va_D A (oW cy b_0 bk_0 (o_0.1, o_0.2.1, o_0.2.2.1, o_0.2.2.2.1, o_0.2.2.2.2.1, o_0.2.2.2.2.2.1, o_0.2.2.2.2.2.2.1, o_0.2.2.2.2.2.2.2.1, o_0.2.2.2.2.2.2.2.2.1, o_0.2.2.2.2.2.2.2.2.2.1, o_0.2.2.2.2.2.2.2.2.2.2.1, o_0.2.2.2.2.2.2.2.2.2.2.2.1, r_30.2)) := hD
    refine W.widen (k := 3) (n := 18) (by omega) (by omega) ?_
    obtain rfl := Option.some.inj hf
    exact kr_i hx hb hr hlocks rfl hP hK hD hN hS hS.2.2 dL_call_185
  have hf := in_ h_29 hf
  by_cases h_31 : x1 = 15
  · have hf := ip_ h_31 hf
    refine lv_tableIn (tgt := 186) (off := 185) hx hb dL_call_1 (by show ¬ x1.toInt < 0; rw [h_31]; decide) (by show ¬ 18 < x1.toInt; rw [h_31]; decide) (by show (#[91, 97, 102, 108, 115, 122, 128, 135, 141, 148, 155, 161, 168, 174, 179, 185, 190, 196, 203] : Array Int)[(x1.toInt - 0).toNat]? = some 185; rw [h_31]; rfl) (by decide) ?_
    refine lv_aload_n hx hb dL_call_186 rfl (lv_at hl 0 rfl) ?_
    obtain ⟨r_32, hh_r_32, hf⟩ := obd_some hf
    refine kbx_i (R0 := r_32) (w1 := fun (u : Int32 × ET × (Nat → Int64)) => oW cy b_0 bk_0 (o_0.1, o_0.2.1, o_0.2.2.1, o_0.2.2.2.1, o_0.2.2.2.2.1, o_0.2.2.2.2.2.1, o_0.2.2.2.2.2.2.1, o_0.2.2.2.2.2.2.2.1, o_0.2.2.2.2.2.2.2.2.1, o_0.2.2.2.2.2.2.2.2.2.1, u.2.1, u.2.2, o_0.2.2.2.2.2.2.2.2.2.2.2.2)) (V := fun (u : Int32 × ET × (Nat → Int64)) => u.1) hS (Nat.le_of_ble_eq_true rfl) (Jn_1 hP hD hS hA) (vx_runSX (As := [.ref (b_0 0)]) (rest := []) ⟨hx, hb, hml, hown, hts⟩ (c_L_tryBefores (l := l) hfl G cy (b_0 0) (b_0 1) (b_0 2) (b_0 3) (b_0 4) (b_0 5) (b_0 6) (b_0 7) (b_0 8) (b_0 9) (b_0 10) (b_0 11) (b_0 12) (b_0 13) bk_0 s.heap.size o_0.1 o_0.2.1 o_0.2.2.1 o_0.2.2.2.1 o_0.2.2.2.2.1 o_0.2.2.2.2.2.1 o_0.2.2.2.2.2.2.1 o_0.2.2.2.2.2.2.2.1 o_0.2.2.2.2.2.2.2.2.1 o_0.2.2.2.2.2.2.2.2.2.1 o_0.2.2.2.2.2.2.2.2.2.2.1 o_0.2.2.2.2.2.2.2.2.2.2.2.1 o_0.2.2.2.2.2.2.2.2.2.2.2.2 n r_32 hh_r_32) (vx_cwSW 1 hts gL_call_L_tryBefores rfl rfl rfl ddN_L_tryBefores ⟨(Nat.le_of_ble_eq_true rfl), (Nat.le_of_ble_eq_true rfl)⟩) (preSN hXN (hE.kept hS.2.1) (Jn_1 hP hD hS hA).1 hP hK hD hN) rfl rfl hl.1 rfl (lv_room (Nat.le_of_ble_eq_true rfl)) dL_call_187 ⟨by show 0 + 1 ≤ 3; omega, by show 6 * 0 + 6 ≤ 18; omega⟩) (fun H locs hP hD hS => ?_)
    have hP : va_P G vwCl (oW cy b_0 bk_0 (o_0.1, o_0.2.1, o_0.2.2.1, o_0.2.2.2.1, o_0.2.2.2.2.1, o_0.2.2.2.2.2.1, o_0.2.2.2.2.2.2.1, o_0.2.2.2.2.2.2.2.1, o_0.2.2.2.2.2.2.2.2.1, o_0.2.2.2.2.2.2.2.2.2.1, r_32.2.1, r_32.2.2, o_0.2.2.2.2.2.2.2.2.2.2.2.2)) H := hP
    have hD : va_D A (oW cy b_0 bk_0 (o_0.1, o_0.2.1, o_0.2.2.1, o_0.2.2.2.1, o_0.2.2.2.2.1, o_0.2.2.2.2.2.1, o_0.2.2.2.2.2.2.1, o_0.2.2.2.2.2.2.2.1, o_0.2.2.2.2.2.2.2.2.1, o_0.2.2.2.2.2.2.2.2.2.1, r_32.2.1, r_32.2.2, o_0.2.2.2.2.2.2.2.2.2.2.2.2)) := hD
    refine W.widen (k := 3) (n := 18) (by omega) (by omega) ?_
    obtain rfl := Option.some.inj hf
    exact kr_i hx hb hr hlocks rfl hP hK hD hN hS hS.2.2 dL_call_190
  have hf := in_ h_31 hf
  by_cases h_33 : x1 = 16
  · have hf := ip_ h_33 hf
    refine lv_tableIn (tgt := 191) (off := 190) hx hb dL_call_1 (by show ¬ x1.toInt < 0; rw [h_33]; decide) (by show ¬ 18 < x1.toInt; rw [h_33]; decide) (by show (#[91, 97, 102, 108, 115, 122, 128, 135, 141, 148, 155, 161, 168, 174, 179, 185, 190, 196, 203] : Array Int)[(x1.toInt - 0).toNat]? = some 190; rw [h_33]; rfl) (by decide) ?_
    refine lv_aload_n hx hb dL_call_191 rfl (lv_at hl 0 rfl) ?_
    refine lv_iload_n hx hb dL_call_192 rfl (lv_at hl 2 rfl) ?_
    obtain ⟨r_34, hh_r_34, hf⟩ := obd_some hf
    refine kbx_i (R0 := r_34) (w1 := fun (u : Int32) => oW cy b_0 bk_0 o_0) (V := fun (u : Int32) => u) hS (Nat.le_of_ble_eq_true rfl) (Jn_1 hP hD hS hA) (vx_runSX (As := [.ref (b_0 0), .int x2]) (rest := []) ⟨hx, hb, hml, hown, hts⟩ (c_L_tryFreezes (l := l) hfl G cy (b_0 0) (b_0 1) (b_0 2) (b_0 3) (b_0 4) (b_0 5) (b_0 6) (b_0 7) (b_0 8) (b_0 9) (b_0 10) (b_0 11) (b_0 12) (b_0 13) bk_0 s.heap.size o_0.1 o_0.2.1 o_0.2.2.1 o_0.2.2.2.1 o_0.2.2.2.2.1 o_0.2.2.2.2.2.1 o_0.2.2.2.2.2.2.1 o_0.2.2.2.2.2.2.2.1 o_0.2.2.2.2.2.2.2.2.1 o_0.2.2.2.2.2.2.2.2.2.1 o_0.2.2.2.2.2.2.2.2.2.2.1 o_0.2.2.2.2.2.2.2.2.2.2.2.1 o_0.2.2.2.2.2.2.2.2.2.2.2.2 x2 n r_34 hh_r_34) (vx_cwSW 2 hts gL_call_L_tryFreezes rfl rfl rfl ddN_L_tryFreezes ⟨(Nat.le_of_ble_eq_true rfl), (Nat.le_of_ble_eq_true rfl)⟩) (preSN hXN (hE.kept hS.2.1) (Jn_1 hP hD hS hA).1 hP hK hD hN) rfl rfl hl.1 rfl (lv_room (Nat.le_of_ble_eq_true rfl)) dL_call_193 ⟨by show 0 + 1 ≤ 3; omega, by show 6 * 0 + 6 ≤ 18; omega⟩) (fun H locs hP hD hS => ?_)
    have hP : va_P G vwCl (oW cy b_0 bk_0 o_0) H := hP
    have hD : va_D A (oW cy b_0 bk_0 o_0) := hD
    refine W.widen (k := 3) (n := 18) (by omega) (by omega) ?_
    obtain rfl := Option.some.inj hf
    exact kr_i hx hb hr hlocks rfl hP hK hD hN hS hS.2.2 dL_call_196
  have hf := in_ h_33 hf
  by_cases h_35 : x1 = 17
  · have hf := ip_ h_35 hf
    refine lv_tableIn (tgt := 197) (off := 196) hx hb dL_call_1 (by show ¬ x1.toInt < 0; rw [h_35]; decide) (by show ¬ 18 < x1.toInt; rw [h_35]; decide) (by show (#[91, 97, 102, 108, 115, 122, 128, 135, 141, 148, 155, 161, 168, 174, 179, 185, 190, 196, 203] : Array Int)[(x1.toInt - 0).toNat]? = some 196; rw [h_35]; rfl) (by decide) ?_
    refine lv_aload_n hx hb dL_call_197 rfl (lv_at hl 0 rfl) ?_
    refine lv_iload_n hx hb dL_call_198 rfl (lv_at hl 2 rfl) ?_
    refine lv_iload_n hx hb dL_call_199 rfl (lv_at hl 3 rfl) ?_
    obtain ⟨r_36, hh_r_36, hf⟩ := obd_some hf
    refine kbx_i (R0 := r_36) (w1 := fun (u : Int32 × WT) => oW cy b_0 bk_0 (o_0.1, o_0.2.1, o_0.2.2.1, u.2, o_0.2.2.2.2.1, o_0.2.2.2.2.2.1, o_0.2.2.2.2.2.2.1, o_0.2.2.2.2.2.2.2.1, o_0.2.2.2.2.2.2.2.2.1, o_0.2.2.2.2.2.2.2.2.2.1, o_0.2.2.2.2.2.2.2.2.2.2.1, o_0.2.2.2.2.2.2.2.2.2.2.2.1, o_0.2.2.2.2.2.2.2.2.2.2.2.2)) (V := fun (u : Int32 × WT) => u.1) hS (Nat.le_of_ble_eq_true rfl) (Jn_1 hP hD hS hA) (vx_runSX (As := [.ref (b_0 0), .int x2, .int x3]) (rest := []) ⟨hx, hb, hml, hown, hts⟩ (c_L_tryKeeps (l := l) hfl G cy (b_0 0) (b_0 1) (b_0 2) (b_0 3) (b_0 4) (b_0 5) (b_0 6) (b_0 7) (b_0 8) (b_0 9) (b_0 10) (b_0 11) (b_0 12) (b_0 13) bk_0 s.heap.size o_0.1 o_0.2.1 o_0.2.2.1 o_0.2.2.2.1 o_0.2.2.2.2.1 o_0.2.2.2.2.2.1 o_0.2.2.2.2.2.2.1 o_0.2.2.2.2.2.2.2.1 o_0.2.2.2.2.2.2.2.2.1 o_0.2.2.2.2.2.2.2.2.2.1 o_0.2.2.2.2.2.2.2.2.2.2.1 o_0.2.2.2.2.2.2.2.2.2.2.2.1 o_0.2.2.2.2.2.2.2.2.2.2.2.2 x2 x3 n r_36 hh_r_36) (vx_cwSW 3 hts gL_call_L_tryKeeps rfl rfl rfl ddN_L_tryKeeps ⟨(Nat.le_of_ble_eq_true rfl), (Nat.le_of_ble_eq_true rfl)⟩) (preSN hXN (hE.kept hS.2.1) (Jn_1 hP hD hS hA).1 hP hK hD hN) rfl rfl hl.1 rfl (lv_room (Nat.le_of_ble_eq_true rfl)) dL_call_200 ⟨by show 0 + 2 ≤ 3; omega, by show 6 * 0 + 12 ≤ 18; omega⟩) (fun H locs hP hD hS => ?_)
    have hP : va_P G vwCl (oW cy b_0 bk_0 (o_0.1, o_0.2.1, o_0.2.2.1, r_36.2, o_0.2.2.2.2.1, o_0.2.2.2.2.2.1, o_0.2.2.2.2.2.2.1, o_0.2.2.2.2.2.2.2.1, o_0.2.2.2.2.2.2.2.2.1, o_0.2.2.2.2.2.2.2.2.2.1, o_0.2.2.2.2.2.2.2.2.2.2.1, o_0.2.2.2.2.2.2.2.2.2.2.2.1, o_0.2.2.2.2.2.2.2.2.2.2.2.2)) H := hP
    have hD : va_D A (oW cy b_0 bk_0 (o_0.1, o_0.2.1, o_0.2.2.1, r_36.2, o_0.2.2.2.2.1, o_0.2.2.2.2.2.1, o_0.2.2.2.2.2.2.1, o_0.2.2.2.2.2.2.2.1, o_0.2.2.2.2.2.2.2.2.1, o_0.2.2.2.2.2.2.2.2.2.1, o_0.2.2.2.2.2.2.2.2.2.2.1, o_0.2.2.2.2.2.2.2.2.2.2.2.1, o_0.2.2.2.2.2.2.2.2.2.2.2.2)) := hD
    refine W.widen (k := 3) (n := 18) (by omega) (by omega) ?_
    obtain rfl := Option.some.inj hf
    exact kr_i hx hb hr hlocks rfl hP hK hD hN hS hS.2.2 dL_call_203
  have hf := in_ h_35 hf
  by_cases h_37 : x1 = 18
  · have hf := ip_ h_37 hf
    refine lv_tableIn (tgt := 204) (off := 203) hx hb dL_call_1 (by show ¬ x1.toInt < 0; rw [h_37]; decide) (by show ¬ 18 < x1.toInt; rw [h_37]; decide) (by show (#[91, 97, 102, 108, 115, 122, 128, 135, 141, 148, 155, 161, 168, 174, 179, 185, 190, 196, 203] : Array Int)[(x1.toInt - 0).toNat]? = some 203; rw [h_37]; rfl) (by decide) ?_
    refine lv_aload_n hx hb dL_call_204 rfl (lv_at hl 0 rfl) ?_
    refine lv_iload_n hx hb dL_call_205 rfl (lv_at hl 2 rfl) ?_
    obtain ⟨r_38, hh_r_38, hf⟩ := obd_some hf
    refine kbx_i (R0 := r_38) (w1 := fun (u : Int32 × Bool × WT × Bool × WT) => oW cy b_0 bk_0 (o_0.1, o_0.2.1, o_0.2.2.1, o_0.2.2.2.1, o_0.2.2.2.2.1, o_0.2.2.2.2.2.1, u.2.1, u.2.2.1, u.2.2.2.1, u.2.2.2.2, o_0.2.2.2.2.2.2.2.2.2.2.1, o_0.2.2.2.2.2.2.2.2.2.2.2.1, o_0.2.2.2.2.2.2.2.2.2.2.2.2)) (V := fun (u : Int32 × Bool × WT × Bool × WT) => u.1) hS (Nat.le_of_ble_eq_true rfl) (Jn_1 hP hD hS hA) (vx_runSX (As := [.ref (b_0 0), .int x2]) (rest := []) ⟨hx, hb, hml, hown, hts⟩ (c_L_tryKeep (l := l) hfl G cy (b_0 0) (b_0 1) (b_0 2) (b_0 3) (b_0 4) (b_0 5) (b_0 6) (b_0 7) (b_0 8) (b_0 9) (b_0 10) (b_0 11) (b_0 12) (b_0 13) bk_0 s.heap.size o_0.1 o_0.2.1 o_0.2.2.1 o_0.2.2.2.1 o_0.2.2.2.2.1 o_0.2.2.2.2.2.1 o_0.2.2.2.2.2.2.1 o_0.2.2.2.2.2.2.2.1 o_0.2.2.2.2.2.2.2.2.1 o_0.2.2.2.2.2.2.2.2.2.1 o_0.2.2.2.2.2.2.2.2.2.2.1 o_0.2.2.2.2.2.2.2.2.2.2.2.1 o_0.2.2.2.2.2.2.2.2.2.2.2.2 x2  r_38 hh_r_38) (vx_cwSW 2 hts gL_call_L_tryKeep rfl rfl rfl ddN_L_tryKeep ⟨(Nat.le_of_ble_eq_true rfl), (Nat.le_of_ble_eq_true rfl)⟩) (preSN hXN (hE.kept hS.2.1) (Jn_1 hP hD hS hA).1 hP hK hD hN) rfl rfl hl.1 rfl (lv_room (Nat.le_of_ble_eq_true rfl)) dL_call_206 ⟨by show 0 + 1 ≤ 3; omega, by show 6 * 0 + 6 ≤ 18; omega⟩) (fun H locs hP hD hS => ?_)
    have hP : va_P G vwCl (oW cy b_0 bk_0 (o_0.1, o_0.2.1, o_0.2.2.1, o_0.2.2.2.1, o_0.2.2.2.2.1, o_0.2.2.2.2.2.1, r_38.2.1, r_38.2.2.1, r_38.2.2.2.1, r_38.2.2.2.2, o_0.2.2.2.2.2.2.2.2.2.2.1, o_0.2.2.2.2.2.2.2.2.2.2.2.1, o_0.2.2.2.2.2.2.2.2.2.2.2.2)) H := hP
    have hD : va_D A (oW cy b_0 bk_0 (o_0.1, o_0.2.1, o_0.2.2.1, o_0.2.2.2.1, o_0.2.2.2.2.1, o_0.2.2.2.2.2.1, r_38.2.1, r_38.2.2.1, r_38.2.2.2.1, r_38.2.2.2.2, o_0.2.2.2.2.2.2.2.2.2.2.1, o_0.2.2.2.2.2.2.2.2.2.2.2.1, o_0.2.2.2.2.2.2.2.2.2.2.2.2)) := hD
    refine W.widen (k := 3) (n := 18) (by omega) (by omega) ?_
    obtain rfl := Option.some.inj hf
    exact kr_i hx hb hr hlocks rfl hP hK hD hN hS hS.2.2 dL_call_209
  have hf := in_ h_37 hf
  have th_1 : ¬ x1.toInt = 0 := fun q => h_1 (Int32.toInt_inj.mp (q.trans (by decide)))
  have th_3 : ¬ x1.toInt = 1 := fun q => h_3 (Int32.toInt_inj.mp (q.trans (by decide)))
  have th_5 : ¬ x1.toInt = 2 := fun q => h_5 (Int32.toInt_inj.mp (q.trans (by decide)))
  have th_7 : ¬ x1.toInt = 3 := fun q => h_7 (Int32.toInt_inj.mp (q.trans (by decide)))
  have th_9 : ¬ x1.toInt = 4 := fun q => h_9 (Int32.toInt_inj.mp (q.trans (by decide)))
  have th_11 : ¬ x1.toInt = 5 := fun q => h_11 (Int32.toInt_inj.mp (q.trans (by decide)))
  have th_13 : ¬ x1.toInt = 6 := fun q => h_13 (Int32.toInt_inj.mp (q.trans (by decide)))
  have th_15 : ¬ x1.toInt = 7 := fun q => h_15 (Int32.toInt_inj.mp (q.trans (by decide)))
  have th_17 : ¬ x1.toInt = 8 := fun q => h_17 (Int32.toInt_inj.mp (q.trans (by decide)))
  have th_19 : ¬ x1.toInt = 9 := fun q => h_19 (Int32.toInt_inj.mp (q.trans (by decide)))
  have th_21 : ¬ x1.toInt = 10 := fun q => h_21 (Int32.toInt_inj.mp (q.trans (by decide)))
  have th_23 : ¬ x1.toInt = 11 := fun q => h_23 (Int32.toInt_inj.mp (q.trans (by decide)))
  have th_25 : ¬ x1.toInt = 12 := fun q => h_25 (Int32.toInt_inj.mp (q.trans (by decide)))
  have th_27 : ¬ x1.toInt = 13 := fun q => h_27 (Int32.toInt_inj.mp (q.trans (by decide)))
  have th_29 : ¬ x1.toInt = 14 := fun q => h_29 (Int32.toInt_inj.mp (q.trans (by decide)))
  have th_31 : ¬ x1.toInt = 15 := fun q => h_31 (Int32.toInt_inj.mp (q.trans (by decide)))
  have th_33 : ¬ x1.toInt = 16 := fun q => h_33 (Int32.toInt_inj.mp (q.trans (by decide)))
  have th_35 : ¬ x1.toInt = 17 := fun q => h_35 (Int32.toInt_inj.mp (q.trans (by decide)))
  have th_37 : ¬ x1.toInt = 18 := fun q => h_37 (Int32.toInt_inj.mp (q.trans (by decide)))
  have hdf : (x1.toInt < 0 ∨ 18 < x1.toInt) := by omega
  refine lv_tableOut (tgt := 210) hx hb dL_call_1 hdf (by decide) ?_
  refine lv_aload_n hx hb dL_call_210 rfl (lv_at hl 0 rfl) ?_
  refine lv_iload_n hx hb dL_call_211 rfl (lv_at hl 2 rfl) ?_
  obtain ⟨r_39, hh_r_39, hf⟩ := obd_some hf
  refine kbx_i (R0 := r_39) (w1 := fun (u : Int32 × WT × PT) => oW cy b_0 bk_0 (o_0.1, o_0.2.1, u.2.1, o_0.2.2.2.1, u.2.2, o_0.2.2.2.2.2.1, o_0.2.2.2.2.2.2.1, o_0.2.2.2.2.2.2.2.1, o_0.2.2.2.2.2.2.2.2.1, o_0.2.2.2.2.2.2.2.2.2.1, o_0.2.2.2.2.2.2.2.2.2.2.1, o_0.2.2.2.2.2.2.2.2.2.2.2.1, o_0.2.2.2.2.2.2.2.2.2.2.2.2)) (V := fun (u : Int32 × WT × PT) => u.1) hS (Nat.le_of_ble_eq_true rfl) (Jn_1 hP hD hS hA) (vx_runSX (As := [.ref (b_0 0), .int x2]) (rest := []) ⟨hx, hb, hml, hown, hts⟩ (c_L_tryBack (l := l) hfl G cy (b_0 0) (b_0 1) (b_0 2) (b_0 3) (b_0 4) (b_0 5) (b_0 6) (b_0 7) (b_0 8) (b_0 9) (b_0 10) (b_0 11) (b_0 12) (b_0 13) bk_0 s.heap.size o_0.1 o_0.2.1 o_0.2.2.1 o_0.2.2.2.1 o_0.2.2.2.2.1 o_0.2.2.2.2.2.1 o_0.2.2.2.2.2.2.1 o_0.2.2.2.2.2.2.2.1 o_0.2.2.2.2.2.2.2.2.1 o_0.2.2.2.2.2.2.2.2.2.1 o_0.2.2.2.2.2.2.2.2.2.2.1 o_0.2.2.2.2.2.2.2.2.2.2.2.1 o_0.2.2.2.2.2.2.2.2.2.2.2.2 x2  r_39 hh_r_39) (vx_cwSW 2 hts gL_call_L_tryBack rfl rfl rfl ddN_L_tryBack ⟨(Nat.le_of_ble_eq_true rfl), (Nat.le_of_ble_eq_true rfl)⟩) (preSN hXN (hE.kept hS.2.1) (Jn_1 hP hD hS hA).1 hP hK hD hN) rfl rfl hl.1 rfl (lv_room (Nat.le_of_ble_eq_true rfl)) dL_call_212 ⟨by show 0 + 2 ≤ 3; omega, by show 6 * 0 + 12 ≤ 18; omega⟩) (fun H locs hP hD hS => ?_)
  have hP : va_P G vwCl (oW cy b_0 bk_0 (o_0.1, o_0.2.1, r_39.2.1, o_0.2.2.2.1, r_39.2.2, o_0.2.2.2.2.2.1, o_0.2.2.2.2.2.2.1, o_0.2.2.2.2.2.2.2.1, o_0.2.2.2.2.2.2.2.2.1, o_0.2.2.2.2.2.2.2.2.2.1, o_0.2.2.2.2.2.2.2.2.2.2.1, o_0.2.2.2.2.2.2.2.2.2.2.2.1, o_0.2.2.2.2.2.2.2.2.2.2.2.2)) H := hP
  have hD : va_D A (oW cy b_0 bk_0 (o_0.1, o_0.2.1, r_39.2.1, o_0.2.2.2.1, r_39.2.2, o_0.2.2.2.2.2.1, o_0.2.2.2.2.2.2.1, o_0.2.2.2.2.2.2.2.1, o_0.2.2.2.2.2.2.2.2.1, o_0.2.2.2.2.2.2.2.2.2.1, o_0.2.2.2.2.2.2.2.2.2.2.1, o_0.2.2.2.2.2.2.2.2.2.2.2.1, o_0.2.2.2.2.2.2.2.2.2.2.2.2)) := hD
  refine W.widen (k := 3) (n := 18) (by omega) (by omega) ?_
  obtain rfl := Option.some.inj hf
  exact kr_i hx hb hr hlocks rfl hP hK hD hN hS hS.2.2 dL_call_215
