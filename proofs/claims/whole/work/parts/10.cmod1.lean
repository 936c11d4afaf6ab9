theorem ddN_X6_bits : yX6_bits.cls ≠ "java/lang/invoke/MethodHandle" ∧ yX6_bits.cls ≠ "java/lang/invoke/VarHandle" ∧ (parseMethodDescriptor yX6_bits.desc).map (fun d => d.parameters.length) = some 1 := by decide +kernel
theorem ddV_X6_bits : yX6_bits.cls = RX6 ∧ yX6_bits.cls ≠ "java/lang/invoke/MethodHandle" ∧ yX6_bits.cls ≠ "java/lang/invoke/VarHandle" ∧ (parseMethodDescriptor yX6_bits.desc).map (fun d => d.parameters.length) = some 1 := by decide +kernel
theorem ddN_X6_cold : yX6_cold.cls ≠ "java/lang/invoke/MethodHandle" ∧ yX6_cold.cls ≠ "java/lang/invoke/VarHandle" ∧ (parseMethodDescriptor yX6_cold.desc).map (fun d => d.parameters.length) = some 2 := by decide +kernel
theorem ddV_X6_cold : yX6_cold.cls = RX6 ∧ yX6_cold.cls ≠ "java/lang/invoke/MethodHandle" ∧ yX6_cold.cls ≠ "java/lang/invoke/VarHandle" ∧ (parseMethodDescriptor yX6_cold.desc).map (fun d => d.parameters.length) = some 2 := by decide +kernel
theorem ddN_X6_grown : yX6_grown.cls ≠ "java/lang/invoke/MethodHandle" ∧ yX6_grown.cls ≠ "java/lang/invoke/VarHandle" ∧ (parseMethodDescriptor yX6_grown.desc).map (fun d => d.parameters.length) = some 3 := by decide +kernel
theorem ddV_X6_grown : yX6_grown.cls = RX6 ∧ yX6_grown.cls ≠ "java/lang/invoke/MethodHandle" ∧ yX6_grown.cls ≠ "java/lang/invoke/VarHandle" ∧ (parseMethodDescriptor yX6_grown.desc).map (fun d => d.parameters.length) = some 3 := by decide +kernel
theorem ddN_X6_has : yX6_has.cls ≠ "java/lang/invoke/MethodHandle" ∧ yX6_has.cls ≠ "java/lang/invoke/VarHandle" ∧ (parseMethodDescriptor yX6_has.desc).map (fun d => d.parameters.length) = some 2 := by decide +kernel
theorem ddV_X6_has : yX6_has.cls = RX6 ∧ yX6_has.cls ≠ "java/lang/invoke/MethodHandle" ∧ yX6_has.cls ≠ "java/lang/invoke/VarHandle" ∧ (parseMethodDescriptor yX6_has.desc).map (fun d => d.parameters.length) = some 2 := by decide +kernel
theorem ddN_X6_in : yX6_in.cls ≠ "java/lang/invoke/MethodHandle" ∧ yX6_in.cls ≠ "java/lang/invoke/VarHandle" ∧ (parseMethodDescriptor yX6_in.desc).map (fun d => d.parameters.length) = some 3 := by decide +kernel
theorem ddV_X6_in : yX6_in.cls = RX6 ∧ yX6_in.cls ≠ "java/lang/invoke/MethodHandle" ∧ yX6_in.cls ≠ "java/lang/invoke/VarHandle" ∧ (parseMethodDescriptor yX6_in.desc).map (fun d => d.parameters.length) = some 3 := by decide +kernel
theorem ddN_X6_isCell : yX6_isCell.cls ≠ "java/lang/invoke/MethodHandle" ∧ yX6_isCell.cls ≠ "java/lang/invoke/VarHandle" ∧ (parseMethodDescriptor yX6_isCell.desc).map (fun d => d.parameters.length) = some 2 := by decide +kernel
theorem ddV_X6_isCell : yX6_isCell.cls = RX6 ∧ yX6_isCell.cls ≠ "java/lang/invoke/MethodHandle" ∧ yX6_isCell.cls ≠ "java/lang/invoke/VarHandle" ∧ (parseMethodDescriptor yX6_isCell.desc).map (fun d => d.parameters.length) = some 2 := by decide +kernel
theorem ddN_X6_isDirection : yX6_isDirection.cls ≠ "java/lang/invoke/MethodHandle" ∧ yX6_isDirection.cls ≠ "java/lang/invoke/VarHandle" ∧ (parseMethodDescriptor yX6_isDirection.desc).map (fun d => d.parameters.length) = some 1 := by decide +kernel
theorem ddV_X6_isDirection : yX6_isDirection.cls = RX6 ∧ yX6_isDirection.cls ≠ "java/lang/invoke/MethodHandle" ∧ yX6_isDirection.cls ≠ "java/lang/invoke/VarHandle" ∧ (parseMethodDescriptor yX6_isDirection.desc).map (fun d => d.parameters.length) = some 1 := by decide +kernel
theorem ddN_X6_isIce : yX6_isIce.cls ≠ "java/lang/invoke/MethodHandle" ∧ yX6_isIce.cls ≠ "java/lang/invoke/VarHandle" ∧ (parseMethodDescriptor yX6_isIce.desc).map (fun d => d.parameters.length) = some 3 := by decide +kernel
theorem ddV_X6_isIce : yX6_isIce.cls = RX6 ∧ yX6_isIce.cls ≠ "java/lang/invoke/MethodHandle" ∧ yX6_isIce.cls ≠ "java/lang/invoke/VarHandle" ∧ (parseMethodDescriptor yX6_isIce.desc).map (fun d => d.parameters.length) = some 3 := by decide +kernel
theorem ddN_X6_isOnSide : yX6_isOnSide.cls ≠ "java/lang/invoke/MethodHandle" ∧ yX6_isOnSide.cls ≠ "java/lang/invoke/VarHandle" ∧ (parseMethodDescriptor yX6_isOnSide.desc).map (fun d => d.parameters.length) = some 3 := by decide +kernel
theorem ddV_X6_isOnSide : yX6_isOnSide.cls = RX6 ∧ yX6_isOnSide.cls ≠ "java/lang/invoke/MethodHandle" ∧ yX6_isOnSide.cls ≠ "java/lang/invoke/VarHandle" ∧ (parseMethodDescriptor yX6_isOnSide.desc).map (fun d => d.parameters.length) = some 3 := by decide +kernel
theorem ddN_X6_isScratched : yX6_isScratched.cls ≠ "java/lang/invoke/MethodHandle" ∧ yX6_isScratched.cls ≠ "java/lang/invoke/VarHandle" ∧ (parseMethodDescriptor yX6_isScratched.desc).map (fun d => d.parameters.length) = some 3 := by decide +kernel
theorem ddV_X6_isScratched : yX6_isScratched.cls = RX6 ∧ yX6_isScratched.cls ≠ "java/lang/invoke/MethodHandle" ∧ yX6_isScratched.cls ≠ "java/lang/invoke/VarHandle" ∧ (parseMethodDescriptor yX6_isScratched.desc).map (fun d => d.parameters.length) = some 3 := by decide +kernel
theorem ddN_X6_kindOf : yX6_kindOf.cls ≠ "java/lang/invoke/MethodHandle" ∧ yX6_kindOf.cls ≠ "java/lang/invoke/VarHandle" ∧ (parseMethodDescriptor yX6_kindOf.desc).map (fun d => d.parameters.length) = some 1 := by decide +kernel
theorem ddV_X6_kindOf : yX6_kindOf.cls = RX6 ∧ yX6_kindOf.cls ≠ "java/lang/invoke/MethodHandle" ∧ yX6_kindOf.cls ≠ "java/lang/invoke/VarHandle" ∧ (parseMethodDescriptor yX6_kindOf.desc).map (fun d => d.parameters.length) = some 1 := by decide +kernel
theorem ddN_X6_many : yX6_many.cls ≠ "java/lang/invoke/MethodHandle" ∧ yX6_many.cls ≠ "java/lang/invoke/VarHandle" ∧ (parseMethodDescriptor yX6_many.desc).map (fun d => d.parameters.length) = some 1 := by decide +kernel
theorem ddV_X6_many : yX6_many.cls = RX6 ∧ yX6_many.cls ≠ "java/lang/invoke/MethodHandle" ∧ yX6_many.cls ≠ "java/lang/invoke/VarHandle" ∧ (parseMethodDescriptor yX6_many.desc).map (fun d => d.parameters.length) = some 1 := by decide +kernel
theorem ddN_X6_neighbourOf : yX6_neighbourOf.cls ≠ "java/lang/invoke/MethodHandle" ∧ yX6_neighbourOf.cls ≠ "java/lang/invoke/VarHandle" ∧ (parseMethodDescriptor yX6_neighbourOf.desc).map (fun d => d.parameters.length) = some 3 := by decide +kernel
theorem ddV_X6_neighbourOf : yX6_neighbourOf.cls = RX6 ∧ yX6_neighbourOf.cls ≠ "java/lang/invoke/MethodHandle" ∧ yX6_neighbourOf.cls ≠ "java/lang/invoke/VarHandle" ∧ (parseMethodDescriptor yX6_neighbourOf.desc).map (fun d => d.parameters.length) = some 3 := by decide +kernel
theorem ddN_X6_next : yX6_next.cls ≠ "java/lang/invoke/MethodHandle" ∧ yX6_next.cls ≠ "java/lang/invoke/VarHandle" ∧ (parseMethodDescriptor yX6_next.desc).map (fun d => d.parameters.length) = some 3 := by decide +kernel
theorem ddV_X6_next : yX6_next.cls = RX6 ∧ yX6_next.cls ≠ "java/lang/invoke/MethodHandle" ∧ yX6_next.cls ≠ "java/lang/invoke/VarHandle" ∧ (parseMethodDescriptor yX6_next.desc).map (fun d => d.parameters.length) = some 3 := by decide +kernel
theorem ddN_X6_nightOn : yX6_nightOn.cls ≠ "java/lang/invoke/MethodHandle" ∧ yX6_nightOn.cls ≠ "java/lang/invoke/VarHandle" ∧ (parseMethodDescriptor yX6_nightOn.desc).map (fun d => d.parameters.length) = some 1 := by decide +kernel
theorem ddV_X6_nightOn : yX6_nightOn.cls = RX6 ∧ yX6_nightOn.cls ≠ "java/lang/invoke/MethodHandle" ∧ yX6_nightOn.cls ≠ "java/lang/invoke/VarHandle" ∧ (parseMethodDescriptor yX6_nightOn.desc).map (fun d => d.parameters.length) = some 1 := by decide +kernel
theorem ddN_X6_ownerOf : yX6_ownerOf.cls ≠ "java/lang/invoke/MethodHandle" ∧ yX6_ownerOf.cls ≠ "java/lang/invoke/VarHandle" ∧ (parseMethodDescriptor yX6_ownerOf.desc).map (fun d => d.parameters.length) = some 3 := by decide +kernel
theorem ddV_X6_ownerOf : yX6_ownerOf.cls = RX6 ∧ yX6_ownerOf.cls ≠ "java/lang/invoke/MethodHandle" ∧ yX6_ownerOf.cls ≠ "java/lang/invoke/VarHandle" ∧ (parseMethodDescriptor yX6_ownerOf.desc).map (fun d => d.parameters.length) = some 3 := by decide +kernel
theorem ddN_X6_patchOf : yX6_patchOf.cls ≠ "java/lang/invoke/MethodHandle" ∧ yX6_patchOf.cls ≠ "java/lang/invoke/VarHandle" ∧ (parseMethodDescriptor yX6_patchOf.desc).map (fun d => d.parameters.length) = some 2 := by decide +kernel
theorem ddV_X6_patchOf : yX6_patchOf.cls = RX6 ∧ yX6_patchOf.cls ≠ "java/lang/invoke/MethodHandle" ∧ yX6_patchOf.cls ≠ "java/lang/invoke/VarHandle" ∧ (parseMethodDescriptor yX6_patchOf.desc).map (fun d => d.parameters.length) = some 2 := by decide +kernel
theorem iw_X6_refused_X6 : ∀ w ∈ u_ws RX6 TX6 15, w ∈ wsX6_refused := by decide +kernel
theorem iw_X6_thrown_X6 : ∀ w ∈ u_ws RX6 TX6 15, w ∈ wsX6_thrown := by decide +kernel
theorem tn_0 : (0 : Int32).toNatClampNeg = 0 := by decide +kernel
theorem tn_1 : (1 : Int32).toNatClampNeg = 1 := by decide +kernel
theorem tn_2 : (2 : Int32).toNatClampNeg = 2 := by decide +kernel
theorem tn_3 : (3 : Int32).toNatClampNeg = 3 := by decide +kernel
theorem tn_8 : (8 : Int32).toNatClampNeg = 8 := by decide +kernel
theorem vn_0_11 : vp_in 0 11 := vin (by decide +kernel)
theorem vn_1_11 : vp_in 1 11 := vin (by decide +kernel)
theorem vn_2_11 : vp_in 2 11 := vin (by decide +kernel)
theorem vn_3_11 : vp_in 3 11 := vin (by decide +kernel)
theorem vn_8_11 : vp_in 8 11 := vin (by decide +kernel)
set_option maxHeartbeats 4000000 in
set_option maxRecDepth 100000 in
theorem c_X6_thrown {l : Launch} (G : va_G) (cy : Nat → ClassId) (a_0 : Nat) (a_text : Nat) (a_now : Nat) (a_trial : Nat) (a_diary : Nat) (a_kept : Nat) (a_isKept : Nat) (a_seen : Nat) (a_equations : Nat) (a_wanted : Nat) (sz : Nat) (s_0 : MT)  (R : Int32) (hf : f_X6_thrown s_0 = R) : Met l yX6_thrown wsX6_thrown ({ frames := 0, cells := 0, slots := 0, locals := 0 } : Room) (va_Pc [.ref a_0] (pcW G cy [(a_0, mv a_text a_now a_trial a_diary a_kept a_isKept a_seen a_equations a_wanted s_0)] sz)) (va_Qi (fun r (_ : Unit) => r = R) (fun _ t => Wd G cy (va_A [(a_0, mv a_text a_now a_trial a_diary a_kept a_isKept a_seen a_equations a_wanted s_0)] sz) [(a_0, mv a_text a_now a_trial a_diary a_kept a_isKept a_seen a_equations a_wanted s_0)] t) (va_A [(a_0, mv a_text a_now a_trial a_diary a_kept a_isKept a_seen a_equations a_wanted s_0)] sz)) 0 0 (va_A [(a_0, mv a_text a_now a_trial a_diary a_kept a_isKept a_seen a_equations a_wanted s_0)] sz) := by
  refine Met.ofW (cc := cX6_thrown) (maxL := 1) (ret := (some .int)) (by decide) rfl ?_
  intro p e s m args below meth c s₁ B hml hv
  obtain ⟨rfl, hsz, hP, hK, hD0, hN⟩ := hv
  have hx := B.exec
  have hb := B.bytes
  have hr := B.returns
  have hts := atoms_spec (ws := wsX6_thrown) B.pre
  have hown : s.vm.findClass RX6 = some m.cls := findClass_of_methodNamed B.named
  have hlocks := B.notSynchronized
  subst hsz
  have hD := hD0.self (sz := s.heap.size)
  generalize hAe : va_A [(a_0, mv a_text a_now a_trial a_diary a_kept a_isKept a_seen a_equations a_wanted s_0)] s.heap.size = A at hD ⊢
  have hA : ∀ q : Nat, s.heap.size ≤ q → A q := fun q h => by rw [← hAe]; exact Or.inr h
  have hS : va_S A s.heap s.heap [] := va_S.rf
  have hP : va_P G vwCl [(a_0, mv a_text a_now a_trial a_diary a_kept a_isKept a_seen a_equations a_wanted s_0)] s.heap := hP
  have hl := lv_entry [.ref a_0] (n := 1) (Nat.le_of_ble_eq_true rfl)
  rw [lg_entry_eq]
  generalize (lg_sl [.ref a_0] ++ List.replicate (1 - (lg_sl [.ref a_0]).length) Slot.unset).toArray = ls at hl ⊢
  have hl : lv_has ls 1 [(0, .ref a_0)] := hl
  unfold f_X6_thrown at hf
  refine lv_aload_n hx hb dX6_thrown_0 rfl (lv_at hl 0 rfl) ?_
  refine va_get (D := G) (ci := 6) (v := .int (m_refusal s_0)) (C := RX6) (T := TX6) (N := 15) hx hb hts iw_X6_thrown_X6 hown hK hP 0 rfl rfl 0 (by decide) (hts (.fieldLink RX6 43 "PaneFrostModel" "refusal" "I") (by decide +kernel)) (fun _ h9 => h9) rfl dX6_thrown_1 ?_
  subst hf
  exact kr_i hx hb hr hlocks rfl hP hK hD hN hS hS.2.2 dX6_thrown_4
set_option maxHeartbeats 4000000 in
set_option maxRecDepth 100000 in
theorem c_X6_refused {l : Launch} (G : va_G) (cy : Nat → ClassId) (a_0 : Nat) (a_text : Nat) (a_now : Nat) (a_trial : Nat) (a_diary : Nat) (a_kept : Nat) (a_isKept : Nat) (a_seen : Nat) (a_equations : Nat) (a_wanted : Nat) (sz : Nat) (s_0 : MT) (x1 : Int32)  (R : Bool × MT) (hf : f_X6_refused s_0 x1 = R) : Met l yX6_refused wsX6_refused ({ frames := 0, cells := 0, slots := 0, locals := 0 } : Room) (va_Pc [.ref a_0, .int x1] (pcW G cy [(a_0, mv a_text a_now a_trial a_diary a_kept a_isKept a_seen a_equations a_wanted s_0)] sz)) (va_Qi (fun r (_ : Unit) => r = bI R.1) (fun _ t => Wd G cy (va_A [(a_0, mv a_text a_now a_trial a_diary a_kept a_isKept a_seen a_equations a_wanted s_0)] sz) [(a_0, mv a_text a_now a_trial a_diary a_kept a_isKept a_seen a_equations a_wanted R.2)] t) (va_A [(a_0, mv a_text a_now a_trial a_diary a_kept a_isKept a_seen a_equations a_wanted s_0)] sz)) 0 0 (va_A [(a_0, mv a_text a_now a_trial a_diary a_kept a_isKept a_seen a_equations a_wanted s_0)] sz) := by
  refine Met.ofW (cc := cX6_refused) (maxL := 2) (ret := (some .boolean)) (by decide) rfl ?_
  intro p e s m args below meth c s₁ B hml hv
  obtain ⟨rfl, hsz, hP, hK, hD0, hN⟩ := hv
  have hx := B.exec
  have hb := B.bytes
  have hr := B.returns
  have hts := atoms_spec (ws := wsX6_refused) B.pre
  have hown : s.vm.findClass RX6 = some m.cls := findClass_of_methodNamed B.named
  have hlocks := B.notSynchronized
  subst hsz
  have hD := hD0.self (sz := s.heap.size)
  generalize hAe : va_A [(a_0, mv a_text a_now a_trial a_diary a_kept a_isKept a_seen a_equations a_wanted s_0)] s.heap.size = A at hD ⊢
  have hA : ∀ q : Nat, s.heap.size ≤ q → A q := fun q h => by rw [← hAe]; exact Or.inr h
  have hS : va_S A s.heap s.heap [] := va_S.rf
  have hP : va_P G vwCl [(a_0, mv a_text a_now a_trial a_diary a_kept a_isKept a_seen a_equations a_wanted s_0)] s.heap := hP
  have hl := lv_entry [.ref a_0, .int x1] (n := 2) (Nat.le_of_ble_eq_true rfl)
  rw [lg_entry_eq]
  generalize (lg_sl [.ref a_0, .int x1] ++ List.replicate (2 - (lg_sl [.ref a_0, .int x1]).length) Slot.unset).toArray = ls at hl ⊢
  have hl : lv_has ls 2 [(0, .ref a_0), (1, .int x1)] := hl
  unfold f_X6_refused at hf
  refine lv_aload_n hx hb dX6_refused_0 rfl (lv_at hl 0 rfl) ?_
  refine lv_iload_n hx hb dX6_refused_1 rfl (lv_at hl 1 rfl) ?_
  refine va_put (D := G) (ci := 6) (v := .int x1) (ty := .int) (C := RX6) (T := TX6) (N := 15) hx hb hts iw_X6_refused_X6 tyX6 tyX6_ok nmX6 hown hK hP hD hS 0 rfl rfl 0 (by decide) (hts (.fieldLink RX6 43 "PaneFrostModel" "refusal" "I") (by decide +kernel)) (fun _ h9 => h9) rfl (by decide +kernel) rfl rfl (Nat.le_of_ble_eq_true rfl) dX6_refused_2 (fun H locs hP hD hS => ?_)
  have hP : va_P G vwCl [(a_0, mv a_text a_now a_trial a_diary a_kept a_isKept a_seen a_equations a_wanted (x1, m_size s_0, m_acts s_0, m_rank s_0, m_spot s_0, m_out s_0))] H := hP
  have hD : va_D A [(a_0, mv a_text a_now a_trial a_diary a_kept a_isKept a_seen a_equations a_wanted (x1, m_size s_0, m_acts s_0, m_rank s_0, m_spot s_0, m_out s_0))] := hD
  refine lv_iload_n hx hb dX6_refused_5 rfl (lv_at hl 1 rfl) ?_
  refine lv_if_le (tgt := 13) hx hb dX6_refused_6 (by decide) (fun h_1 => ?_) (fun h_1 => ?_)
  · have hf := ip_ h_1 hf
    refine lv_iconst (v := 0) hx hb dX6_refused_13 (by decide) ?_
    subst hf
    exact kr_z (V := bI false) hx hb hr hlocks (bI_nar _) rfl hP hK hD hN hS hS.2.2 dX6_refused_14
  · have hf := in_ h_1 hf
    refine lv_iconst (v := 1) hx hb dX6_refused_9 (by decide) ?_
    refine lv_goto (tgt := 14) hx hb dX6_refused_10 (by decide) ?_
    subst hf
    exact kr_z (V := bI true) hx hb hr hlocks (bI_nar _) rfl hP hK hD hN hS hS.2.2 dX6_refused_14
set_option maxHeartbeats 4000000 in
set_option maxRecDepth 100000 in
theorem c_X6_in {l : Launch} (G : va_G) (cy : Nat → ClassId)  (sz : Nat) (x0 : Int64) (x2 : Int64) (x4 : Int64)  (R : Bool) (hf : f_X6_in x0 x2 x4 = R) : Met l yX6_in wsX6_in ({ frames := 0, cells := 0, slots := 0, locals := 0 } : Room) (va_Pc [.long x0, .long x2, .long x4] (pcW G cy [] sz)) (va_Qi (fun r (_ : Unit) => r = bI R) (fun _ t => Wd G cy (va_A [] sz) [] t) (va_A [] sz)) 0 0 (va_A [] sz) := by
  refine Met.ofW (cc := cX6_in) (maxL := 6) (ret := (some .boolean)) (by decide) rfl ?_
  intro p e s m args below meth c s₁ B hml hv
  obtain ⟨rfl, hsz, hP, hK, hD0, hN⟩ := hv
  have hx := B.exec
  have hb := B.bytes
  have hr := B.returns
  have hts := atoms_spec (ws := wsX6_in) B.pre
  have hown : s.vm.findClass RX6 = some m.cls := findClass_of_methodNamed B.named
  have hlocks := B.notSynchronized
  subst hsz
  have hD := hD0.self (sz := s.heap.size)
  generalize hAe : va_A [] s.heap.size = A at hD ⊢
  have hA : ∀ q : Nat, s.heap.size ≤ q → A q := fun q h => by rw [← hAe]; exact Or.inr h
  have hS : va_S A s.heap s.heap [] := va_S.rf
  have hP : va_P G vwCl [] s.heap := hP
  have hl := lv_entry [.long x0, .long x2, .long x4] (n := 6) (Nat.le_of_ble_eq_true rfl)
  rw [lg_entry_eq]
  generalize (lg_sl [.long x0, .long x2, .long x4] ++ List.replicate (6 - (lg_sl [.long x0, .long x2, .long x4]).length) Slot.unset).toArray = ls at hl ⊢
  have hl : lv_has ls 6 [(0, .long x0), (2, .long x2), (4, .long x4)] := hl
  unfold f_X6_in at hf
  refine lv_lload_n hx hb dX6_in_0 rfl (lv_at hl 0 rfl) ?_
  refine lv_lload_n hx hb dX6_in_1 rfl (lv_at hl 1 rfl) ?_
  refine W.lcmp hx hb dX6_in_2 ?_
  refine lv_if_lt (tgt := 17) hx hb dX6_in_3 (by decide) (fun h_1 => ?_) (fun h_1 => ?_)
  · have hf := ip_ (lgc_lt.mp h_1) hf
    refine lv_iconst (v := 0) hx hb dX6_in_17 (by decide) ?_
    subst hf
    exact kr_z (V := bI false) hx hb hr hlocks (bI_nar _) rfl hP hK hD hN hS hS.2.2 dX6_in_18
  · have hf := in_ (fun q => h_1 (lgc_lt.mpr q)) hf
    refine lv_lload_n hx hb dX6_in_6 rfl (lv_at hl 0 rfl) ?_
    refine lv_lload hx hb dX6_in_7 (lv_at hl 2 rfl) ?_
    refine W.lcmp hx hb dX6_in_9 ?_
    refine lv_if_gt (tgt := 17) hx hb dX6_in_10 (by decide) (fun h_2 => ?_) (fun h_2 => ?_)
    · have hf := ip_ (lgc_gt.mp h_2) hf
      refine lv_iconst (v := 0) hx hb dX6_in_17 (by decide) ?_
      subst hf
      exact kr_z (V := bI false) hx hb hr hlocks (bI_nar _) rfl hP hK hD hN hS hS.2.2 dX6_in_18
    · have hf := in_ (fun q => h_2 (lgc_gt.mpr q)) hf
      refine lv_iconst (v := 1) hx hb dX6_in_13 (by decide) ?_
      refine lv_goto (tgt := 18) hx hb dX6_in_14 (by decide) ?_
      subst hf
      exact kr_z (V := bI true) hx hb hr hlocks (bI_nar _) rfl hP hK hD hN hS hS.2.2 dX6_in_18
set_option maxHeartbeats 4000000 in
set_option maxRecDepth 100000 in
theorem c_X6_copyState {l : Launch} (G : va_G) (cy : Nat → ClassId) (a_r0 : Nat) (a_r2 : Nat) (sz : Nat) (g_r0 : Nat → Int64) (g_r2 : Nat → Int64) (n_r0 : Nat) (n_r2 : Nat) (x1 : Int32) (x3 : Int32) (n : Nat) (R : (Nat → Int64)) (hf : f_X6_copyState n g_r0 g_r2 n_r0 n_r2 x1 x3 = some R) : Met l yX6_copyState wsX6_copyState ({ frames := 0, cells := 0, slots := 0, locals := 0 } : Room) (va_Pc [.ref a_r0, .int x1, .ref a_r2, .int x3] (pcW G cy [(a_r0, av_J cy n_r0 g_r0), (a_r2, av_J cy n_r2 g_r2)] sz)) (va_Qv (fun _ : Unit => True) (fun _ t => Wd G cy (va_A [(a_r0, av_J cy n_r0 g_r0), (a_r2, av_J cy n_r2 g_r2)] sz) [(a_r0, av_J cy n_r0 g_r0), (a_r2, av_J cy n_r2 R)] t) (va_A [(a_r0, av_J cy n_r0 g_r0), (a_r2, av_J cy n_r2 g_r2)] sz)) 0 0 (va_A [(a_r0, av_J cy n_r0 g_r0), (a_r2, av_J cy n_r2 g_r2)] sz) := by
  refine Met.ofW (cc := cX6_copyState) (maxL := 5) (ret := none) (by decide) rfl ?_
  intro p e s m args below meth c s₁ B hml hv
  obtain ⟨rfl, hsz, hP, hK, hD0, hN⟩ := hv
  have hx := B.exec
  have hb := B.bytes
  have hr := B.returns
  have hts := atoms_spec (ws := wsX6_copyState) B.pre
  have hown : s.vm.findClass RX6 = some m.cls := findClass_of_methodNamed B.named
  have hlocks := B.notSynchronized
  subst hsz
  have hD := hD0.self (sz := s.heap.size)
  generalize hAe : va_A [(a_r0, av_J cy n_r0 g_r0), (a_r2, av_J cy n_r2 g_r2)] s.heap.size = A at hD ⊢
  have hA : ∀ q : Nat, s.heap.size ≤ q → A q := fun q h => by rw [← hAe]; exact Or.inr h
  have hS : va_S A s.heap s.heap [] := va_S.rf
  have hP : va_P G vwCl [(a_r0, av_J cy n_r0 g_r0), (a_r2, av_J cy n_r2 g_r2)] s.heap := hP
  have bl_3 : ∀ (y1 : Int32), ∀ (y3 : Int32), ∀ (k : Nat), ∀ (c_g_r2 : Nat → Int64) (y4 : Int32) (H : Heap) (locs : List Loc), f_X6_copyState_b3 n g_r0 n_r0 n_r2 y1 y3 k c_g_r2 y4 = some R → va_P G vwCl [(a_r0, av_J cy n_r0 g_r0), (a_r2, av_J cy n_r2 c_g_r2)] H → va_D A [(a_r0, av_J cy n_r0 g_r0), (a_r2, av_J cy n_r2 c_g_r2)] → va_S A s.heap H locs → ∀ (ls : Array Slot), lv_has ls 5 [(0, .ref a_r0), (1, .int y1), (2, .ref a_r2), (3, .int y3), (4, .int y4)] → W p l e ({ frames := 0, cells := 0, slots := 0, locals := 0 } : Room) s m [.ref a_r0, .int x1, .ref a_r2, .int x3].toArray below meth c H locs 0 0 (MQ below (va_Qv (fun _ : Unit => True) (fun _ t => Wd G cy A [(a_r0, av_J cy n_r0 g_r0), (a_r2, av_J cy n_r2 R)] t) A) [.ref a_r0, .int x1, .ref a_r2, .int x3].toArray s 0 0 A) (F0 m 3 ls []) := by
    intro y1
    intro y3
    intro k
    induction k with
    | zero =>
      intro c_g_r2 y4 H locs hf; cases hf
    | succ k ih =>
      intro c_g_r2 y4 H locs hf hP hD hS ls hl
      have hf := (f_X6_copyState_b3_s n g_r0 n_r0 n_r2 y1 y3 k c_g_r2 y4).symm.trans hf
      refine lv_iload hx hb dX6_copyState_3 (lv_at hl 4 rfl) ?_
      refine lv_bipush (v := 11) hx hb dX6_copyState_5 (by decide) ?_
      refine lv_icmp_ge (tgt := 28) hx hb dX6_copyState_7 (by decide) (fun h_1 => ?_) (fun h_1 => ?_)
      · have hf := ip_ h_1 hf
        obtain rfl := Option.some.inj hf
        exact kr_v hx hb hr hlocks hP hK hD hN hS hS.2.2 dX6_copyState_28
      · have hf := in_ h_1 hf
        refine lv_aload_n hx hb dX6_copyState_10 rfl (lv_at hl 2 rfl) ?_
        refine lv_iload_n hx hb dX6_copyState_11 rfl (lv_at hl 3 rfl) ?_
        refine lv_iload hx hb dX6_copyState_12 (lv_at hl 4 rfl) ?_
        refine lv_iadd hx hb dX6_copyState_14 ?_
        refine lv_aload_n hx hb dX6_copyState_15 rfl (lv_at hl 0 rfl) ?_
        refine lv_iload_n hx hb dX6_copyState_16 rfl (lv_at hl 1 rfl) ?_
        refine lv_iload hx hb dX6_copyState_17 (lv_at hl 4 rfl) ?_
        refine lv_iadd hx hb dX6_copyState_19 ?_
        by_cases q_2 : (y1 + y4) < 0 ∨ n_r0 ≤ (y1 + y4).toNatClampNeg
        · have hf := ip_ q_2 hf; cases hf
        have hf := in_ q_2 hf
        refine vz_lald rfl hx hb hK hP 0 2 rfl rfl (vin q_2) dX6_copyState_20 ?_
        by_cases q_3 : (y3 + y4) < 0 ∨ n_r2 ≤ (y3 + y4).toNatClampNeg
        · have hf := ip_ q_3 hf; cases hf
        have hf := in_ q_3 hf
        refine vz_last rfl hx hb hK hP hD hS 1 2 rfl rfl (vin q_3) dX6_copyState_21 (fun H locs hP hD hS => ?_)
        have hP : va_P G vwCl [(a_r0, av_J cy n_r0 g_r0), (a_r2, av_J cy n_r2 (vp_updL c_g_r2 (y3 + y4).toNatClampNeg (g_r0 (y1 + y4).toNatClampNeg)))] H := hP
        have hD : va_D A [(a_r0, av_J cy n_r0 g_r0), (a_r2, av_J cy n_r2 (vp_updL c_g_r2 (y3 + y4).toNatClampNeg (g_r0 (y1 + y4).toNatClampNeg)))] := hD
        refine lv_iinc (v := (y4 + 1)) (lv' := [(4, .int (y4 + 1)), (0, .ref a_r0), (1, .int y1), (2, .ref a_r2), (3, .int y3)]) hx hb dX6_copyState_22 hl (k := 4) rfl rfl (by decide) rfl (fun ls hl => ?_)
        refine lv_goto (tgt := 3) hx hb dX6_copyState_25 (by decide) ?_
        exact ih (vp_updL c_g_r2 (y3 + y4).toNatClampNeg (g_r0 (y1 + y4).toNatClampNeg)) (y4 + 1) _ _ hf hP hD hS ls (lv_sub hl [1, 2, 3, 4, 0] rfl)
  have hl := lv_entry [.ref a_r0, .int x1, .ref a_r2, .int x3] (n := 5) (Nat.le_of_ble_eq_true rfl)
  rw [lg_entry_eq]
  generalize (lg_sl [.ref a_r0, .int x1, .ref a_r2, .int x3] ++ List.replicate (5 - (lg_sl [.ref a_r0, .int x1, .ref a_r2, .int x3]).length) Slot.unset).toArray = ls at hl ⊢
  have hl : lv_has ls 5 [(0, .ref a_r0), (1, .int x1), (2, .ref a_r2), (3, .int x3)] := hl
  unfold f_X6_copyState at hf
  refine lv_iconst (v := 0) hx hb dX6_copyState_0 (by decide) ?_
  refine lv_istore (lv' := [(4, .int 0), (0, .ref a_r0), (1, .int x1), (2, .ref a_r2), (3, .int x3)]) hx hb dX6_copyState_1 hl (by decide) rfl (fun ls hl => ?_)
  exact bl_3 x1 x3 n g_r2 0 _ _ hf hP hD hS ls (lv_sub hl [1, 2, 3, 4, 0] rfl)
set_option maxHeartbeats 4000000 in
set_option maxRecDepth 100000 in
theorem c_X6_clear {l : Launch} (G : va_G) (cy : Nat → ClassId) (a_r0 : Nat) (sz : Nat) (g_r0 : Nat → Int64) (x1 : Int32) (x2 : Int32) (n : Nat) (R : (Nat → Int64)) (hf : f_X6_clear n g_r0 x1 x2 = some R) : Met l yX6_clear wsX6_clear ({ frames := 0, cells := 0, slots := 0, locals := 0 } : Room) (va_Pc [.ref a_r0, .int x1, .int x2] (pcW G cy [(a_r0, av_J cy 11 g_r0)] sz)) (va_Qv (fun _ : Unit => True) (fun _ t => Wd G cy (va_A [(a_r0, av_J cy 11 g_r0)] sz) [(a_r0, av_J cy 11 R)] t) (va_A [(a_r0, av_J cy 11 g_r0)] sz)) 0 0 (va_A [(a_r0, av_J cy 11 g_r0)] sz) := by
  refine Met.ofW (cc := cX6_clear) (maxL := 4) (ret := none) (by decide) rfl ?_
  intro p e s m args below meth c s₁ B hml hv
  obtain ⟨rfl, hsz, hP, hK, hD0, hN⟩ := hv
  have hx := B.exec
  have hb := B.bytes
  have hr := B.returns
  have hts := atoms_spec (ws := wsX6_clear) B.pre
  have hown : s.vm.findClass RX6 = some m.cls := findClass_of_methodNamed B.named
  have hlocks := B.notSynchronized
  subst hsz
  have hD := hD0.self (sz := s.heap.size)
  generalize hAe : va_A [(a_r0, av_J cy 11 g_r0)] s.heap.size = A at hD ⊢
  have hA : ∀ q : Nat, s.heap.size ≤ q → A q := fun q h => by rw [← hAe]; exact Or.inr h
  have hS : va_S A s.heap s.heap [] := va_S.rf
  have hP : va_P G vwCl [(a_r0, av_J cy 11 g_r0)] s.heap := hP
  have bl_2 : ∀ (y1 : Int32), ∀ (y2 : Int32), ∀ (k : Nat), ∀ (c_g_r0 : Nat → Int64) (y3 : Int32) (H : Heap) (locs : List Loc), f_X6_clear_b2 n y1 y2 k c_g_r0 y3 = some R → va_P G vwCl [(a_r0, av_J cy 11 c_g_r0)] H → va_D A [(a_r0, av_J cy 11 c_g_r0)] → va_S A s.heap H locs → ∀ (ls : Array Slot), lv_has ls 4 [(0, .ref a_r0), (1, .int y1), (2, .int y2), (3, .int y3)] → W p l e ({ frames := 0, cells := 0, slots := 0, locals := 0 } : Room) s m [.ref a_r0, .int x1, .int x2].toArray below meth c H locs 0 0 (MQ below (va_Qv (fun _ : Unit => True) (fun _ t => Wd G cy A [(a_r0, av_J cy 11 R)] t) A) [.ref a_r0, .int x1, .int x2].toArray s 0 0 A) (F0 m 2 ls []) := by
    intro y1
    intro y2
    intro k
    induction k with
    | zero =>
      intro c_g_r0 y3 H locs hf; cases hf
    | succ k ih =>
      intro c_g_r0 y3 H locs hf hP hD hS ls hl
      have hf := (f_X6_clear_b2_s n y1 y2 k c_g_r0 y3).symm.trans hf
      refine lv_iload_n hx hb dX6_clear_2 rfl (lv_at hl 3 rfl) ?_
      refine lv_bipush (v := 11) hx hb dX6_clear_3 (by decide) ?_
      refine lv_icmp_ge (tgt := 18) hx hb dX6_clear_5 (by decide) (fun h_1 => ?_) (fun h_1 => ?_)
      · have hf := ip_ h_1 hf
        refine lv_aload_n hx hb dX6_clear_18 rfl (lv_at hl 0 rfl) ?_
        refine lv_iconst (v := 0) hx hb dX6_clear_19 (by decide) ?_
        refine lv_iload_n hx hb dX6_clear_20 rfl (lv_at hl 1 rfl) ?_
        refine lv_i2l (v := y1.toInt64) hx hb dX6_clear_21 rfl ?_
        refine vz_last tn_0 hx hb hK hP hD hS 0 2 rfl rfl vn_0_11 dX6_clear_22 (fun H locs hP hD hS => ?_)
        have hP : va_P G vwCl [(a_r0, av_J cy 11 (vp_updL c_g_r0 0 y1.toInt64))] H := hP
        have hD : va_D A [(a_r0, av_J cy 11 (vp_updL c_g_r0 0 y1.toInt64))] := hD
        refine lv_aload_n hx hb dX6_clear_23 rfl (lv_at hl 0 rfl) ?_
        refine lv_iconst (v := 1) hx hb dX6_clear_24 (by decide) ?_
        refine lv_iload_n hx hb dX6_clear_25 rfl (lv_at hl 2 rfl) ?_
        refine lv_i2l (v := y2.toInt64) hx hb dX6_clear_26 rfl ?_
        refine vz_last tn_1 hx hb hK hP hD hS 0 2 rfl rfl vn_1_11 dX6_clear_27 (fun H locs hP hD hS => ?_)
        have hP : va_P G vwCl [(a_r0, av_J cy 11 (vp_updL (vp_updL c_g_r0 0 y1.toInt64) 1 y2.toInt64))] H := hP
        have hD : va_D A [(a_r0, av_J cy 11 (vp_updL (vp_updL c_g_r0 0 y1.toInt64) 1 y2.toInt64))] := hD
        obtain rfl := Option.some.inj hf
        exact kr_v hx hb hr hlocks hP hK hD hN hS hS.2.2 dX6_clear_28
      · have hf := in_ h_1 hf
        refine lv_aload_n hx hb dX6_clear_8 rfl (lv_at hl 0 rfl) ?_
        refine lv_iload_n hx hb dX6_clear_9 rfl (lv_at hl 3 rfl) ?_
        refine lv_lconst (v := 0) hx hb dX6_clear_10 rfl ?_
        by_cases q_2 : y3 < 0 ∨ 11 ≤ y3.toNatClampNeg
        · have hf := ip_ q_2 hf; cases hf
        have hf := in_ q_2 hf
        refine vz_last rfl hx hb hK hP hD hS 0 2 rfl rfl (vin q_2) dX6_clear_11 (fun H locs hP hD hS => ?_)
        have hP : va_P G vwCl [(a_r0, av_J cy 11 (vp_updL c_g_r0 y3.toNatClampNeg 0))] H := hP
        have hD : va_D A [(a_r0, av_J cy 11 (vp_updL c_g_r0 y3.toNatClampNeg 0))] := hD
        refine lv_iinc (v := (y3 + 1)) (lv' := [(3, .int (y3 + 1)), (0, .ref a_r0), (1, .int y1), (2, .int y2)]) hx hb dX6_clear_12 hl (k := 3) rfl rfl (by decide) rfl (fun ls hl => ?_)
        refine lv_goto (tgt := 2) hx hb dX6_clear_15 (by decide) ?_
        exact ih (vp_updL c_g_r0 y3.toNatClampNeg 0) (y3 + 1) _ _ hf hP hD hS ls (lv_sub hl [1, 2, 3, 0] rfl)
  have hl := lv_entry [.ref a_r0, .int x1, .int x2] (n := 4) (Nat.le_of_ble_eq_true rfl)
  rw [lg_entry_eq]
  generalize (lg_sl [.ref a_r0, .int x1, .int x2] ++ List.replicate (4 - (lg_sl [.ref a_r0, .int x1, .int x2]).length) Slot.unset).toArray = ls at hl ⊢
  have hl : lv_has ls 4 [(0, .ref a_r0), (1, .int x1), (2, .int x2)] := hl
  unfold f_X6_clear at hf
  refine lv_iconst (v := 0) hx hb dX6_clear_0 (by decide) ?_
  refine lv_istore_n (lv' := [(3, .int 0), (0, .ref a_r0), (1, .int x1), (2, .int x2)]) hx hb dX6_clear_1 rfl hl (by decide) rfl (fun ls hl => ?_)
  exact bl_2 x1 x2 n g_r0 0 _ _ hf hP hD hS ls (lv_sub hl [1, 2, 3, 0] rfl)
set_option maxHeartbeats 4000000 in
set_option maxRecDepth 100000 in
theorem c_X6_many {l : Launch} (G : va_G) (cy : Nat → ClassId) (a_r0 : Nat) (sz : Nat) (g_r0 : Nat → Int64)  (R : Int32) (hf : f_X6_many g_r0 = R) : Met l yX6_many wsX6_many ({ frames := 0, cells := 0, slots := 0, locals := 0 } : Room) (va_Pc [.ref a_r0] (pcW G cy [(a_r0, av_J cy 11 g_r0)] sz)) (va_Qi (fun r (_ : Unit) => r = R) (fun _ t => Wd G cy (va_A [(a_r0, av_J cy 11 g_r0)] sz) [(a_r0, av_J cy 11 g_r0)] t) (va_A [(a_r0, av_J cy 11 g_r0)] sz)) 0 0 (va_A [(a_r0, av_J cy 11 g_r0)] sz) := by
  refine Met.ofW (cc := cX6_many) (maxL := 1) (ret := (some .int)) (by decide) rfl ?_
  intro p e s m args below meth c s₁ B hml hv
  obtain ⟨rfl, hsz, hP, hK, hD0, hN⟩ := hv
  have hx := B.exec
  have hb := B.bytes
  have hr := B.returns
  have hts := atoms_spec (ws := wsX6_many) B.pre
  have hown : s.vm.findClass RX6 = some m.cls := findClass_of_methodNamed B.named
  have hlocks := B.notSynchronized
  subst hsz
  have hD := hD0.self (sz := s.heap.size)
  generalize hAe : va_A [(a_r0, av_J cy 11 g_r0)] s.heap.size = A at hD ⊢
  have hA : ∀ q : Nat, s.heap.size ≤ q → A q := fun q h => by rw [← hAe]; exact Or.inr h
  have hS : va_S A s.heap s.heap [] := va_S.rf
  have hP : va_P G vwCl [(a_r0, av_J cy 11 g_r0)] s.heap := hP
  have hl := lv_entry [.ref a_r0] (n := 1) (Nat.le_of_ble_eq_true rfl)
  rw [lg_entry_eq]
  generalize (lg_sl [.ref a_r0] ++ List.replicate (1 - (lg_sl [.ref a_r0]).length) Slot.unset).toArray = ls at hl ⊢
  have hl : lv_has ls 1 [(0, .ref a_r0)] := hl
  unfold f_X6_many at hf
  refine lv_aload_n hx hb dX6_many_0 rfl (lv_at hl 0 rfl) ?_
  refine lv_iconst (v := 0) hx hb dX6_many_1 (by decide) ?_
  refine vz_lald tn_0 hx hb hK hP 0 2 rfl rfl vn_0_11 dX6_many_2 ?_
  refine lv_aload_n hx hb dX6_many_3 rfl (lv_at hl 0 rfl) ?_
  refine lv_iconst (v := 1) hx hb dX6_many_4 (by decide) ?_
  refine vz_lald tn_1 hx hb hK hP 0 2 rfl rfl vn_1_11 dX6_many_5 ?_
  refine lv_lmul hx hb dX6_many_6 ?_
  refine lv_l2i (v := ((g_r0 0) * (g_r0 1)).toInt32) hx hb dX6_many_7 rfl ?_
  subst hf
  exact kr_i hx hb hr hlocks rfl hP hK hD hN hS hS.2.2 dX6_many_8
set_option maxHeartbeats 4000000 in
set_option maxRecDepth 100000 in
theorem c_X6_isCell {l : Launch} (G : va_G) (cy : Nat → ClassId) (a_r0 : Nat) (sz : Nat) (g_r0 : Nat → Int64) (x1 : Int32)  (R : Bool) (hf : f_X6_isCell g_r0 x1 = R) : Met l yX6_isCell wsX6_isCell ({ frames := 1, cells := 0, slots := 0, locals := 25 } : Room) (va_Pc [.ref a_r0, .int x1] (pcW G cy [(a_r0, av_J cy 11 g_r0)] sz)) (va_Qi (fun r (_ : Unit) => r = bI R) (fun _ t => Wd G cy (va_A [(a_r0, av_J cy 11 g_r0)] sz) [(a_r0, av_J cy 11 g_r0)] t) (va_A [(a_r0, av_J cy 11 g_r0)] sz)) 0 0 (va_A [(a_r0, av_J cy 11 g_r0)] sz) := by
  refine Met.ofW (cc := cX6_isCell) (maxL := 2) (ret := (some .boolean)) (by decide) rfl ?_
  intro p e s m args below meth c s₁ B hml hv
  obtain ⟨rfl, hsz, hP, hK, hD0, hN⟩ := hv
  have hx := B.exec
  have hb := B.bytes
  have hr := B.returns
  have hts := atoms_spec (ws := wsX6_isCell) B.pre
  have hown : s.vm.findClass RX6 = some m.cls := findClass_of_methodNamed B.named
  have hlocks := B.notSynchronized
  subst hsz
  have hD := hD0.self (sz := s.heap.size)
  generalize hAe : va_A [(a_r0, av_J cy 11 g_r0)] s.heap.size = A at hD ⊢
  have hA : ∀ q : Nat, s.heap.size ≤ q → A q := fun q h => by rw [← hAe]; exact Or.inr h
  have hS : va_S A s.heap s.heap [] := va_S.rf
  have hP : va_P G vwCl [(a_r0, av_J cy 11 g_r0)] s.heap := hP
  have hl := lv_entry [.ref a_r0, .int x1] (n := 2) (Nat.le_of_ble_eq_true rfl)
  rw [lg_entry_eq]
  generalize (lg_sl [.ref a_r0, .int x1] ++ List.replicate (2 - (lg_sl [.ref a_r0, .int x1]).length) Slot.unset).toArray = ls at hl ⊢
  have hl : lv_has ls 2 [(0, .ref a_r0), (1, .int x1)] := hl
  unfold f_X6_isCell at hf
  refine lv_iload_n hx hb dX6_isCell_0 rfl (lv_at hl 1 rfl) ?_
  refine lv_i2l (v := x1.toInt64) hx hb dX6_isCell_1 rfl ?_
  refine lv_lconst (v := 0) hx hb dX6_isCell_2 rfl ?_
  refine lv_aload_n hx hb dX6_isCell_3 rfl (lv_at hl 0 rfl) ?_
  refine kc_i (w1 := [(a_r0, av_J cy 11 g_r0)]) (wr := []) hP hD hS hA [0] [] rfl rfl rfl (by decide) (va_runS (As := [.ref a_r0]) (rest := [.long 0, .long x1.toInt64]) ⟨hx, hb, hml, hown, hts⟩ (c_X6_many (l := l) G cy a_r0 s.heap.size g_r0  (f_X6_many g_r0) rfl) (va_cwS 1 hts gX6_isCell_X6_many rfl rfl rfl ddN_X6_many ⟨Nat.le_of_ble_eq_true rfl, Nat.le_of_ble_eq_true rfl⟩) (preS_ hP hK hD hN) rfl rfl hl.1 rfl (lv_room (Nat.le_of_ble_eq_true rfl)) dX6_isCell_4 ⟨Nat.le_of_ble_eq_true rfl, Nat.le_of_ble_eq_true rfl⟩) (fun H locs hP hD hS => ?_)
  have hP : va_P G vwCl [(a_r0, av_J cy 11 g_r0)] H := hP
  have hD : va_D A [(a_r0, av_J cy 11 g_r0)] := hD
  refine lv_iconst (v := 1) hx hb dX6_isCell_7 (by decide) ?_
  refine lv_isub hx hb dX6_isCell_8 ?_
  refine lv_i2l (v := ((f_X6_many g_r0) - 1).toInt64) hx hb dX6_isCell_9 rfl ?_
  refine kc_i (w1 := []) (wr := [(a_r0, av_J cy 11 g_r0)]) hP hD hS hA [] [0] rfl rfl rfl (by decide) (va_runS (As := [.long x1.toInt64, .long 0, .long (((f_X6_many g_r0) - 1).toInt64)]) (rest := []) ⟨hx, hb, hml, hown, hts⟩ (c_X6_in (l := l) G cy  H.size x1.toInt64 0 (((f_X6_many g_r0) - 1).toInt64)  (f_X6_in x1.toInt64 0 (((f_X6_many g_r0) - 1).toInt64)) rfl) (va_cwS 3 hts gX6_isCell_X6_in rfl rfl rfl ddN_X6_in ⟨Nat.le_of_ble_eq_true rfl, Nat.le_of_ble_eq_true rfl⟩) (preS_ (hP.sub (ws' := []) [] rfl) hK (hD.sub (ws' := []) [] rfl rfl) hN) rfl rfl hl.1 rfl (lv_room (Nat.le_of_ble_eq_true rfl)) dX6_isCell_10 ⟨Nat.le_of_ble_eq_true rfl, Nat.le_of_ble_eq_true rfl⟩) (fun H locs hP hD hS => ?_)
  have hP : va_P G vwCl [(a_r0, av_J cy 11 g_r0)] H := hP
  have hD : va_D A [(a_r0, av_J cy 11 g_r0)] := hD
  subst hf
  exact kr_z (V := bI (f_X6_in x1.toInt64 0 (((f_X6_many g_r0) - 1).toInt64))) hx hb hr hlocks (bI_nar _) rfl hP hK hD hN hS hS.2.2 dX6_isCell_13
set_option maxHeartbeats 4000000 in
set_option maxRecDepth 100000 in
theorem c_X6_isSize {l : Launch} (G : va_G) (cy : Nat → ClassId)  (sz : Nat) (x0 : Int32)  (R : Bool) (hf : f_X6_isSize x0 = R) : Met l yX6_isSize wsX6_isSize ({ frames := 1, cells := 0, slots := 0, locals := 25 } : Room) (va_Pc [.int x0] (pcW G cy [] sz)) (va_Qi (fun r (_ : Unit) => r = bI R) (fun _ t => Wd G cy (va_A [] sz) [] t) (va_A [] sz)) 0 0 (va_A [] sz) := by
  refine Met.ofW (cc := cX6_isSize) (maxL := 1) (ret := (some .boolean)) (by decide) rfl ?_
  intro p e s m args below meth c s₁ B hml hv
  obtain ⟨rfl, hsz, hP, hK, hD0, hN⟩ := hv
  have hx := B.exec
  have hb := B.bytes
  have hr := B.returns
  have hts := atoms_spec (ws := wsX6_isSize) B.pre
  have hown : s.vm.findClass RX6 = some m.cls := findClass_of_methodNamed B.named
  have hlocks := B.notSynchronized
  subst hsz
  have hD := hD0.self (sz := s.heap.size)
  generalize hAe : va_A [] s.heap.size = A at hD ⊢
  have hA : ∀ q : Nat, s.heap.size ≤ q → A q := fun q h => by rw [← hAe]; exact Or.inr h
  have hS : va_S A s.heap s.heap [] := va_S.rf
  have hP : va_P G vwCl [] s.heap := hP
  have hl := lv_entry [.int x0] (n := 1) (Nat.le_of_ble_eq_true rfl)
  rw [lg_entry_eq]
  generalize (lg_sl [.int x0] ++ List.replicate (1 - (lg_sl [.int x0]).length) Slot.unset).toArray = ls at hl ⊢
  have hl : lv_has ls 1 [(0, .int x0)] := hl
  unfold f_X6_isSize at hf
  refine lv_iload_n hx hb dX6_isSize_0 rfl (lv_at hl 0 rfl) ?_
  refine lv_i2l (v := x0.toInt64) hx hb dX6_isSize_1 rfl ?_
  refine lv_ldc2 (v := 2) hx hb hown (hts (.constantLong RX6 55 (2)) (by decide +kernel)) dX6_isSize_2 ?_
  refine lv_ldc2 (v := 8) hx hb hown (hts (.constantLong RX6 57 (8)) (by decide +kernel)) dX6_isSize_5 ?_
  refine kc_i (w1 := []) (wr := []) hP hD hS hA [] [] rfl rfl rfl (by decide) (va_runS (As := [.long x0.toInt64, .long 2, .long 8]) (rest := []) ⟨hx, hb, hml, hown, hts⟩ (c_X6_in (l := l) G cy  s.heap.size x0.toInt64 2 8  (f_X6_in x0.toInt64 2 8) rfl) (va_cwS 3 hts gX6_isSize_X6_in rfl rfl rfl ddN_X6_in ⟨Nat.le_of_ble_eq_true rfl, Nat.le_of_ble_eq_true rfl⟩) (preS_ hP hK hD hN) rfl rfl hl.1 rfl (lv_room (Nat.le_of_ble_eq_true rfl)) dX6_isSize_8 ⟨Nat.le_of_ble_eq_true rfl, Nat.le_of_ble_eq_true rfl⟩) (fun H locs hP hD hS => ?_)
  have hP : va_P G vwCl [] H := hP
  have hD : va_D A [] := hD
  subst hf
  exact kr_z (V := bI (f_X6_in x0.toInt64 2 8)) hx hb hr hlocks (bI_nar _) rfl hP hK hD hN hS hS.2.2 dX6_isSize_11
set_option maxHeartbeats 4000000 in
set_option maxRecDepth 100000 in
theorem c_X6_isDirection {l : Launch} (G : va_G) (cy : Nat → ClassId)  (sz : Nat) (x0 : Int32)  (R : Bool) (hf : f_X6_isDirection x0 = R) : Met l yX6_isDirection wsX6_isDirection ({ frames := 1, cells := 0, slots := 0, locals := 25 } : Room) (va_Pc [.int x0] (pcW G cy [] sz)) (va_Qi (fun r (_ : Unit) => r = bI R) (fun _ t => Wd G cy (va_A [] sz) [] t) (va_A [] sz)) 0 0 (va_A [] sz) := by
  refine Met.ofW (cc := cX6_isDirection) (maxL := 1) (ret := (some .boolean)) (by decide) rfl ?_
  intro p e s m args below meth c s₁ B hml hv
  obtain ⟨rfl, hsz, hP, hK, hD0, hN⟩ := hv
  have hx := B.exec
  have hb := B.bytes
  have hr := B.returns
  have hts := atoms_spec (ws := wsX6_isDirection) B.pre
  have hown : s.vm.findClass RX6 = some m.cls := findClass_of_methodNamed B.named
  have hlocks := B.notSynchronized
  subst hsz
  have hD := hD0.self (sz := s.heap.size)
  generalize hAe : va_A [] s.heap.size = A at hD ⊢
  have hA : ∀ q : Nat, s.heap.size ≤ q → A q := fun q h => by rw [← hAe]; exact Or.inr h
  have hS : va_S A s.heap s.heap [] := va_S.rf
  have hP : va_P G vwCl [] s.heap := hP
  have hl := lv_entry [.int x0] (n := 1) (Nat.le_of_ble_eq_true rfl)
  rw [lg_entry_eq]
  generalize (lg_sl [.int x0] ++ List.replicate (1 - (lg_sl [.int x0]).length) Slot.unset).toArray = ls at hl ⊢
  have hl : lv_has ls 1 [(0, .int x0)] := hl
  unfold f_X6_isDirection at hf
  refine lv_iload_n hx hb dX6_isDirection_0 rfl (lv_at hl 0 rfl) ?_
  refine lv_i2l (v := x0.toInt64) hx hb dX6_isDirection_1 rfl ?_
  refine lv_lconst (v := 0) hx hb dX6_isDirection_2 rfl ?_
  refine lv_ldc2 (v := 3) hx hb hown (hts (.constantLong RX6 59 (3)) (by decide +kernel)) dX6_isDirection_3 ?_
  refine kc_i (w1 := []) (wr := []) hP hD hS hA [] [] rfl rfl rfl (by decide) (va_runS (As := [.long x0.toInt64, .long 0, .long 3]) (rest := []) ⟨hx, hb, hml, hown, hts⟩ (c_X6_in (l := l) G cy  s.heap.size x0.toInt64 0 3  (f_X6_in x0.toInt64 0 3) rfl) (va_cwS 3 hts gX6_isDirection_X6_in rfl rfl rfl ddN_X6_in ⟨Nat.le_of_ble_eq_true rfl, Nat.le_of_ble_eq_true rfl⟩) (preS_ hP hK hD hN) rfl rfl hl.1 rfl (lv_room (Nat.le_of_ble_eq_true rfl)) dX6_isDirection_6 ⟨Nat.le_of_ble_eq_true rfl, Nat.le_of_ble_eq_true rfl⟩) (fun H locs hP hD hS => ?_)
  have hP : va_P G vwCl [] H := hP
  have hD : va_D A [] := hD
  subst hf
  exact kr_z (V := bI (f_X6_in x0.toInt64 0 3)) hx hb hr hlocks (bI_nar _) rfl hP hK hD hN hS hS.2.2 dX6_isDirection_9
set_option maxHeartbeats 4000000 in
set_option maxRecDepth 100000 in
theorem c_X6_has {l : Launch} (G : va_G) (cy : Nat → ClassId)  (sz : Nat) (x0 : Int64) (x2 : Int32)  (R : Bool) (hf : f_X6_has x0 x2 = R) : Met l yX6_has wsX6_has ({ frames := 0, cells := 0, slots := 0, locals := 0 } : Room) (va_Pc [.long x0, .int x2] (pcW G cy [] sz)) (va_Qi (fun r (_ : Unit) => r = bI R) (fun _ t => Wd G cy (va_A [] sz) [] t) (va_A [] sz)) 0 0 (va_A [] sz) := by
  refine Met.ofW (cc := cX6_has) (maxL := 3) (ret := (some .boolean)) (by decide) rfl ?_
  intro p e s m args below meth c s₁ B hml hv
  obtain ⟨rfl, hsz, hP, hK, hD0, hN⟩ := hv
  have hx := B.exec
  have hb := B.bytes
  have hr := B.returns
  have hts := atoms_spec (ws := wsX6_has) B.pre
  have hown : s.vm.findClass RX6 = some m.cls := findClass_of_methodNamed B.named
  have hlocks := B.notSynchronized
  subst hsz
  have hD := hD0.self (sz := s.heap.size)
  generalize hAe : va_A [] s.heap.size = A at hD ⊢
  have hA : ∀ q : Nat, s.heap.size ≤ q → A q := fun q h => by rw [← hAe]; exact Or.inr h
  have hS : va_S A s.heap s.heap [] := va_S.rf
  have hP : va_P G vwCl [] s.heap := hP
  have hl := lv_entry [.long x0, .int x2] (n := 3) (Nat.le_of_ble_eq_true rfl)
  rw [lg_entry_eq]
  generalize (lg_sl [.long x0, .int x2] ++ List.replicate (3 - (lg_sl [.long x0, .int x2]).length) Slot.unset).toArray = ls at hl ⊢
  have hl : lv_has ls 3 [(0, .long x0), (2, .int x2)] := hl
  unfold f_X6_has at hf
  refine lv_lload_n hx hb dX6_has_0 rfl (lv_at hl 0 rfl) ?_
  refine lv_iload_n hx hb dX6_has_1 rfl (lv_at hl 1 rfl) ?_
  refine lv_lshr (v := (jsr x0 x2)) hx hb dX6_has_2 rfl ?_
  refine lv_lconst (v := 1) hx hb dX6_has_3 rfl ?_
  refine lv_land hx hb dX6_has_4 ?_
  refine lv_lconst (v := 1) hx hb dX6_has_5 rfl ?_
  refine W.lcmp hx hb dX6_has_6 ?_
  refine lv_if_ne (tgt := 14) hx hb dX6_has_7 (by decide) (fun h_1 => ?_) (fun h_1 => ?_)
  · have hf := in_ (fun q => h_1 (lgc_eq.mpr q)) hf
    refine lv_iconst (v := 0) hx hb dX6_has_14 (by decide) ?_
    subst hf
    exact kr_z (V := bI false) hx hb hr hlocks (bI_nar _) rfl hP hK hD hN hS hS.2.2 dX6_has_15
  · have hf := ip_ (lgc_eq.mp h_1) hf
    refine lv_iconst (v := 1) hx hb dX6_has_10 (by decide) ?_
    refine lv_goto (tgt := 15) hx hb dX6_has_11 (by decide) ?_
    subst hf
    exact kr_z (V := bI true) hx hb hr hlocks (bI_nar _) rfl hP hK hD hN hS hS.2.2 dX6_has_15
set_option maxHeartbeats 4000000 in
set_option maxRecDepth 100000 in
theorem c_X6_bits {l : Launch} (G : va_G) (cy : Nat → ClassId)  (sz : Nat) (x0 : Int64) (n : Nat) (R : Int32) (hf : f_X6_bits n x0 = some R) : Met l yX6_bits wsX6_bits ({ frames := 1, cells := 0, slots := 0, locals := 22 } : Room) (va_Pc [.long x0] (pcW G cy [] sz)) (va_Qi (fun r (_ : Unit) => r = R) (fun _ t => Wd G cy (va_A [] sz) [] t) (va_A [] sz)) 0 0 (va_A [] sz) := by
  refine Met.ofW (cc := cX6_bits) (maxL := 4) (ret := (some .int)) (by decide) rfl ?_
  intro p e s m args below meth c s₁ B hml hv
  obtain ⟨rfl, hsz, hP, hK, hD0, hN⟩ := hv
  have hx := B.exec
  have hb := B.bytes
  have hr := B.returns
  have hts := atoms_spec (ws := wsX6_bits) B.pre
  have hown : s.vm.findClass RX6 = some m.cls := findClass_of_methodNamed B.named
  have hlocks := B.notSynchronized
  subst hsz
  have hD := hD0.self (sz := s.heap.size)
  generalize hAe : va_A [] s.heap.size = A at hD ⊢
  have hA : ∀ q : Nat, s.heap.size ≤ q → A q := fun q h => by rw [← hAe]; exact Or.inr h
  have hS : va_S A s.heap s.heap [] := va_S.rf
  have hP : va_P G vwCl [] s.heap := hP
  have bl_4 : ∀ (y0 : Int64), ∀ (k : Nat), ∀ (y2 : Int32) (y3 : Int32) (H : Heap) (locs : List Loc), f_X6_bits_b4 n y0 k y2 y3 = some R → va_P G vwCl [] H → va_D A [] → va_S A s.heap H locs → ∀ (ls : Array Slot), lv_has ls 4 [(0, .long y0), (2, .int y2), (3, .int y3)] → W p l e ({ frames := 1, cells := 0, slots := 0, locals := 22 } : Room) s m [.long x0].toArray below meth c H locs 0 0 (MQ below (va_Qi (fun r (_ : Unit) => r = R) (fun _ t => Wd G cy A [] t) A) [.long x0].toArray s 0 0 A) (F0 m 4 ls []) := by
    intro y0
    intro k
    induction k with
    | zero =>
      intro y2 y3 H locs hf; cases hf
    | succ k ih =>
      intro y2 y3 H locs hf hP hD hS ls hl
      have hf := (f_X6_bits_b4_s n y0 k y2 y3).symm.trans hf
      refine lv_iload_n hx hb dX6_bits_4 rfl (lv_at hl 2 rfl) ?_
      refine lv_bipush (v := 64) hx hb dX6_bits_5 (by decide) ?_
      refine lv_icmp_ge (tgt := 32) hx hb dX6_bits_7 (by decide) (fun h_1 => ?_) (fun h_1 => ?_)
      · have hf := ip_ h_1 hf
        refine lv_iload_n hx hb dX6_bits_32 rfl (lv_at hl 1 rfl) ?_
        obtain rfl := Option.some.inj hf
        exact kr_i hx hb hr hlocks rfl hP hK hD hN hS hS.2.2 dX6_bits_33
      · have hf := in_ h_1 hf
        refine lv_iload_n hx hb dX6_bits_10 rfl (lv_at hl 1 rfl) ?_
        refine lv_lload_n hx hb dX6_bits_11 rfl (lv_at hl 0 rfl) ?_
        refine lv_iload_n hx hb dX6_bits_12 rfl (lv_at hl 2 rfl) ?_
        refine kc_i (w1 := []) (wr := []) hP hD hS hA [] [] rfl rfl rfl (by decide) (va_runS (As := [.long y0, .int y3]) (rest := [.int y2]) ⟨hx, hb, hml, hown, hts⟩ (c_X6_has (l := l) G cy  H.size y0 y3  (f_X6_has y0 y3) rfl) (va_cwS 2 hts gX6_bits_X6_has rfl rfl rfl ddN_X6_has ⟨Nat.le_of_ble_eq_true rfl, Nat.le_of_ble_eq_true rfl⟩) (preS_ hP hK hD hN) rfl rfl hl.1 rfl (lv_room (Nat.le_of_ble_eq_true rfl)) dX6_bits_13 ⟨Nat.le_of_ble_eq_true rfl, Nat.le_of_ble_eq_true rfl⟩) (fun H locs hP hD hS => ?_)
        have hP : va_P G vwCl [] H := hP
        have hD : va_D A [] := hD
        refine lv_if_eq (tgt := 23) hx hb dX6_bits_16 (by decide) (fun h_2 => ?_) (fun h_2 => ?_)
        · have hf := in_ (bI_0 h_2) hf
          refine lv_iconst (v := 0) hx hb dX6_bits_23 (by decide) ?_
          refine lv_iadd hx hb dX6_bits_24 ?_
          refine lv_istore_n (lv' := [(2, .int (y2 + 0)), (0, .long y0), (3, .int y3)]) hx hb dX6_bits_25 rfl hl (by decide) rfl (fun ls hl => ?_)
          refine lv_iinc (v := (y3 + 1)) (lv' := [(3, .int (y3 + 1)), (2, .int (y2 + 0)), (0, .long y0)]) hx hb dX6_bits_26 hl (k := 2) rfl rfl (by decide) rfl (fun ls hl => ?_)
          refine lv_goto (tgt := 4) hx hb dX6_bits_29 (by decide) ?_
          exact ih (y2 + 0) (y3 + 1) _ _ hf hP hD hS ls (lv_sub hl [2, 1, 0] rfl)
        · have hf := ip_ (bI_n0 h_2) hf
          refine lv_iconst (v := 1) hx hb dX6_bits_19 (by decide) ?_
          refine lv_goto (tgt := 24) hx hb dX6_bits_20 (by decide) ?_
          refine lv_iadd hx hb dX6_bits_24 ?_
          refine lv_istore_n (lv' := [(2, .int (y2 + 1)), (0, .long y0), (3, .int y3)]) hx hb dX6_bits_25 rfl hl (by decide) rfl (fun ls hl => ?_)
          refine lv_iinc (v := (y3 + 1)) (lv' := [(3, .int (y3 + 1)), (2, .int (y2 + 1)), (0, .long y0)]) hx hb dX6_bits_26 hl (k := 2) rfl rfl (by decide) rfl (fun ls hl => ?_)
          refine lv_goto (tgt := 4) hx hb dX6_bits_29 (by decide) ?_
          exact ih (y2 + 1) (y3 + 1) _ _ hf hP hD hS ls (lv_sub hl [2, 1, 0] rfl)
  have hl := lv_entry [.long x0] (n := 4) (Nat.le_of_ble_eq_true rfl)
  rw [lg_entry_eq]
  generalize (lg_sl [.long x0] ++ List.replicate (4 - (lg_sl [.long x0]).length) Slot.unset).toArray = ls at hl ⊢
  have hl : lv_has ls 4 [(0, .long x0)] := hl
  unfold f_X6_bits at hf
  refine lv_iconst (v := 0) hx hb dX6_bits_0 (by decide) ?_
  refine lv_istore_n (lv' := [(2, .int 0), (0, .long x0)]) hx hb dX6_bits_1 rfl hl (by decide) rfl (fun ls hl => ?_)
  refine lv_iconst (v := 0) hx hb dX6_bits_2 (by decide) ?_
  refine lv_istore_n (lv' := [(3, .int 0), (2, .int 0), (0, .long x0)]) hx hb dX6_bits_3 rfl hl (by decide) rfl (fun ls hl => ?_)
  exact bl_4 x0 n 0 0 _ _ hf hP hD hS ls (lv_sub hl [2, 1, 0] rfl)
set_option maxHeartbeats 4000000 in
set_option maxRecDepth 100000 in
theorem c_X6_isOnSide {l : Launch} (G : va_G) (cy : Nat → ClassId) (a_r0 : Nat) (sz : Nat) (g_r0 : Nat → Int64) (x1 : Int32) (x2 : Int32)  (R : Bool) (hf : f_X6_isOnSide g_r0 x1 x2 = some R) : Met l yX6_isOnSide wsX6_isOnSide ({ frames := 0, cells := 0, slots := 0, locals := 0 } : Room) (va_Pc [.ref a_r0, .int x1, .int x2] (pcW G cy [(a_r0, av_J cy 11 g_r0)] sz)) (va_Qi (fun r (_ : Unit) => r = bI R) (fun _ t => Wd G cy (va_A [(a_r0, av_J cy 11 g_r0)] sz) [(a_r0, av_J cy 11 g_r0)] t) (va_A [(a_r0, av_J cy 11 g_r0)] sz)) 0 0 (va_A [(a_r0, av_J cy 11 g_r0)] sz) := by
  refine Met.ofW (cc := cX6_isOnSide) (maxL := 5) (ret := (some .boolean)) (by decide) rfl ?_
  intro p e s m args below meth c s₁ B hml hv
  obtain ⟨rfl, hsz, hP, hK, hD0, hN⟩ := hv
  have hx := B.exec
  have hb := B.bytes
  have hr := B.returns
  have hts := atoms_spec (ws := wsX6_isOnSide) B.pre
  have hown : s.vm.findClass RX6 = some m.cls := findClass_of_methodNamed B.named
  have hlocks := B.notSynchronized
  subst hsz
  have hD := hD0.self (sz := s.heap.size)
  generalize hAe : va_A [(a_r0, av_J cy 11 g_r0)] s.heap.size = A at hD ⊢
  have hA : ∀ q : Nat, s.heap.size ≤ q → A q := fun q h => by rw [← hAe]; exact Or.inr h
  have hS : va_S A s.heap s.heap [] := va_S.rf
  have hP : va_P G vwCl [(a_r0, av_J cy 11 g_r0)] s.heap := hP
  have hl := lv_entry [.ref a_r0, .int x1, .int x2] (n := 5) (Nat.le_of_ble_eq_true rfl)
  rw [lg_entry_eq]
  generalize (lg_sl [.ref a_r0, .int x1, .int x2] ++ List.replicate (5 - (lg_sl [.ref a_r0, .int x1, .int x2]).length) Slot.unset).toArray = ls at hl ⊢
  have hl : lv_has ls 5 [(0, .ref a_r0), (1, .int x1), (2, .int x2)] := hl
  unfold f_X6_isOnSide at hf
  refine lv_iload_n hx hb dX6_isOnSide_0 rfl (lv_at hl 1 rfl) ?_
  refine lv_aload_n hx hb dX6_isOnSide_1 rfl (lv_at hl 0 rfl) ?_
  refine lv_iconst (v := 1) hx hb dX6_isOnSide_2 (by decide) ?_
  refine vz_lald tn_1 hx hb hK hP 0 2 rfl rfl vn_1_11 dX6_isOnSide_3 ?_
  refine lv_l2i (v := (g_r0 1).toInt32) hx hb dX6_isOnSide_4 rfl ?_
  by_cases q_1 : (g_r0 1).toInt32 = 0
  · have hf := ip_ q_1 hf; cases hf
  have hf := in_ q_1 hf
  refine lv_idiv hx hb dX6_isOnSide_5 q_1 ?_
  refine lv_istore_n (lv' := [(3, .int (x1 / (g_r0 1).toInt32)), (0, .ref a_r0), (1, .int x1), (2, .int x2)]) hx hb dX6_isOnSide_6 rfl hl (by decide) rfl (fun ls hl => ?_)
  refine lv_iload_n hx hb dX6_isOnSide_7 rfl (lv_at hl 2 rfl) ?_
  refine lv_aload_n hx hb dX6_isOnSide_8 rfl (lv_at hl 1 rfl) ?_
  refine lv_iconst (v := 1) hx hb dX6_isOnSide_9 (by decide) ?_
  refine vz_lald tn_1 hx hb hK hP 0 2 rfl rfl vn_1_11 dX6_isOnSide_10 ?_
  refine lv_l2i (v := (g_r0 1).toInt32) hx hb dX6_isOnSide_11 rfl ?_
  by_cases q_2 : (g_r0 1).toInt32 = 0
  · have hf := ip_ q_2 hf; cases hf
  have hf := in_ q_2 hf
  refine lv_irem hx hb dX6_isOnSide_12 q_2 ?_
  refine lv_istore (lv' := [(4, .int (irm x1 ((g_r0 1).toInt32))), (3, .int (x1 / (g_r0 1).toInt32)), (0, .ref a_r0), (1, .int x1), (2, .int x2)]) hx hb dX6_isOnSide_13 hl (by decide) rfl (fun ls hl => ?_)
  refine lv_iload_n hx hb dX6_isOnSide_15 rfl (lv_at hl 4 rfl) ?_
  refine lv_if_ne (tgt := 31) hx hb dX6_isOnSide_16 (by decide) (fun h_3 => ?_) (fun h_3 => ?_)
  · have hf := in_ h_3 hf
    refine lv_iload_n hx hb dX6_isOnSide_31 rfl (lv_at hl 4 rfl) ?_
    refine lv_iconst (v := 2) hx hb dX6_isOnSide_32 (by decide) ?_
    refine lv_icmp_ne (tgt := 55) hx hb dX6_isOnSide_33 (by decide) (fun h_4 => ?_) (fun h_4 => ?_)
    · have hf := in_ h_4 hf
      refine lv_iload hx hb dX6_isOnSide_55 (lv_at hl 0 rfl) ?_
      refine lv_i2l (v := (irm x1 ((g_r0 1).toInt32)).toInt64) hx hb dX6_isOnSide_57 rfl ?_
      refine lv_iload_n hx hb dX6_isOnSide_58 rfl (lv_at hl 4 rfl) ?_
      refine lv_iconst (v := 1) hx hb dX6_isOnSide_59 (by decide) ?_
      refine lv_icmp_ne (tgt := 71) hx hb dX6_isOnSide_60 (by decide) (fun h_5 => ?_) (fun h_5 => ?_)
      · have hf := in_ h_5 hf
        refine lv_lconst (v := 0) hx hb dX6_isOnSide_71 rfl ?_
        refine W.lcmp hx hb dX6_isOnSide_72 ?_
        refine lv_if_ne (tgt := 80) hx hb dX6_isOnSide_73 (by decide) (fun h_6 => ?_) (fun h_6 => ?_)
        · have hf := in_ (fun q => h_6 (lgc_eq.mpr q)) hf
          refine lv_iconst (v := 0) hx hb dX6_isOnSide_80 (by decide) ?_
          obtain rfl := Option.some.inj hf
          exact kr_z (V := bI false) hx hb hr hlocks (bI_nar _) rfl hP hK hD hN hS hS.2.2 dX6_isOnSide_81
        · have hf := ip_ (lgc_eq.mp h_6) hf
          refine lv_iconst (v := 1) hx hb dX6_isOnSide_76 (by decide) ?_
          refine lv_goto (tgt := 81) hx hb dX6_isOnSide_77 (by decide) ?_
          obtain rfl := Option.some.inj hf
          exact kr_z (V := bI true) hx hb hr hlocks (bI_nar _) rfl hP hK hD hN hS hS.2.2 dX6_isOnSide_81
      · have hf := ip_ h_5 hf
        refine lv_aload_n hx hb dX6_isOnSide_63 rfl (lv_at hl 2 rfl) ?_
        refine lv_iconst (v := 1) hx hb dX6_isOnSide_64 (by decide) ?_
        refine vz_lald tn_1 hx hb hK hP 0 2 rfl rfl vn_1_11 dX6_isOnSide_65 ?_
        refine lv_lconst (v := 1) hx hb dX6_isOnSide_66 rfl ?_
        refine lv_lsub hx hb dX6_isOnSide_67 ?_
        refine lv_goto (tgt := 72) hx hb dX6_isOnSide_68 (by decide) ?_
        refine W.lcmp hx hb dX6_isOnSide_72 ?_
        refine lv_if_ne (tgt := 80) hx hb dX6_isOnSide_73 (by decide) (fun h_7 => ?_) (fun h_7 => ?_)
        · have hf := in_ (fun q => h_7 (lgc_eq.mpr q)) hf
          refine lv_iconst (v := 0) hx hb dX6_isOnSide_80 (by decide) ?_
          obtain rfl := Option.some.inj hf
          exact kr_z (V := bI false) hx hb hr hlocks (bI_nar _) rfl hP hK hD hN hS hS.2.2 dX6_isOnSide_81
        · have hf := ip_ (lgc_eq.mp h_7) hf
          refine lv_iconst (v := 1) hx hb dX6_isOnSide_76 (by decide) ?_
          refine lv_goto (tgt := 81) hx hb dX6_isOnSide_77 (by decide) ?_
          obtain rfl := Option.some.inj hf
          exact kr_z (V := bI true) hx hb hr hlocks (bI_nar _) rfl hP hK hD hN hS hS.2.2 dX6_isOnSide_81
    · have hf := ip_ h_4 hf
      refine lv_iload_n hx hb dX6_isOnSide_36 rfl (lv_at hl 1 rfl) ?_
      refine lv_i2l (v := (x1 / (g_r0 1).toInt32).toInt64) hx hb dX6_isOnSide_37 rfl ?_
      refine lv_aload_n hx hb dX6_isOnSide_38 rfl (lv_at hl 2 rfl) ?_
      refine lv_iconst (v := 0) hx hb dX6_isOnSide_39 (by decide) ?_
      refine vz_lald tn_0 hx hb hK hP 0 2 rfl rfl vn_0_11 dX6_isOnSide_40 ?_
      refine lv_lconst (v := 1) hx hb dX6_isOnSide_41 rfl ?_
      refine lv_lsub hx hb dX6_isOnSide_42 ?_
      refine W.lcmp hx hb dX6_isOnSide_43 ?_
      refine lv_if_ne (tgt := 51) hx hb dX6_isOnSide_44 (by decide) (fun h_8 => ?_) (fun h_8 => ?_)
      · have hf := in_ (fun q => h_8 (lgc_eq.mpr q)) hf
        refine lv_iconst (v := 0) hx hb dX6_isOnSide_51 (by decide) ?_
        refine lv_goto (tgt := 81) hx hb dX6_isOnSide_52 (by decide) ?_
        obtain rfl := Option.some.inj hf
        exact kr_z (V := bI false) hx hb hr hlocks (bI_nar _) rfl hP hK hD hN hS hS.2.2 dX6_isOnSide_81
      · have hf := ip_ (lgc_eq.mp h_8) hf
        refine lv_iconst (v := 1) hx hb dX6_isOnSide_47 (by decide) ?_
        refine lv_goto (tgt := 81) hx hb dX6_isOnSide_48 (by decide) ?_
        obtain rfl := Option.some.inj hf
        exact kr_z (V := bI true) hx hb hr hlocks (bI_nar _) rfl hP hK hD hN hS hS.2.2 dX6_isOnSide_81
  · have hf := ip_ h_3 hf
    refine lv_iload_n hx hb dX6_isOnSide_19 rfl (lv_at hl 1 rfl) ?_
    refine lv_if_ne (tgt := 27) hx hb dX6_isOnSide_20 (by decide) (fun h_9 => ?_) (fun h_9 => ?_)
    · have hf := in_ h_9 hf
      refine lv_iconst (v := 0) hx hb dX6_isOnSide_27 (by decide) ?_
      refine lv_goto (tgt := 81) hx hb dX6_isOnSide_28 (by decide) ?_
      obtain rfl := Option.some.inj hf
      exact kr_z (V := bI false) hx hb hr hlocks (bI_nar _) rfl hP hK hD hN hS hS.2.2 dX6_isOnSide_81
    · have hf := ip_ h_9 hf
      refine lv_iconst (v := 1) hx hb dX6_isOnSide_23 (by decide) ?_
      refine lv_goto (tgt := 81) hx hb dX6_isOnSide_24 (by decide) ?_
      obtain rfl := Option.some.inj hf
      exact kr_z (V := bI true) hx hb hr hlocks (bI_nar _) rfl hP hK hD hN hS hS.2.2 dX6_isOnSide_81
set_option maxHeartbeats 4000000 in
set_option maxRecDepth 100000 in
theorem c_X6_neighbourOf {l : Launch} (G : va_G) (cy : Nat → ClassId) (a_r0 : Nat) (sz : Nat) (g_r0 : Nat → Int64) (x1 : Int32) (x2 : Int32)  (R : Int32) (hf : f_X6_neighbourOf g_r0 x1 x2 = some R) : Met l yX6_neighbourOf wsX6_neighbourOf ({ frames := 1, cells := 0, slots := 0, locals := 24 } : Room) (va_Pc [.ref a_r0, .int x1, .int x2] (pcW G cy [(a_r0, av_J cy 11 g_r0)] sz)) (va_Qi (fun r (_ : Unit) => r = R) (fun _ t => Wd G cy (va_A [(a_r0, av_J cy 11 g_r0)] sz) [(a_r0, av_J cy 11 g_r0)] t) (va_A [(a_r0, av_J cy 11 g_r0)] sz)) 0 0 (va_A [(a_r0, av_J cy 11 g_r0)] sz) := by
  refine Met.ofW (cc := cX6_neighbourOf) (maxL := 6) (ret := (some .int)) (by decide) rfl ?_
  intro p e s m args below meth c s₁ B hml hv
  obtain ⟨rfl, hsz, hP, hK, hD0, hN⟩ := hv
  have hx := B.exec
  have hb := B.bytes
  have hr := B.returns
  have hts := atoms_spec (ws := wsX6_neighbourOf) B.pre
  have hown : s.vm.findClass RX6 = some m.cls := findClass_of_methodNamed B.named
  have hlocks := B.notSynchronized
  subst hsz
  have hD := hD0.self (sz := s.heap.size)
  generalize hAe : va_A [(a_r0, av_J cy 11 g_r0)] s.heap.size = A at hD ⊢
  have hA : ∀ q : Nat, s.heap.size ≤ q → A q := fun q h => by rw [← hAe]; exact Or.inr h
  have hS : va_S A s.heap s.heap [] := va_S.rf
  have hP : va_P G vwCl [(a_r0, av_J cy 11 g_r0)] s.heap := hP
  have bl_33 : ∀ (y1 : Int32) (y2 : Int32) (y3 : Int32) (z0 : Int32) (H : Heap) (locs : List Loc), f_X6_neighbourOf_b33 g_r0 y1 y2 y3 z0 = some R → va_P G vwCl [(a_r0, av_J cy 11 g_r0)] H → va_D A [(a_r0, av_J cy 11 g_r0)] → va_S A s.heap H locs → ∀ (ls : Array Slot), lv_has ls 6 [(0, .ref a_r0), (1, .int y1), (2, .int y2), (3, .int y3)] → W p l e ({ frames := 1, cells := 0, slots := 0, locals := 24 } : Room) s m [.ref a_r0, .int x1, .int x2].toArray below meth c H locs 0 0 (MQ below (va_Qi (fun r (_ : Unit) => r = R) (fun _ t => Wd G cy A [(a_r0, av_J cy 11 g_r0)] t) A) [.ref a_r0, .int x1, .int x2].toArray s 0 0 A) (F0 m 33 ls [.int z0]) := by
    intro y1 y2 y3 z0 H locs hf hP hD hS ls hl
    unfold f_X6_neighbourOf_b33 at hf
    refine lv_istore (lv' := [(4, .int z0), (0, .ref a_r0), (1, .int y1), (2, .int y2), (3, .int y3)]) hx hb dX6_neighbourOf_33 hl (by decide) rfl (fun ls hl => ?_)
    refine lv_aload_n hx hb dX6_neighbourOf_35 rfl (lv_at hl 1 rfl) ?_
    refine lv_iload_n hx hb dX6_neighbourOf_36 rfl (lv_at hl 2 rfl) ?_
    refine lv_iload_n hx hb dX6_neighbourOf_37 rfl (lv_at hl 3 rfl) ?_
    obtain ⟨r_1, hh_r_1, hf⟩ := obd_some hf
    refine kc_i (w1 := [(a_r0, av_J cy 11 g_r0)]) (wr := []) hP hD hS hA [0] [] rfl rfl rfl (by decide) (va_runS (As := [.ref a_r0, .int y1, .int y2]) (rest := []) ⟨hx, hb, hml, hown, hts⟩ (c_X6_isOnSide (l := l) G cy a_r0 H.size g_r0 y1 y2  r_1 hh_r_1) (va_cwS 3 hts gX6_neighbourOf_X6_isOnSide rfl rfl rfl ddN_X6_isOnSide ⟨Nat.le_of_ble_eq_true rfl, Nat.le_of_ble_eq_true rfl⟩) (preS_ hP hK hD hN) rfl rfl hl.1 rfl (lv_room (Nat.le_of_ble_eq_true rfl)) dX6_neighbourOf_38 ⟨Nat.le_of_ble_eq_true rfl, Nat.le_of_ble_eq_true rfl⟩) (fun H locs hP hD hS => ?_)
    have hP : va_P G vwCl [(a_r0, av_J cy 11 g_r0)] H := hP
    have hD : va_D A [(a_r0, av_J cy 11 g_r0)] := hD
    refine lv_if_ne (tgt := 49) hx hb dX6_neighbourOf_41 (by decide) (fun h_2 => ?_) (fun h_2 => ?_)
    · have hf := ip_ (bI_n0 h_2) hf
      refine lv_aload_n hx hb dX6_neighbourOf_49 rfl (lv_at hl 1 rfl) ?_
      refine lv_iconst (v := 4) hx hb dX6_neighbourOf_50 (by decide) ?_
      refine lv_iload_n hx hb dX6_neighbourOf_51 rfl (lv_at hl 3 rfl) ?_
      refine lv_iadd hx hb dX6_neighbourOf_52 ?_
      by_cases q_3 : (4 + y2) < 0 ∨ 11 ≤ (4 + y2).toNatClampNeg
      · have hf := ip_ q_3 hf; cases hf
      have hf := in_ q_3 hf
      refine vz_lald rfl hx hb hK hP 0 2 rfl rfl (vin q_3) dX6_neighbourOf_53 ?_
      refine lv_ldc2 (v := 2) hx hb hown (hts (.constantLong RX6 55 (2)) (by decide +kernel)) dX6_neighbourOf_54 ?_
      refine W.lcmp hx hb dX6_neighbourOf_57 ?_
      refine lv_if_eq (tgt := 63) hx hb dX6_neighbourOf_58 (by decide) (fun h_4 => ?_) (fun h_4 => ?_)
      · have hf := ip_ (lgc_eq.mp h_4) hf
        refine lv_iload_n hx hb dX6_neighbourOf_63 rfl (lv_at hl 3 rfl) ?_
        refine lv_iconst (v := 2) hx hb dX6_neighbourOf_64 (by decide) ?_
        refine lv_irem hx hb dX6_neighbourOf_65 (by decide) ?_
        refine lv_if_ne (tgt := 76) hx hb dX6_neighbourOf_66 (by decide) (fun h_5 => ?_) (fun h_5 => ?_)
        · have hf := in_ h_5 hf
          refine lv_iload_n hx hb dX6_neighbourOf_76 rfl (lv_at hl 4 rfl) ?_
          refine lv_istore (lv' := [(5, .int y3), (4, .int z0), (0, .ref a_r0), (1, .int y1), (2, .int y2), (3, .int y3)]) hx hb dX6_neighbourOf_77 hl (by decide) rfl (fun ls hl => ?_)
          refine lv_iload_n hx hb dX6_neighbourOf_79 rfl (lv_at hl 3 rfl) ?_
          refine lv_iload hx hb dX6_neighbourOf_80 (lv_at hl 1 rfl) ?_
          refine lv_iadd hx hb dX6_neighbourOf_82 ?_
          refine lv_iload hx hb dX6_neighbourOf_83 (lv_at hl 1 rfl) ?_
          refine lv_if_ge (tgt := 93) hx hb dX6_neighbourOf_85 (by decide) (fun h_6 => ?_) (fun h_6 => ?_)
          · have hf := ip_ h_6 hf
            refine lv_iload hx hb dX6_neighbourOf_93 (lv_at hl 0 rfl) ?_
            refine lv_ineg hx hb dX6_neighbourOf_95 ?_
            refine lv_iadd hx hb dX6_neighbourOf_96 ?_
            obtain rfl := Option.some.inj hf
            exact kr_i hx hb hr hlocks rfl hP hK hD hN hS hS.2.2 dX6_neighbourOf_97
          · have hf := in_ h_6 hf
            refine lv_iload hx hb dX6_neighbourOf_88 (lv_at hl 0 rfl) ?_
            refine lv_goto (tgt := 96) hx hb dX6_neighbourOf_90 (by decide) ?_
            refine lv_iadd hx hb dX6_neighbourOf_96 ?_
            obtain rfl := Option.some.inj hf
            exact kr_i hx hb hr hlocks rfl hP hK hD hN hS hS.2.2 dX6_neighbourOf_97
        · have hf := ip_ h_5 hf
          refine lv_aload_n hx hb dX6_neighbourOf_69 rfl (lv_at hl 1 rfl) ?_
          refine kc_i (w1 := [(a_r0, av_J cy 11 g_r0)]) (wr := []) hP hD hS hA [0] [] rfl rfl rfl (by decide) (va_runS (As := [.ref a_r0]) (rest := []) ⟨hx, hb, hml, hown, hts⟩ (c_X6_many (l := l) G cy a_r0 H.size g_r0  (f_X6_many g_r0) rfl) (va_cwS 1 hts gX6_neighbourOf_X6_many rfl rfl rfl ddN_X6_many ⟨Nat.le_of_ble_eq_true rfl, Nat.le_of_ble_eq_true rfl⟩) (preS_ hP hK hD hN) rfl rfl hl.1 rfl (lv_room (Nat.le_of_ble_eq_true rfl)) dX6_neighbourOf_70 ⟨Nat.le_of_ble_eq_true rfl, Nat.le_of_ble_eq_true rfl⟩) (fun H locs hP hD hS => ?_)
          have hP : va_P G vwCl [(a_r0, av_J cy 11 g_r0)] H := hP
          have hD : va_D A [(a_r0, av_J cy 11 g_r0)] := hD
          refine lv_goto (tgt := 77) hx hb dX6_neighbourOf_73 (by decide) ?_
          refine lv_istore (lv' := [(5, .int (f_X6_many g_r0)), (4, .int z0), (0, .ref a_r0), (1, .int y1), (2, .int y2), (3, .int y3)]) hx hb dX6_neighbourOf_77 hl (by decide) rfl (fun ls hl => ?_)
          refine lv_iload_n hx hb dX6_neighbourOf_79 rfl (lv_at hl 3 rfl) ?_
          refine lv_iload hx hb dX6_neighbourOf_80 (lv_at hl 1 rfl) ?_
          refine lv_iadd hx hb dX6_neighbourOf_82 ?_
          refine lv_iload hx hb dX6_neighbourOf_83 (lv_at hl 1 rfl) ?_
          refine lv_if_ge (tgt := 93) hx hb dX6_neighbourOf_85 (by decide) (fun h_7 => ?_) (fun h_7 => ?_)
          · have hf := ip_ h_7 hf
            refine lv_iload hx hb dX6_neighbourOf_93 (lv_at hl 0 rfl) ?_
            refine lv_ineg hx hb dX6_neighbourOf_95 ?_
            refine lv_iadd hx hb dX6_neighbourOf_96 ?_
            obtain rfl := Option.some.inj hf
            exact kr_i hx hb hr hlocks rfl hP hK hD hN hS hS.2.2 dX6_neighbourOf_97
          · have hf := in_ h_7 hf
            refine lv_iload hx hb dX6_neighbourOf_88 (lv_at hl 0 rfl) ?_
            refine lv_goto (tgt := 96) hx hb dX6_neighbourOf_90 (by decide) ?_
            refine lv_iadd hx hb dX6_neighbourOf_96 ?_
            obtain rfl := Option.some.inj hf
            exact kr_i hx hb hr hlocks rfl hP hK hD hN hS hS.2.2 dX6_neighbourOf_97
      · have hf := in_ (fun q => h_4 (lgc_eq.mpr q)) hf
        refine lv_iconst (v := (-1)) hx hb dX6_neighbourOf_61 (by decide) ?_
        obtain rfl := Option.some.inj hf
        exact kr_i hx hb hr hlocks rfl hP hK hD hN hS hS.2.2 dX6_neighbourOf_62
    · have hf := in_ (bI_0 h_2) hf
      refine lv_iload_n hx hb dX6_neighbourOf_44 rfl (lv_at hl 2 rfl) ?_
      refine lv_iload hx hb dX6_neighbourOf_45 (lv_at hl 0 rfl) ?_
      refine lv_iadd hx hb dX6_neighbourOf_47 ?_
      obtain rfl := Option.some.inj hf
      exact kr_i hx hb hr hlocks rfl hP hK hD hN hS hS.2.2 dX6_neighbourOf_48
  have hl := lv_entry [.ref a_r0, .int x1, .int x2] (n := 6) (Nat.le_of_ble_eq_true rfl)
  rw [lg_entry_eq]
  generalize (lg_sl [.ref a_r0, .int x1, .int x2] ++ List.replicate (6 - (lg_sl [.ref a_r0, .int x1, .int x2]).length) Slot.unset).toArray = ls at hl ⊢
  have hl : lv_has ls 6 [(0, .ref a_r0), (1, .int x1), (2, .int x2)] := hl
  unfold f_X6_neighbourOf at hf
  refine lv_aload_n hx hb dX6_neighbourOf_0 rfl (lv_at hl 0 rfl) ?_
  refine lv_iconst (v := 1) hx hb dX6_neighbourOf_1 (by decide) ?_
  refine vz_lald tn_1 hx hb hK hP 0 2 rfl rfl vn_1_11 dX6_neighbourOf_2 ?_
  refine lv_l2i (v := (g_r0 1).toInt32) hx hb dX6_neighbourOf_3 rfl ?_
  refine lv_istore_n (lv' := [(3, .int ((g_r0 1).toInt32)), (0, .ref a_r0), (1, .int x1), (2, .int x2)]) hx hb dX6_neighbourOf_4 rfl hl (by decide) rfl (fun ls hl => ?_)
  refine lv_iload_n hx hb dX6_neighbourOf_5 rfl (lv_at hl 3 rfl) ?_
  refine lv_if_ne (tgt := 14) hx hb dX6_neighbourOf_6 (by decide) (fun h_8 => ?_) (fun h_8 => ?_)
  · have hf := in_ h_8 hf
    refine lv_iload_n hx hb dX6_neighbourOf_14 rfl (lv_at hl 3 rfl) ?_
    refine lv_iconst (v := 1) hx hb dX6_neighbourOf_15 (by decide) ?_
    refine lv_icmp_ne (tgt := 23) hx hb dX6_neighbourOf_16 (by decide) (fun h_9 => ?_) (fun h_9 => ?_)
    · have hf := in_ h_9 hf
      refine lv_iload_n hx hb dX6_neighbourOf_23 rfl (lv_at hl 3 rfl) ?_
      refine lv_iconst (v := 2) hx hb dX6_neighbourOf_24 (by decide) ?_
      refine lv_icmp_ne (tgt := 32) hx hb dX6_neighbourOf_25 (by decide) (fun h_10 => ?_) (fun h_10 => ?_)
      · have hf := in_ h_10 hf
        refine lv_iconst (v := (-1)) hx hb dX6_neighbourOf_32 (by decide) ?_
        exact bl_33  x1 x2 ((g_r0 1).toInt32) (-1) _ _ hf hP hD hS ls (lv_sub hl [1, 2, 3, 0] rfl)
      · have hf := ip_ h_10 hf
        refine lv_iload_n hx hb dX6_neighbourOf_28 rfl (lv_at hl 0 rfl) ?_
        refine lv_goto (tgt := 33) hx hb dX6_neighbourOf_29 (by decide) ?_
        exact bl_33  x1 x2 ((g_r0 1).toInt32) ((g_r0 1).toInt32) _ _ hf hP hD hS ls (lv_sub hl [1, 2, 3, 0] rfl)
    · have hf := ip_ h_9 hf
      refine lv_iconst (v := 1) hx hb dX6_neighbourOf_19 (by decide) ?_
      refine lv_goto (tgt := 33) hx hb dX6_neighbourOf_20 (by decide) ?_
      exact bl_33  x1 x2 ((g_r0 1).toInt32) 1 _ _ hf hP hD hS ls (lv_sub hl [1, 2, 3, 0] rfl)
  · have hf := ip_ h_8 hf
    refine lv_iload_n hx hb dX6_neighbourOf_9 rfl (lv_at hl 0 rfl) ?_
    refine lv_ineg hx hb dX6_neighbourOf_10 ?_
    refine lv_goto (tgt := 33) hx hb dX6_neighbourOf_11 (by decide) ?_
    exact bl_33  x1 x2 ((g_r0 1).toInt32) (-(g_r0 1).toInt32) _ _ hf hP hD hS ls (lv_sub hl [1, 2, 3, 0] rfl)
set_option maxHeartbeats 4000000 in
set_option maxRecDepth 100000 in
theorem c_X6_isIce {l : Launch} (G : va_G) (cy : Nat → ClassId) (a_r0 : Nat) (sz : Nat) (g_r0 : Nat → Int64) (x1 : Int32) (x2 : Int32)  (R : Bool) (hf : f_X6_isIce g_r0 x1 x2 = some R) : Met l yX6_isIce wsX6_isIce ({ frames := 1, cells := 0, slots := 0, locals := 24 } : Room) (va_Pc [.ref a_r0, .int x1, .int x2] (pcW G cy [(a_r0, av_J cy 11 g_r0)] sz)) (va_Qi (fun r (_ : Unit) => r = bI R) (fun _ t => Wd G cy (va_A [(a_r0, av_J cy 11 g_r0)] sz) [(a_r0, av_J cy 11 g_r0)] t) (va_A [(a_r0, av_J cy 11 g_r0)] sz)) 0 0 (va_A [(a_r0, av_J cy 11 g_r0)] sz) := by
  refine Met.ofW (cc := cX6_isIce) (maxL := 3) (ret := (some .boolean)) (by decide) rfl ?_
  intro p e s m args below meth c s₁ B hml hv
  obtain ⟨rfl, hsz, hP, hK, hD0, hN⟩ := hv
  have hx := B.exec
  have hb := B.bytes
  have hr := B.returns
  have hts := atoms_spec (ws := wsX6_isIce) B.pre
  have hown : s.vm.findClass RX6 = some m.cls := findClass_of_methodNamed B.named
  have hlocks := B.notSynchronized
  subst hsz
  have hD := hD0.self (sz := s.heap.size)
  generalize hAe : va_A [(a_r0, av_J cy 11 g_r0)] s.heap.size = A at hD ⊢
  have hA : ∀ q : Nat, s.heap.size ≤ q → A q := fun q h => by rw [← hAe]; exact Or.inr h
  have hS : va_S A s.heap s.heap [] := va_S.rf
  have hP : va_P G vwCl [(a_r0, av_J cy 11 g_r0)] s.heap := hP
  have hl := lv_entry [.ref a_r0, .int x1, .int x2] (n := 3) (Nat.le_of_ble_eq_true rfl)
  rw [lg_entry_eq]
  generalize (lg_sl [.ref a_r0, .int x1, .int x2] ++ List.replicate (3 - (lg_sl [.ref a_r0, .int x1, .int x2]).length) Slot.unset).toArray = ls at hl ⊢
  have hl : lv_has ls 3 [(0, .ref a_r0), (1, .int x1), (2, .int x2)] := hl
  unfold f_X6_isIce at hf
  refine lv_aload_n hx hb dX6_isIce_0 rfl (lv_at hl 0 rfl) ?_
  refine lv_iload_n hx hb dX6_isIce_1 rfl (lv_at hl 1 rfl) ?_
  refine lv_iload_n hx hb dX6_isIce_2 rfl (lv_at hl 2 rfl) ?_
  obtain ⟨r_1, hh_r_1, hf⟩ := obd_some hf
  refine kc_i (w1 := [(a_r0, av_J cy 11 g_r0)]) (wr := []) hP hD hS hA [0] [] rfl rfl rfl (by decide) (va_runS (As := [.ref a_r0, .int x1, .int x2]) (rest := []) ⟨hx, hb, hml, hown, hts⟩ (c_X6_isOnSide (l := l) G cy a_r0 s.heap.size g_r0 x1 x2  r_1 hh_r_1) (va_cwS 3 hts gX6_isIce_X6_isOnSide rfl rfl rfl ddN_X6_isOnSide ⟨Nat.le_of_ble_eq_true rfl, Nat.le_of_ble_eq_true rfl⟩) (preS_ hP hK hD hN) rfl rfl hl.1 rfl (lv_room (Nat.le_of_ble_eq_true rfl)) dX6_isIce_3 ⟨Nat.le_of_ble_eq_true rfl, Nat.le_of_ble_eq_true rfl⟩) (fun H locs hP hD hS => ?_)
  have hP : va_P G vwCl [(a_r0, av_J cy 11 g_r0)] H := hP
  have hD : va_D A [(a_r0, av_J cy 11 g_r0)] := hD
  refine lv_if_eq (tgt := 23) hx hb dX6_isIce_6 (by decide) (fun h_2 => ?_) (fun h_2 => ?_)
  · have hf := in_ (bI_0 h_2) hf
    refine lv_iconst (v := 0) hx hb dX6_isIce_23 (by decide) ?_
    obtain rfl := Option.some.inj hf
    exact kr_z (V := bI false) hx hb hr hlocks (bI_nar _) rfl hP hK hD hN hS hS.2.2 dX6_isIce_24
  · have hf := ip_ (bI_n0 h_2) hf
    refine lv_aload_n hx hb dX6_isIce_9 rfl (lv_at hl 0 rfl) ?_
    refine lv_iconst (v := 4) hx hb dX6_isIce_10 (by decide) ?_
    refine lv_iload_n hx hb dX6_isIce_11 rfl (lv_at hl 2 rfl) ?_
    refine lv_iadd hx hb dX6_isIce_12 ?_
    by_cases q_3 : (4 + x2) < 0 ∨ 11 ≤ (4 + x2).toNatClampNeg
    · have hf := ip_ q_3 hf; cases hf
    have hf := in_ q_3 hf
    refine vz_lald rfl hx hb hK hP 0 2 rfl rfl (vin q_3) dX6_isIce_13 ?_
    refine lv_lconst (v := 1) hx hb dX6_isIce_14 rfl ?_
    refine W.lcmp hx hb dX6_isIce_15 ?_
    refine lv_if_ne (tgt := 23) hx hb dX6_isIce_16 (by decide) (fun h_4 => ?_) (fun h_4 => ?_)
    · have hf := in_ (fun q => h_4 (lgc_eq.mpr q)) hf
      refine lv_iconst (v := 0) hx hb dX6_isIce_23 (by decide) ?_
      obtain rfl := Option.some.inj hf
      exact kr_z (V := bI false) hx hb hr hlocks (bI_nar _) rfl hP hK hD hN hS hS.2.2 dX6_isIce_24
    · have hf := ip_ (lgc_eq.mp h_4) hf
      refine lv_iconst (v := 1) hx hb dX6_isIce_19 (by decide) ?_
      refine lv_goto (tgt := 24) hx hb dX6_isIce_20 (by decide) ?_
      obtain rfl := Option.some.inj hf
      exact kr_z (V := bI true) hx hb hr hlocks (bI_nar _) rfl hP hK hD hN hS hS.2.2 dX6_isIce_24
set_option maxHeartbeats 4000000 in
set_option maxRecDepth 100000 in
theorem c_X6_kindOf {l : Launch} (G : va_G) (cy : Nat → ClassId)  (sz : Nat) (x0 : Int32)  (R : Int32) (hf : f_X6_kindOf x0 = R) : Met l yX6_kindOf wsX6_kindOf ({ frames := 0, cells := 0, slots := 0, locals := 0 } : Room) (va_Pc [.int x0] (pcW G cy [] sz)) (va_Qi (fun r (_ : Unit) => r = R) (fun _ t => Wd G cy (va_A [] sz) [] t) (va_A [] sz)) 0 0 (va_A [] sz) := by
  refine Met.ofW (cc := cX6_kindOf) (maxL := 1) (ret := (some .int)) (by decide) rfl ?_
  intro p e s m args below meth c s₁ B hml hv
  obtain ⟨rfl, hsz, hP, hK, hD0, hN⟩ := hv
  have hx := B.exec
  have hb := B.bytes
  have hr := B.returns
  have hts := atoms_spec (ws := wsX6_kindOf) B.pre
  have hown : s.vm.findClass RX6 = some m.cls := findClass_of_methodNamed B.named
  have hlocks := B.notSynchronized
  subst hsz
  have hD := hD0.self (sz := s.heap.size)
  generalize hAe : va_A [] s.heap.size = A at hD ⊢
  have hA : ∀ q : Nat, s.heap.size ≤ q → A q := fun q h => by rw [← hAe]; exact Or.inr h
  have hS : va_S A s.heap s.heap [] := va_S.rf
  have hP : va_P G vwCl [] s.heap := hP
  have hl := lv_entry [.int x0] (n := 1) (Nat.le_of_ble_eq_true rfl)
  rw [lg_entry_eq]
  generalize (lg_sl [.int x0] ++ List.replicate (1 - (lg_sl [.int x0]).length) Slot.unset).toArray = ls at hl ⊢
  have hl : lv_has ls 1 [(0, .int x0)] := hl
  unfold f_X6_kindOf at hf
  refine lv_iload_n hx hb dX6_kindOf_0 rfl (lv_at hl 0 rfl) ?_
  refine lv_iconst (v := 2) hx hb dX6_kindOf_1 (by decide) ?_
  refine lv_irem hx hb dX6_kindOf_2 (by decide) ?_
  refine lv_if_ne (tgt := 11) hx hb dX6_kindOf_3 (by decide) (fun h_1 => ?_) (fun h_1 => ?_)
  · have hf := in_ h_1 hf
    refine lv_bipush (v := 9) hx hb dX6_kindOf_11 (by decide) ?_
    subst hf
    exact kr_i hx hb hr hlocks rfl hP hK hD hN hS hS.2.2 dX6_kindOf_13
  · have hf := ip_ h_1 hf
    refine lv_bipush (v := 10) hx hb dX6_kindOf_6 (by decide) ?_
    refine lv_goto (tgt := 13) hx hb dX6_kindOf_8 (by decide) ?_
    subst hf
    exact kr_i hx hb hr hlocks rfl hP hK hD hN hS hS.2.2 dX6_kindOf_13
set_option maxHeartbeats 4000000 in
set_option maxRecDepth 100000 in
theorem c_X6_ownerOf {l : Launch} (G : va_G) (cy : Nat → ClassId) (a_r0 : Nat) (sz : Nat) (g_r0 : Nat → Int64) (x1 : Int32) (x2 : Int32)  (R : Int32) (hf : f_X6_ownerOf g_r0 x1 x2 = some R) : Met l yX6_ownerOf wsX6_ownerOf ({ frames := 2, cells := 0, slots := 0, locals := 49 } : Room) (va_Pc [.ref a_r0, .int x1, .int x2] (pcW G cy [(a_r0, av_J cy 11 g_r0)] sz)) (va_Qi (fun r (_ : Unit) => r = R) (fun _ t => Wd G cy (va_A [(a_r0, av_J cy 11 g_r0)] sz) [(a_r0, av_J cy 11 g_r0)] t) (va_A [(a_r0, av_J cy 11 g_r0)] sz)) 0 0 (va_A [(a_r0, av_J cy 11 g_r0)] sz) := by
  refine Met.ofW (cc := cX6_ownerOf) (maxL := 3) (ret := (some .int)) (by decide) rfl ?_
  intro p e s m args below meth c s₁ B hml hv
  obtain ⟨rfl, hsz, hP, hK, hD0, hN⟩ := hv
  have hx := B.exec
  have hb := B.bytes
  have hr := B.returns
  have hts := atoms_spec (ws := wsX6_ownerOf) B.pre
  have hown : s.vm.findClass RX6 = some m.cls := findClass_of_methodNamed B.named
  have hlocks := B.notSynchronized
  subst hsz
  have hD := hD0.self (sz := s.heap.size)
  generalize hAe : va_A [(a_r0, av_J cy 11 g_r0)] s.heap.size = A at hD ⊢
  have hA : ∀ q : Nat, s.heap.size ≤ q → A q := fun q h => by rw [← hAe]; exact Or.inr h
  have hS : va_S A s.heap s.heap [] := va_S.rf
  have hP : va_P G vwCl [(a_r0, av_J cy 11 g_r0)] s.heap := hP
  have hl := lv_entry [.ref a_r0, .int x1, .int x2] (n := 3) (Nat.le_of_ble_eq_true rfl)
  rw [lg_entry_eq]
  generalize (lg_sl [.ref a_r0, .int x1, .int x2] ++ List.replicate (3 - (lg_sl [.ref a_r0, .int x1, .int x2]).length) Slot.unset).toArray = ls at hl ⊢
  have hl : lv_has ls 3 [(0, .ref a_r0), (1, .int x1), (2, .int x2)] := hl
  unfold f_X6_ownerOf at hf
  refine lv_iload_n hx hb dX6_ownerOf_0 rfl (lv_at hl 2 rfl) ?_
  refine lv_iconst (v := 1) hx hb dX6_ownerOf_1 (by decide) ?_
  refine lv_icmp_eq (tgt := 10) hx hb dX6_ownerOf_2 (by decide) (fun h_1 => ?_) (fun h_1 => ?_)
  · have hf := ip_ h_1 hf
    refine lv_iload_n hx hb dX6_ownerOf_10 rfl (lv_at hl 1 rfl) ?_
    refine lv_goto (tgt := 20) hx hb dX6_ownerOf_11 (by decide) ?_
    obtain rfl := Option.some.inj hf
    exact kr_i hx hb hr hlocks rfl hP hK hD hN hS hS.2.2 dX6_ownerOf_20
  · have hf := in_ h_1 hf
    refine lv_iload_n hx hb dX6_ownerOf_5 rfl (lv_at hl 2 rfl) ?_
    refine lv_iconst (v := 2) hx hb dX6_ownerOf_6 (by decide) ?_
    refine lv_icmp_ne (tgt := 14) hx hb dX6_ownerOf_7 (by decide) (fun h_2 => ?_) (fun h_2 => ?_)
    · have hf := in_ h_2 hf
      refine lv_aload_n hx hb dX6_ownerOf_14 rfl (lv_at hl 0 rfl) ?_
      refine lv_iload_n hx hb dX6_ownerOf_15 rfl (lv_at hl 1 rfl) ?_
      refine lv_iload_n hx hb dX6_ownerOf_16 rfl (lv_at hl 2 rfl) ?_
      obtain ⟨r_3, hh_r_3, hf⟩ := obd_some hf
      refine kc_i (w1 := [(a_r0, av_J cy 11 g_r0)]) (wr := []) hP hD hS hA [0] [] rfl rfl rfl (by decide) (va_runS (As := [.ref a_r0, .int x1, .int x2]) (rest := []) ⟨hx, hb, hml, hown, hts⟩ (c_X6_neighbourOf (l := l) G cy a_r0 s.heap.size g_r0 x1 x2  r_3 hh_r_3) (va_cwS 3 hts gX6_ownerOf_X6_neighbourOf rfl rfl rfl ddN_X6_neighbourOf ⟨Nat.le_of_ble_eq_true rfl, Nat.le_of_ble_eq_true rfl⟩) (preS_ hP hK hD hN) rfl rfl hl.1 rfl (lv_room (Nat.le_of_ble_eq_true rfl)) dX6_ownerOf_17 ⟨Nat.le_of_ble_eq_true rfl, Nat.le_of_ble_eq_true rfl⟩) (fun H locs hP hD hS => ?_)
      have hP : va_P G vwCl [(a_r0, av_J cy 11 g_r0)] H := hP
      have hD : va_D A [(a_r0, av_J cy 11 g_r0)] := hD
      obtain rfl := Option.some.inj hf
      exact kr_i hx hb hr hlocks rfl hP hK hD hN hS hS.2.2 dX6_ownerOf_20
    · have hf := ip_ h_2 hf
      refine lv_iload_n hx hb dX6_ownerOf_10 rfl (lv_at hl 1 rfl) ?_
      refine lv_goto (tgt := 20) hx hb dX6_ownerOf_11 (by decide) ?_
      obtain rfl := Option.some.inj hf
      exact kr_i hx hb hr hlocks rfl hP hK hD hN hS hS.2.2 dX6_ownerOf_20
set_option maxHeartbeats 4000000 in
set_option maxRecDepth 100000 in
theorem c_X6_isScratched {l : Launch} (G : va_G) (cy : Nat → ClassId) (a_r0 : Nat) (sz : Nat) (g_r0 : Nat → Int64) (x1 : Int32) (x2 : Int32)  (R : Bool) (hf : f_X6_isScratched g_r0 x1 x2 = some R) : Met l yX6_isScratched wsX6_isScratched ({ frames := 3, cells := 0, slots := 0, locals := 71 } : Room) (va_Pc [.ref a_r0, .int x1, .int x2] (pcW G cy [(a_r0, av_J cy 11 g_r0)] sz)) (va_Qi (fun r (_ : Unit) => r = bI R) (fun _ t => Wd G cy (va_A [(a_r0, av_J cy 11 g_r0)] sz) [(a_r0, av_J cy 11 g_r0)] t) (va_A [(a_r0, av_J cy 11 g_r0)] sz)) 0 0 (va_A [(a_r0, av_J cy 11 g_r0)] sz) := by
  refine Met.ofW (cc := cX6_isScratched) (maxL := 3) (ret := (some .boolean)) (by decide) rfl ?_
  intro p e s m args below meth c s₁ B hml hv
  obtain ⟨rfl, hsz, hP, hK, hD0, hN⟩ := hv
  have hx := B.exec
  have hb := B.bytes
  have hr := B.returns
  have hts := atoms_spec (ws := wsX6_isScratched) B.pre
  have hown : s.vm.findClass RX6 = some m.cls := findClass_of_methodNamed B.named
  have hlocks := B.notSynchronized
  subst hsz
  have hD := hD0.self (sz := s.heap.size)
  generalize hAe : va_A [(a_r0, av_J cy 11 g_r0)] s.heap.size = A at hD ⊢
  have hA : ∀ q : Nat, s.heap.size ≤ q → A q := fun q h => by rw [← hAe]; exact Or.inr h
  have hS : va_S A s.heap s.heap [] := va_S.rf
  have hP : va_P G vwCl [(a_r0, av_J cy 11 g_r0)] s.heap := hP
  have hl := lv_entry [.ref a_r0, .int x1, .int x2] (n := 3) (Nat.le_of_ble_eq_true rfl)
  rw [lg_entry_eq]
  generalize (lg_sl [.ref a_r0, .int x1, .int x2] ++ List.replicate (3 - (lg_sl [.ref a_r0, .int x1, .int x2]).length) Slot.unset).toArray = ls at hl ⊢
  have hl : lv_has ls 3 [(0, .ref a_r0), (1, .int x1), (2, .int x2)] := hl
  unfold f_X6_isScratched at hf
  refine lv_aload_n hx hb dX6_isScratched_0 rfl (lv_at hl 0 rfl) ?_
  refine lv_iload_n hx hb dX6_isScratched_1 rfl (lv_at hl 1 rfl) ?_
  refine lv_iload_n hx hb dX6_isScratched_2 rfl (lv_at hl 2 rfl) ?_
  obtain ⟨r_1, hh_r_1, hf⟩ := obd_some hf
  refine kc_i (w1 := [(a_r0, av_J cy 11 g_r0)]) (wr := []) hP hD hS hA [0] [] rfl rfl rfl (by decide) (va_runS (As := [.ref a_r0, .int x1, .int x2]) (rest := []) ⟨hx, hb, hml, hown, hts⟩ (c_X6_neighbourOf (l := l) G cy a_r0 s.heap.size g_r0 x1 x2  r_1 hh_r_1) (va_cwS 3 hts gX6_isScratched_X6_neighbourOf rfl rfl rfl ddN_X6_neighbourOf ⟨Nat.le_of_ble_eq_true rfl, Nat.le_of_ble_eq_true rfl⟩) (preS_ hP hK hD hN) rfl rfl hl.1 rfl (lv_room (Nat.le_of_ble_eq_true rfl)) dX6_isScratched_3 ⟨Nat.le_of_ble_eq_true rfl, Nat.le_of_ble_eq_true rfl⟩) (fun H locs hP hD hS => ?_)
  have hP : va_P G vwCl [(a_r0, av_J cy 11 g_r0)] H := hP
  have hD : va_D A [(a_r0, av_J cy 11 g_r0)] := hD
  refine lv_iconst (v := (-1)) hx hb dX6_isScratched_6 (by decide) ?_
  refine lv_icmp_eq (tgt := 32) hx hb dX6_isScratched_7 (by decide) (fun h_2 => ?_) (fun h_2 => ?_)
  · have hf := ip_ h_2 hf
    refine lv_iconst (v := 0) hx hb dX6_isScratched_32 (by decide) ?_
    obtain rfl := Option.some.inj hf
    exact kr_z (V := bI false) hx hb hr hlocks (bI_nar _) rfl hP hK hD hN hS hS.2.2 dX6_isScratched_33
  · have hf := in_ h_2 hf
    refine lv_aload_n hx hb dX6_isScratched_10 rfl (lv_at hl 0 rfl) ?_
    refine lv_iload_n hx hb dX6_isScratched_11 rfl (lv_at hl 2 rfl) ?_
    refine kc_i (w1 := []) (wr := [(a_r0, av_J cy 11 g_r0)]) hP hD hS hA [] [0] rfl rfl rfl (by decide) (va_runS (As := [.int x2]) (rest := [.ref a_r0]) ⟨hx, hb, hml, hown, hts⟩ (c_X6_kindOf (l := l) G cy  H.size x2  (f_X6_kindOf x2) rfl) (va_cwS 1 hts gX6_isScratched_X6_kindOf rfl rfl rfl ddN_X6_kindOf ⟨Nat.le_of_ble_eq_true rfl, Nat.le_of_ble_eq_true rfl⟩) (preS_ (hP.sub (ws' := []) [] rfl) hK (hD.sub (ws' := []) [] rfl rfl) hN) rfl rfl hl.1 rfl (lv_room (Nat.le_of_ble_eq_true rfl)) dX6_isScratched_12 ⟨Nat.le_of_ble_eq_true rfl, Nat.le_of_ble_eq_true rfl⟩) (fun H locs hP hD hS => ?_)
    have hP : va_P G vwCl [(a_r0, av_J cy 11 g_r0)] H := hP
    have hD : va_D A [(a_r0, av_J cy 11 g_r0)] := hD
    by_cases q_3 : (f_X6_kindOf x2) < 0 ∨ 11 ≤ (f_X6_kindOf x2).toNatClampNeg
    · have hf := ip_ q_3 hf; cases hf
    have hf := in_ q_3 hf
    refine vz_lald rfl hx hb hK hP 0 2 rfl rfl (vin q_3) dX6_isScratched_15 ?_
    refine lv_aload_n hx hb dX6_isScratched_16 rfl (lv_at hl 0 rfl) ?_
    refine lv_iload_n hx hb dX6_isScratched_17 rfl (lv_at hl 1 rfl) ?_
    refine lv_iload_n hx hb dX6_isScratched_18 rfl (lv_at hl 2 rfl) ?_
    obtain ⟨r_4, hh_r_4, hf⟩ := obd_some hf
    refine kc_i (w1 := [(a_r0, av_J cy 11 g_r0)]) (wr := []) hP hD hS hA [0] [] rfl rfl rfl (by decide) (va_runS (As := [.ref a_r0, .int x1, .int x2]) (rest := [.long (g_r0 (f_X6_kindOf x2).toNatClampNeg)]) ⟨hx, hb, hml, hown, hts⟩ (c_X6_ownerOf (l := l) G cy a_r0 H.size g_r0 x1 x2  r_4 hh_r_4) (va_cwS 3 hts gX6_isScratched_X6_ownerOf rfl rfl rfl ddN_X6_ownerOf ⟨Nat.le_of_ble_eq_true rfl, Nat.le_of_ble_eq_true rfl⟩) (preS_ hP hK hD hN) rfl rfl hl.1 rfl (lv_room (Nat.le_of_ble_eq_true rfl)) dX6_isScratched_19 ⟨Nat.le_of_ble_eq_true rfl, Nat.le_of_ble_eq_true rfl⟩) (fun H locs hP hD hS => ?_)
    have hP : va_P G vwCl [(a_r0, av_J cy 11 g_r0)] H := hP
    have hD : va_D A [(a_r0, av_J cy 11 g_r0)] := hD
    refine kc_i (w1 := []) (wr := [(a_r0, av_J cy 11 g_r0)]) hP hD hS hA [] [0] rfl rfl rfl (by decide) (va_runS (As := [.long (g_r0 (f_X6_kindOf x2).toNatClampNeg), .int r_4]) (rest := []) ⟨hx, hb, hml, hown, hts⟩ (c_X6_has (l := l) G cy  H.size (g_r0 (f_X6_kindOf x2).toNatClampNeg) r_4  (f_X6_has (g_r0 (f_X6_kindOf x2).toNatClampNeg) r_4) rfl) (va_cwS 2 hts gX6_isScratched_X6_has rfl rfl rfl ddN_X6_has ⟨Nat.le_of_ble_eq_true rfl, Nat.le_of_ble_eq_true rfl⟩) (preS_ (hP.sub (ws' := []) [] rfl) hK (hD.sub (ws' := []) [] rfl rfl) hN) rfl rfl hl.1 rfl (lv_room (Nat.le_of_ble_eq_true rfl)) dX6_isScratched_22 ⟨Nat.le_of_ble_eq_true rfl, Nat.le_of_ble_eq_true rfl⟩) (fun H locs hP hD hS => ?_)
    have hP : va_P G vwCl [(a_r0, av_J cy 11 g_r0)] H := hP
    have hD : va_D A [(a_r0, av_J cy 11 g_r0)] := hD
    refine lv_if_eq (tgt := 32) hx hb dX6_isScratched_25 (by decide) (fun h_5 => ?_) (fun h_5 => ?_)
    · have hf := in_ (bI_0 h_5) hf
      refine lv_iconst (v := 0) hx hb dX6_isScratched_32 (by decide) ?_
      obtain rfl := Option.some.inj hf
      exact kr_z (V := bI false) hx hb hr hlocks (bI_nar _) rfl hP hK hD hN hS hS.2.2 dX6_isScratched_33
    · have hf := ip_ (bI_n0 h_5) hf
      refine lv_iconst (v := 1) hx hb dX6_isScratched_28 (by decide) ?_
      refine lv_goto (tgt := 33) hx hb dX6_isScratched_29 (by decide) ?_
      obtain rfl := Option.some.inj hf
      exact kr_z (V := bI true) hx hb hr hlocks (bI_nar _) rfl hP hK hD hN hS hS.2.2 dX6_isScratched_33
set_option maxHeartbeats 4000000 in
set_option maxRecDepth 100000 in
theorem c_X6_next {l : Launch} (G : va_G) (cy : Nat → ClassId) (a_r0 : Nat) (sz : Nat) (g_r0 : Nat → Int64) (x1 : Int32) (x2 : Int32)  (R : Int32) (hf : f_X6_next g_r0 x1 x2 = some R) : Met l yX6_next wsX6_next ({ frames := 4, cells := 0, slots := 0, locals := 93 } : Room) (va_Pc [.ref a_r0, .int x1, .int x2] (pcW G cy [(a_r0, av_J cy 11 g_r0)] sz)) (va_Qi (fun r (_ : Unit) => r = R) (fun _ t => Wd G cy (va_A [(a_r0, av_J cy 11 g_r0)] sz) [(a_r0, av_J cy 11 g_r0)] t) (va_A [(a_r0, av_J cy 11 g_r0)] sz)) 0 0 (va_A [(a_r0, av_J cy 11 g_r0)] sz) := by
  refine Met.ofW (cc := cX6_next) (maxL := 3) (ret := (some .int)) (by decide) rfl ?_
  intro p e s m args below meth c s₁ B hml hv
  obtain ⟨rfl, hsz, hP, hK, hD0, hN⟩ := hv
  have hx := B.exec
  have hb := B.bytes
  have hr := B.returns
  have hts := atoms_spec (ws := wsX6_next) B.pre
  have hown : s.vm.findClass RX6 = some m.cls := findClass_of_methodNamed B.named
  have hlocks := B.notSynchronized
  subst hsz
  have hD := hD0.self (sz := s.heap.size)
  generalize hAe : va_A [(a_r0, av_J cy 11 g_r0)] s.heap.size = A at hD ⊢
  have hA : ∀ q : Nat, s.heap.size ≤ q → A q := fun q h => by rw [← hAe]; exact Or.inr h
  have hS : va_S A s.heap s.heap [] := va_S.rf
  have hP : va_P G vwCl [(a_r0, av_J cy 11 g_r0)] s.heap := hP
  have hl := lv_entry [.ref a_r0, .int x1, .int x2] (n := 3) (Nat.le_of_ble_eq_true rfl)
  rw [lg_entry_eq]
  generalize (lg_sl [.ref a_r0, .int x1, .int x2] ++ List.replicate (3 - (lg_sl [.ref a_r0, .int x1, .int x2]).length) Slot.unset).toArray = ls at hl ⊢
  have hl : lv_has ls 3 [(0, .ref a_r0), (1, .int x1), (2, .int x2)] := hl
  unfold f_X6_next at hf
  refine lv_aload_n hx hb dX6_next_0 rfl (lv_at hl 0 rfl) ?_
  refine lv_iload_n hx hb dX6_next_1 rfl (lv_at hl 1 rfl) ?_
  refine lv_iload_n hx hb dX6_next_2 rfl (lv_at hl 2 rfl) ?_
  obtain ⟨r_1, hh_r_1, hf⟩ := obd_some hf
  refine kc_i (w1 := [(a_r0, av_J cy 11 g_r0)]) (wr := []) hP hD hS hA [0] [] rfl rfl rfl (by decide) (va_runS (As := [.ref a_r0, .int x1, .int x2]) (rest := []) ⟨hx, hb, hml, hown, hts⟩ (c_X6_isScratched (l := l) G cy a_r0 s.heap.size g_r0 x1 x2  r_1 hh_r_1) (va_cwS 3 hts gX6_next_X6_isScratched rfl rfl rfl ddN_X6_isScratched ⟨Nat.le_of_ble_eq_true rfl, Nat.le_of_ble_eq_true rfl⟩) (preS_ hP hK hD hN) rfl rfl hl.1 rfl (lv_room (Nat.le_of_ble_eq_true rfl)) dX6_next_3 ⟨Nat.le_of_ble_eq_true rfl, Nat.le_of_ble_eq_true rfl⟩) (fun H locs hP hD hS => ?_)
  have hP : va_P G vwCl [(a_r0, av_J cy 11 g_r0)] H := hP
  have hD : va_D A [(a_r0, av_J cy 11 g_r0)] := hD
  refine lv_if_eq (tgt := 13) hx hb dX6_next_6 (by decide) (fun h_2 => ?_) (fun h_2 => ?_)
  · have hf := in_ (bI_0 h_2) hf
    refine lv_aload_n hx hb dX6_next_13 rfl (lv_at hl 0 rfl) ?_
    refine lv_iload_n hx hb dX6_next_14 rfl (lv_at hl 1 rfl) ?_
    refine lv_iload_n hx hb dX6_next_15 rfl (lv_at hl 2 rfl) ?_
    obtain ⟨r_3, hh_r_3, hf⟩ := obd_some hf
    refine kc_i (w1 := [(a_r0, av_J cy 11 g_r0)]) (wr := []) hP hD hS hA [0] [] rfl rfl rfl (by decide) (va_runS (As := [.ref a_r0, .int x1, .int x2]) (rest := []) ⟨hx, hb, hml, hown, hts⟩ (c_X6_neighbourOf (l := l) G cy a_r0 H.size g_r0 x1 x2  r_3 hh_r_3) (va_cwS 3 hts gX6_next_X6_neighbourOf rfl rfl rfl ddN_X6_neighbourOf ⟨Nat.le_of_ble_eq_true rfl, Nat.le_of_ble_eq_true rfl⟩) (preS_ hP hK hD hN) rfl rfl hl.1 rfl (lv_room (Nat.le_of_ble_eq_true rfl)) dX6_next_16 ⟨Nat.le_of_ble_eq_true rfl, Nat.le_of_ble_eq_true rfl⟩) (fun H locs hP hD hS => ?_)
    have hP : va_P G vwCl [(a_r0, av_J cy 11 g_r0)] H := hP
    have hD : va_D A [(a_r0, av_J cy 11 g_r0)] := hD
    obtain rfl := Option.some.inj hf
    exact kr_i hx hb hr hlocks rfl hP hK hD hN hS hS.2.2 dX6_next_19
  · have hf := ip_ (bI_n0 h_2) hf
    refine lv_iconst (v := (-1)) hx hb dX6_next_9 (by decide) ?_
    refine lv_goto (tgt := 19) hx hb dX6_next_10 (by decide) ?_
    obtain rfl := Option.some.inj hf
    exact kr_i hx hb hr hlocks rfl hP hK hD hN hS hS.2.2 dX6_next_19
set_option maxHeartbeats 4000000 in
set_option maxRecDepth 100000 in
theorem c_X6_cold {l : Launch} (G : va_G) (cy : Nat → ClassId) (a_r0 : Nat) (sz : Nat) (g_r0 : Nat → Int64) (x1 : Int32) (n : Nat) (R : Int32) (hf : f_X6_cold n g_r0 x1 = some R) : Met l yX6_cold wsX6_cold ({ frames := 5, cells := 0, slots := 0, locals := 115 } : Room) (va_Pc [.ref a_r0, .int x1] (pcW G cy [(a_r0, av_J cy 11 g_r0)] sz)) (va_Qi (fun r (_ : Unit) => r = R) (fun _ t => Wd G cy (va_A [(a_r0, av_J cy 11 g_r0)] sz) [(a_r0, av_J cy 11 g_r0)] t) (va_A [(a_r0, av_J cy 11 g_r0)] sz)) 0 0 (va_A [(a_r0, av_J cy 11 g_r0)] sz) := by
  refine Met.ofW (cc := cX6_cold) (maxL := 5) (ret := (some .int)) (by decide) rfl ?_
  intro p e s m args below meth c s₁ B hml hv
  obtain ⟨rfl, hsz, hP, hK, hD0, hN⟩ := hv
  have hx := B.exec
  have hb := B.bytes
  have hr := B.returns
  have hts := atoms_spec (ws := wsX6_cold) B.pre
  have hown : s.vm.findClass RX6 = some m.cls := findClass_of_methodNamed B.named
  have hlocks := B.notSynchronized
  subst hsz
  have hD := hD0.self (sz := s.heap.size)
  generalize hAe : va_A [(a_r0, av_J cy 11 g_r0)] s.heap.size = A at hD ⊢
  have hA : ∀ q : Nat, s.heap.size ≤ q → A q := fun q h => by rw [← hAe]; exact Or.inr h
  have hS : va_S A s.heap s.heap [] := va_S.rf
  have hP : va_P G vwCl [(a_r0, av_J cy 11 g_r0)] s.heap := hP
  have bl_4 : ∀ (y1 : Int32), ∀ (k : Nat), ∀ (y2 : Int32) (y3 : Int32) (H : Heap) (locs : List Loc), f_X6_cold_b4 n g_r0 y1 k y2 y3 = some R → va_P G vwCl [(a_r0, av_J cy 11 g_r0)] H → va_D A [(a_r0, av_J cy 11 g_r0)] → va_S A s.heap H locs → ∀ (ls : Array Slot), lv_has ls 5 [(0, .ref a_r0), (1, .int y1), (2, .int y2), (3, .int y3)] → W p l e ({ frames := 5, cells := 0, slots := 0, locals := 115 } : Room) s m [.ref a_r0, .int x1].toArray below meth c H locs 0 0 (MQ below (va_Qi (fun r (_ : Unit) => r = R) (fun _ t => Wd G cy A [(a_r0, av_J cy 11 g_r0)] t) A) [.ref a_r0, .int x1].toArray s 0 0 A) (F0 m 4 ls []) := by
    intro y1
    intro k
    induction k with
    | zero =>
      intro y2 y3 H locs hf; cases hf
    | succ k ih =>
      intro y2 y3 H locs hf hP hD hS ls hl
      have hf := (f_X6_cold_b4_s n g_r0 y1 k y2 y3).symm.trans hf
      refine lv_iload_n hx hb dX6_cold_4 rfl (lv_at hl 3 rfl) ?_
      refine lv_iconst (v := 4) hx hb dX6_cold_5 (by decide) ?_
      refine lv_icmp_ge (tgt := 58) hx hb dX6_cold_6 (by decide) (fun h_1 => ?_) (fun h_1 => ?_)
      · have hf := ip_ h_1 hf
        refine lv_iload_n hx hb dX6_cold_58 rfl (lv_at hl 2 rfl) ?_
        obtain rfl := Option.some.inj hf
        exact kr_i hx hb hr hlocks rfl hP hK hD hN hS hS.2.2 dX6_cold_59
      · have hf := in_ h_1 hf
        refine lv_aload_n hx hb dX6_cold_9 rfl (lv_at hl 0 rfl) ?_
        refine lv_iload_n hx hb dX6_cold_10 rfl (lv_at hl 1 rfl) ?_
        refine lv_iload_n hx hb dX6_cold_11 rfl (lv_at hl 3 rfl) ?_
        obtain ⟨r_2, hh_r_2, hf⟩ := obd_some hf
        refine kc_i (w1 := [(a_r0, av_J cy 11 g_r0)]) (wr := []) hP hD hS hA [0] [] rfl rfl rfl (by decide) (va_runS (As := [.ref a_r0, .int y1, .int y3]) (rest := []) ⟨hx, hb, hml, hown, hts⟩ (c_X6_next (l := l) G cy a_r0 H.size g_r0 y1 y3  r_2 hh_r_2) (va_cwS 3 hts gX6_cold_X6_next rfl rfl rfl ddN_X6_next ⟨Nat.le_of_ble_eq_true rfl, Nat.le_of_ble_eq_true rfl⟩) (preS_ hP hK hD hN) rfl rfl hl.1 rfl (lv_room (Nat.le_of_ble_eq_true rfl)) dX6_cold_12 ⟨Nat.le_of_ble_eq_true rfl, Nat.le_of_ble_eq_true rfl⟩) (fun H locs hP hD hS => ?_)
        have hP : va_P G vwCl [(a_r0, av_J cy 11 g_r0)] H := hP
        have hD : va_D A [(a_r0, av_J cy 11 g_r0)] := hD
        refine lv_istore (lv' := [(4, .int r_2), (0, .ref a_r0), (1, .int y1), (2, .int y2), (3, .int y3)]) hx hb dX6_cold_15 hl (by decide) rfl (fun ls hl => ?_)
        refine lv_iload_n hx hb dX6_cold_17 rfl (lv_at hl 3 rfl) ?_
        refine lv_aload_n hx hb dX6_cold_18 rfl (lv_at hl 1 rfl) ?_
        refine lv_iload_n hx hb dX6_cold_19 rfl (lv_at hl 2 rfl) ?_
        refine lv_iload_n hx hb dX6_cold_20 rfl (lv_at hl 4 rfl) ?_
        obtain ⟨r_3, hh_r_3, hf⟩ := obd_some hf
        refine kc_i (w1 := [(a_r0, av_J cy 11 g_r0)]) (wr := []) hP hD hS hA [0] [] rfl rfl rfl (by decide) (va_runS (As := [.ref a_r0, .int y1, .int y3]) (rest := [.int y2]) ⟨hx, hb, hml, hown, hts⟩ (c_X6_isIce (l := l) G cy a_r0 H.size g_r0 y1 y3  r_3 hh_r_3) (va_cwS 3 hts gX6_cold_X6_isIce rfl rfl rfl ddN_X6_isIce ⟨Nat.le_of_ble_eq_true rfl, Nat.le_of_ble_eq_true rfl⟩) (preS_ hP hK hD hN) rfl rfl hl.1 rfl (lv_room (Nat.le_of_ble_eq_true rfl)) dX6_cold_21 ⟨Nat.le_of_ble_eq_true rfl, Nat.le_of_ble_eq_true rfl⟩) (fun H locs hP hD hS => ?_)
        have hP : va_P G vwCl [(a_r0, av_J cy 11 g_r0)] H := hP
        have hD : va_D A [(a_r0, av_J cy 11 g_r0)] := hD
        refine lv_if_ne (tgt := 45) hx hb dX6_cold_24 (by decide) (fun h_4 => ?_) (fun h_4 => ?_)
        · have hf := ip_ (bI_n0 h_4) hf
          refine lv_iconst (v := 1) hx hb dX6_cold_45 (by decide) ?_
          refine lv_goto (tgt := 50) hx hb dX6_cold_46 (by decide) ?_
          refine lv_iadd hx hb dX6_cold_50 ?_
          refine lv_istore_n (lv' := [(2, .int (y2 + 1)), (4, .int r_2), (0, .ref a_r0), (1, .int y1), (3, .int y3)]) hx hb dX6_cold_51 rfl hl (by decide) rfl (fun ls hl => ?_)
          refine lv_iinc (v := (y3 + 1)) (lv' := [(3, .int (y3 + 1)), (2, .int (y2 + 1)), (4, .int r_2), (0, .ref a_r0), (1, .int y1)]) hx hb dX6_cold_52 hl (k := 4) rfl rfl (by decide) rfl (fun ls hl => ?_)
          refine lv_goto (tgt := 4) hx hb dX6_cold_55 (by decide) ?_
          exact ih (y2 + 1) (y3 + 1) _ _ hf hP hD hS ls (lv_sub hl [3, 4, 1, 0] rfl)
        · have hf := in_ (bI_0 h_4) hf
          refine lv_iload hx hb dX6_cold_27 (lv_at hl 0 rfl) ?_
          refine lv_iconst (v := (-1)) hx hb dX6_cold_29 (by decide) ?_
          refine lv_icmp_eq (tgt := 49) hx hb dX6_cold_30 (by decide) (fun h_5 => ?_) (fun h_5 => ?_)
          · have hf := ip_ h_5 hf
            refine lv_iconst (v := 0) hx hb dX6_cold_49 (by decide) ?_
            refine lv_iadd hx hb dX6_cold_50 ?_
            refine lv_istore_n (lv' := [(2, .int (y2 + 0)), (4, .int r_2), (0, .ref a_r0), (1, .int y1), (3, .int y3)]) hx hb dX6_cold_51 rfl hl (by decide) rfl (fun ls hl => ?_)
            refine lv_iinc (v := (y3 + 1)) (lv' := [(3, .int (y3 + 1)), (2, .int (y2 + 0)), (4, .int r_2), (0, .ref a_r0), (1, .int y1)]) hx hb dX6_cold_52 hl (k := 4) rfl rfl (by decide) rfl (fun ls hl => ?_)
            refine lv_goto (tgt := 4) hx hb dX6_cold_55 (by decide) ?_
            exact ih (y2 + 0) (y3 + 1) _ _ hf hP hD hS ls (lv_sub hl [3, 4, 1, 0] rfl)
          · have hf := in_ h_5 hf
            refine lv_aload_n hx hb dX6_cold_33 rfl (lv_at hl 1 rfl) ?_
            refine lv_bipush (v := 8) hx hb dX6_cold_34 (by decide) ?_
            refine vz_lald tn_8 hx hb hK hP 0 2 rfl rfl vn_8_11 dX6_cold_36 ?_
            refine lv_iload hx hb dX6_cold_37 (lv_at hl 0 rfl) ?_
            refine kc_i (w1 := []) (wr := [(a_r0, av_J cy 11 g_r0)]) hP hD hS hA [] [0] rfl rfl rfl (by decide) (va_runS (As := [.long (g_r0 8), .int r_2]) (rest := [.int y2]) ⟨hx, hb, hml, hown, hts⟩ (c_X6_has (l := l) G cy  H.size (g_r0 8) r_2  (f_X6_has (g_r0 8) r_2) rfl) (va_cwS 2 hts gX6_cold_X6_has rfl rfl rfl ddN_X6_has ⟨Nat.le_of_ble_eq_true rfl, Nat.le_of_ble_eq_true rfl⟩) (preS_ (hP.sub (ws' := []) [] rfl) hK (hD.sub (ws' := []) [] rfl rfl) hN) rfl rfl hl.1 rfl (lv_room (Nat.le_of_ble_eq_true rfl)) dX6_cold_39 ⟨Nat.le_of_ble_eq_true rfl, Nat.le_of_ble_eq_true rfl⟩) (fun H locs hP hD hS => ?_)
            have hP : va_P G vwCl [(a_r0, av_J cy 11 g_r0)] H := hP
            have hD : va_D A [(a_r0, av_J cy 11 g_r0)] := hD
            refine lv_if_eq (tgt := 49) hx hb dX6_cold_42 (by decide) (fun h_6 => ?_) (fun h_6 => ?_)
            · have hf := in_ (bI_0 h_6) hf
              refine lv_iconst (v := 0) hx hb dX6_cold_49 (by decide) ?_
              refine lv_iadd hx hb dX6_cold_50 ?_
              refine lv_istore_n (lv' := [(2, .int (y2 + 0)), (4, .int r_2), (0, .ref a_r0), (1, .int y1), (3, .int y3)]) hx hb dX6_cold_51 rfl hl (by decide) rfl (fun ls hl => ?_)
              refine lv_iinc (v := (y3 + 1)) (lv' := [(3, .int (y3 + 1)), (2, .int (y2 + 0)), (4, .int r_2), (0, .ref a_r0), (1, .int y1)]) hx hb dX6_cold_52 hl (k := 4) rfl rfl (by decide) rfl (fun ls hl => ?_)
              refine lv_goto (tgt := 4) hx hb dX6_cold_55 (by decide) ?_
              exact ih (y2 + 0) (y3 + 1) _ _ hf hP hD hS ls (lv_sub hl [3, 4, 1, 0] rfl)
            · have hf := ip_ (bI_n0 h_6) hf
              refine lv_iconst (v := 1) hx hb dX6_cold_45 (by decide) ?_
              refine lv_goto (tgt := 50) hx hb dX6_cold_46 (by decide) ?_
              refine lv_iadd hx hb dX6_cold_50 ?_
              refine lv_istore_n (lv' := [(2, .int (y2 + 1)), (4, .int r_2), (0, .ref a_r0), (1, .int y1), (3, .int y3)]) hx hb dX6_cold_51 rfl hl (by decide) rfl (fun ls hl => ?_)
              refine lv_iinc (v := (y3 + 1)) (lv' := [(3, .int (y3 + 1)), (2, .int (y2 + 1)), (4, .int r_2), (0, .ref a_r0), (1, .int y1)]) hx hb dX6_cold_52 hl (k := 4) rfl rfl (by decide) rfl (fun ls hl => ?_)
              refine lv_goto (tgt := 4) hx hb dX6_cold_55 (by decide) ?_
              exact ih (y2 + 1) (y3 + 1) _ _ hf hP hD hS ls (lv_sub hl [3, 4, 1, 0] rfl)
  have hl := lv_entry [.ref a_r0, .int x1] (n := 5) (Nat.le_of_ble_eq_true rfl)
  rw [lg_entry_eq]
  generalize (lg_sl [.ref a_r0, .int x1] ++ List.replicate (5 - (lg_sl [.ref a_r0, .int x1]).length) Slot.unset).toArray = ls at hl ⊢
  have hl : lv_has ls 5 [(0, .ref a_r0), (1, .int x1)] := hl
  unfold f_X6_cold at hf
  refine lv_iconst (v := 0) hx hb dX6_cold_0 (by decide) ?_
  refine lv_istore_n (lv' := [(2, .int 0), (0, .ref a_r0), (1, .int x1)]) hx hb dX6_cold_1 rfl hl (by decide) rfl (fun ls hl => ?_)
  refine lv_iconst (v := 0) hx hb dX6_cold_2 (by decide) ?_
  refine lv_istore_n (lv' := [(3, .int 0), (2, .int 0), (0, .ref a_r0), (1, .int x1)]) hx hb dX6_cold_3 rfl hl (by decide) rfl (fun ls hl => ?_)
  exact bl_4 x1 n 0 0 _ _ hf hP hD hS ls (lv_sub hl [2, 3, 1, 0] rfl)
set_option maxHeartbeats 4000000 in
set_option maxRecDepth 100000 in
theorem c_X6_nightOn {l : Launch} (G : va_G) (cy : Nat → ClassId) (a_r0 : Nat) (sz : Nat) (g_r0 : Nat → Int64) (n : Nat) (R : (Nat → Int64)) (hf : f_X6_nightOn n g_r0 = some R) : Met l yX6_nightOn wsX6_nightOn ({ frames := 6, cells := 0, slots := 0, locals := 139 } : Room) (va_Pc [.ref a_r0] (pcW G cy [(a_r0, av_J cy 11 g_r0)] sz)) (va_Qv (fun _ : Unit => True) (fun _ t => Wd G cy (va_A [(a_r0, av_J cy 11 g_r0)] sz) [(a_r0, av_J cy 11 R)] t) (va_A [(a_r0, av_J cy 11 g_r0)] sz)) 0 0 (va_A [(a_r0, av_J cy 11 g_r0)] sz) := by
  refine Met.ofW (cc := cX6_nightOn) (maxL := 8) (ret := none) (by decide) rfl ?_
  intro p e s m args below meth c s₁ B hml hv
  obtain ⟨rfl, hsz, hP, hK, hD0, hN⟩ := hv
  have hx := B.exec
  have hb := B.bytes
  have hr := B.returns
  have hts := atoms_spec (ws := wsX6_nightOn) B.pre
  have hown : s.vm.findClass RX6 = some m.cls := findClass_of_methodNamed B.named
  have hlocks := B.notSynchronized
  subst hsz
  have hD := hD0.self (sz := s.heap.size)
  generalize hAe : va_A [(a_r0, av_J cy 11 g_r0)] s.heap.size = A at hD ⊢
  have hA : ∀ q : Nat, s.heap.size ≤ q → A q := fun q h => by rw [← hAe]; exact Or.inr h
  have hS : va_S A s.heap s.heap [] := va_S.rf
  have hP : va_P G vwCl [(a_r0, av_J cy 11 g_r0)] s.heap := hP
  have bl_97 : ∀ (y3 : Int32), ∀ (K10 : (Nat → Int64) → Int64 → Int32 → Option ((Nat → Int64))), (∀ (c_g_r0 : Nat → Int64) (y1 : Int64) (y4 : Int32) (H : Heap) (locs : List Loc), K10 c_g_r0 y1 y4 = some R → va_P G vwCl [(a_r0, av_J cy 11 c_g_r0)] H → va_D A [(a_r0, av_J cy 11 c_g_r0)] → va_S A s.heap H locs → ∀ (ls : Array Slot), lv_has ls 8 [(0, .ref a_r0), (1, .long y1), (3, .int y3), (4, .int y4)] → W p l e ({ frames := 6, cells := 0, slots := 0, locals := 139 } : Room) s m [.ref a_r0].toArray below meth c H locs 0 0 (MQ below (va_Qv (fun _ : Unit => True) (fun _ t => Wd G cy A [(a_r0, av_J cy 11 R)] t) A) [.ref a_r0].toArray s 0 0 A) (F0 m 10 ls [])) → ∀ (c_g_r0 : Nat → Int64) (y1 : Int64) (y4 : Int32) (z0 : Int32) (H : Heap) (locs : List Loc), f_X6_nightOn_b97 n y3 K10 c_g_r0 y1 y4 z0 = some R → va_P G vwCl [(a_r0, av_J cy 11 c_g_r0)] H → va_D A [(a_r0, av_J cy 11 c_g_r0)] → va_S A s.heap H locs → ∀ (ls : Array Slot), lv_has ls 8 [(0, .ref a_r0), (1, .long y1), (3, .int y3), (4, .int y4)] → W p l e ({ frames := 6, cells := 0, slots := 0, locals := 139 } : Room) s m [.ref a_r0].toArray below meth c H locs 0 0 (MQ below (va_Qv (fun _ : Unit => True) (fun _ t => Wd G cy A [(a_r0, av_J cy 11 R)] t) A) [.ref a_r0].toArray s 0 0 A) (F0 m 97 ls [.int z0]) := by
    intro y3
    intro K10 hK10
    intro c_g_r0 y1 y4 z0 H locs hf hP hD hS ls hl
    unfold f_X6_nightOn_b97 at hf
    refine lv_istore (lv' := [(7, .int z0), (0, .ref a_r0), (1, .long y1), (3, .int y3), (4, .int y4)]) hx hb dX6_nightOn_97 hl (by decide) rfl (fun ls hl => ?_)
    refine lv_lload_n hx hb dX6_nightOn_99 rfl (lv_at hl 2 rfl) ?_
    refine lv_iload hx hb dX6_nightOn_100 (lv_at hl 0 rfl) ?_
    refine lv_if_eq (tgt := 112) hx hb dX6_nightOn_102 (by decide) (fun h_1 => ?_) (fun h_1 => ?_)
    · have hf := ip_ h_1 hf
      refine lv_lconst (v := 0) hx hb dX6_nightOn_112 rfl ?_
      refine lv_lor hx hb dX6_nightOn_113 ?_
      refine lv_lstore_n (lv' := [(1, .long (y1 ||| 0)), (7, .int z0), (0, .ref a_r0), (3, .int y3), (4, .int y4)]) hx hb dX6_nightOn_114 rfl hl (by decide) rfl (fun ls hl => ?_)
      refine lv_iinc (v := (y4 + 1)) (lv' := [(4, .int (y4 + 1)), (1, .long (y1 ||| 0)), (7, .int z0), (0, .ref a_r0), (3, .int y3)]) hx hb dX6_nightOn_115 hl (k := 4) rfl rfl (by decide) rfl (fun ls hl => ?_)
      refine lv_goto (tgt := 10) hx hb dX6_nightOn_118 (by decide) ?_
      exact hK10 c_g_r0 (y1 ||| 0) (y4 + 1) _ _ hf hP hD hS ls (lv_sub hl [3, 1, 4, 0] rfl)
    · have hf := in_ h_1 hf
      refine lv_lconst (v := 1) hx hb dX6_nightOn_105 rfl ?_
      refine lv_iload hx hb dX6_nightOn_106 (lv_at hl 4 rfl) ?_
      refine lv_lshl (v := (jsl 1 y4)) hx hb dX6_nightOn_108 rfl ?_
      refine lv_goto (tgt := 113) hx hb dX6_nightOn_109 (by decide) ?_
      refine lv_lor hx hb dX6_nightOn_113 ?_
      refine lv_lstore_n (lv' := [(1, .long (y1 ||| (jsl 1 y4))), (7, .int z0), (0, .ref a_r0), (3, .int y3), (4, .int y4)]) hx hb dX6_nightOn_114 rfl hl (by decide) rfl (fun ls hl => ?_)
      refine lv_iinc (v := (y4 + 1)) (lv' := [(4, .int (y4 + 1)), (1, .long (y1 ||| (jsl 1 y4))), (7, .int z0), (0, .ref a_r0), (3, .int y3)]) hx hb dX6_nightOn_115 hl (k := 4) rfl rfl (by decide) rfl (fun ls hl => ?_)
      refine lv_goto (tgt := 10) hx hb dX6_nightOn_118 (by decide) ?_
      exact hK10 c_g_r0 (y1 ||| (jsl 1 y4)) (y4 + 1) _ _ hf hP hD hS ls (lv_sub hl [3, 1, 4, 0] rfl)
  have bl_33 : ∀ (y3 : Int32), ∀ (K10 : (Nat → Int64) → Int64 → Int32 → Option ((Nat → Int64))), (∀ (c_g_r0 : Nat → Int64) (y1 : Int64) (y4 : Int32) (H : Heap) (locs : List Loc), K10 c_g_r0 y1 y4 = some R → va_P G vwCl [(a_r0, av_J cy 11 c_g_r0)] H → va_D A [(a_r0, av_J cy 11 c_g_r0)] → va_S A s.heap H locs → ∀ (ls : Array Slot), lv_has ls 8 [(0, .ref a_r0), (1, .long y1), (3, .int y3), (4, .int y4)] → W p l e ({ frames := 6, cells := 0, slots := 0, locals := 139 } : Room) s m [.ref a_r0].toArray below meth c H locs 0 0 (MQ below (va_Qv (fun _ : Unit => True) (fun _ t => Wd G cy A [(a_r0, av_J cy 11 R)] t) A) [.ref a_r0].toArray s 0 0 A) (F0 m 10 ls [])) → ∀ (c_g_r0 : Nat → Int64) (y1 : Int64) (y4 : Int32) (z0 : Int32) (H : Heap) (locs : List Loc), f_X6_nightOn_b33 n y3 K10 c_g_r0 y1 y4 z0 = some R → va_P G vwCl [(a_r0, av_J cy 11 c_g_r0)] H → va_D A [(a_r0, av_J cy 11 c_g_r0)] → va_S A s.heap H locs → ∀ (ls : Array Slot), lv_has ls 8 [(0, .ref a_r0), (1, .long y1), (3, .int y3), (4, .int y4)] → W p l e ({ frames := 6, cells := 0, slots := 0, locals := 139 } : Room) s m [.ref a_r0].toArray below meth c H locs 0 0 (MQ below (va_Qv (fun _ : Unit => True) (fun _ t => Wd G cy A [(a_r0, av_J cy 11 R)] t) A) [.ref a_r0].toArray s 0 0 A) (F0 m 33 ls [.int z0]) := by
    intro y3
    intro K10 hK10
    intro c_g_r0 y1 y4 z0 H locs hf hP hD hS ls hl
    unfold f_X6_nightOn_b33 at hf
    refine lv_istore (lv' := [(5, .int z0), (0, .ref a_r0), (1, .long y1), (3, .int y3), (4, .int y4)]) hx hb dX6_nightOn_33 hl (by decide) rfl (fun ls hl => ?_)
    refine lv_aload_n hx hb dX6_nightOn_35 rfl (lv_at hl 1 rfl) ?_
    refine lv_bipush (v := 8) hx hb dX6_nightOn_36 (by decide) ?_
    refine vz_lald tn_8 hx hb hK hP 0 2 rfl rfl vn_8_11 dX6_nightOn_38 ?_
    refine lv_iload hx hb dX6_nightOn_39 (lv_at hl 4 rfl) ?_
    refine kc_i (w1 := []) (wr := [(a_r0, av_J cy 11 c_g_r0)]) hP hD hS hA [] [0] rfl rfl rfl (by decide) (va_runS (As := [.long (c_g_r0 8), .int y4]) (rest := []) ⟨hx, hb, hml, hown, hts⟩ (c_X6_has (l := l) G cy  H.size (c_g_r0 8) y4  (f_X6_has (c_g_r0 8) y4) rfl) (va_cwS 2 hts gX6_nightOn_X6_has rfl rfl rfl ddN_X6_has ⟨Nat.le_of_ble_eq_true rfl, Nat.le_of_ble_eq_true rfl⟩) (preS_ (hP.sub (ws' := []) [] rfl) hK (hD.sub (ws' := []) [] rfl rfl) hN) rfl rfl hl.1 rfl (lv_room (Nat.le_of_ble_eq_true rfl)) dX6_nightOn_41 ⟨Nat.le_of_ble_eq_true rfl, Nat.le_of_ble_eq_true rfl⟩) (fun H locs hP hD hS => ?_)
    have hP : va_P G vwCl [(a_r0, av_J cy 11 c_g_r0)] H := hP
    have hD : va_D A [(a_r0, av_J cy 11 c_g_r0)] := hD
    refine lv_istore (lv' := [(6, .int (bI (f_X6_has (c_g_r0 8) y4))), (5, .int z0), (0, .ref a_r0), (1, .long y1), (3, .int y3), (4, .int y4)]) hx hb dX6_nightOn_44 hl (by decide) rfl (fun ls hl => ?_)
    refine lv_aload_n hx hb dX6_nightOn_46 rfl (lv_at hl 2 rfl) ?_
    refine lv_iconst (v := 2) hx hb dX6_nightOn_47 (by decide) ?_
    refine vz_lald tn_2 hx hb hK hP 0 2 rfl rfl vn_2_11 dX6_nightOn_48 ?_
    refine lv_lconst (v := 0) hx hb dX6_nightOn_49 rfl ?_
    refine W.lcmp hx hb dX6_nightOn_50 ?_
    refine lv_if_ne (tgt := 72) hx hb dX6_nightOn_51 (by decide) (fun h_2 => ?_) (fun h_2 => ?_)
    · have hf := in_ (fun q => h_2 (lgc_eq.mpr q)) hf
      refine lv_aload_n hx hb dX6_nightOn_72 rfl (lv_at hl 2 rfl) ?_
      refine lv_iconst (v := 2) hx hb dX6_nightOn_73 (by decide) ?_
      refine vz_lald tn_2 hx hb hK hP 0 2 rfl rfl vn_2_11 dX6_nightOn_74 ?_
      refine lv_lconst (v := 1) hx hb dX6_nightOn_75 rfl ?_
      refine W.lcmp hx hb dX6_nightOn_76 ?_
      refine lv_if_ne (tgt := 85) hx hb dX6_nightOn_77 (by decide) (fun h_3 => ?_) (fun h_3 => ?_)
      · have hf := in_ (fun q => h_3 (lgc_eq.mpr q)) hf
        refine lv_iload hx hb dX6_nightOn_85 (lv_at hl 0 rfl) ?_
        refine lv_iload hx hb dX6_nightOn_87 (lv_at hl 1 rfl) ?_
        refine lv_icmp_eq (tgt := 96) hx hb dX6_nightOn_89 (by decide) (fun h_4 => ?_) (fun h_4 => ?_)
        · have hf := ip_ h_4 hf
          refine lv_iconst (v := 0) hx hb dX6_nightOn_96 (by decide) ?_
          exact bl_97 y3 K10 hK10 c_g_r0 y1 y4 0 _ _ hf hP hD hS ls (lv_sub hl [2, 3, 4, 5] rfl)
        · have hf := in_ h_4 hf
          refine lv_iconst (v := 1) hx hb dX6_nightOn_92 (by decide) ?_
          refine lv_goto (tgt := 97) hx hb dX6_nightOn_93 (by decide) ?_
          exact bl_97 y3 K10 hK10 c_g_r0 y1 y4 1 _ _ hf hP hD hS ls (lv_sub hl [2, 3, 4, 5] rfl)
      · have hf := ip_ (lgc_eq.mp h_3) hf
        refine lv_iload hx hb dX6_nightOn_80 (lv_at hl 1 rfl) ?_
        refine lv_goto (tgt := 97) hx hb dX6_nightOn_82 (by decide) ?_
        exact bl_97 y3 K10 hK10 c_g_r0 y1 y4 z0 _ _ hf hP hD hS ls (lv_sub hl [2, 3, 4, 5] rfl)
    · have hf := ip_ (lgc_eq.mp h_2) hf
      refine lv_iload hx hb dX6_nightOn_54 (lv_at hl 0 rfl) ?_
      refine lv_if_ne (tgt := 64) hx hb dX6_nightOn_56 (by decide) (fun h_5 => ?_) (fun h_5 => ?_)
      · have hf := ip_ (bI_n0 h_5) hf
        refine lv_iconst (v := 1) hx hb dX6_nightOn_64 (by decide) ?_
        refine lv_goto (tgt := 97) hx hb dX6_nightOn_65 (by decide) ?_
        exact bl_97 y3 K10 hK10 c_g_r0 y1 y4 1 _ _ hf hP hD hS ls (lv_sub hl [2, 3, 4, 5] rfl)
      · have hf := in_ (bI_0 h_5) hf
        refine lv_iload hx hb dX6_nightOn_59 (lv_at hl 1 rfl) ?_
        refine lv_if_eq (tgt := 68) hx hb dX6_nightOn_61 (by decide) (fun h_6 => ?_) (fun h_6 => ?_)
        · have hf := ip_ h_6 hf
          refine lv_iconst (v := 0) hx hb dX6_nightOn_68 (by decide) ?_
          refine lv_goto (tgt := 97) hx hb dX6_nightOn_69 (by decide) ?_
          exact bl_97 y3 K10 hK10 c_g_r0 y1 y4 0 _ _ hf hP hD hS ls (lv_sub hl [2, 3, 4, 5] rfl)
        · have hf := in_ h_6 hf
          refine lv_iconst (v := 1) hx hb dX6_nightOn_64 (by decide) ?_
          refine lv_goto (tgt := 97) hx hb dX6_nightOn_65 (by decide) ?_
          exact bl_97 y3 K10 hK10 c_g_r0 y1 y4 1 _ _ hf hP hD hS ls (lv_sub hl [2, 3, 4, 5] rfl)
  have bl_10 : ∀ (y3 : Int32), ∀ (k : Nat), ∀ (c_g_r0 : Nat → Int64) (y1 : Int64) (y4 : Int32) (H : Heap) (locs : List Loc), f_X6_nightOn_b10 n y3 k c_g_r0 y1 y4 = some R → va_P G vwCl [(a_r0, av_J cy 11 c_g_r0)] H → va_D A [(a_r0, av_J cy 11 c_g_r0)] → va_S A s.heap H locs → ∀ (ls : Array Slot), lv_has ls 8 [(0, .ref a_r0), (1, .long y1), (3, .int y3), (4, .int y4)] → W p l e ({ frames := 6, cells := 0, slots := 0, locals := 139 } : Room) s m [.ref a_r0].toArray below meth c H locs 0 0 (MQ below (va_Qv (fun _ : Unit => True) (fun _ t => Wd G cy A [(a_r0, av_J cy 11 R)] t) A) [.ref a_r0].toArray s 0 0 A) (F0 m 10 ls []) := by
    intro y3
    intro k
    induction k with
    | zero =>
      intro c_g_r0 y1 y4 H locs hf; cases hf
    | succ k ih =>
      intro c_g_r0 y1 y4 H locs hf hP hD hS ls hl
      have hf := (f_X6_nightOn_b10_s n y3 k c_g_r0 y1 y4).symm.trans hf
      refine lv_iload hx hb dX6_nightOn_10 (lv_at hl 3 rfl) ?_
      refine lv_iload_n hx hb dX6_nightOn_12 rfl (lv_at hl 2 rfl) ?_
      refine lv_icmp_ge (tgt := 121) hx hb dX6_nightOn_13 (by decide) (fun h_7 => ?_) (fun h_7 => ?_)
      · have hf := ip_ h_7 hf
        refine lv_aload_n hx hb dX6_nightOn_121 rfl (lv_at hl 0 rfl) ?_
        refine lv_bipush (v := 8) hx hb dX6_nightOn_122 (by decide) ?_
        refine lv_lload_n hx hb dX6_nightOn_124 rfl (lv_at hl 1 rfl) ?_
        refine vz_last tn_8 hx hb hK hP hD hS 0 2 rfl rfl vn_8_11 dX6_nightOn_125 (fun H locs hP hD hS => ?_)
        have hP : va_P G vwCl [(a_r0, av_J cy 11 (vp_updL c_g_r0 8 y1))] H := hP
        have hD : va_D A [(a_r0, av_J cy 11 (vp_updL c_g_r0 8 y1))] := hD
        obtain rfl := Option.some.inj hf
        exact kr_v hx hb hr hlocks hP hK hD hN hS hS.2.2 dX6_nightOn_126
      · have hf := in_ h_7 hf
        refine lv_aload_n hx hb dX6_nightOn_16 rfl (lv_at hl 0 rfl) ?_
        refine lv_iload hx hb dX6_nightOn_17 (lv_at hl 3 rfl) ?_
        obtain ⟨r_8, hh_r_8, hf⟩ := obd_some hf
        refine kc_i (w1 := [(a_r0, av_J cy 11 c_g_r0)]) (wr := []) hP hD hS hA [0] [] rfl rfl rfl (by decide) (va_runS (As := [.ref a_r0, .int y4]) (rest := []) ⟨hx, hb, hml, hown, hts⟩ (c_X6_cold (l := l) G cy a_r0 H.size c_g_r0 y4 n r_8 hh_r_8) (va_cwS 2 hts gX6_nightOn_X6_cold rfl rfl rfl ddN_X6_cold ⟨Nat.le_of_ble_eq_true rfl, Nat.le_of_ble_eq_true rfl⟩) (preS_ hP hK hD hN) rfl rfl hl.1 rfl (lv_room (Nat.le_of_ble_eq_true rfl)) dX6_nightOn_19 ⟨Nat.le_of_ble_eq_true rfl, Nat.le_of_ble_eq_true rfl⟩) (fun H locs hP hD hS => ?_)
        have hP : va_P G vwCl [(a_r0, av_J cy 11 c_g_r0)] H := hP
        have hD : va_D A [(a_r0, av_J cy 11 c_g_r0)] := hD
        refine lv_iconst (v := 2) hx hb dX6_nightOn_22 (by decide) ?_
        refine lv_irem hx hb dX6_nightOn_23 (by decide) ?_
        refine lv_iconst (v := 1) hx hb dX6_nightOn_24 (by decide) ?_
        refine lv_icmp_ne (tgt := 32) hx hb dX6_nightOn_25 (by decide) (fun h_9 => ?_) (fun h_9 => ?_)
        · have hf := in_ h_9 hf
          refine lv_iconst (v := 0) hx hb dX6_nightOn_32 (by decide) ?_
          exact bl_33 y3 (f_X6_nightOn_b10 n y3 k) ih c_g_r0 y1 y4 0 _ _ hf hP hD hS ls (lv_sub hl [0, 1, 2, 3] rfl)
        · have hf := ip_ h_9 hf
          refine lv_iconst (v := 1) hx hb dX6_nightOn_28 (by decide) ?_
          refine lv_goto (tgt := 33) hx hb dX6_nightOn_29 (by decide) ?_
          exact bl_33 y3 (f_X6_nightOn_b10 n y3 k) ih c_g_r0 y1 y4 1 _ _ hf hP hD hS ls (lv_sub hl [0, 1, 2, 3] rfl)
  have hl := lv_entry [.ref a_r0] (n := 8) (Nat.le_of_ble_eq_true rfl)
  rw [lg_entry_eq]
  generalize (lg_sl [.ref a_r0] ++ List.replicate (8 - (lg_sl [.ref a_r0]).length) Slot.unset).toArray = ls at hl ⊢
  have hl : lv_has ls 8 [(0, .ref a_r0)] := hl
  unfold f_X6_nightOn at hf
  refine lv_lconst (v := 0) hx hb dX6_nightOn_0 rfl ?_
  refine lv_lstore_n (lv' := [(1, .long 0), (0, .ref a_r0)]) hx hb dX6_nightOn_1 rfl hl (by decide) rfl (fun ls hl => ?_)
  refine lv_aload_n hx hb dX6_nightOn_2 rfl (lv_at hl 1 rfl) ?_
  refine kc_i (w1 := [(a_r0, av_J cy 11 g_r0)]) (wr := []) hP hD hS hA [0] [] rfl rfl rfl (by decide) (va_runS (As := [.ref a_r0]) (rest := []) ⟨hx, hb, hml, hown, hts⟩ (c_X6_many (l := l) G cy a_r0 s.heap.size g_r0  (f_X6_many g_r0) rfl) (va_cwS 1 hts gX6_nightOn_X6_many rfl rfl rfl ddN_X6_many ⟨Nat.le_of_ble_eq_true rfl, Nat.le_of_ble_eq_true rfl⟩) (preS_ hP hK hD hN) rfl rfl hl.1 rfl (lv_room (Nat.le_of_ble_eq_true rfl)) dX6_nightOn_3 ⟨Nat.le_of_ble_eq_true rfl, Nat.le_of_ble_eq_true rfl⟩) (fun H locs hP hD hS => ?_)
  have hP : va_P G vwCl [(a_r0, av_J cy 11 g_r0)] H := hP
  have hD : va_D A [(a_r0, av_J cy 11 g_r0)] := hD
  refine lv_istore_n (lv' := [(3, .int (f_X6_many g_r0)), (1, .long 0), (0, .ref a_r0)]) hx hb dX6_nightOn_6 rfl hl (by decide) rfl (fun ls hl => ?_)
  refine lv_iconst (v := 0) hx hb dX6_nightOn_7 (by decide) ?_
  refine lv_istore (lv' := [(4, .int 0), (3, .int (f_X6_many g_r0)), (1, .long 0), (0, .ref a_r0)]) hx hb dX6_nightOn_8 hl (by decide) rfl (fun ls hl => ?_)
  exact bl_10 (f_X6_many g_r0) n g_r0 0 0 _ _ hf hP hD hS ls (lv_sub hl [3, 2, 1, 0] rfl)
set_option maxHeartbeats 4000000 in
set_option maxRecDepth 100000 in
theorem c_X6_nightsOn {l : Launch} (G : va_G) (cy : Nat → ClassId) (a_r0 : Nat) (sz : Nat) (g_r0 : Nat → Int64) (x1 : Int32) (n : Nat) (R : Int32 × (Nat → Int64)) (hf : f_X6_nightsOn n g_r0 x1 = some R) : Met l yX6_nightsOn wsX6_nightsOn ({ frames := 7, cells := 0, slots := 0, locals := 166 } : Room) (va_Pc [.ref a_r0, .int x1] (pcW G cy [(a_r0, av_J cy 11 g_r0)] sz)) (va_Qi (fun r (_ : Unit) => r = R.1) (fun _ t => Wd G cy (va_A [(a_r0, av_J cy 11 g_r0)] sz) [(a_r0, av_J cy 11 R.2)] t) (va_A [(a_r0, av_J cy 11 g_r0)] sz)) 0 0 (va_A [(a_r0, av_J cy 11 g_r0)] sz) := by
  refine Met.ofW (cc := cX6_nightsOn) (maxL := 3) (ret := (some .int)) (by decide) rfl ?_
  intro p e s m args below meth c s₁ B hml hv
  obtain ⟨rfl, hsz, hP, hK, hD0, hN⟩ := hv
  have hx := B.exec
  have hb := B.bytes
  have hr := B.returns
  have hts := atoms_spec (ws := wsX6_nightsOn) B.pre
  have hown : s.vm.findClass RX6 = some m.cls := findClass_of_methodNamed B.named
  have hlocks := B.notSynchronized
  subst hsz
  have hD := hD0.self (sz := s.heap.size)
  generalize hAe : va_A [(a_r0, av_J cy 11 g_r0)] s.heap.size = A at hD ⊢
  have hA : ∀ q : Nat, s.heap.size ≤ q → A q := fun q h => by rw [← hAe]; exact Or.inr h
  have hS : va_S A s.heap s.heap [] := va_S.rf
  have hP : va_P G vwCl [(a_r0, av_J cy 11 g_r0)] s.heap := hP
  have bl_2 : ∀ (y1 : Int32), ∀ (k : Nat), ∀ (c_g_r0 : Nat → Int64) (y2 : Int32) (H : Heap) (locs : List Loc), f_X6_nightsOn_b2 n y1 k c_g_r0 y2 = some R → va_P G vwCl [(a_r0, av_J cy 11 c_g_r0)] H → va_D A [(a_r0, av_J cy 11 c_g_r0)] → va_S A s.heap H locs → ∀ (ls : Array Slot), lv_has ls 3 [(0, .ref a_r0), (1, .int y1), (2, .int y2)] → W p l e ({ frames := 7, cells := 0, slots := 0, locals := 166 } : Room) s m [.ref a_r0, .int x1].toArray below meth c H locs 0 0 (MQ below (va_Qi (fun r (_ : Unit) => r = R.1) (fun _ t => Wd G cy A [(a_r0, av_J cy 11 R.2)] t) A) [.ref a_r0, .int x1].toArray s 0 0 A) (F0 m 2 ls []) := by
    intro y1
    intro k
    induction k with
    | zero =>
      intro c_g_r0 y2 H locs hf; cases hf
    | succ k ih =>
      intro c_g_r0 y2 H locs hf hP hD hS ls hl
      have hf := (f_X6_nightsOn_b2_s n y1 k c_g_r0 y2).symm.trans hf
      refine lv_iload_n hx hb dX6_nightsOn_2 rfl (lv_at hl 2 rfl) ?_
      refine lv_iload_n hx hb dX6_nightsOn_3 rfl (lv_at hl 1 rfl) ?_
      refine lv_icmp_ge (tgt := 17) hx hb dX6_nightsOn_4 (by decide) (fun h_1 => ?_) (fun h_1 => ?_)
      · have hf := ip_ h_1 hf
        refine lv_aload_n hx hb dX6_nightsOn_17 rfl (lv_at hl 0 rfl) ?_
        refine lv_iconst (v := 3) hx hb dX6_nightsOn_18 (by decide) ?_
        refine lv_dup2_11 hx hb dX6_nightsOn_19 rfl rfl ?_
        refine vz_lald tn_3 hx hb hK hP 0 2 rfl rfl vn_3_11 dX6_nightsOn_20 ?_
        refine lv_iload_n hx hb dX6_nightsOn_21 rfl (lv_at hl 1 rfl) ?_
        refine lv_i2l (v := y1.toInt64) hx hb dX6_nightsOn_22 rfl ?_
        refine lv_ladd hx hb dX6_nightsOn_23 ?_
        refine vz_last tn_3 hx hb hK hP hD hS 0 2 rfl rfl vn_3_11 dX6_nightsOn_24 (fun H locs hP hD hS => ?_)
        have hP : va_P G vwCl [(a_r0, av_J cy 11 (vp_updL c_g_r0 3 ((c_g_r0 3) + y1.toInt64)))] H := hP
        have hD : va_D A [(a_r0, av_J cy 11 (vp_updL c_g_r0 3 ((c_g_r0 3) + y1.toInt64)))] := hD
        refine lv_aload_n hx hb dX6_nightsOn_25 rfl (lv_at hl 0 rfl) ?_
        refine lv_bipush (v := 8) hx hb dX6_nightsOn_26 (by decide) ?_
        refine vz_lald tn_8 hx hb hK hP 0 2 rfl rfl vn_8_11 dX6_nightsOn_28 ?_
        obtain ⟨r_2, hh_r_2, hf⟩ := obd_some hf
        refine kc_i (w1 := []) (wr := [(a_r0, av_J cy 11 (vp_updL c_g_r0 3 ((c_g_r0 3) + y1.toInt64)))]) hP hD hS hA [] [0] rfl rfl rfl (by decide) (va_runS (As := [.long ((vp_updL c_g_r0 3 ((c_g_r0 3) + y1.toInt64)) 8)]) (rest := []) ⟨hx, hb, hml, hown, hts⟩ (c_X6_bits (l := l) G cy  H.size ((vp_updL c_g_r0 3 ((c_g_r0 3) + y1.toInt64)) 8) n r_2 hh_r_2) (va_cwS 1 hts gX6_nightsOn_X6_bits rfl rfl rfl ddN_X6_bits ⟨Nat.le_of_ble_eq_true rfl, Nat.le_of_ble_eq_true rfl⟩) (preS_ (hP.sub (ws' := []) [] rfl) hK (hD.sub (ws' := []) [] rfl rfl) hN) rfl rfl hl.1 rfl (lv_room (Nat.le_of_ble_eq_true rfl)) dX6_nightsOn_29 ⟨Nat.le_of_ble_eq_true rfl, Nat.le_of_ble_eq_true rfl⟩) (fun H locs hP hD hS => ?_)
        have hP : va_P G vwCl [(a_r0, av_J cy 11 (vp_updL c_g_r0 3 ((c_g_r0 3) + y1.toInt64)))] H := hP
        have hD : va_D A [(a_r0, av_J cy 11 (vp_updL c_g_r0 3 ((c_g_r0 3) + y1.toInt64)))] := hD
        obtain rfl := Option.some.inj hf
        exact kr_i hx hb hr hlocks rfl hP hK hD hN hS hS.2.2 dX6_nightsOn_32
      · have hf := in_ h_1 hf
        refine lv_aload_n hx hb dX6_nightsOn_7 rfl (lv_at hl 0 rfl) ?_
        obtain ⟨r_3, hh_r_3, hf⟩ := obd_some hf
        refine kc_v (w1 := [(a_r0, av_J cy 11 r_3)]) (wr := []) hP hD hS hA [0] [] rfl rfl rfl (by decide) (va_runS (As := [.ref a_r0]) (rest := []) ⟨hx, hb, hml, hown, hts⟩ (c_X6_nightOn (l := l) G cy a_r0 H.size c_g_r0 n r_3 hh_r_3) (va_cwS 1 hts gX6_nightsOn_X6_nightOn rfl rfl rfl ddN_X6_nightOn ⟨Nat.le_of_ble_eq_true rfl, Nat.le_of_ble_eq_true rfl⟩) (preS_ hP hK hD hN) rfl rfl hl.1 rfl (lv_room (Nat.le_of_ble_eq_true rfl)) dX6_nightsOn_8 ⟨Nat.le_of_ble_eq_true rfl, Nat.le_of_ble_eq_true rfl⟩) (fun H locs hP hD hS => ?_)
        have hP : va_P G vwCl [(a_r0, av_J cy 11 r_3)] H := hP
        have hD : va_D A [(a_r0, av_J cy 11 r_3)] := hD
        refine lv_iinc (v := (y2 + 1)) (lv' := [(2, .int (y2 + 1)), (0, .ref a_r0), (1, .int y1)]) hx hb dX6_nightsOn_11 hl (k := 2) rfl rfl (by decide) rfl (fun ls hl => ?_)
        refine lv_goto (tgt := 2) hx hb dX6_nightsOn_14 (by decide) ?_
        exact ih r_3 (y2 + 1) _ _ hf hP hD hS ls (lv_sub hl [1, 2, 0] rfl)
  have hl := lv_entry [.ref a_r0, .int x1] (n := 3) (Nat.le_of_ble_eq_true rfl)
  rw [lg_entry_eq]
  generalize (lg_sl [.ref a_r0, .int x1] ++ List.replicate (3 - (lg_sl [.ref a_r0, .int x1]).length) Slot.unset).toArray = ls at hl ⊢
  have hl : lv_has ls 3 [(0, .ref a_r0), (1, .int x1)] := hl
  unfold f_X6_nightsOn at hf
  refine lv_iconst (v := 0) hx hb dX6_nightsOn_0 (by decide) ?_
  refine lv_istore_n (lv' := [(2, .int 0), (0, .ref a_r0), (1, .int x1)]) hx hb dX6_nightsOn_1 rfl hl (by decide) rfl (fun ls hl => ?_)
  exact bl_2 x1 n g_r0 0 _ _ hf hP hD hS ls (lv_sub hl [1, 2, 0] rfl)
set_option maxHeartbeats 4000000 in
set_option maxRecDepth 100000 in
theorem c_X6_grown {l : Launch} (G : va_G) (cy : Nat → ClassId) (a_r0 : Nat) (sz : Nat) (g_r0 : Nat → Int64) (x1 : Int64) (x3 : Int64) (n : Nat) (R : Int64) (hf : f_X6_grown n g_r0 x1 x3 = some R) : Met l yX6_grown wsX6_grown ({ frames := 5, cells := 0, slots := 0, locals := 115 } : Room) (va_Pc [.ref a_r0, .long x1, .long x3] (pcW G cy [(a_r0, av_J cy 11 g_r0)] sz)) (va_Ql (fun r (_ : Unit) => r = R) (fun _ t => Wd G cy (va_A [(a_r0, av_J cy 11 g_r0)] sz) [(a_r0, av_J cy 11 g_r0)] t) (va_A [(a_r0, av_J cy 11 g_r0)] sz)) 0 0 (va_A [(a_r0, av_J cy 11 g_r0)] sz) := by
  refine Met.ofW (cc := cX6_grown) (maxL := 11) (ret := (some .long)) (by decide) rfl ?_
  intro p e s m args below meth c s₁ B hml hv
  obtain ⟨rfl, hsz, hP, hK, hD0, hN⟩ := hv
  have hx := B.exec
  have hb := B.bytes
  have hr := B.returns
  have hts := atoms_spec (ws := wsX6_grown) B.pre
  have hown : s.vm.findClass RX6 = some m.cls := findClass_of_methodNamed B.named
  have hlocks := B.notSynchronized
  subst hsz
  have hD := hD0.self (sz := s.heap.size)
  generalize hAe : va_A [(a_r0, av_J cy 11 g_r0)] s.heap.size = A at hD ⊢
  have hA : ∀ q : Nat, s.heap.size ≤ q → A q := fun q h => by rw [← hAe]; exact Or.inr h
  have hS : va_S A s.heap s.heap [] := va_S.rf
  have hP : va_P G vwCl [(a_r0, av_J cy 11 g_r0)] s.heap := hP
  have bl_22 : ∀ (y1 : Int64), ∀ (y3 : Int64), ∀ (y7 : Int32), ∀ (y8 : Int32), ∀ (K12 : Int64 → Int32 → Option (Int64)), (∀ (y5 : Int64) (y8 : Int32) (H : Heap) (locs : List Loc), K12 y5 y8 = some R → va_P G vwCl [(a_r0, av_J cy 11 g_r0)] H → va_D A [(a_r0, av_J cy 11 g_r0)] → va_S A s.heap H locs → ∀ (ls : Array Slot), lv_has ls 11 [(0, .ref a_r0), (1, .long y1), (3, .long y3), (5, .long y5), (7, .int y7), (8, .int y8)] → W p l e ({ frames := 5, cells := 0, slots := 0, locals := 115 } : Room) s m [.ref a_r0, .long x1, .long x3].toArray below meth c H locs 0 0 (MQ below (va_Ql (fun r (_ : Unit) => r = R) (fun _ t => Wd G cy A [(a_r0, av_J cy 11 g_r0)] t) A) [.ref a_r0, .long x1, .long x3].toArray s 0 0 A) (F0 m 12 ls [])) → ∀ (k : Nat), ∀ (y5 : Int64) (y9 : Int32) (H : Heap) (locs : List Loc), f_X6_grown_b22 n g_r0 y1 y3 y7 y8 K12 k y5 y9 = some R → va_P G vwCl [(a_r0, av_J cy 11 g_r0)] H → va_D A [(a_r0, av_J cy 11 g_r0)] → va_S A s.heap H locs → ∀ (ls : Array Slot), lv_has ls 11 [(0, .ref a_r0), (1, .long y1), (3, .long y3), (5, .long y5), (7, .int y7), (8, .int y8), (9, .int y9)] → W p l e ({ frames := 5, cells := 0, slots := 0, locals := 115 } : Room) s m [.ref a_r0, .long x1, .long x3].toArray below meth c H locs 0 0 (MQ below (va_Ql (fun r (_ : Unit) => r = R) (fun _ t => Wd G cy A [(a_r0, av_J cy 11 g_r0)] t) A) [.ref a_r0, .long x1, .long x3].toArray s 0 0 A) (F0 m 22 ls []) := by
    intro y1
    intro y3
    intro y7
    intro y8
    intro K12 hK12
    intro k
    induction k with
    | zero =>
      intro y5 y9 H locs hf; cases hf
    | succ k ih =>
      intro y5 y9 H locs hf hP hD hS ls hl
      have hf := (f_X6_grown_b22_s n g_r0 y1 y3 y7 y8 K12 k y5 y9).symm.trans hf
      refine lv_iload hx hb dX6_grown_22 (lv_at hl 6 rfl) ?_
      refine lv_iconst (v := 4) hx hb dX6_grown_24 (by decide) ?_
      refine lv_icmp_ge (tgt := 81) hx hb dX6_grown_25 (by decide) (fun h_1 => ?_) (fun h_1 => ?_)
      · have hf := ip_ h_1 hf
        refine lv_iinc (v := (y8 + 1)) (lv' := [(8, .int (y8 + 1)), (0, .ref a_r0), (1, .long y1), (3, .long y3), (5, .long y5), (7, .int y7), (9, .int y9)]) hx hb dX6_grown_81 hl (k := 5) rfl rfl (by decide) rfl (fun ls hl => ?_)
        refine lv_goto (tgt := 12) hx hb dX6_grown_84 (by decide) ?_
        exact hK12 y5 (y8 + 1) _ _ hf hP hD hS ls (lv_sub hl [1, 2, 3, 4, 5, 0] rfl)
      · have hf := in_ h_1 hf
        refine lv_lload_n hx hb dX6_grown_28 rfl (lv_at hl 1 rfl) ?_
        refine lv_iload hx hb dX6_grown_29 (lv_at hl 5 rfl) ?_
        refine kc_i (w1 := []) (wr := [(a_r0, av_J cy 11 g_r0)]) hP hD hS hA [] [0] rfl rfl rfl (by decide) (va_runS (As := [.long y1, .int y8]) (rest := []) ⟨hx, hb, hml, hown, hts⟩ (c_X6_has (l := l) G cy  H.size y1 y8  (f_X6_has y1 y8) rfl) (va_cwS 2 hts gX6_grown_X6_has rfl rfl rfl ddN_X6_has ⟨Nat.le_of_ble_eq_true rfl, Nat.le_of_ble_eq_true rfl⟩) (preS_ (hP.sub (ws' := []) [] rfl) hK (hD.sub (ws' := []) [] rfl rfl) hN) rfl rfl hl.1 rfl (lv_room (Nat.le_of_ble_eq_true rfl)) dX6_grown_31 ⟨Nat.le_of_ble_eq_true rfl, Nat.le_of_ble_eq_true rfl⟩) (fun H locs hP hD hS => ?_)
        have hP : va_P G vwCl [(a_r0, av_J cy 11 g_r0)] H := hP
        have hD : va_D A [(a_r0, av_J cy 11 g_r0)] := hD
        refine lv_if_eq (tgt := 81) hx hb dX6_grown_34 (by decide) (fun h_2 => ?_) (fun h_2 => ?_)
        · have hf := in_ (bI_0 h_2) hf
          refine lv_iinc (v := (y8 + 1)) (lv' := [(8, .int (y8 + 1)), (0, .ref a_r0), (1, .long y1), (3, .long y3), (5, .long y5), (7, .int y7), (9, .int y9)]) hx hb dX6_grown_81 hl (k := 5) rfl rfl (by decide) rfl (fun ls hl => ?_)
          refine lv_goto (tgt := 12) hx hb dX6_grown_84 (by decide) ?_
          exact hK12 y5 (y8 + 1) _ _ hf hP hD hS ls (lv_sub hl [1, 2, 3, 4, 5, 0] rfl)
        · have hf := ip_ (bI_n0 h_2) hf
          refine lv_aload_n hx hb dX6_grown_37 rfl (lv_at hl 0 rfl) ?_
          refine lv_iload hx hb dX6_grown_38 (lv_at hl 5 rfl) ?_
          refine lv_iload hx hb dX6_grown_40 (lv_at hl 6 rfl) ?_
          obtain ⟨r_3, hh_r_3, hf⟩ := obd_some hf
          refine kc_i (w1 := [(a_r0, av_J cy 11 g_r0)]) (wr := []) hP hD hS hA [0] [] rfl rfl rfl (by decide) (va_runS (As := [.ref a_r0, .int y8, .int y9]) (rest := []) ⟨hx, hb, hml, hown, hts⟩ (c_X6_next (l := l) G cy a_r0 H.size g_r0 y8 y9  r_3 hh_r_3) (va_cwS 3 hts gX6_grown_X6_next rfl rfl rfl ddN_X6_next ⟨Nat.le_of_ble_eq_true rfl, Nat.le_of_ble_eq_true rfl⟩) (preS_ hP hK hD hN) rfl rfl hl.1 rfl (lv_room (Nat.le_of_ble_eq_true rfl)) dX6_grown_42 ⟨Nat.le_of_ble_eq_true rfl, Nat.le_of_ble_eq_true rfl⟩) (fun H locs hP hD hS => ?_)
          have hP : va_P G vwCl [(a_r0, av_J cy 11 g_r0)] H := hP
          have hD : va_D A [(a_r0, av_J cy 11 g_r0)] := hD
          refine lv_istore (lv' := [(10, .int r_3), (0, .ref a_r0), (1, .long y1), (3, .long y3), (5, .long y5), (7, .int y7), (8, .int y8), (9, .int y9)]) hx hb dX6_grown_45 hl (by decide) rfl (fun ls hl => ?_)
          refine lv_lload hx hb dX6_grown_47 (lv_at hl 4 rfl) ?_
          refine lv_iload hx hb dX6_grown_49 (lv_at hl 0 rfl) ?_
          refine lv_iconst (v := (-1)) hx hb dX6_grown_51 (by decide) ?_
          refine lv_icmp_eq (tgt := 71) hx hb dX6_grown_52 (by decide) (fun h_4 => ?_) (fun h_4 => ?_)
          · have hf := ip_ h_4 hf
            refine lv_lconst (v := 0) hx hb dX6_grown_71 rfl ?_
            refine lv_lor hx hb dX6_grown_72 ?_
            refine lv_lstore (lv' := [(5, .long (y5 ||| 0)), (10, .int r_3), (0, .ref a_r0), (1, .long y1), (3, .long y3), (7, .int y7), (8, .int y8), (9, .int y9)]) hx hb dX6_grown_73 hl (by decide) rfl (fun ls hl => ?_)
            refine lv_iinc (v := (y9 + 1)) (lv' := [(9, .int (y9 + 1)), (5, .long (y5 ||| 0)), (10, .int r_3), (0, .ref a_r0), (1, .long y1), (3, .long y3), (7, .int y7), (8, .int y8)]) hx hb dX6_grown_75 hl (k := 7) rfl rfl (by decide) rfl (fun ls hl => ?_)
            refine lv_goto (tgt := 22) hx hb dX6_grown_78 (by decide) ?_
            exact ih (y5 ||| 0) (y9 + 1) _ _ hf hP hD hS ls (lv_sub hl [3, 4, 5, 1, 6, 7, 0] rfl)
          · have hf := in_ h_4 hf
            refine lv_lload_n hx hb dX6_grown_55 rfl (lv_at hl 3 rfl) ?_
            refine lv_iload hx hb dX6_grown_56 (lv_at hl 0 rfl) ?_
            refine kc_i (w1 := []) (wr := [(a_r0, av_J cy 11 g_r0)]) hP hD hS hA [] [0] rfl rfl rfl (by decide) (va_runS (As := [.long y3, .int r_3]) (rest := [.long y5]) ⟨hx, hb, hml, hown, hts⟩ (c_X6_has (l := l) G cy  H.size y3 r_3  (f_X6_has y3 r_3) rfl) (va_cwS 2 hts gX6_grown_X6_has rfl rfl rfl ddN_X6_has ⟨Nat.le_of_ble_eq_true rfl, Nat.le_of_ble_eq_true rfl⟩) (preS_ (hP.sub (ws' := []) [] rfl) hK (hD.sub (ws' := []) [] rfl rfl) hN) rfl rfl hl.1 rfl (lv_room (Nat.le_of_ble_eq_true rfl)) dX6_grown_58 ⟨Nat.le_of_ble_eq_true rfl, Nat.le_of_ble_eq_true rfl⟩) (fun H locs hP hD hS => ?_)
            have hP : va_P G vwCl [(a_r0, av_J cy 11 g_r0)] H := hP
            have hD : va_D A [(a_r0, av_J cy 11 g_r0)] := hD
            refine lv_if_eq (tgt := 71) hx hb dX6_grown_61 (by decide) (fun h_5 => ?_) (fun h_5 => ?_)
            · have hf := in_ (bI_0 h_5) hf
              refine lv_lconst (v := 0) hx hb dX6_grown_71 rfl ?_
              refine lv_lor hx hb dX6_grown_72 ?_
              refine lv_lstore (lv' := [(5, .long (y5 ||| 0)), (10, .int r_3), (0, .ref a_r0), (1, .long y1), (3, .long y3), (7, .int y7), (8, .int y8), (9, .int y9)]) hx hb dX6_grown_73 hl (by decide) rfl (fun ls hl => ?_)
              refine lv_iinc (v := (y9 + 1)) (lv' := [(9, .int (y9 + 1)), (5, .long (y5 ||| 0)), (10, .int r_3), (0, .ref a_r0), (1, .long y1), (3, .long y3), (7, .int y7), (8, .int y8)]) hx hb dX6_grown_75 hl (k := 7) rfl rfl (by decide) rfl (fun ls hl => ?_)
              refine lv_goto (tgt := 22) hx hb dX6_grown_78 (by decide) ?_
              exact ih (y5 ||| 0) (y9 + 1) _ _ hf hP hD hS ls (lv_sub hl [3, 4, 5, 1, 6, 7, 0] rfl)
            · have hf := ip_ (bI_n0 h_5) hf
              refine lv_lconst (v := 1) hx hb dX6_grown_64 rfl ?_
              refine lv_iload hx hb dX6_grown_65 (lv_at hl 0 rfl) ?_
              refine lv_lshl (v := (jsl 1 r_3)) hx hb dX6_grown_67 rfl ?_
              refine lv_goto (tgt := 72) hx hb dX6_grown_68 (by decide) ?_
              refine lv_lor hx hb dX6_grown_72 ?_
              refine lv_lstore (lv' := [(5, .long (y5 ||| (jsl 1 r_3))), (10, .int r_3), (0, .ref a_r0), (1, .long y1), (3, .long y3), (7, .int y7), (8, .int y8), (9, .int y9)]) hx hb dX6_grown_73 hl (by decide) rfl (fun ls hl => ?_)
              refine lv_iinc (v := (y9 + 1)) (lv' := [(9, .int (y9 + 1)), (5, .long (y5 ||| (jsl 1 r_3))), (10, .int r_3), (0, .ref a_r0), (1, .long y1), (3, .long y3), (7, .int y7), (8, .int y8)]) hx hb dX6_grown_75 hl (k := 7) rfl rfl (by decide) rfl (fun ls hl => ?_)
              refine lv_goto (tgt := 22) hx hb dX6_grown_78 (by decide) ?_
              exact ih (y5 ||| (jsl 1 r_3)) (y9 + 1) _ _ hf hP hD hS ls (lv_sub hl [3, 4, 5, 1, 6, 7, 0] rfl)
  have bl_12 : ∀ (y1 : Int64), ∀ (y3 : Int64), ∀ (y7 : Int32), ∀ (k : Nat), ∀ (y5 : Int64) (y8 : Int32) (H : Heap) (locs : List Loc), f_X6_grown_b12 n g_r0 y1 y3 y7 k y5 y8 = some R → va_P G vwCl [(a_r0, av_J cy 11 g_r0)] H → va_D A [(a_r0, av_J cy 11 g_r0)] → va_S A s.heap H locs → ∀ (ls : Array Slot), lv_has ls 11 [(0, .ref a_r0), (1, .long y1), (3, .long y3), (5, .long y5), (7, .int y7), (8, .int y8)] → W p l e ({ frames := 5, cells := 0, slots := 0, locals := 115 } : Room) s m [.ref a_r0, .long x1, .long x3].toArray below meth c H locs 0 0 (MQ below (va_Ql (fun r (_ : Unit) => r = R) (fun _ t => Wd G cy A [(a_r0, av_J cy 11 g_r0)] t) A) [.ref a_r0, .long x1, .long x3].toArray s 0 0 A) (F0 m 12 ls []) := by
    intro y1
    intro y3
    intro y7
    intro k
    induction k with
    | zero =>
      intro y5 y8 H locs hf; cases hf
    | succ k ih =>
      intro y5 y8 H locs hf hP hD hS ls hl
      have hf := (f_X6_grown_b12_s n g_r0 y1 y3 y7 k y5 y8).symm.trans hf
      refine lv_iload hx hb dX6_grown_12 (lv_at hl 5 rfl) ?_
      refine lv_iload hx hb dX6_grown_14 (lv_at hl 4 rfl) ?_
      refine lv_icmp_ge (tgt := 87) hx hb dX6_grown_16 (by decide) (fun h_6 => ?_) (fun h_6 => ?_)
      · have hf := ip_ h_6 hf
        refine lv_lload hx hb dX6_grown_87 (lv_at hl 3 rfl) ?_
        obtain rfl := Option.some.inj hf
        exact kr_l hx hb hr hlocks rfl hP hK hD hN hS hS.2.2 dX6_grown_89
      · have hf := in_ h_6 hf
        refine lv_iconst (v := 0) hx hb dX6_grown_19 (by decide) ?_
        refine lv_istore (lv' := [(9, .int 0), (0, .ref a_r0), (1, .long y1), (3, .long y3), (5, .long y5), (7, .int y7), (8, .int y8)]) hx hb dX6_grown_20 hl (by decide) rfl (fun ls hl => ?_)
        exact bl_22 y1 y3 y7 y8 (f_X6_grown_b12 n g_r0 y1 y3 y7 k) ih n y5 0 _ _ hf hP hD hS ls (lv_sub hl [1, 2, 3, 4, 5, 6, 0] rfl)
  have hl := lv_entry [.ref a_r0, .long x1, .long x3] (n := 11) (Nat.le_of_ble_eq_true rfl)
  rw [lg_entry_eq]
  generalize (lg_sl [.ref a_r0, .long x1, .long x3] ++ List.replicate (11 - (lg_sl [.ref a_r0, .long x1, .long x3]).length) Slot.unset).toArray = ls at hl ⊢
  have hl : lv_has ls 11 [(0, .ref a_r0), (1, .long x1), (3, .long x3)] := hl
  unfold f_X6_grown at hf
  refine lv_lload_n hx hb dX6_grown_0 rfl (lv_at hl 1 rfl) ?_
  refine lv_lstore (lv' := [(5, .long x1), (0, .ref a_r0), (1, .long x1), (3, .long x3)]) hx hb dX6_grown_1 hl (by decide) rfl (fun ls hl => ?_)
  refine lv_aload_n hx hb dX6_grown_3 rfl (lv_at hl 1 rfl) ?_
  refine kc_i (w1 := [(a_r0, av_J cy 11 g_r0)]) (wr := []) hP hD hS hA [0] [] rfl rfl rfl (by decide) (va_runS (As := [.ref a_r0]) (rest := []) ⟨hx, hb, hml, hown, hts⟩ (c_X6_many (l := l) G cy a_r0 s.heap.size g_r0  (f_X6_many g_r0) rfl) (va_cwS 1 hts gX6_grown_X6_many rfl rfl rfl ddN_X6_many ⟨Nat.le_of_ble_eq_true rfl, Nat.le_of_ble_eq_true rfl⟩) (preS_ hP hK hD hN) rfl rfl hl.1 rfl (lv_room (Nat.le_of_ble_eq_true rfl)) dX6_grown_4 ⟨Nat.le_of_ble_eq_true rfl, Nat.le_of_ble_eq_true rfl⟩) (fun H locs hP hD hS => ?_)
  have hP : va_P G vwCl [(a_r0, av_J cy 11 g_r0)] H := hP
  have hD : va_D A [(a_r0, av_J cy 11 g_r0)] := hD
  refine lv_istore (lv' := [(7, .int (f_X6_many g_r0)), (5, .long x1), (0, .ref a_r0), (1, .long x1), (3, .long x3)]) hx hb dX6_grown_7 hl (by decide) rfl (fun ls hl => ?_)
  refine lv_iconst (v := 0) hx hb dX6_grown_9 (by decide) ?_
  refine lv_istore (lv' := [(8, .int 0), (7, .int (f_X6_many g_r0)), (5, .long x1), (0, .ref a_r0), (1, .long x1), (3, .long x3)]) hx hb dX6_grown_10 hl (by decide) rfl (fun ls hl => ?_)
  exact bl_12 x1 x3 (f_X6_many g_r0) n x1 0 _ _ hf hP hD hS ls (lv_sub hl [3, 4, 5, 2, 1, 0] rfl)
set_option maxHeartbeats 4000000 in
set_option maxRecDepth 100000 in
theorem c_X6_patchOf {l : Launch} (G : va_G) (cy : Nat → ClassId) (a_r0 : Nat) (sz : Nat) (g_r0 : Nat → Int64) (x1 : Int32) (n : Nat) (R : Int64) (hf : f_X6_patchOf n g_r0 x1 = some R) : Met l yX6_patchOf wsX6_patchOf ({ frames := 6, cells := 0, slots := 0, locals := 145 } : Room) (va_Pc [.ref a_r0, .int x1] (pcW G cy [(a_r0, av_J cy 11 g_r0)] sz)) (va_Ql (fun r (_ : Unit) => r = R) (fun _ t => Wd G cy (va_A [(a_r0, av_J cy 11 g_r0)] sz) [(a_r0, av_J cy 11 g_r0)] t) (va_A [(a_r0, av_J cy 11 g_r0)] sz)) 0 0 (va_A [(a_r0, av_J cy 11 g_r0)] sz) := by
  refine Met.ofW (cc := cX6_patchOf) (maxL := 6) (ret := (some .long)) (by decide) rfl ?_
  intro p e s m args below meth c s₁ B hml hv
  obtain ⟨rfl, hsz, hP, hK, hD0, hN⟩ := hv
  have hx := B.exec
  have hb := B.bytes
  have hr := B.returns
  have hts := atoms_spec (ws := wsX6_patchOf) B.pre
  have hown : s.vm.findClass RX6 = some m.cls := findClass_of_methodNamed B.named
  have hlocks := B.notSynchronized
  subst hsz
  have hD := hD0.self (sz := s.heap.size)
  generalize hAe : va_A [(a_r0, av_J cy 11 g_r0)] s.heap.size = A at hD ⊢
  have hA : ∀ q : Nat, s.heap.size ≤ q → A q := fun q h => by rw [← hAe]; exact Or.inr h
  have hS : va_S A s.heap s.heap [] := va_S.rf
  have hP : va_P G vwCl [(a_r0, av_J cy 11 g_r0)] s.heap := hP
  have bl_7 : ∀ (k : Nat), ∀ (y2 : Int64) (y4 : Int64) (H : Heap) (locs : List Loc), f_X6_patchOf_b7 n g_r0 k y2 y4 = some R → va_P G vwCl [(a_r0, av_J cy 11 g_r0)] H → va_D A [(a_r0, av_J cy 11 g_r0)] → va_S A s.heap H locs → ∀ (ls : Array Slot), lv_has ls 6 [(0, .ref a_r0), (2, .long y2), (4, .long y4)] → W p l e ({ frames := 6, cells := 0, slots := 0, locals := 145 } : Room) s m [.ref a_r0, .int x1].toArray below meth c H locs 0 0 (MQ below (va_Ql (fun r (_ : Unit) => r = R) (fun _ t => Wd G cy A [(a_r0, av_J cy 11 g_r0)] t) A) [.ref a_r0, .int x1].toArray s 0 0 A) (F0 m 7 ls []) := by
    intro k
    induction k with
    | zero =>
      intro y2 y4 H locs hf; cases hf
    | succ k ih =>
      intro y2 y4 H locs hf hP hD hS ls hl
      have hf := (f_X6_patchOf_b7_s n g_r0 k y2 y4).symm.trans hf
      refine lv_lload hx hb dX6_patchOf_7 (lv_at hl 2 rfl) ?_
      refine lv_lload_n hx hb dX6_patchOf_9 rfl (lv_at hl 1 rfl) ?_
      refine W.lcmp hx hb dX6_patchOf_10 ?_
      refine lv_if_eq (tgt := 31) hx hb dX6_patchOf_11 (by decide) (fun h_1 => ?_) (fun h_1 => ?_)
      · have hf := ip_ (lgc_eq.mp h_1) hf
        refine lv_lload_n hx hb dX6_patchOf_31 rfl (lv_at hl 1 rfl) ?_
        obtain rfl := Option.some.inj hf
        exact kr_l hx hb hr hlocks rfl hP hK hD hN hS hS.2.2 dX6_patchOf_32
      · have hf := in_ (fun q => h_1 (lgc_eq.mpr q)) hf
        refine lv_lload hx hb dX6_patchOf_14 (lv_at hl 2 rfl) ?_
        refine lv_lstore_n (lv' := [(2, .long y4), (0, .ref a_r0), (4, .long y4)]) hx hb dX6_patchOf_16 rfl hl (by decide) rfl (fun ls hl => ?_)
        refine lv_aload_n hx hb dX6_patchOf_17 rfl (lv_at hl 1 rfl) ?_
        refine lv_lload_n hx hb dX6_patchOf_18 rfl (lv_at hl 0 rfl) ?_
        refine lv_aload_n hx hb dX6_patchOf_19 rfl (lv_at hl 1 rfl) ?_
        refine lv_bipush (v := 8) hx hb dX6_patchOf_20 (by decide) ?_
        refine vz_lald tn_8 hx hb hK hP 0 2 rfl rfl vn_8_11 dX6_patchOf_22 ?_
        obtain ⟨r_2, hh_r_2, hf⟩ := obd_some hf
        refine kc_l (w1 := [(a_r0, av_J cy 11 g_r0)]) (wr := []) hP hD hS hA [0] [] rfl rfl rfl (by decide) (va_runS (As := [.ref a_r0, .long y4, .long (g_r0 8)]) (rest := []) ⟨hx, hb, hml, hown, hts⟩ (c_X6_grown (l := l) G cy a_r0 H.size g_r0 y4 (g_r0 8) n r_2 hh_r_2) (va_cwS 3 hts gX6_patchOf_X6_grown rfl rfl rfl ddN_X6_grown ⟨Nat.le_of_ble_eq_true rfl, Nat.le_of_ble_eq_true rfl⟩) (preS_ hP hK hD hN) rfl rfl hl.1 rfl (lv_room (Nat.le_of_ble_eq_true rfl)) dX6_patchOf_23 ⟨Nat.le_of_ble_eq_true rfl, Nat.le_of_ble_eq_true rfl⟩) (fun H locs hP hD hS => ?_)
        have hP : va_P G vwCl [(a_r0, av_J cy 11 g_r0)] H := hP
        have hD : va_D A [(a_r0, av_J cy 11 g_r0)] := hD
        refine lv_lstore (lv' := [(4, .long r_2), (2, .long y4), (0, .ref a_r0)]) hx hb dX6_patchOf_26 hl (by decide) rfl (fun ls hl => ?_)
        refine lv_goto (tgt := 7) hx hb dX6_patchOf_28 (by decide) ?_
        exact ih y4 r_2 _ _ hf hP hD hS ls (lv_sub hl [2, 1, 0] rfl)
  have hl := lv_entry [.ref a_r0, .int x1] (n := 6) (Nat.le_of_ble_eq_true rfl)
  rw [lg_entry_eq]
  generalize (lg_sl [.ref a_r0, .int x1] ++ List.replicate (6 - (lg_sl [.ref a_r0, .int x1]).length) Slot.unset).toArray = ls at hl ⊢
  have hl : lv_has ls 6 [(0, .ref a_r0), (1, .int x1)] := hl
  unfold f_X6_patchOf at hf
  refine lv_lconst (v := 0) hx hb dX6_patchOf_0 rfl ?_
  refine lv_lstore_n (lv' := [(2, .long 0), (0, .ref a_r0), (1, .int x1)]) hx hb dX6_patchOf_1 rfl hl (by decide) rfl (fun ls hl => ?_)
  refine lv_lconst (v := 1) hx hb dX6_patchOf_2 rfl ?_
  refine lv_iload_n hx hb dX6_patchOf_3 rfl (lv_at hl 2 rfl) ?_
  refine lv_lshl (v := (jsl 1 x1)) hx hb dX6_patchOf_4 rfl ?_
  refine lv_lstore (lv' := [(4, .long (jsl 1 x1)), (2, .long 0), (0, .ref a_r0), (1, .int x1)]) hx hb dX6_patchOf_5 hl (by decide) rfl (fun ls hl => ?_)
  exact bl_7 n 0 (jsl 1 x1) _ _ hf hP hD hS ls (lv_sub hl [2, 1, 0] rfl)
set_option maxHeartbeats 4000000 in
set_option maxRecDepth 100000 in
theorem c_X6_patches {l : Launch} (G : va_G) (cy : Nat → ClassId) (a_r0 : Nat) (sz : Nat) (g_r0 : Nat → Int64) (n : Nat) (R : Int32) (hf : f_X6_patches n g_r0 = some R) : Met l yX6_patches wsX6_patches ({ frames := 7, cells := 0, slots := 0, locals := 170 } : Room) (va_Pc [.ref a_r0] (pcW G cy [(a_r0, av_J cy 11 g_r0)] sz)) (va_Qi (fun r (_ : Unit) => r = R) (fun _ t => Wd G cy (va_A [(a_r0, av_J cy 11 g_r0)] sz) [(a_r0, av_J cy 11 g_r0)] t) (va_A [(a_r0, av_J cy 11 g_r0)] sz)) 0 0 (va_A [(a_r0, av_J cy 11 g_r0)] sz) := by
  refine Met.ofW (cc := cX6_patches) (maxL := 5) (ret := (some .int)) (by decide) rfl ?_
  intro p e s m args below meth c s₁ B hml hv
  obtain ⟨rfl, hsz, hP, hK, hD0, hN⟩ := hv
  have hx := B.exec
  have hb := B.bytes
  have hr := B.returns
  have hts := atoms_spec (ws := wsX6_patches) B.pre
  have hown : s.vm.findClass RX6 = some m.cls := findClass_of_methodNamed B.named
  have hlocks := B.notSynchronized
  subst hsz
  have hD := hD0.self (sz := s.heap.size)
  generalize hAe : va_A [(a_r0, av_J cy 11 g_r0)] s.heap.size = A at hD ⊢
  have hA : ∀ q : Nat, s.heap.size ≤ q → A q := fun q h => by rw [← hAe]; exact Or.inr h
  have hS : va_S A s.heap s.heap [] := va_S.rf
  have hP : va_P G vwCl [(a_r0, av_J cy 11 g_r0)] s.heap := hP
  have bl_10 : ∀ (k : Nat), ∀ (y1 : Int32) (y2 : Int64) (y4 : Int32) (H : Heap) (locs : List Loc), f_X6_patches_b10 n g_r0 k y1 y2 y4 = some R → va_P G vwCl [(a_r0, av_J cy 11 g_r0)] H → va_D A [(a_r0, av_J cy 11 g_r0)] → va_S A s.heap H locs → ∀ (ls : Array Slot), lv_has ls 5 [(0, .ref a_r0), (1, .int y1), (2, .long y2), (4, .int y4)] → W p l e ({ frames := 7, cells := 0, slots := 0, locals := 170 } : Room) s m [.ref a_r0].toArray below meth c H locs 0 0 (MQ below (va_Qi (fun r (_ : Unit) => r = R) (fun _ t => Wd G cy A [(a_r0, av_J cy 11 g_r0)] t) A) [.ref a_r0].toArray s 0 0 A) (F0 m 10 ls []) := by
    intro k
    induction k with
    | zero =>
      intro y1 y2 y4 H locs hf; cases hf
    | succ k ih =>
      intro y1 y2 y4 H locs hf hP hD hS ls hl
      have hf := (f_X6_patches_b10_s n g_r0 k y1 y2 y4).symm.trans hf
      refine lv_iload hx hb dX6_patches_10 (lv_at hl 3 rfl) ?_
      refine lv_bipush (v := 64) hx hb dX6_patches_12 (by decide) ?_
      refine lv_icmp_ge (tgt := 48) hx hb dX6_patches_14 (by decide) (fun h_1 => ?_) (fun h_1 => ?_)
      · have hf := ip_ h_1 hf
        refine lv_iload_n hx hb dX6_patches_48 rfl (lv_at hl 1 rfl) ?_
        obtain rfl := Option.some.inj hf
        exact kr_i hx hb hr hlocks rfl hP hK hD hN hS hS.2.2 dX6_patches_49
      · have hf := in_ h_1 hf
        refine lv_lload_n hx hb dX6_patches_17 rfl (lv_at hl 2 rfl) ?_
        refine lv_iload hx hb dX6_patches_18 (lv_at hl 3 rfl) ?_
        refine kc_i (w1 := []) (wr := [(a_r0, av_J cy 11 g_r0)]) hP hD hS hA [] [0] rfl rfl rfl (by decide) (va_runS (As := [.long y2, .int y4]) (rest := []) ⟨hx, hb, hml, hown, hts⟩ (c_X6_has (l := l) G cy  H.size y2 y4  (f_X6_has y2 y4) rfl) (va_cwS 2 hts gX6_patches_X6_has rfl rfl rfl ddN_X6_has ⟨Nat.le_of_ble_eq_true rfl, Nat.le_of_ble_eq_true rfl⟩) (preS_ (hP.sub (ws' := []) [] rfl) hK (hD.sub (ws' := []) [] rfl rfl) hN) rfl rfl hl.1 rfl (lv_room (Nat.le_of_ble_eq_true rfl)) dX6_patches_20 ⟨Nat.le_of_ble_eq_true rfl, Nat.le_of_ble_eq_true rfl⟩) (fun H locs hP hD hS => ?_)
        have hP : va_P G vwCl [(a_r0, av_J cy 11 g_r0)] H := hP
        have hD : va_D A [(a_r0, av_J cy 11 g_r0)] := hD
        refine lv_if_eq (tgt := 42) hx hb dX6_patches_23 (by decide) (fun h_2 => ?_) (fun h_2 => ?_)
        · have hf := in_ (bI_0 h_2) hf
          refine lv_iinc (v := (y4 + 1)) (lv' := [(4, .int (y4 + 1)), (0, .ref a_r0), (1, .int y1), (2, .long y2)]) hx hb dX6_patches_42 hl (k := 3) rfl rfl (by decide) rfl (fun ls hl => ?_)
          refine lv_goto (tgt := 10) hx hb dX6_patches_45 (by decide) ?_
          exact ih y1 y2 (y4 + 1) _ _ hf hP hD hS ls (lv_sub hl [1, 2, 3, 0] rfl)
        · have hf := ip_ (bI_n0 h_2) hf
          refine lv_lload_n hx hb dX6_patches_26 rfl (lv_at hl 2 rfl) ?_
          refine lv_aload_n hx hb dX6_patches_27 rfl (lv_at hl 0 rfl) ?_
          refine lv_iload hx hb dX6_patches_28 (lv_at hl 3 rfl) ?_
          obtain ⟨r_3, hh_r_3, hf⟩ := obd_some hf
          refine kc_l (w1 := [(a_r0, av_J cy 11 g_r0)]) (wr := []) hP hD hS hA [0] [] rfl rfl rfl (by decide) (va_runS (As := [.ref a_r0, .int y4]) (rest := [.long y2]) ⟨hx, hb, hml, hown, hts⟩ (c_X6_patchOf (l := l) G cy a_r0 H.size g_r0 y4 n r_3 hh_r_3) (va_cwS 2 hts gX6_patches_X6_patchOf rfl rfl rfl ddN_X6_patchOf ⟨Nat.le_of_ble_eq_true rfl, Nat.le_of_ble_eq_true rfl⟩) (preS_ hP hK hD hN) rfl rfl hl.1 rfl (lv_room (Nat.le_of_ble_eq_true rfl)) dX6_patches_30 ⟨Nat.le_of_ble_eq_true rfl, Nat.le_of_ble_eq_true rfl⟩) (fun H locs hP hD hS => ?_)
          have hP : va_P G vwCl [(a_r0, av_J cy 11 g_r0)] H := hP
          have hD : va_D A [(a_r0, av_J cy 11 g_r0)] := hD
          refine lv_ldc2 (v := (-1)) hx hb hown (hts (.constantLong RX6 109 (-1)) (by decide +kernel)) dX6_patches_33 ?_
          refine lv_lxor hx hb dX6_patches_36 ?_
          refine lv_land hx hb dX6_patches_37 ?_
          refine lv_lstore_n (lv' := [(2, .long (y2 &&& (r_3 ^^^ (-1)))), (0, .ref a_r0), (1, .int y1), (4, .int y4)]) hx hb dX6_patches_38 rfl hl (by decide) rfl (fun ls hl => ?_)
          refine lv_iinc (v := (y1 + 1)) (lv' := [(1, .int (y1 + 1)), (2, .long (y2 &&& (r_3 ^^^ (-1)))), (0, .ref a_r0), (4, .int y4)]) hx hb dX6_patches_39 hl (k := 2) rfl rfl (by decide) rfl (fun ls hl => ?_)
          refine lv_iinc (v := (y4 + 1)) (lv' := [(4, .int (y4 + 1)), (1, .int (y1 + 1)), (2, .long (y2 &&& (r_3 ^^^ (-1)))), (0, .ref a_r0)]) hx hb dX6_patches_42 hl (k := 3) rfl rfl (by decide) rfl (fun ls hl => ?_)
          refine lv_goto (tgt := 10) hx hb dX6_patches_45 (by decide) ?_
          exact ih (y1 + 1) (y2 &&& (r_3 ^^^ (-1))) (y4 + 1) _ _ hf hP hD hS ls (lv_sub hl [3, 1, 2, 0] rfl)
  have hl := lv_entry [.ref a_r0] (n := 5) (Nat.le_of_ble_eq_true rfl)
  rw [lg_entry_eq]
  generalize (lg_sl [.ref a_r0] ++ List.replicate (5 - (lg_sl [.ref a_r0]).length) Slot.unset).toArray = ls at hl ⊢
  have hl : lv_has ls 5 [(0, .ref a_r0)] := hl
  unfold f_X6_patches at hf
  refine lv_iconst (v := 0) hx hb dX6_patches_0 (by decide) ?_
  refine lv_istore_n (lv' := [(1, .int 0), (0, .ref a_r0)]) hx hb dX6_patches_1 rfl hl (by decide) rfl (fun ls hl => ?_)
  refine lv_aload_n hx hb dX6_patches_2 rfl (lv_at hl 1 rfl) ?_
  refine lv_bipush (v := 8) hx hb dX6_patches_3 (by decide) ?_
  refine vz_lald tn_8 hx hb hK hP 0 2 rfl rfl vn_8_11 dX6_patches_5 ?_
  refine lv_lstore_n (lv' := [(2, .long (g_r0 8)), (1, .int 0), (0, .ref a_r0)]) hx hb dX6_patches_6 rfl hl (by decide) rfl (fun ls hl => ?_)
  refine lv_iconst (v := 0) hx hb dX6_patches_7 (by decide) ?_
  refine lv_istore (lv' := [(4, .int 0), (2, .long (g_r0 8)), (1, .int 0), (0, .ref a_r0)]) hx hb dX6_patches_8 hl (by decide) rfl (fun ls hl => ?_)
  exact bl_10 n 0 (g_r0 8) 0 _ _ hf hP hD hS ls (lv_sub hl [3, 2, 1, 0] rfl)
set_option maxHeartbeats 4000000 in
set_option maxRecDepth 100000 in
theorem c_X6_largest {l : Launch} (G : va_G) (cy : Nat → ClassId) (a_r0 : Nat) (sz : Nat) (g_r0 : Nat → Int64) (n : Nat) (R : Int32) (hf : f_X6_largest n g_r0 = some R) : Met l yX6_largest wsX6_largest ({ frames := 7, cells := 0, slots := 0, locals := 170 } : Room) (va_Pc [.ref a_r0] (pcW G cy [(a_r0, av_J cy 11 g_r0)] sz)) (va_Qi (fun r (_ : Unit) => r = R) (fun _ t => Wd G cy (va_A [(a_r0, av_J cy 11 g_r0)] sz) [(a_r0, av_J cy 11 g_r0)] t) (va_A [(a_r0, av_J cy 11 g_r0)] sz)) 0 0 (va_A [(a_r0, av_J cy 11 g_r0)] sz) := by
  refine Met.ofW (cc := cX6_largest) (maxL := 8) (ret := (some .int)) (by decide) rfl ?_
  intro p e s m args below meth c s₁ B hml hv
  obtain ⟨rfl, hsz, hP, hK, hD0, hN⟩ := hv
  have hx := B.exec
  have hb := B.bytes
  have hr := B.returns
  have hts := atoms_spec (ws := wsX6_largest) B.pre
  have hown : s.vm.findClass RX6 = some m.cls := findClass_of_methodNamed B.named
  have hlocks := B.notSynchronized
  subst hsz
  have hD := hD0.self (sz := s.heap.size)
  generalize hAe : va_A [(a_r0, av_J cy 11 g_r0)] s.heap.size = A at hD ⊢
  have hA : ∀ q : Nat, s.heap.size ≤ q → A q := fun q h => by rw [← hAe]; exact Or.inr h
  have hS : va_S A s.heap s.heap [] := va_S.rf
  have hP : va_P G vwCl [(a_r0, av_J cy 11 g_r0)] s.heap := hP
  have bl_10 : ∀ (k : Nat), ∀ (y1 : Int32) (y2 : Int64) (y4 : Int32) (H : Heap) (locs : List Loc), f_X6_largest_b10 n g_r0 k y1 y2 y4 = some R → va_P G vwCl [(a_r0, av_J cy 11 g_r0)] H → va_D A [(a_r0, av_J cy 11 g_r0)] → va_S A s.heap H locs → ∀ (ls : Array Slot), lv_has ls 8 [(0, .ref a_r0), (1, .int y1), (2, .long y2), (4, .int y4)] → W p l e ({ frames := 7, cells := 0, slots := 0, locals := 170 } : Room) s m [.ref a_r0].toArray below meth c H locs 0 0 (MQ below (va_Qi (fun r (_ : Unit) => r = R) (fun _ t => Wd G cy A [(a_r0, av_J cy 11 g_r0)] t) A) [.ref a_r0].toArray s 0 0 A) (F0 m 10 ls []) := by
    intro k
    induction k with
    | zero =>
      intro y1 y2 y4 H locs hf; cases hf
    | succ k ih =>
      intro y1 y2 y4 H locs hf hP hD hS ls hl
      have hf := (f_X6_largest_b10_s n g_r0 k y1 y2 y4).symm.trans hf
      refine lv_iload hx hb dX6_largest_10 (lv_at hl 3 rfl) ?_
      refine lv_bipush (v := 64) hx hb dX6_largest_12 (by decide) ?_
      refine lv_icmp_ge (tgt := 69) hx hb dX6_largest_14 (by decide) (fun h_1 => ?_) (fun h_1 => ?_)
      · have hf := ip_ h_1 hf
        refine lv_iload_n hx hb dX6_largest_69 rfl (lv_at hl 1 rfl) ?_
        obtain rfl := Option.some.inj hf
        exact kr_i hx hb hr hlocks rfl hP hK hD hN hS hS.2.2 dX6_largest_70
      · have hf := in_ h_1 hf
        refine lv_lload_n hx hb dX6_largest_17 rfl (lv_at hl 2 rfl) ?_
        refine lv_iload hx hb dX6_largest_18 (lv_at hl 3 rfl) ?_
        refine kc_i (w1 := []) (wr := [(a_r0, av_J cy 11 g_r0)]) hP hD hS hA [] [0] rfl rfl rfl (by decide) (va_runS (As := [.long y2, .int y4]) (rest := []) ⟨hx, hb, hml, hown, hts⟩ (c_X6_has (l := l) G cy  H.size y2 y4  (f_X6_has y2 y4) rfl) (va_cwS 2 hts gX6_largest_X6_has rfl rfl rfl ddN_X6_has ⟨Nat.le_of_ble_eq_true rfl, Nat.le_of_ble_eq_true rfl⟩) (preS_ (hP.sub (ws' := []) [] rfl) hK (hD.sub (ws' := []) [] rfl rfl) hN) rfl rfl hl.1 rfl (lv_room (Nat.le_of_ble_eq_true rfl)) dX6_largest_20 ⟨Nat.le_of_ble_eq_true rfl, Nat.le_of_ble_eq_true rfl⟩) (fun H locs hP hD hS => ?_)
        have hP : va_P G vwCl [(a_r0, av_J cy 11 g_r0)] H := hP
        have hD : va_D A [(a_r0, av_J cy 11 g_r0)] := hD
        refine lv_if_eq (tgt := 63) hx hb dX6_largest_23 (by decide) (fun h_2 => ?_) (fun h_2 => ?_)
        · have hf := in_ (bI_0 h_2) hf
          refine lv_iinc (v := (y4 + 1)) (lv' := [(4, .int (y4 + 1)), (0, .ref a_r0), (1, .int y1), (2, .long y2)]) hx hb dX6_largest_63 hl (k := 3) rfl rfl (by decide) rfl (fun ls hl => ?_)
          refine lv_goto (tgt := 10) hx hb dX6_largest_66 (by decide) ?_
          exact ih y1 y2 (y4 + 1) _ _ hf hP hD hS ls (lv_sub hl [1, 2, 3, 0] rfl)
        · have hf := ip_ (bI_n0 h_2) hf
          refine lv_aload_n hx hb dX6_largest_26 rfl (lv_at hl 0 rfl) ?_
          refine lv_iload hx hb dX6_largest_27 (lv_at hl 3 rfl) ?_
          obtain ⟨r_3, hh_r_3, hf⟩ := obd_some hf
          refine kc_l (w1 := [(a_r0, av_J cy 11 g_r0)]) (wr := []) hP hD hS hA [0] [] rfl rfl rfl (by decide) (va_runS (As := [.ref a_r0, .int y4]) (rest := []) ⟨hx, hb, hml, hown, hts⟩ (c_X6_patchOf (l := l) G cy a_r0 H.size g_r0 y4 n r_3 hh_r_3) (va_cwS 2 hts gX6_largest_X6_patchOf rfl rfl rfl ddN_X6_patchOf ⟨Nat.le_of_ble_eq_true rfl, Nat.le_of_ble_eq_true rfl⟩) (preS_ hP hK hD hN) rfl rfl hl.1 rfl (lv_room (Nat.le_of_ble_eq_true rfl)) dX6_largest_29 ⟨Nat.le_of_ble_eq_true rfl, Nat.le_of_ble_eq_true rfl⟩) (fun H locs hP hD hS => ?_)
          have hP : va_P G vwCl [(a_r0, av_J cy 11 g_r0)] H := hP
          have hD : va_D A [(a_r0, av_J cy 11 g_r0)] := hD
          refine lv_lstore (lv' := [(5, .long r_3), (0, .ref a_r0), (1, .int y1), (2, .long y2), (4, .int y4)]) hx hb dX6_largest_32 hl (by decide) rfl (fun ls hl => ?_)
          refine lv_lload_n hx hb dX6_largest_34 rfl (lv_at hl 3 rfl) ?_
          refine lv_lload hx hb dX6_largest_35 (lv_at hl 0 rfl) ?_
          refine lv_ldc2 (v := (-1)) hx hb hown (hts (.constantLong RX6 109 (-1)) (by decide +kernel)) dX6_largest_37 ?_
          refine lv_lxor hx hb dX6_largest_40 ?_
          refine lv_land hx hb dX6_largest_41 ?_
          refine lv_lstore_n (lv' := [(2, .long (y2 &&& (r_3 ^^^ (-1)))), (5, .long r_3), (0, .ref a_r0), (1, .int y1), (4, .int y4)]) hx hb dX6_largest_42 rfl hl (by decide) rfl (fun ls hl => ?_)
          refine lv_lload hx hb dX6_largest_43 (lv_at hl 1 rfl) ?_
          obtain ⟨r_4, hh_r_4, hf⟩ := obd_some hf
          refine kc_i (w1 := []) (wr := [(a_r0, av_J cy 11 g_r0)]) hP hD hS hA [] [0] rfl rfl rfl (by decide) (va_runS (As := [.long r_3]) (rest := []) ⟨hx, hb, hml, hown, hts⟩ (c_X6_bits (l := l) G cy  H.size r_3 n r_4 hh_r_4) (va_cwS 1 hts gX6_largest_X6_bits rfl rfl rfl ddN_X6_bits ⟨Nat.le_of_ble_eq_true rfl, Nat.le_of_ble_eq_true rfl⟩) (preS_ (hP.sub (ws' := []) [] rfl) hK (hD.sub (ws' := []) [] rfl rfl) hN) rfl rfl hl.1 rfl (lv_room (Nat.le_of_ble_eq_true rfl)) dX6_largest_45 ⟨Nat.le_of_ble_eq_true rfl, Nat.le_of_ble_eq_true rfl⟩) (fun H locs hP hD hS => ?_)
          have hP : va_P G vwCl [(a_r0, av_J cy 11 g_r0)] H := hP
          have hD : va_D A [(a_r0, av_J cy 11 g_r0)] := hD
          refine lv_istore (lv' := [(7, .int r_4), (2, .long (y2 &&& (r_3 ^^^ (-1)))), (5, .long r_3), (0, .ref a_r0), (1, .int y1), (4, .int y4)]) hx hb dX6_largest_48 hl (by decide) rfl (fun ls hl => ?_)
          refine lv_iload hx hb dX6_largest_50 (lv_at hl 0 rfl) ?_
          refine lv_iload_n hx hb dX6_largest_52 rfl (lv_at hl 4 rfl) ?_
          refine lv_icmp_le (tgt := 61) hx hb dX6_largest_53 (by decide) (fun h_5 => ?_) (fun h_5 => ?_)
          · have hf := ip_ h_5 hf
            refine lv_iload_n hx hb dX6_largest_61 rfl (lv_at hl 4 rfl) ?_
            refine lv_istore_n (lv' := [(1, .int y1), (7, .int r_4), (2, .long (y2 &&& (r_3 ^^^ (-1)))), (5, .long r_3), (0, .ref a_r0), (4, .int y4)]) hx hb dX6_largest_62 rfl hl (by decide) rfl (fun ls hl => ?_)
            refine lv_iinc (v := (y4 + 1)) (lv' := [(4, .int (y4 + 1)), (1, .int y1), (7, .int r_4), (2, .long (y2 &&& (r_3 ^^^ (-1)))), (5, .long r_3), (0, .ref a_r0)]) hx hb dX6_largest_63 hl (k := 5) rfl rfl (by decide) rfl (fun ls hl => ?_)
            refine lv_goto (tgt := 10) hx hb dX6_largest_66 (by decide) ?_
            exact ih y1 (y2 &&& (r_3 ^^^ (-1))) (y4 + 1) _ _ hf hP hD hS ls (lv_sub hl [5, 1, 3, 0] rfl)
          · have hf := in_ h_5 hf
            refine lv_iload hx hb dX6_largest_56 (lv_at hl 0 rfl) ?_
            refine lv_goto (tgt := 62) hx hb dX6_largest_58 (by decide) ?_
            refine lv_istore_n (lv' := [(1, .int r_4), (7, .int r_4), (2, .long (y2 &&& (r_3 ^^^ (-1)))), (5, .long r_3), (0, .ref a_r0), (4, .int y4)]) hx hb dX6_largest_62 rfl hl (by decide) rfl (fun ls hl => ?_)
            refine lv_iinc (v := (y4 + 1)) (lv' := [(4, .int (y4 + 1)), (1, .int r_4), (7, .int r_4), (2, .long (y2 &&& (r_3 ^^^ (-1)))), (5, .long r_3), (0, .ref a_r0)]) hx hb dX6_largest_63 hl (k := 5) rfl rfl (by decide) rfl (fun ls hl => ?_)
            refine lv_goto (tgt := 10) hx hb dX6_largest_66 (by decide) ?_
            exact ih r_4 (y2 &&& (r_3 ^^^ (-1))) (y4 + 1) _ _ hf hP hD hS ls (lv_sub hl [5, 1, 3, 0] rfl)
  have hl := lv_entry [.ref a_r0] (n := 8) (Nat.le_of_ble_eq_true rfl)
  rw [lg_entry_eq]
  generalize (lg_sl [.ref a_r0] ++ List.replicate (8 - (lg_sl [.ref a_r0]).length) Slot.unset).toArray = ls at hl ⊢
  have hl : lv_has ls 8 [(0, .ref a_r0)] := hl
  unfold f_X6_largest at hf
  refine lv_iconst (v := 0) hx hb dX6_largest_0 (by decide) ?_
  refine lv_istore_n (lv' := [(1, .int 0), (0, .ref a_r0)]) hx hb dX6_largest_1 rfl hl (by decide) rfl (fun ls hl => ?_)
  refine lv_aload_n hx hb dX6_largest_2 rfl (lv_at hl 1 rfl) ?_
  refine lv_bipush (v := 8) hx hb dX6_largest_3 (by decide) ?_
  refine vz_lald tn_8 hx hb hK hP 0 2 rfl rfl vn_8_11 dX6_largest_5 ?_
  refine lv_lstore_n (lv' := [(2, .long (g_r0 8)), (1, .int 0), (0, .ref a_r0)]) hx hb dX6_largest_6 rfl hl (by decide) rfl (fun ls hl => ?_)
  refine lv_iconst (v := 0) hx hb dX6_largest_7 (by decide) ?_
  refine lv_istore (lv' := [(4, .int 0), (2, .long (g_r0 8)), (1, .int 0), (0, .ref a_r0)]) hx hb dX6_largest_8 hl (by decide) rfl (fun ls hl => ?_)
  exact bl_10 n 0 (g_r0 8) 0 _ _ hf hP hD hS ls (lv_sub hl [3, 2, 1, 0] rfl)
set_option maxHeartbeats 4000000 in
set_option maxRecDepth 100000 in
theorem c_X6_flipOn {l : Launch} (G : va_G) (cy : Nat → ClassId) (a_r0 : Nat) (sz : Nat) (g_r0 : Nat → Int64) (x1 : Int32)  (R : Int32 × (Nat → Int64)) (hf : f_X6_flipOn g_r0 x1 = R) : Met l yX6_flipOn wsX6_flipOn ({ frames := 1, cells := 0, slots := 0, locals := 22 } : Room) (va_Pc [.ref a_r0, .int x1] (pcW G cy [(a_r0, av_J cy 11 g_r0)] sz)) (va_Qi (fun r (_ : Unit) => r = R.1) (fun _ t => Wd G cy (va_A [(a_r0, av_J cy 11 g_r0)] sz) [(a_r0, av_J cy 11 R.2)] t) (va_A [(a_r0, av_J cy 11 g_r0)] sz)) 0 0 (va_A [(a_r0, av_J cy 11 g_r0)] sz) := by
  refine Met.ofW (cc := cX6_flipOn) (maxL := 2) (ret := (some .int)) (by decide) rfl ?_
  intro p e s m args below meth c s₁ B hml hv
  obtain ⟨rfl, hsz, hP, hK, hD0, hN⟩ := hv
  have hx := B.exec
  have hb := B.bytes
  have hr := B.returns
  have hts := atoms_spec (ws := wsX6_flipOn) B.pre
  have hown : s.vm.findClass RX6 = some m.cls := findClass_of_methodNamed B.named
  have hlocks := B.notSynchronized
  subst hsz
  have hD := hD0.self (sz := s.heap.size)
  generalize hAe : va_A [(a_r0, av_J cy 11 g_r0)] s.heap.size = A at hD ⊢
  have hA : ∀ q : Nat, s.heap.size ≤ q → A q := fun q h => by rw [← hAe]; exact Or.inr h
  have hS : va_S A s.heap s.heap [] := va_S.rf
  have hP : va_P G vwCl [(a_r0, av_J cy 11 g_r0)] s.heap := hP
  have hl := lv_entry [.ref a_r0, .int x1] (n := 2) (Nat.le_of_ble_eq_true rfl)
  rw [lg_entry_eq]
  generalize (lg_sl [.ref a_r0, .int x1] ++ List.replicate (2 - (lg_sl [.ref a_r0, .int x1]).length) Slot.unset).toArray = ls at hl ⊢
  have hl : lv_has ls 2 [(0, .ref a_r0), (1, .int x1)] := hl
  unfold f_X6_flipOn at hf
  refine lv_aload_n hx hb dX6_flipOn_0 rfl (lv_at hl 0 rfl) ?_
  refine lv_bipush (v := 8) hx hb dX6_flipOn_1 (by decide) ?_
  refine lv_dup2_11 hx hb dX6_flipOn_3 rfl rfl ?_
  refine vz_lald tn_8 hx hb hK hP 0 2 rfl rfl vn_8_11 dX6_flipOn_4 ?_
  refine lv_lconst (v := 1) hx hb dX6_flipOn_5 rfl ?_
  refine lv_iload_n hx hb dX6_flipOn_6 rfl (lv_at hl 1 rfl) ?_
  refine lv_lshl (v := (jsl 1 x1)) hx hb dX6_flipOn_7 rfl ?_
  refine lv_lxor hx hb dX6_flipOn_8 ?_
  refine vz_last tn_8 hx hb hK hP hD hS 0 2 rfl rfl vn_8_11 dX6_flipOn_9 (fun H locs hP hD hS => ?_)
  have hP : va_P G vwCl [(a_r0, av_J cy 11 (vp_updL g_r0 8 ((g_r0 8) ^^^ (jsl 1 x1))))] H := hP
  have hD : va_D A [(a_r0, av_J cy 11 (vp_updL g_r0 8 ((g_r0 8) ^^^ (jsl 1 x1))))] := hD
  refine lv_aload_n hx hb dX6_flipOn_10 rfl (lv_at hl 0 rfl) ?_
  refine lv_bipush (v := 8) hx hb dX6_flipOn_11 (by decide) ?_
  refine vz_lald tn_8 hx hb hK hP 0 2 rfl rfl vn_8_11 dX6_flipOn_13 ?_
  refine lv_iload_n hx hb dX6_flipOn_14 rfl (lv_at hl 1 rfl) ?_
  refine kc_i (w1 := []) (wr := [(a_r0, av_J cy 11 (vp_updL g_r0 8 ((g_r0 8) ^^^ (jsl 1 x1))))]) hP hD hS hA [] [0] rfl rfl rfl (by decide) (va_runS (As := [.long ((vp_updL g_r0 8 ((g_r0 8) ^^^ (jsl 1 x1))) 8), .int x1]) (rest := []) ⟨hx, hb, hml, hown, hts⟩ (c_X6_has (l := l) G cy  H.size ((vp_updL g_r0 8 ((g_r0 8) ^^^ (jsl 1 x1))) 8) x1  (f_X6_has ((vp_updL g_r0 8 ((g_r0 8) ^^^ (jsl 1 x1))) 8) x1) rfl) (va_cwS 2 hts gX6_flipOn_X6_has rfl rfl rfl ddN_X6_has ⟨Nat.le_of_ble_eq_true rfl, Nat.le_of_ble_eq_true rfl⟩) (preS_ (hP.sub (ws' := []) [] rfl) hK (hD.sub (ws' := []) [] rfl rfl) hN) rfl rfl hl.1 rfl (lv_room (Nat.le_of_ble_eq_true rfl)) dX6_flipOn_15 ⟨Nat.le_of_ble_eq_true rfl, Nat.le_of_ble_eq_true rfl⟩) (fun H locs hP hD hS => ?_)
  have hP : va_P G vwCl [(a_r0, av_J cy 11 (vp_updL g_r0 8 ((g_r0 8) ^^^ (jsl 1 x1))))] H := hP
  have hD : va_D A [(a_r0, av_J cy 11 (vp_updL g_r0 8 ((g_r0 8) ^^^ (jsl 1 x1))))] := hD
  refine lv_if_eq (tgt := 25) hx hb dX6_flipOn_18 (by decide) (fun h_1 => ?_) (fun h_1 => ?_)
  · have hf := in_ (bI_0 h_1) hf
    refine lv_iconst (v := 0) hx hb dX6_flipOn_25 (by decide) ?_
    subst hf
    exact kr_i hx hb hr hlocks rfl hP hK hD hN hS hS.2.2 dX6_flipOn_26
  · have hf := ip_ (bI_n0 h_1) hf
    refine lv_iconst (v := 1) hx hb dX6_flipOn_21 (by decide) ?_
    refine lv_goto (tgt := 26) hx hb dX6_flipOn_22 (by decide) ?_
    subst hf
    exact kr_i hx hb hr hlocks rfl hP hK hD hN hS hS.2.2 dX6_flipOn_26
set_option maxHeartbeats 4000000 in
set_option maxRecDepth 100000 in
theorem c_X6_canScratch {l : Launch} (G : va_G) (cy : Nat → ClassId) (a_r0 : Nat) (sz : Nat) (g_r0 : Nat → Int64) (x1 : Int32) (x2 : Int32)  (R : Bool) (hf : f_X6_canScratch g_r0 x1 x2 = some R) : Met l yX6_canScratch wsX6_canScratch ({ frames := 2, cells := 0, slots := 0, locals := 49 } : Room) (va_Pc [.ref a_r0, .int x1, .int x2] (pcW G cy [(a_r0, av_J cy 11 g_r0)] sz)) (va_Qi (fun r (_ : Unit) => r = bI R) (fun _ t => Wd G cy (va_A [(a_r0, av_J cy 11 g_r0)] sz) [(a_r0, av_J cy 11 g_r0)] t) (va_A [(a_r0, av_J cy 11 g_r0)] sz)) 0 0 (va_A [(a_r0, av_J cy 11 g_r0)] sz) := by
  refine Met.ofW (cc := cX6_canScratch) (maxL := 3) (ret := (some .boolean)) (by decide) rfl ?_
  intro p e s m args below meth c s₁ B hml hv
  obtain ⟨rfl, hsz, hP, hK, hD0, hN⟩ := hv
  have hx := B.exec
  have hb := B.bytes
  have hr := B.returns
  have hts := atoms_spec (ws := wsX6_canScratch) B.pre
  have hown : s.vm.findClass RX6 = some m.cls := findClass_of_methodNamed B.named
  have hlocks := B.notSynchronized
  subst hsz
  have hD := hD0.self (sz := s.heap.size)
  generalize hAe : va_A [(a_r0, av_J cy 11 g_r0)] s.heap.size = A at hD ⊢
  have hA : ∀ q : Nat, s.heap.size ≤ q → A q := fun q h => by rw [← hAe]; exact Or.inr h
  have hS : va_S A s.heap s.heap [] := va_S.rf
  have hP : va_P G vwCl [(a_r0, av_J cy 11 g_r0)] s.heap := hP
  have hl := lv_entry [.ref a_r0, .int x1, .int x2] (n := 3) (Nat.le_of_ble_eq_true rfl)
  rw [lg_entry_eq]
  generalize (lg_sl [.ref a_r0, .int x1, .int x2] ++ List.replicate (3 - (lg_sl [.ref a_r0, .int x1, .int x2]).length) Slot.unset).toArray = ls at hl ⊢
  have hl : lv_has ls 3 [(0, .ref a_r0), (1, .int x1), (2, .int x2)] := hl
  unfold f_X6_canScratch at hf
  refine lv_aload_n hx hb dX6_canScratch_0 rfl (lv_at hl 0 rfl) ?_
  refine lv_iload_n hx hb dX6_canScratch_1 rfl (lv_at hl 1 rfl) ?_
  refine kc_i (w1 := [(a_r0, av_J cy 11 g_r0)]) (wr := []) hP hD hS hA [0] [] rfl rfl rfl (by decide) (va_runS (As := [.ref a_r0, .int x1]) (rest := []) ⟨hx, hb, hml, hown, hts⟩ (c_X6_isCell (l := l) G cy a_r0 s.heap.size g_r0 x1  (f_X6_isCell g_r0 x1) rfl) (va_cwS 2 hts gX6_canScratch_X6_isCell rfl rfl rfl ddN_X6_isCell ⟨Nat.le_of_ble_eq_true rfl, Nat.le_of_ble_eq_true rfl⟩) (preS_ hP hK hD hN) rfl rfl hl.1 rfl (lv_room (Nat.le_of_ble_eq_true rfl)) dX6_canScratch_2 ⟨Nat.le_of_ble_eq_true rfl, Nat.le_of_ble_eq_true rfl⟩) (fun H locs hP hD hS => ?_)
  have hP : va_P G vwCl [(a_r0, av_J cy 11 g_r0)] H := hP
  have hD : va_D A [(a_r0, av_J cy 11 g_r0)] := hD
  refine lv_if_eq (tgt := 29) hx hb dX6_canScratch_5 (by decide) (fun h_1 => ?_) (fun h_1 => ?_)
  · have hf := in_ (bI_0 h_1) hf
    refine lv_iconst (v := 0) hx hb dX6_canScratch_29 (by decide) ?_
    obtain rfl := Option.some.inj hf
    exact kr_z (V := bI false) hx hb hr hlocks (bI_nar _) rfl hP hK hD hN hS hS.2.2 dX6_canScratch_30
  · have hf := ip_ (bI_n0 h_1) hf
    refine lv_iload_n hx hb dX6_canScratch_8 rfl (lv_at hl 2 rfl) ?_
    refine kc_i (w1 := []) (wr := [(a_r0, av_J cy 11 g_r0)]) hP hD hS hA [] [0] rfl rfl rfl (by decide) (va_runS (As := [.int x2]) (rest := []) ⟨hx, hb, hml, hown, hts⟩ (c_X6_isDirection (l := l) G cy  H.size x2  (f_X6_isDirection x2) rfl) (va_cwS 1 hts gX6_canScratch_X6_isDirection rfl rfl rfl ddN_X6_isDirection ⟨Nat.le_of_ble_eq_true rfl, Nat.le_of_ble_eq_true rfl⟩) (preS_ (hP.sub (ws' := []) [] rfl) hK (hD.sub (ws' := []) [] rfl rfl) hN) rfl rfl hl.1 rfl (lv_room (Nat.le_of_ble_eq_true rfl)) dX6_canScratch_9 ⟨Nat.le_of_ble_eq_true rfl, Nat.le_of_ble_eq_true rfl⟩) (fun H locs hP hD hS => ?_)
    have hP : va_P G vwCl [(a_r0, av_J cy 11 g_r0)] H := hP
    have hD : va_D A [(a_r0, av_J cy 11 g_r0)] := hD
    refine lv_if_eq (tgt := 29) hx hb dX6_canScratch_12 (by decide) (fun h_2 => ?_) (fun h_2 => ?_)
    · have hf := in_ (bI_0 h_2) hf
      refine lv_iconst (v := 0) hx hb dX6_canScratch_29 (by decide) ?_
      obtain rfl := Option.some.inj hf
      exact kr_z (V := bI false) hx hb hr hlocks (bI_nar _) rfl hP hK hD hN hS hS.2.2 dX6_canScratch_30
    · have hf := ip_ (bI_n0 h_2) hf
      refine lv_aload_n hx hb dX6_canScratch_15 rfl (lv_at hl 0 rfl) ?_
      refine lv_iload_n hx hb dX6_canScratch_16 rfl (lv_at hl 1 rfl) ?_
      refine lv_iload_n hx hb dX6_canScratch_17 rfl (lv_at hl 2 rfl) ?_
      obtain ⟨r_3, hh_r_3, hf⟩ := obd_some hf
      refine kc_i (w1 := [(a_r0, av_J cy 11 g_r0)]) (wr := []) hP hD hS hA [0] [] rfl rfl rfl (by decide) (va_runS (As := [.ref a_r0, .int x1, .int x2]) (rest := []) ⟨hx, hb, hml, hown, hts⟩ (c_X6_neighbourOf (l := l) G cy a_r0 H.size g_r0 x1 x2  r_3 hh_r_3) (va_cwS 3 hts gX6_canScratch_X6_neighbourOf rfl rfl rfl ddN_X6_neighbourOf ⟨Nat.le_of_ble_eq_true rfl, Nat.le_of_ble_eq_true rfl⟩) (preS_ hP hK hD hN) rfl rfl hl.1 rfl (lv_room (Nat.le_of_ble_eq_true rfl)) dX6_canScratch_18 ⟨Nat.le_of_ble_eq_true rfl, Nat.le_of_ble_eq_true rfl⟩) (fun H locs hP hD hS => ?_)
      have hP : va_P G vwCl [(a_r0, av_J cy 11 g_r0)] H := hP
      have hD : va_D A [(a_r0, av_J cy 11 g_r0)] := hD
      refine lv_iconst (v := (-1)) hx hb dX6_canScratch_21 (by decide) ?_
      refine lv_icmp_eq (tgt := 29) hx hb dX6_canScratch_22 (by decide) (fun h_4 => ?_) (fun h_4 => ?_)
      · have hf := ip_ h_4 hf
        refine lv_iconst (v := 0) hx hb dX6_canScratch_29 (by decide) ?_
        obtain rfl := Option.some.inj hf
        exact kr_z (V := bI false) hx hb hr hlocks (bI_nar _) rfl hP hK hD hN hS hS.2.2 dX6_canScratch_30
      · have hf := in_ h_4 hf
        refine lv_iconst (v := 1) hx hb dX6_canScratch_25 (by decide) ?_
        refine lv_goto (tgt := 30) hx hb dX6_canScratch_26 (by decide) ?_
        obtain rfl := Option.some.inj hf
        exact kr_z (V := bI true) hx hb hr hlocks (bI_nar _) rfl hP hK hD hN hS hS.2.2 dX6_canScratch_30
