theorem ddN_X0_takeOutOfOthers : yX0_takeOutOfOthers.cls ≠ "java/lang/invoke/MethodHandle" ∧ yX0_takeOutOfOthers.cls ≠ "java/lang/invoke/VarHandle" ∧ (parseMethodDescriptor yX0_takeOutOfOthers.desc).map (fun d => d.parameters.length) = some 2 := by decide +kernel
theorem ddV_X0_takeOutOfOthers : yX0_takeOutOfOthers.cls = RX0 ∧ yX0_takeOutOfOthers.cls ≠ "java/lang/invoke/MethodHandle" ∧ yX0_takeOutOfOthers.cls ≠ "java/lang/invoke/VarHandle" ∧ (parseMethodDescriptor yX0_takeOutOfOthers.desc).map (fun d => d.parameters.length) = some 2 := by decide +kernel
theorem ddN_X0_term : yX0_term.cls ≠ "java/lang/invoke/MethodHandle" ∧ yX0_term.cls ≠ "java/lang/invoke/VarHandle" ∧ (parseMethodDescriptor yX0_term.desc).map (fun d => d.parameters.length) = some 1 := by decide +kernel
theorem ddV_X0_term : yX0_term.cls = RX0 ∧ yX0_term.cls ≠ "java/lang/invoke/MethodHandle" ∧ yX0_term.cls ≠ "java/lang/invoke/VarHandle" ∧ (parseMethodDescriptor yX0_term.desc).map (fun d => d.parameters.length) = some 1 := by decide +kernel
theorem ddN_X0_unusedWith : yX0_unusedWith.cls ≠ "java/lang/invoke/MethodHandle" ∧ yX0_unusedWith.cls ≠ "java/lang/invoke/VarHandle" ∧ (parseMethodDescriptor yX0_unusedWith.desc).map (fun d => d.parameters.length) = some 1 := by decide +kernel
theorem ddV_X0_unusedWith : yX0_unusedWith.cls = RX0 ∧ yX0_unusedWith.cls ≠ "java/lang/invoke/MethodHandle" ∧ yX0_unusedWith.cls ≠ "java/lang/invoke/VarHandle" ∧ (parseMethodDescriptor yX0_unusedWith.desc).map (fun d => d.parameters.length) = some 1 := by decide +kernel
theorem ddN_X0_write : yX0_write.cls ≠ "java/lang/invoke/MethodHandle" ∧ yX0_write.cls ≠ "java/lang/invoke/VarHandle" ∧ (parseMethodDescriptor yX0_write.desc).map (fun d => d.parameters.length) = some 1 := by decide +kernel
theorem ddV_X0_write : yX0_write.cls = RX0 ∧ yX0_write.cls ≠ "java/lang/invoke/MethodHandle" ∧ yX0_write.cls ≠ "java/lang/invoke/VarHandle" ∧ (parseMethodDescriptor yX0_write.desc).map (fun d => d.parameters.length) = some 1 := by decide +kernel
theorem ddN_X3_readCell : yX3_readCell.cls ≠ "java/lang/invoke/MethodHandle" ∧ yX3_readCell.cls ≠ "java/lang/invoke/VarHandle" ∧ (parseMethodDescriptor yX3_readCell.desc).map (fun d => d.parameters.length) = some 0 := by decide +kernel
theorem ddV_X3_readCell : yX3_readCell.cls = RX3 ∧ yX3_readCell.cls ≠ "java/lang/invoke/MethodHandle" ∧ yX3_readCell.cls ≠ "java/lang/invoke/VarHandle" ∧ (parseMethodDescriptor yX3_readCell.desc).map (fun d => d.parameters.length) = some 0 := by decide +kernel
theorem ddN_X3_readCommand : yX3_readCommand.cls ≠ "java/lang/invoke/MethodHandle" ∧ yX3_readCommand.cls ≠ "java/lang/invoke/VarHandle" ∧ (parseMethodDescriptor yX3_readCommand.desc).map (fun d => d.parameters.length) = some 0 := by decide +kernel
theorem ddV_X3_readCommand : yX3_readCommand.cls = RX3 ∧ yX3_readCommand.cls ≠ "java/lang/invoke/MethodHandle" ∧ yX3_readCommand.cls ≠ "java/lang/invoke/VarHandle" ∧ (parseMethodDescriptor yX3_readCommand.desc).map (fun d => d.parameters.length) = some 0 := by decide +kernel
theorem ddN_X3_readFirst : yX3_readFirst.cls ≠ "java/lang/invoke/MethodHandle" ∧ yX3_readFirst.cls ≠ "java/lang/invoke/VarHandle" ∧ (parseMethodDescriptor yX3_readFirst.desc).map (fun d => d.parameters.length) = some 3 := by decide +kernel
theorem ddV_X3_readFirst : yX3_readFirst.cls = RX3 ∧ yX3_readFirst.cls ≠ "java/lang/invoke/MethodHandle" ∧ yX3_readFirst.cls ≠ "java/lang/invoke/VarHandle" ∧ (parseMethodDescriptor yX3_readFirst.desc).map (fun d => d.parameters.length) = some 3 := by decide +kernel
theorem ddN_X3_readNumber : yX3_readNumber.cls ≠ "java/lang/invoke/MethodHandle" ∧ yX3_readNumber.cls ≠ "java/lang/invoke/VarHandle" ∧ (parseMethodDescriptor yX3_readNumber.desc).map (fun d => d.parameters.length) = some 3 := by decide +kernel
theorem ddV_X3_readNumber : yX3_readNumber.cls = RX3 ∧ yX3_readNumber.cls ≠ "java/lang/invoke/MethodHandle" ∧ yX3_readNumber.cls ≠ "java/lang/invoke/VarHandle" ∧ (parseMethodDescriptor yX3_readNumber.desc).map (fun d => d.parameters.length) = some 3 := by decide +kernel
theorem ddN_X3_readSecond : yX3_readSecond.cls ≠ "java/lang/invoke/MethodHandle" ∧ yX3_readSecond.cls ≠ "java/lang/invoke/VarHandle" ∧ (parseMethodDescriptor yX3_readSecond.desc).map (fun d => d.parameters.length) = some 2 := by decide +kernel
theorem ddV_X3_readSecond : yX3_readSecond.cls = RX3 ∧ yX3_readSecond.cls ≠ "java/lang/invoke/MethodHandle" ∧ yX3_readSecond.cls ≠ "java/lang/invoke/VarHandle" ∧ (parseMethodDescriptor yX3_readSecond.desc).map (fun d => d.parameters.length) = some 2 := by decide +kernel
theorem ddN_X3_readWindow : yX3_readWindow.cls ≠ "java/lang/invoke/MethodHandle" ∧ yX3_readWindow.cls ≠ "java/lang/invoke/VarHandle" ∧ (parseMethodDescriptor yX3_readWindow.desc).map (fun d => d.parameters.length) = some 0 := by decide +kernel
theorem ddV_X3_readWindow : yX3_readWindow.cls = RX3 ∧ yX3_readWindow.cls ≠ "java/lang/invoke/MethodHandle" ∧ yX3_readWindow.cls ≠ "java/lang/invoke/VarHandle" ∧ (parseMethodDescriptor yX3_readWindow.desc).map (fun d => d.parameters.length) = some 0 := by decide +kernel
theorem ddN_X3_sign : yX3_sign.cls ≠ "java/lang/invoke/MethodHandle" ∧ yX3_sign.cls ≠ "java/lang/invoke/VarHandle" ∧ (parseMethodDescriptor yX3_sign.desc).map (fun d => d.parameters.length) = some 0 := by decide +kernel
theorem ddV_X3_sign : yX3_sign.cls = RX3 ∧ yX3_sign.cls ≠ "java/lang/invoke/MethodHandle" ∧ yX3_sign.cls ≠ "java/lang/invoke/VarHandle" ∧ (parseMethodDescriptor yX3_sign.desc).map (fun d => d.parameters.length) = some 0 := by decide +kernel
theorem ddN_X4_copy : yX4_copy.cls ≠ "java/lang/invoke/MethodHandle" ∧ yX4_copy.cls ≠ "java/lang/invoke/VarHandle" ∧ (parseMethodDescriptor yX4_copy.desc).map (fun d => d.parameters.length) = some 1 := by decide +kernel
theorem ddV_X4_copy : yX4_copy.cls = RX4 ∧ yX4_copy.cls ≠ "java/lang/invoke/MethodHandle" ∧ yX4_copy.cls ≠ "java/lang/invoke/VarHandle" ∧ (parseMethodDescriptor yX4_copy.desc).map (fun d => d.parameters.length) = some 1 := by decide +kernel
theorem ddN_X4_count : yX4_count.cls ≠ "java/lang/invoke/MethodHandle" ∧ yX4_count.cls ≠ "java/lang/invoke/VarHandle" ∧ (parseMethodDescriptor yX4_count.desc).map (fun d => d.parameters.length) = some 0 := by decide +kernel
theorem ddV_X4_count : yX4_count.cls = RX4 ∧ yX4_count.cls ≠ "java/lang/invoke/MethodHandle" ∧ yX4_count.cls ≠ "java/lang/invoke/VarHandle" ∧ (parseMethodDescriptor yX4_count.desc).map (fun d => d.parameters.length) = some 0 := by decide +kernel
theorem iw_X0_free_X0 : ∀ w ∈ u_ws RX0 TX0 4, w ∈ wsX0_free := by decide +kernel
theorem iw_X0_isSolved_X0 : ∀ w ∈ u_ws RX0 TX0 4, w ∈ wsX0_isSolved := by decide +kernel
theorem iw_X0_leastSolution_X0 : ∀ w ∈ u_ws RX0 TX0 4, w ∈ wsX0_leastSolution := by decide +kernel
theorem iw_X0_solve_X0 : ∀ w ∈ u_ws RX0 TX0 4, w ∈ wsX0_solve := by decide +kernel
theorem iw_X0_takeOutOfOthers_X0 : ∀ w ∈ u_ws RX0 TX0 4, w ∈ wsX0_takeOutOfOthers := by decide +kernel
theorem iw_X0_term_X0 : ∀ w ∈ u_ws RX0 TX0 4, w ∈ wsX0_term := by decide +kernel
theorem iw_X0_unusedWith_X0 : ∀ w ∈ u_ws RX0 TX0 4, w ∈ wsX0_unusedWith := by decide +kernel
theorem iw_X0_write_X0 : ∀ w ∈ u_ws RX0 TX0 4, w ∈ wsX0_write := by decide +kernel
theorem iw_X0_write_X4 : ∀ w ∈ u_ws RX4 TX4 12, w ∈ wsX0_write := by decide +kernel
theorem iw_X1_forget_X1 : ∀ w ∈ u_ws RX1 TX1 3, w ∈ wsX1_forget := by decide +kernel
theorem iw_X2_empty_X2 : ∀ w ∈ u_ws RX2 TX2 2, w ∈ wsX2_empty := by decide +kernel
theorem iw_X2_put_X2 : ∀ w ∈ u_ws RX2 TX2 2, w ∈ wsX2_put := by decide +kernel
theorem iw_X3_add_X3 : ∀ w ∈ u_ws RX3 TX3 6, w ∈ wsX3_add := by decide +kernel
theorem iw_X3_firstError_X3 : ∀ w ∈ u_ws RX3 TX3 6, w ∈ wsX3_firstError := by decide +kernel
theorem iw_X3_isFull_X3 : ∀ w ∈ u_ws RX3 TX3 6, w ∈ wsX3_isFull := by decide +kernel
theorem iw_X3_readCommand_X3 : ∀ w ∈ u_ws RX3 TX3 6, w ∈ wsX3_readCommand := by decide +kernel
theorem iw_X3_readFirst_X3 : ∀ w ∈ u_ws RX3 TX3 6, w ∈ wsX3_readFirst := by decide +kernel
theorem iw_X3_readNumber_X3 : ∀ w ∈ u_ws RX3 TX3 6, w ∈ wsX3_readNumber := by decide +kernel
theorem iw_X3_readSecond_X3 : ∀ w ∈ u_ws RX3 TX3 6, w ∈ wsX3_readSecond := by decide +kernel
theorem iw_X3_readWindow_X3 : ∀ w ∈ u_ws RX3 TX3 6, w ∈ wsX3_readWindow := by decide +kernel
theorem iw_X3_sign_X3 : ∀ w ∈ u_ws RX3 TX3 6, w ∈ wsX3_sign := by decide +kernel
set_option maxHeartbeats 4000000 in
set_option maxRecDepth 100000 in
theorem c_X0_write {l : Launch} (G : va_G) (cy : Nat → ClassId) (a_0 : Nat) (a_terms : Nat) (a_r0 : Nat) (sz : Nat) (s_0 : ET) (g_terms : Nat → Int64) (s_r0 : WT) (n : Nat) (R : ET × (Nat → Int64)) (hf : f_X0_write n s_0 g_terms s_r0 = some R) : Met l yX0_write wsX0_write ({ frames := 4, cells := 0, slots := 0, locals := 96 } : Room) (va_Pc [.ref a_0, .ref a_r0] (pcW G cy [(a_0, ev a_terms s_0), (a_terms, av_J cy 64 g_terms), (a_r0, wv s_r0)] sz)) (va_Qv (fun _ : Unit => True) (fun _ t => Wd G cy (va_A [(a_0, ev a_terms s_0), (a_terms, av_J cy 64 g_terms), (a_r0, wv s_r0)] sz) [(a_0, ev a_terms R.1), (a_terms, av_J cy 64 R.2), (a_r0, wv s_r0)] t) (va_A [(a_0, ev a_terms s_0), (a_terms, av_J cy 64 g_terms), (a_r0, wv s_r0)] sz)) 0 0 (va_A [(a_0, ev a_terms s_0), (a_terms, av_J cy 64 g_terms), (a_r0, wv s_r0)] sz) := by
  refine Met.ofW (cc := cX0_write) (maxL := 5) (ret := none) (by decide) rfl ?_
  intro p e s m args below meth c s₁ B hml hv
  obtain ⟨rfl, hsz, hP, hK, hD0, hN⟩ := hv
  have hx := B.exec
  have hb := B.bytes
  have hr := B.returns
  have hts := atoms_spec (ws := wsX0_write) B.pre
  have hown : s.vm.findClass RX0 = some m.cls := findClass_of_methodNamed B.named
  have hlocks := B.notSynchronized
  subst hsz
  have hD := hD0.self (sz := s.heap.size)
  generalize hAe : va_A [(a_0, ev a_terms s_0), (a_terms, av_J cy 64 g_terms), (a_r0, wv s_r0)] s.heap.size = A at hD ⊢
  have hA : ∀ q : Nat, s.heap.size ≤ q → A q := fun q h => by rw [← hAe]; exact Or.inr h
  have hS : va_S A s.heap s.heap [] := va_S.rf
  have hP : va_P G vwCl [(a_0, ev a_terms s_0), (a_terms, av_J cy 64 g_terms), (a_r0, wv s_r0)] s.heap := hP
  have bl_35 : ∀ (y2 : Int64), ∀ (k : Nat), ∀ (c_s_0 : ET) (c_g_terms : Nat → Int64) (y4 : Int32) (H : Heap) (locs : List Loc), f_X0_write_b35 n s_r0 y2 k c_s_0 c_g_terms y4 = some R → va_P G vwCl [(a_0, ev a_terms c_s_0), (a_terms, av_J cy 64 c_g_terms), (a_r0, wv s_r0)] H → va_D A [(a_0, ev a_terms c_s_0), (a_terms, av_J cy 64 c_g_terms), (a_r0, wv s_r0)] → va_S A s.heap H locs → ∀ (ls : Array Slot), lv_has ls 5 [(0, .ref a_0), (1, .ref a_r0), (2, .long y2), (4, .int y4)] → W p l e ({ frames := 4, cells := 0, slots := 0, locals := 96 } : Room) s m [.ref a_0, .ref a_r0].toArray below meth c H locs 0 0 (MQ below (va_Qv (fun _ : Unit => True) (fun _ t => Wd G cy A [(a_0, ev a_terms R.1), (a_terms, av_J cy 64 R.2), (a_r0, wv s_r0)] t) A) [.ref a_0, .ref a_r0].toArray s 0 0 A) (F0 m 35 ls []) := by
    intro y2
    intro k
    induction k with
    | zero =>
      intro c_s_0 c_g_terms y4 H locs hf; cases hf
    | succ k ih =>
      intro c_s_0 c_g_terms y4 H locs hf hP hD hS ls hl
      have hf := (f_X0_write_b35_s n s_r0 y2 k c_s_0 c_g_terms y4).symm.trans hf
      refine lv_iload hx hb dX0_write_35 (lv_at hl 3 rfl) ?_
      refine lv_aload_n hx hb dX0_write_37 rfl (lv_at hl 0 rfl) ?_
      refine va_get (D := G) (ci := 0) (v := .int (e_count c_s_0)) (C := RX0) (T := TX0) (N := 4) hx hb hts iw_X0_write_X0 hown hK hP 0 rfl rfl 1 (by decide) (hts (.fieldLink RX0 23 "PaneFrost$Equations" "count" "I") (by decide +kernel)) (fun _ h9 => h9) rfl dX0_write_38 ?_
      refine lv_icmp_ge (tgt := 77) hx hb dX0_write_41 (by decide) (fun h_1 => ?_) (fun h_1 => ?_)
      · have hf := ip_ h_1 hf
        obtain rfl := Option.some.inj hf
        exact kr_v hx hb hr hlocks hP hK hD hN hS hS.2.2 dX0_write_77
      · have hf := in_ h_1 hf
        refine lv_iload hx hb dX0_write_44 (lv_at hl 3 rfl) ?_
        refine lv_aload_n hx hb dX0_write_46 rfl (lv_at hl 0 rfl) ?_
        refine va_get (D := G) (ci := 0) (v := .ref a_terms) (C := RX0) (T := TX0) (N := 4) hx hb hts iw_X0_write_X0 hown hK hP 0 rfl rfl 0 (by decide) (hts (.fieldLink RX0 9 "PaneFrost$Equations" "terms" "[J") (by decide +kernel)) (fun _ h9 => h9) rfl dX0_write_47 ?_
        refine va_alen (v := 64) hx hb hK hP 1 1 rfl rfl rfl dX0_write_50 ?_
        refine lv_icmp_ge (tgt := 77) hx hb dX0_write_51 (by decide) (fun h_2 => ?_) (fun h_2 => ?_)
        · have hf := ip_ h_2 hf
          obtain rfl := Option.some.inj hf
          exact kr_v hx hb hr hlocks hP hK hD hN hS hS.2.2 dX0_write_77
        · have hf := in_ h_2 hf
          refine lv_aload_n hx hb dX0_write_54 rfl (lv_at hl 0 rfl) ?_
          refine va_get (D := G) (ci := 0) (v := .ref a_terms) (C := RX0) (T := TX0) (N := 4) hx hb hts iw_X0_write_X0 hown hK hP 0 rfl rfl 0 (by decide) (hts (.fieldLink RX0 9 "PaneFrost$Equations" "terms" "[J") (by decide +kernel)) (fun _ h9 => h9) rfl dX0_write_55 ?_
          refine lv_iload hx hb dX0_write_58 (lv_at hl 3 rfl) ?_
          refine lv_aload_n hx hb dX0_write_60 rfl (lv_at hl 1 rfl) ?_
          refine lv_lconst (v := 1) hx hb dX0_write_61 rfl ?_
          refine lv_iload hx hb dX0_write_62 (lv_at hl 3 rfl) ?_
          refine lv_lshl (v := (jsl 1 y4)) hx hb dX0_write_64 rfl ?_
          refine kc_l (w1 := [(a_r0, wv s_r0)]) (wr := [(a_0, ev a_terms c_s_0), (a_terms, av_J cy 64 c_g_terms)]) hP hD hS hA [2] [0, 1] rfl rfl rfl (by decide) (va_runV (As := [.long (jsl 1 y4)]) (rest := [.int y4, .ref a_terms]) ⟨hx, hb, hml, hown, hts⟩ (c_X4_after (l := l) G cy a_r0 H.size s_r0 (jsl 1 y4)  (f_X4_after s_r0 (jsl 1 y4)) rfl) (cwV 1 hts gX0_write_X4_after rfl rfl rfl ddV_X4_after ⟨Nat.le_of_ble_eq_true rfl, Nat.le_of_ble_eq_true rfl⟩) (preV_ (ci := 4) (q0 := 0) rfl rfl (hP.sub (ws' := [(a_r0, wv s_r0)]) [2] rfl) hK (hD.sub (ws' := [(a_r0, wv s_r0)]) [2] rfl rfl) hN) rfl rfl hl.1 rfl (lv_room (Nat.le_of_ble_eq_true rfl)) dX0_write_65 ⟨Nat.le_of_ble_eq_true rfl, Nat.le_of_ble_eq_true rfl⟩) (fun H locs hP hD hS => ?_)
          have hP : va_P G vwCl [(a_0, ev a_terms c_s_0), (a_terms, av_J cy 64 c_g_terms), (a_r0, wv s_r0)] H := hP
          have hD : va_D A [(a_0, ev a_terms c_s_0), (a_terms, av_J cy 64 c_g_terms), (a_r0, wv s_r0)] := hD
          refine lv_lload_n hx hb dX0_write_68 rfl (lv_at hl 2 rfl) ?_
          refine lv_lxor hx hb dX0_write_69 ?_
          by_cases q_3 : y4 < 0 ∨ 64 ≤ y4.toNatClampNeg
          · have hf := ip_ q_3 hf; cases hf
          have hf := in_ q_3 hf
          refine vz_last rfl hx hb hK hP hD hS 1 1 rfl rfl (vin q_3) dX0_write_70 (fun H locs hP hD hS => ?_)
          have hP : va_P G vwCl [(a_0, ev a_terms c_s_0), (a_terms, av_J cy 64 (vp_updL c_g_terms y4.toNatClampNeg ((f_X4_after s_r0 (jsl 1 y4)) ^^^ y2))), (a_r0, wv s_r0)] H := hP
          have hD : va_D A [(a_0, ev a_terms c_s_0), (a_terms, av_J cy 64 (vp_updL c_g_terms y4.toNatClampNeg ((f_X4_after s_r0 (jsl 1 y4)) ^^^ y2))), (a_r0, wv s_r0)] := hD
          refine lv_iinc (v := (y4 + 1)) (lv' := [(4, .int (y4 + 1)), (0, .ref a_0), (1, .ref a_r0), (2, .long y2)]) hx hb dX0_write_71 hl (k := 3) rfl rfl (by decide) rfl (fun ls hl => ?_)
          refine lv_goto (tgt := 35) hx hb dX0_write_74 (by decide) ?_
          exact ih c_s_0 (vp_updL c_g_terms y4.toNatClampNeg ((f_X4_after s_r0 (jsl 1 y4)) ^^^ y2)) (y4 + 1) _ _ hf hP hD hS ls (lv_sub hl [1, 2, 3, 0] rfl)
  have hl := lv_entry [.ref a_0, .ref a_r0] (n := 5) (Nat.le_of_ble_eq_true rfl)
  rw [lg_entry_eq]
  generalize (lg_sl [.ref a_0, .ref a_r0] ++ List.replicate (5 - (lg_sl [.ref a_0, .ref a_r0]).length) Slot.unset).toArray = ls at hl ⊢
  have hl : lv_has ls 5 [(0, .ref a_0), (1, .ref a_r0)] := hl
  unfold f_X0_write at hf
  refine lv_aload_n hx hb dX0_write_0 rfl (lv_at hl 1 rfl) ?_
  refine lv_lconst (v := 0) hx hb dX0_write_1 rfl ?_
  refine kc_l (w1 := [(a_r0, wv s_r0)]) (wr := [(a_0, ev a_terms s_0), (a_terms, av_J cy 64 g_terms)]) hP hD hS hA [2] [0, 1] rfl rfl rfl (by decide) (va_runV (As := [.long 0]) (rest := []) ⟨hx, hb, hml, hown, hts⟩ (c_X4_after (l := l) G cy a_r0 s.heap.size s_r0 0  (f_X4_after s_r0 0) rfl) (cwV 1 hts gX0_write_X4_after rfl rfl rfl ddV_X4_after ⟨Nat.le_of_ble_eq_true rfl, Nat.le_of_ble_eq_true rfl⟩) (preV_ (ci := 4) (q0 := 0) rfl rfl (hP.sub (ws' := [(a_r0, wv s_r0)]) [2] rfl) hK (hD.sub (ws' := [(a_r0, wv s_r0)]) [2] rfl rfl) hN) rfl rfl hl.1 rfl (lv_room (Nat.le_of_ble_eq_true rfl)) dX0_write_2 ⟨Nat.le_of_ble_eq_true rfl, Nat.le_of_ble_eq_true rfl⟩) (fun H locs hP hD hS => ?_)
  have hP : va_P G vwCl [(a_0, ev a_terms s_0), (a_terms, av_J cy 64 g_terms), (a_r0, wv s_r0)] H := hP
  have hD : va_D A [(a_0, ev a_terms s_0), (a_terms, av_J cy 64 g_terms), (a_r0, wv s_r0)] := hD
  refine lv_lstore_n (lv' := [(2, .long (f_X4_after s_r0 0)), (0, .ref a_0), (1, .ref a_r0)]) hx hb dX0_write_5 rfl hl (by decide) rfl (fun ls hl => ?_)
  refine lv_aload_n hx hb dX0_write_6 rfl (lv_at hl 1 rfl) ?_
  refine lv_aload_n hx hb dX0_write_7 rfl (lv_at hl 2 rfl) ?_
  refine kc_i (w1 := [(a_r0, wv s_r0)]) (wr := [(a_0, ev a_terms s_0), (a_terms, av_J cy 64 g_terms)]) hP hD hS hA [2] [0, 1] rfl rfl rfl (by decide) (va_runV (As := []) (rest := [.ref a_0]) ⟨hx, hb, hml, hown, hts⟩ (c_X4_count (l := l) G cy a_r0 H.size s_r0  (f_X4_count s_r0) rfl) (cwV 0 hts gX0_write_X4_count rfl rfl rfl ddV_X4_count ⟨Nat.le_of_ble_eq_true rfl, Nat.le_of_ble_eq_true rfl⟩) (preV_ (ci := 4) (q0 := 0) rfl rfl (hP.sub (ws' := [(a_r0, wv s_r0)]) [2] rfl) hK (hD.sub (ws' := [(a_r0, wv s_r0)]) [2] rfl rfl) hN) rfl rfl hl.1 rfl (lv_room (Nat.le_of_ble_eq_true rfl)) dX0_write_8 ⟨Nat.le_of_ble_eq_true rfl, Nat.le_of_ble_eq_true rfl⟩) (fun H locs hP hD hS => ?_)
  have hP : va_P G vwCl [(a_0, ev a_terms s_0), (a_terms, av_J cy 64 g_terms), (a_r0, wv s_r0)] H := hP
  have hD : va_D A [(a_0, ev a_terms s_0), (a_terms, av_J cy 64 g_terms), (a_r0, wv s_r0)] := hD
  refine lv_aload_n hx hb dX0_write_11 rfl (lv_at hl 1 rfl) ?_
  refine va_get (D := G) (ci := 0) (v := .ref a_terms) (C := RX0) (T := TX0) (N := 4) hx hb hts iw_X0_write_X0 hown hK hP 0 rfl rfl 0 (by decide) (hts (.fieldLink RX0 9 "PaneFrost$Equations" "terms" "[J") (by decide +kernel)) (fun _ h9 => h9) rfl dX0_write_12 ?_
  refine va_alen (v := 64) hx hb hK hP 1 1 rfl rfl rfl dX0_write_15 ?_
  refine va_mmin hx hb (hml.trans hl.1.symm) hown (hts (.methodLink RX0 44 Lib.Math.min.name) (by decide +kernel)) (hts (.static Lib.Math.min.name) (by decide +kernel)) (hts (.initialized "java/lang/Math") (by decide +kernel)) (hts (.code Lib.Math.min.name Lib.Math.min.code 2 (some .int)) (by decide +kernel)) (Nat.le_of_ble_eq_true rfl) (Nat.le_of_ble_eq_true rfl) (Nat.zero_le _) (Nat.zero_le _) dX0_write_16 ?_
  refine va_put (D := G) (ci := 0) (v := .int (imn (f_X4_count s_r0) 64)) (ty := .int) (C := RX0) (T := TX0) (N := 4) hx hb hts iw_X0_write_X0 tyX0 tyX0_ok nmX0 hown hK hP hD hS 0 rfl rfl 1 (by decide) (hts (.fieldLink RX0 23 "PaneFrost$Equations" "count" "I") (by decide +kernel)) (fun _ h9 => h9) rfl (by decide +kernel) rfl rfl (Nat.le_of_ble_eq_true rfl) dX0_write_19 (fun H locs hP hD hS => ?_)
  have hP : va_P G vwCl [(a_0, ev a_terms ((imn (f_X4_count s_r0) 64), e_odd s_0, e_used s_0)), (a_terms, av_J cy 64 g_terms), (a_r0, wv s_r0)] H := hP
  have hD : va_D A [(a_0, ev a_terms ((imn (f_X4_count s_r0) 64), e_odd s_0, e_used s_0)), (a_terms, av_J cy 64 g_terms), (a_r0, wv s_r0)] := hD
  refine lv_aload_n hx hb dX0_write_22 rfl (lv_at hl 1 rfl) ?_
  refine lv_aload_n hx hb dX0_write_23 rfl (lv_at hl 2 rfl) ?_
  refine va_get (D := G) (ci := 4) (v := .long (w_frozen s_r0)) (C := RX4) (T := TX4) (N := 12) hx hb hts iw_X0_write_X4 hown hK hP 2 rfl rfl 4 (by decide) (hts (.fieldLink RX0 50 "PaneFrost$Window" "frozen" "J") (by decide +kernel)) (fun _ h9 => h9) rfl dX0_write_24 ?_
  refine lv_lload_n hx hb dX0_write_27 rfl (lv_at hl 0 rfl) ?_
  refine lv_lxor hx hb dX0_write_28 ?_
  refine va_put (D := G) (ci := 0) (v := .long ((w_frozen s_r0) ^^^ (f_X4_after s_r0 0))) (ty := .long) (C := RX0) (T := TX0) (N := 4) hx hb hts iw_X0_write_X0 tyX0 tyX0_ok nmX0 hown hK hP hD hS 0 rfl rfl 2 (by decide) (hts (.fieldLink RX0 53 "PaneFrost$Equations" "odd" "J") (by decide +kernel)) (fun _ h9 => h9) rfl (by decide +kernel) rfl rfl (Nat.le_of_ble_eq_true rfl) dX0_write_29 (fun H locs hP hD hS => ?_)
  have hP : va_P G vwCl [(a_0, ev a_terms ((imn (f_X4_count s_r0) 64), ((w_frozen s_r0) ^^^ (f_X4_after s_r0 0)), e_used s_0)), (a_terms, av_J cy 64 g_terms), (a_r0, wv s_r0)] H := hP
  have hD : va_D A [(a_0, ev a_terms ((imn (f_X4_count s_r0) 64), ((w_frozen s_r0) ^^^ (f_X4_after s_r0 0)), e_used s_0)), (a_terms, av_J cy 64 g_terms), (a_r0, wv s_r0)] := hD
  refine lv_iconst (v := 0) hx hb dX0_write_32 (by decide) ?_
  refine lv_istore (lv' := [(4, .int 0), (2, .long (f_X4_after s_r0 0)), (0, .ref a_0), (1, .ref a_r0)]) hx hb dX0_write_33 hl (by decide) rfl (fun ls hl => ?_)
  exact bl_35 (f_X4_after s_r0 0) n ((imn (f_X4_count s_r0) 64), ((w_frozen s_r0) ^^^ (f_X4_after s_r0 0)), e_used s_0) g_terms 0 _ _ hf hP hD hS ls (lv_sub hl [2, 3, 1, 0] rfl)
set_option maxHeartbeats 4000000 in
set_option maxRecDepth 100000 in
theorem c_X0_term {l : Launch} (G : va_G) (cy : Nat → ClassId) (a_0 : Nat) (a_terms : Nat) (sz : Nat) (s_0 : ET) (g_terms : Nat → Int64) (x1 : Int32)  (R : Int64) (hf : f_X0_term s_0 g_terms x1 = some R) : Met l yX0_term wsX0_term ({ frames := 0, cells := 0, slots := 0, locals := 0 } : Room) (va_Pc [.ref a_0, .int x1] (pcW G cy [(a_0, ev a_terms s_0), (a_terms, av_J cy 64 g_terms)] sz)) (va_Ql (fun r (_ : Unit) => r = R) (fun _ t => Wd G cy (va_A [(a_0, ev a_terms s_0), (a_terms, av_J cy 64 g_terms)] sz) [(a_0, ev a_terms s_0), (a_terms, av_J cy 64 g_terms)] t) (va_A [(a_0, ev a_terms s_0), (a_terms, av_J cy 64 g_terms)] sz)) 0 0 (va_A [(a_0, ev a_terms s_0), (a_terms, av_J cy 64 g_terms)] sz) := by
  refine Met.ofW (cc := cX0_term) (maxL := 2) (ret := (some .long)) (by decide) rfl ?_
  intro p e s m args below meth c s₁ B hml hv
  obtain ⟨rfl, hsz, hP, hK, hD0, hN⟩ := hv
  have hx := B.exec
  have hb := B.bytes
  have hr := B.returns
  have hts := atoms_spec (ws := wsX0_term) B.pre
  have hown : s.vm.findClass RX0 = some m.cls := findClass_of_methodNamed B.named
  have hlocks := B.notSynchronized
  subst hsz
  have hD := hD0.self (sz := s.heap.size)
  generalize hAe : va_A [(a_0, ev a_terms s_0), (a_terms, av_J cy 64 g_terms)] s.heap.size = A at hD ⊢
  have hA : ∀ q : Nat, s.heap.size ≤ q → A q := fun q h => by rw [← hAe]; exact Or.inr h
  have hS : va_S A s.heap s.heap [] := va_S.rf
  have hP : va_P G vwCl [(a_0, ev a_terms s_0), (a_terms, av_J cy 64 g_terms)] s.heap := hP
  have hl := lv_entry [.ref a_0, .int x1] (n := 2) (Nat.le_of_ble_eq_true rfl)
  rw [lg_entry_eq]
  generalize (lg_sl [.ref a_0, .int x1] ++ List.replicate (2 - (lg_sl [.ref a_0, .int x1]).length) Slot.unset).toArray = ls at hl ⊢
  have hl : lv_has ls 2 [(0, .ref a_0), (1, .int x1)] := hl
  unfold f_X0_term at hf
  refine lv_iload_n hx hb dX0_term_0 rfl (lv_at hl 1 rfl) ?_
  refine lv_if_lt (tgt := 22) hx hb dX0_term_1 (by decide) (fun h_1 => ?_) (fun h_1 => ?_)
  · have hf := ip_ h_1 hf
    refine lv_lconst (v := 0) hx hb dX0_term_22 rfl ?_
    obtain rfl := Option.some.inj hf
    exact kr_l hx hb hr hlocks rfl hP hK hD hN hS hS.2.2 dX0_term_23
  · have hf := in_ h_1 hf
    refine lv_iload_n hx hb dX0_term_4 rfl (lv_at hl 1 rfl) ?_
    refine lv_aload_n hx hb dX0_term_5 rfl (lv_at hl 0 rfl) ?_
    refine va_get (D := G) (ci := 0) (v := .ref a_terms) (C := RX0) (T := TX0) (N := 4) hx hb hts iw_X0_term_X0 hown hK hP 0 rfl rfl 0 (by decide) (hts (.fieldLink RX0 9 "PaneFrost$Equations" "terms" "[J") (by decide +kernel)) (fun _ h9 => h9) rfl dX0_term_6 ?_
    refine va_alen (v := 64) hx hb hK hP 1 1 rfl rfl rfl dX0_term_9 ?_
    refine lv_icmp_ge (tgt := 22) hx hb dX0_term_10 (by decide) (fun h_2 => ?_) (fun h_2 => ?_)
    · have hf := ip_ h_2 hf
      refine lv_lconst (v := 0) hx hb dX0_term_22 rfl ?_
      obtain rfl := Option.some.inj hf
      exact kr_l hx hb hr hlocks rfl hP hK hD hN hS hS.2.2 dX0_term_23
    · have hf := in_ h_2 hf
      refine lv_aload_n hx hb dX0_term_13 rfl (lv_at hl 0 rfl) ?_
      refine va_get (D := G) (ci := 0) (v := .ref a_terms) (C := RX0) (T := TX0) (N := 4) hx hb hts iw_X0_term_X0 hown hK hP 0 rfl rfl 0 (by decide) (hts (.fieldLink RX0 9 "PaneFrost$Equations" "terms" "[J") (by decide +kernel)) (fun _ h9 => h9) rfl dX0_term_14 ?_
      refine lv_iload_n hx hb dX0_term_17 rfl (lv_at hl 1 rfl) ?_
      by_cases q_3 : x1 < 0 ∨ 64 ≤ x1.toNatClampNeg
      · have hf := ip_ q_3 hf; cases hf
      have hf := in_ q_3 hf
      refine vz_lald rfl hx hb hK hP 1 1 rfl rfl (vin q_3) dX0_term_18 ?_
      refine lv_goto (tgt := 23) hx hb dX0_term_19 (by decide) ?_
      obtain rfl := Option.some.inj hf
      exact kr_l hx hb hr hlocks rfl hP hK hD hN hS hS.2.2 dX0_term_23
set_option maxHeartbeats 4000000 in
set_option maxRecDepth 100000 in
theorem c_X0_unusedWith {l : Launch} (G : va_G) (cy : Nat → ClassId) (a_0 : Nat) (a_terms : Nat) (sz : Nat) (s_0 : ET) (g_terms : Nat → Int64) (x1 : Int32) (n : Nat) (R : Int32) (hf : f_X0_unusedWith n s_0 g_terms x1 = some R) : Met l yX0_unusedWith wsX0_unusedWith ({ frames := 1, cells := 0, slots := 0, locals := 22 } : Room) (va_Pc [.ref a_0, .int x1] (pcW G cy [(a_0, ev a_terms s_0), (a_terms, av_J cy 64 g_terms)] sz)) (va_Qi (fun r (_ : Unit) => r = R) (fun _ t => Wd G cy (va_A [(a_0, ev a_terms s_0), (a_terms, av_J cy 64 g_terms)] sz) [(a_0, ev a_terms s_0), (a_terms, av_J cy 64 g_terms)] t) (va_A [(a_0, ev a_terms s_0), (a_terms, av_J cy 64 g_terms)] sz)) 0 0 (va_A [(a_0, ev a_terms s_0), (a_terms, av_J cy 64 g_terms)] sz) := by
  refine Met.ofW (cc := cX0_unusedWith) (maxL := 3) (ret := (some .int)) (by decide) rfl ?_
  intro p e s m args below meth c s₁ B hml hv
  obtain ⟨rfl, hsz, hP, hK, hD0, hN⟩ := hv
  have hx := B.exec
  have hb := B.bytes
  have hr := B.returns
  have hts := atoms_spec (ws := wsX0_unusedWith) B.pre
  have hown : s.vm.findClass RX0 = some m.cls := findClass_of_methodNamed B.named
  have hlocks := B.notSynchronized
  subst hsz
  have hD := hD0.self (sz := s.heap.size)
  generalize hAe : va_A [(a_0, ev a_terms s_0), (a_terms, av_J cy 64 g_terms)] s.heap.size = A at hD ⊢
  have hA : ∀ q : Nat, s.heap.size ≤ q → A q := fun q h => by rw [← hAe]; exact Or.inr h
  have hS : va_S A s.heap s.heap [] := va_S.rf
  have hP : va_P G vwCl [(a_0, ev a_terms s_0), (a_terms, av_J cy 64 g_terms)] s.heap := hP
  have bl_2 : ∀ (y1 : Int32), ∀ (k : Nat), ∀ (y2 : Int32) (H : Heap) (locs : List Loc), f_X0_unusedWith_b2 n s_0 g_terms y1 k y2 = some R → va_P G vwCl [(a_0, ev a_terms s_0), (a_terms, av_J cy 64 g_terms)] H → va_D A [(a_0, ev a_terms s_0), (a_terms, av_J cy 64 g_terms)] → va_S A s.heap H locs → ∀ (ls : Array Slot), lv_has ls 3 [(0, .ref a_0), (1, .int y1), (2, .int y2)] → W p l e ({ frames := 1, cells := 0, slots := 0, locals := 22 } : Room) s m [.ref a_0, .int x1].toArray below meth c H locs 0 0 (MQ below (va_Qi (fun r (_ : Unit) => r = R) (fun _ t => Wd G cy A [(a_0, ev a_terms s_0), (a_terms, av_J cy 64 g_terms)] t) A) [.ref a_0, .int x1].toArray s 0 0 A) (F0 m 2 ls []) := by
    intro y1
    intro k
    induction k with
    | zero =>
      intro y2 H locs hf; cases hf
    | succ k ih =>
      intro y2 H locs hf hP hD hS ls hl
      have hf := (f_X0_unusedWith_b2_s n s_0 g_terms y1 k y2).symm.trans hf
      refine lv_iload_n hx hb dX0_unusedWith_2 rfl (lv_at hl 2 rfl) ?_
      refine lv_aload_n hx hb dX0_unusedWith_3 rfl (lv_at hl 0 rfl) ?_
      refine va_get (D := G) (ci := 0) (v := .int (e_count s_0)) (C := RX0) (T := TX0) (N := 4) hx hb hts iw_X0_unusedWith_X0 hown hK hP 0 rfl rfl 1 (by decide) (hts (.fieldLink RX0 23 "PaneFrost$Equations" "count" "I") (by decide +kernel)) (fun _ h9 => h9) rfl dX0_unusedWith_4 ?_
      refine lv_icmp_ge (tgt := 41) hx hb dX0_unusedWith_7 (by decide) (fun h_1 => ?_) (fun h_1 => ?_)
      · have hf := ip_ h_1 hf
        refine lv_iconst (v := (-1)) hx hb dX0_unusedWith_41 (by decide) ?_
        obtain rfl := Option.some.inj hf
        exact kr_i hx hb hr hlocks rfl hP hK hD hN hS hS.2.2 dX0_unusedWith_42
      · have hf := in_ h_1 hf
        refine lv_aload_n hx hb dX0_unusedWith_10 rfl (lv_at hl 0 rfl) ?_
        refine va_get (D := G) (ci := 0) (v := .long (e_used s_0)) (C := RX0) (T := TX0) (N := 4) hx hb hts iw_X0_unusedWith_X0 hown hK hP 0 rfl rfl 3 (by decide) (hts (.fieldLink RX0 19 "PaneFrost$Equations" "used" "J") (by decide +kernel)) (fun _ h9 => h9) rfl dX0_unusedWith_11 ?_
        refine lv_iload_n hx hb dX0_unusedWith_14 rfl (lv_at hl 2 rfl) ?_
        refine kc_i (w1 := []) (wr := [(a_0, ev a_terms s_0), (a_terms, av_J cy 64 g_terms)]) hP hD hS hA [] [0, 1] rfl rfl rfl (by decide) (va_runSN (As := [.long (e_used s_0), .int y2]) (rest := []) ⟨hx, hb, hml, hown, hts⟩ (c_X5_holds (l := l) G cy  H.size (e_used s_0) y2  (f_X5_holds (e_used s_0) y2) rfl) ⟨va_cnB 2 hts gX0_unusedWith_X5_holds_n56 rfl rfl rfl hN.2.2 (hts (.initialized RX5) (by decide +kernel)) ddN_X5_holds ⟨Nat.le_of_ble_eq_true rfl, Nat.le_of_ble_eq_true rfl⟩, hts (.static yX5_holds) (by decide +kernel), trivial⟩ (preS_ (hP.sub (ws' := []) [] rfl) hK (hD.sub (ws' := []) [] rfl rfl) hN) rfl rfl hl.1 rfl (lv_room (Nat.le_of_ble_eq_true rfl)) dX0_unusedWith_15 ⟨Nat.le_of_ble_eq_true rfl, Nat.le_of_ble_eq_true rfl⟩) (fun H locs hP hD hS => ?_)
        have hP : va_P G vwCl [(a_0, ev a_terms s_0), (a_terms, av_J cy 64 g_terms)] H := hP
        have hD : va_D A [(a_0, ev a_terms s_0), (a_terms, av_J cy 64 g_terms)] := hD
        refine lv_if_ne (tgt := 35) hx hb dX0_unusedWith_18 (by decide) (fun h_2 => ?_) (fun h_2 => ?_)
        · have hf := ip_ (bI_n0 h_2) hf
          refine lv_iinc (v := (y2 + 1)) (lv' := [(2, .int (y2 + 1)), (0, .ref a_0), (1, .int y1)]) hx hb dX0_unusedWith_35 hl (k := 2) rfl rfl (by decide) rfl (fun ls hl => ?_)
          refine lv_goto (tgt := 2) hx hb dX0_unusedWith_38 (by decide) ?_
          exact ih (y2 + 1) _ _ hf hP hD hS ls (lv_sub hl [1, 2, 0] rfl)
        · have hf := in_ (bI_0 h_2) hf
          refine lv_aload_n hx hb dX0_unusedWith_21 rfl (lv_at hl 0 rfl) ?_
          refine lv_iload_n hx hb dX0_unusedWith_22 rfl (lv_at hl 2 rfl) ?_
          obtain ⟨r_3, hh_r_3, hf⟩ := obd_some hf
          refine kc_l (w1 := [(a_0, ev a_terms s_0), (a_terms, av_J cy 64 g_terms)]) (wr := []) hP hD hS hA [0, 1] [] rfl rfl rfl (by decide) (va_runV (As := [.int y2]) (rest := []) ⟨hx, hb, hml, hown, hts⟩ (c_X0_term (l := l) G cy a_0 a_terms H.size s_0 g_terms y2  r_3 hh_r_3) (cwV 1 hts gX0_unusedWith_X0_term rfl rfl rfl ddV_X0_term ⟨Nat.le_of_ble_eq_true rfl, Nat.le_of_ble_eq_true rfl⟩) (preV_ (ci := 0) (q0 := 0) rfl rfl hP hK hD hN) rfl rfl hl.1 rfl (lv_room (Nat.le_of_ble_eq_true rfl)) dX0_unusedWith_23 ⟨Nat.le_of_ble_eq_true rfl, Nat.le_of_ble_eq_true rfl⟩) (fun H locs hP hD hS => ?_)
          have hP : va_P G vwCl [(a_0, ev a_terms s_0), (a_terms, av_J cy 64 g_terms)] H := hP
          have hD : va_D A [(a_0, ev a_terms s_0), (a_terms, av_J cy 64 g_terms)] := hD
          refine lv_iload_n hx hb dX0_unusedWith_26 rfl (lv_at hl 1 rfl) ?_
          refine kc_i (w1 := []) (wr := [(a_0, ev a_terms s_0), (a_terms, av_J cy 64 g_terms)]) hP hD hS hA [] [0, 1] rfl rfl rfl (by decide) (va_runSN (As := [.long r_3, .int y1]) (rest := []) ⟨hx, hb, hml, hown, hts⟩ (c_X5_holds (l := l) G cy  H.size r_3 y1  (f_X5_holds r_3 y1) rfl) ⟨va_cnB 2 hts gX0_unusedWith_X5_holds_n56 rfl rfl rfl hN.2.2 (hts (.initialized RX5) (by decide +kernel)) ddN_X5_holds ⟨Nat.le_of_ble_eq_true rfl, Nat.le_of_ble_eq_true rfl⟩, hts (.static yX5_holds) (by decide +kernel), trivial⟩ (preS_ (hP.sub (ws' := []) [] rfl) hK (hD.sub (ws' := []) [] rfl rfl) hN) rfl rfl hl.1 rfl (lv_room (Nat.le_of_ble_eq_true rfl)) dX0_unusedWith_27 ⟨Nat.le_of_ble_eq_true rfl, Nat.le_of_ble_eq_true rfl⟩) (fun H locs hP hD hS => ?_)
          have hP : va_P G vwCl [(a_0, ev a_terms s_0), (a_terms, av_J cy 64 g_terms)] H := hP
          have hD : va_D A [(a_0, ev a_terms s_0), (a_terms, av_J cy 64 g_terms)] := hD
          refine lv_if_eq (tgt := 35) hx hb dX0_unusedWith_30 (by decide) (fun h_4 => ?_) (fun h_4 => ?_)
          · have hf := in_ (bI_0 h_4) hf
            refine lv_iinc (v := (y2 + 1)) (lv' := [(2, .int (y2 + 1)), (0, .ref a_0), (1, .int y1)]) hx hb dX0_unusedWith_35 hl (k := 2) rfl rfl (by decide) rfl (fun ls hl => ?_)
            refine lv_goto (tgt := 2) hx hb dX0_unusedWith_38 (by decide) ?_
            exact ih (y2 + 1) _ _ hf hP hD hS ls (lv_sub hl [1, 2, 0] rfl)
          · have hf := ip_ (bI_n0 h_4) hf
            refine lv_iload_n hx hb dX0_unusedWith_33 rfl (lv_at hl 2 rfl) ?_
            obtain rfl := Option.some.inj hf
            exact kr_i hx hb hr hlocks rfl hP hK hD hN hS hS.2.2 dX0_unusedWith_34
  have hl := lv_entry [.ref a_0, .int x1] (n := 3) (Nat.le_of_ble_eq_true rfl)
  rw [lg_entry_eq]
  generalize (lg_sl [.ref a_0, .int x1] ++ List.replicate (3 - (lg_sl [.ref a_0, .int x1]).length) Slot.unset).toArray = ls at hl ⊢
  have hl : lv_has ls 3 [(0, .ref a_0), (1, .int x1)] := hl
  unfold f_X0_unusedWith at hf
  refine lv_iconst (v := 0) hx hb dX0_unusedWith_0 (by decide) ?_
  refine lv_istore_n (lv' := [(2, .int 0), (0, .ref a_0), (1, .int x1)]) hx hb dX0_unusedWith_1 rfl hl (by decide) rfl (fun ls hl => ?_)
  exact bl_2 x1 n 0 _ _ hf hP hD hS ls (lv_sub hl [1, 2, 0] rfl)
set_option maxHeartbeats 4000000 in
set_option maxRecDepth 100000 in
theorem c_X0_takeOutOfOthers {l : Launch} (G : va_G) (cy : Nat → ClassId) (a_0 : Nat) (a_terms : Nat) (sz : Nat) (s_0 : ET) (g_terms : Nat → Int64) (x1 : Int32) (x2 : Int32) (n : Nat) (R : ET × (Nat → Int64)) (hf : f_X0_takeOutOfOthers n s_0 g_terms x1 x2 = some R) : Met l yX0_takeOutOfOthers wsX0_takeOutOfOthers ({ frames := 1, cells := 0, slots := 0, locals := 22 } : Room) (va_Pc [.ref a_0, .int x1, .int x2] (pcW G cy [(a_0, ev a_terms s_0), (a_terms, av_J cy 64 g_terms)] sz)) (va_Qv (fun _ : Unit => True) (fun _ t => Wd G cy (va_A [(a_0, ev a_terms s_0), (a_terms, av_J cy 64 g_terms)] sz) [(a_0, ev a_terms R.1), (a_terms, av_J cy 64 R.2)] t) (va_A [(a_0, ev a_terms s_0), (a_terms, av_J cy 64 g_terms)] sz)) 0 0 (va_A [(a_0, ev a_terms s_0), (a_terms, av_J cy 64 g_terms)] sz) := by
  refine Met.ofW (cc := cX0_takeOutOfOthers) (maxL := 7) (ret := none) (by decide) rfl ?_
  intro p e s m args below meth c s₁ B hml hv
  obtain ⟨rfl, hsz, hP, hK, hD0, hN⟩ := hv
  have hx := B.exec
  have hb := B.bytes
  have hr := B.returns
  have hts := atoms_spec (ws := wsX0_takeOutOfOthers) B.pre
  have hown : s.vm.findClass RX0 = some m.cls := findClass_of_methodNamed B.named
  have hlocks := B.notSynchronized
  subst hsz
  have hD := hD0.self (sz := s.heap.size)
  generalize hAe : va_A [(a_0, ev a_terms s_0), (a_terms, av_J cy 64 g_terms)] s.heap.size = A at hD ⊢
  have hA : ∀ q : Nat, s.heap.size ≤ q → A q := fun q h => by rw [← hAe]; exact Or.inr h
  have hS : va_S A s.heap s.heap [] := va_S.rf
  have hP : va_P G vwCl [(a_0, ev a_terms s_0), (a_terms, av_J cy 64 g_terms)] s.heap := hP
  have bl_19 : ∀ (y1 : Int32), ∀ (y2 : Int32), ∀ (y3 : Int64), ∀ (y5 : Int32), ∀ (k : Nat), ∀ (c_s_0 : ET) (c_g_terms : Nat → Int64) (y6 : Int32) (H : Heap) (locs : List Loc), f_X0_takeOutOfOthers_b19 n y1 y2 y3 y5 k c_s_0 c_g_terms y6 = some R → va_P G vwCl [(a_0, ev a_terms c_s_0), (a_terms, av_J cy 64 c_g_terms)] H → va_D A [(a_0, ev a_terms c_s_0), (a_terms, av_J cy 64 c_g_terms)] → va_S A s.heap H locs → ∀ (ls : Array Slot), lv_has ls 7 [(0, .ref a_0), (1, .int y1), (2, .int y2), (3, .long y3), (5, .int y5), (6, .int y6)] → W p l e ({ frames := 1, cells := 0, slots := 0, locals := 22 } : Room) s m [.ref a_0, .int x1, .int x2].toArray below meth c H locs 0 0 (MQ below (va_Qv (fun _ : Unit => True) (fun _ t => Wd G cy A [(a_0, ev a_terms R.1), (a_terms, av_J cy 64 R.2)] t) A) [.ref a_0, .int x1, .int x2].toArray s 0 0 A) (F0 m 19 ls []) := by
    intro y1
    intro y2
    intro y3
    intro y5
    intro k
    induction k with
    | zero =>
      intro c_s_0 c_g_terms y6 H locs hf; cases hf
    | succ k ih =>
      intro c_s_0 c_g_terms y6 H locs hf hP hD hS ls hl
      have hf := (f_X0_takeOutOfOthers_b19_s n y1 y2 y3 y5 k c_s_0 c_g_terms y6).symm.trans hf
      refine lv_iload hx hb dX0_takeOutOfOthers_19 (lv_at hl 5 rfl) ?_
      refine lv_aload_n hx hb dX0_takeOutOfOthers_21 rfl (lv_at hl 0 rfl) ?_
      refine va_get (D := G) (ci := 0) (v := .int (e_count c_s_0)) (C := RX0) (T := TX0) (N := 4) hx hb hts iw_X0_takeOutOfOthers_X0 hown hK hP 0 rfl rfl 1 (by decide) (hts (.fieldLink RX0 23 "PaneFrost$Equations" "count" "I") (by decide +kernel)) (fun _ h9 => h9) rfl dX0_takeOutOfOthers_22 ?_
      refine lv_icmp_ge (tgt := 97) hx hb dX0_takeOutOfOthers_25 (by decide) (fun h_1 => ?_) (fun h_1 => ?_)
      · have hf := ip_ h_1 hf
        obtain rfl := Option.some.inj hf
        exact kr_v hx hb hr hlocks hP hK hD hN hS hS.2.2 dX0_takeOutOfOthers_97
      · have hf := in_ h_1 hf
        refine lv_iload hx hb dX0_takeOutOfOthers_28 (lv_at hl 5 rfl) ?_
        refine lv_aload_n hx hb dX0_takeOutOfOthers_30 rfl (lv_at hl 0 rfl) ?_
        refine va_get (D := G) (ci := 0) (v := .ref a_terms) (C := RX0) (T := TX0) (N := 4) hx hb hts iw_X0_takeOutOfOthers_X0 hown hK hP 0 rfl rfl 0 (by decide) (hts (.fieldLink RX0 9 "PaneFrost$Equations" "terms" "[J") (by decide +kernel)) (fun _ h9 => h9) rfl dX0_takeOutOfOthers_31 ?_
        refine va_alen (v := 64) hx hb hK hP 1 1 rfl rfl rfl dX0_takeOutOfOthers_34 ?_
        refine lv_icmp_ge (tgt := 97) hx hb dX0_takeOutOfOthers_35 (by decide) (fun h_2 => ?_) (fun h_2 => ?_)
        · have hf := ip_ h_2 hf
          obtain rfl := Option.some.inj hf
          exact kr_v hx hb hr hlocks hP hK hD hN hS hS.2.2 dX0_takeOutOfOthers_97
        · have hf := in_ h_2 hf
          refine lv_iload hx hb dX0_takeOutOfOthers_38 (lv_at hl 5 rfl) ?_
          refine lv_iload_n hx hb dX0_takeOutOfOthers_40 rfl (lv_at hl 2 rfl) ?_
          refine lv_icmp_eq (tgt := 91) hx hb dX0_takeOutOfOthers_41 (by decide) (fun h_3 => ?_) (fun h_3 => ?_)
          · have hf := ip_ h_3 hf
            refine lv_iinc (v := (y6 + 1)) (lv' := [(6, .int (y6 + 1)), (0, .ref a_0), (1, .int y1), (2, .int y2), (3, .long y3), (5, .int y5)]) hx hb dX0_takeOutOfOthers_91 hl (k := 5) rfl rfl (by decide) rfl (fun ls hl => ?_)
            refine lv_goto (tgt := 19) hx hb dX0_takeOutOfOthers_94 (by decide) ?_
            exact ih c_s_0 c_g_terms (y6 + 1) _ _ hf hP hD hS ls (lv_sub hl [1, 2, 3, 4, 5, 0] rfl)
          · have hf := in_ h_3 hf
            refine lv_aload_n hx hb dX0_takeOutOfOthers_44 rfl (lv_at hl 0 rfl) ?_
            refine va_get (D := G) (ci := 0) (v := .ref a_terms) (C := RX0) (T := TX0) (N := 4) hx hb hts iw_X0_takeOutOfOthers_X0 hown hK hP 0 rfl rfl 0 (by decide) (hts (.fieldLink RX0 9 "PaneFrost$Equations" "terms" "[J") (by decide +kernel)) (fun _ h9 => h9) rfl dX0_takeOutOfOthers_45 ?_
            refine lv_iload hx hb dX0_takeOutOfOthers_48 (lv_at hl 5 rfl) ?_
            by_cases q_4 : y6 < 0 ∨ 64 ≤ y6.toNatClampNeg
            · have hf := ip_ q_4 hf; cases hf
            have hf := in_ q_4 hf
            refine vz_lald rfl hx hb hK hP 1 1 rfl rfl (vin q_4) dX0_takeOutOfOthers_50 ?_
            refine lv_iload_n hx hb dX0_takeOutOfOthers_51 rfl (lv_at hl 1 rfl) ?_
            refine kc_i (w1 := []) (wr := [(a_0, ev a_terms c_s_0), (a_terms, av_J cy 64 c_g_terms)]) hP hD hS hA [] [0, 1] rfl rfl rfl (by decide) (va_runSN (As := [.long (c_g_terms y6.toNatClampNeg), .int y1]) (rest := []) ⟨hx, hb, hml, hown, hts⟩ (c_X5_holds (l := l) G cy  H.size (c_g_terms y6.toNatClampNeg) y1  (f_X5_holds (c_g_terms y6.toNatClampNeg) y1) rfl) ⟨va_cnB 2 hts gX0_takeOutOfOthers_X5_holds_n56 rfl rfl rfl hN.2.2 (hts (.initialized RX5) (by decide +kernel)) ddN_X5_holds ⟨Nat.le_of_ble_eq_true rfl, Nat.le_of_ble_eq_true rfl⟩, hts (.static yX5_holds) (by decide +kernel), trivial⟩ (preS_ (hP.sub (ws' := []) [] rfl) hK (hD.sub (ws' := []) [] rfl rfl) hN) rfl rfl hl.1 rfl (lv_room (Nat.le_of_ble_eq_true rfl)) dX0_takeOutOfOthers_52 ⟨Nat.le_of_ble_eq_true rfl, Nat.le_of_ble_eq_true rfl⟩) (fun H locs hP hD hS => ?_)
            have hP : va_P G vwCl [(a_0, ev a_terms c_s_0), (a_terms, av_J cy 64 c_g_terms)] H := hP
            have hD : va_D A [(a_0, ev a_terms c_s_0), (a_terms, av_J cy 64 c_g_terms)] := hD
            refine lv_if_eq (tgt := 91) hx hb dX0_takeOutOfOthers_55 (by decide) (fun h_5 => ?_) (fun h_5 => ?_)
            · have hf := in_ (bI_0 h_5) hf
              refine lv_iinc (v := (y6 + 1)) (lv' := [(6, .int (y6 + 1)), (0, .ref a_0), (1, .int y1), (2, .int y2), (3, .long y3), (5, .int y5)]) hx hb dX0_takeOutOfOthers_91 hl (k := 5) rfl rfl (by decide) rfl (fun ls hl => ?_)
              refine lv_goto (tgt := 19) hx hb dX0_takeOutOfOthers_94 (by decide) ?_
              exact ih c_s_0 c_g_terms (y6 + 1) _ _ hf hP hD hS ls (lv_sub hl [1, 2, 3, 4, 5, 0] rfl)
            · have hf := ip_ (bI_n0 h_5) hf
              refine lv_aload_n hx hb dX0_takeOutOfOthers_58 rfl (lv_at hl 0 rfl) ?_
              refine va_get (D := G) (ci := 0) (v := .ref a_terms) (C := RX0) (T := TX0) (N := 4) hx hb hts iw_X0_takeOutOfOthers_X0 hown hK hP 0 rfl rfl 0 (by decide) (hts (.fieldLink RX0 9 "PaneFrost$Equations" "terms" "[J") (by decide +kernel)) (fun _ h9 => h9) rfl dX0_takeOutOfOthers_59 ?_
              refine lv_iload hx hb dX0_takeOutOfOthers_62 (lv_at hl 5 rfl) ?_
              refine lv_dup2_11 hx hb dX0_takeOutOfOthers_64 rfl rfl ?_
              by_cases q_6 : y6 < 0 ∨ 64 ≤ y6.toNatClampNeg
              · have hf := ip_ q_6 hf; cases hf
              have hf := in_ q_6 hf
              refine vz_lald rfl hx hb hK hP 1 1 rfl rfl (vin q_6) dX0_takeOutOfOthers_65 ?_
              refine lv_lload_n hx hb dX0_takeOutOfOthers_66 rfl (lv_at hl 3 rfl) ?_
              refine lv_lxor hx hb dX0_takeOutOfOthers_67 ?_
              by_cases q_7 : y6 < 0 ∨ 64 ≤ y6.toNatClampNeg
              · have hf := ip_ q_7 hf; cases hf
              have hf := in_ q_7 hf
              refine vz_last rfl hx hb hK hP hD hS 1 1 rfl rfl (vin q_7) dX0_takeOutOfOthers_68 (fun H locs hP hD hS => ?_)
              have hP : va_P G vwCl [(a_0, ev a_terms c_s_0), (a_terms, av_J cy 64 (vp_updL c_g_terms y6.toNatClampNeg ((c_g_terms y6.toNatClampNeg) ^^^ y3)))] H := hP
              have hD : va_D A [(a_0, ev a_terms c_s_0), (a_terms, av_J cy 64 (vp_updL c_g_terms y6.toNatClampNeg ((c_g_terms y6.toNatClampNeg) ^^^ y3)))] := hD
              refine lv_aload_n hx hb dX0_takeOutOfOthers_69 rfl (lv_at hl 0 rfl) ?_
              refine lv_dup hx hb dX0_takeOutOfOthers_70 rfl ?_
              refine va_get (D := G) (ci := 0) (v := .long (e_odd c_s_0)) (C := RX0) (T := TX0) (N := 4) hx hb hts iw_X0_takeOutOfOthers_X0 hown hK hP 0 rfl rfl 2 (by decide) (hts (.fieldLink RX0 53 "PaneFrost$Equations" "odd" "J") (by decide +kernel)) (fun _ h9 => h9) rfl dX0_takeOutOfOthers_71 ?_
              refine lv_iload hx hb dX0_takeOutOfOthers_74 (lv_at hl 4 rfl) ?_
              refine lv_if_eq (tgt := 86) hx hb dX0_takeOutOfOthers_76 (by decide) (fun h_8 => ?_) (fun h_8 => ?_)
              · have hf := ip_ h_8 hf
                refine lv_lconst (v := 0) hx hb dX0_takeOutOfOthers_86 rfl ?_
                refine lv_lxor hx hb dX0_takeOutOfOthers_87 ?_
                refine va_put (D := G) (ci := 0) (v := .long ((e_odd c_s_0) ^^^ 0)) (ty := .long) (C := RX0) (T := TX0) (N := 4) hx hb hts iw_X0_takeOutOfOthers_X0 tyX0 tyX0_ok nmX0 hown hK hP hD hS 0 rfl rfl 2 (by decide) (hts (.fieldLink RX0 53 "PaneFrost$Equations" "odd" "J") (by decide +kernel)) (fun _ h9 => h9) rfl (by decide +kernel) rfl rfl (Nat.le_of_ble_eq_true rfl) dX0_takeOutOfOthers_88 (fun H locs hP hD hS => ?_)
                have hP : va_P G vwCl [(a_0, ev a_terms (e_count c_s_0, ((e_odd c_s_0) ^^^ 0), e_used c_s_0)), (a_terms, av_J cy 64 (vp_updL c_g_terms y6.toNatClampNeg ((c_g_terms y6.toNatClampNeg) ^^^ y3)))] H := hP
                have hD : va_D A [(a_0, ev a_terms (e_count c_s_0, ((e_odd c_s_0) ^^^ 0), e_used c_s_0)), (a_terms, av_J cy 64 (vp_updL c_g_terms y6.toNatClampNeg ((c_g_terms y6.toNatClampNeg) ^^^ y3)))] := hD
                refine lv_iinc (v := (y6 + 1)) (lv' := [(6, .int (y6 + 1)), (0, .ref a_0), (1, .int y1), (2, .int y2), (3, .long y3), (5, .int y5)]) hx hb dX0_takeOutOfOthers_91 hl (k := 5) rfl rfl (by decide) rfl (fun ls hl => ?_)
                refine lv_goto (tgt := 19) hx hb dX0_takeOutOfOthers_94 (by decide) ?_
                exact ih (e_count c_s_0, ((e_odd c_s_0) ^^^ 0), e_used c_s_0) (vp_updL c_g_terms y6.toNatClampNeg ((c_g_terms y6.toNatClampNeg) ^^^ y3)) (y6 + 1) _ _ hf hP hD hS ls (lv_sub hl [1, 2, 3, 4, 5, 0] rfl)
              · have hf := in_ h_8 hf
                refine lv_lconst (v := 1) hx hb dX0_takeOutOfOthers_79 rfl ?_
                refine lv_iload hx hb dX0_takeOutOfOthers_80 (lv_at hl 5 rfl) ?_
                refine lv_lshl (v := (jsl 1 y6)) hx hb dX0_takeOutOfOthers_82 rfl ?_
                refine lv_goto (tgt := 87) hx hb dX0_takeOutOfOthers_83 (by decide) ?_
                refine lv_lxor hx hb dX0_takeOutOfOthers_87 ?_
                refine va_put (D := G) (ci := 0) (v := .long ((e_odd c_s_0) ^^^ (jsl 1 y6))) (ty := .long) (C := RX0) (T := TX0) (N := 4) hx hb hts iw_X0_takeOutOfOthers_X0 tyX0 tyX0_ok nmX0 hown hK hP hD hS 0 rfl rfl 2 (by decide) (hts (.fieldLink RX0 53 "PaneFrost$Equations" "odd" "J") (by decide +kernel)) (fun _ h9 => h9) rfl (by decide +kernel) rfl rfl (Nat.le_of_ble_eq_true rfl) dX0_takeOutOfOthers_88 (fun H locs hP hD hS => ?_)
                have hP : va_P G vwCl [(a_0, ev a_terms (e_count c_s_0, ((e_odd c_s_0) ^^^ (jsl 1 y6)), e_used c_s_0)), (a_terms, av_J cy 64 (vp_updL c_g_terms y6.toNatClampNeg ((c_g_terms y6.toNatClampNeg) ^^^ y3)))] H := hP
                have hD : va_D A [(a_0, ev a_terms (e_count c_s_0, ((e_odd c_s_0) ^^^ (jsl 1 y6)), e_used c_s_0)), (a_terms, av_J cy 64 (vp_updL c_g_terms y6.toNatClampNeg ((c_g_terms y6.toNatClampNeg) ^^^ y3)))] := hD
                refine lv_iinc (v := (y6 + 1)) (lv' := [(6, .int (y6 + 1)), (0, .ref a_0), (1, .int y1), (2, .int y2), (3, .long y3), (5, .int y5)]) hx hb dX0_takeOutOfOthers_91 hl (k := 5) rfl rfl (by decide) rfl (fun ls hl => ?_)
                refine lv_goto (tgt := 19) hx hb dX0_takeOutOfOthers_94 (by decide) ?_
                exact ih (e_count c_s_0, ((e_odd c_s_0) ^^^ (jsl 1 y6)), e_used c_s_0) (vp_updL c_g_terms y6.toNatClampNeg ((c_g_terms y6.toNatClampNeg) ^^^ y3)) (y6 + 1) _ _ hf hP hD hS ls (lv_sub hl [1, 2, 3, 4, 5, 0] rfl)
  have hl := lv_entry [.ref a_0, .int x1, .int x2] (n := 7) (Nat.le_of_ble_eq_true rfl)
  rw [lg_entry_eq]
  generalize (lg_sl [.ref a_0, .int x1, .int x2] ++ List.replicate (7 - (lg_sl [.ref a_0, .int x1, .int x2]).length) Slot.unset).toArray = ls at hl ⊢
  have hl : lv_has ls 7 [(0, .ref a_0), (1, .int x1), (2, .int x2)] := hl
  unfold f_X0_takeOutOfOthers at hf
  refine lv_aload_n hx hb dX0_takeOutOfOthers_0 rfl (lv_at hl 0 rfl) ?_
  refine lv_iload_n hx hb dX0_takeOutOfOthers_1 rfl (lv_at hl 2 rfl) ?_
  obtain ⟨r_9, hh_r_9, hf⟩ := obd_some hf
  refine kc_l (w1 := [(a_0, ev a_terms s_0), (a_terms, av_J cy 64 g_terms)]) (wr := []) hP hD hS hA [0, 1] [] rfl rfl rfl (by decide) (va_runV (As := [.int x2]) (rest := []) ⟨hx, hb, hml, hown, hts⟩ (c_X0_term (l := l) G cy a_0 a_terms s.heap.size s_0 g_terms x2  r_9 hh_r_9) (cwV 1 hts gX0_takeOutOfOthers_X0_term rfl rfl rfl ddV_X0_term ⟨Nat.le_of_ble_eq_true rfl, Nat.le_of_ble_eq_true rfl⟩) (preV_ (ci := 0) (q0 := 0) rfl rfl hP hK hD hN) rfl rfl hl.1 rfl (lv_room (Nat.le_of_ble_eq_true rfl)) dX0_takeOutOfOthers_2 ⟨Nat.le_of_ble_eq_true rfl, Nat.le_of_ble_eq_true rfl⟩) (fun H locs hP hD hS => ?_)
  have hP : va_P G vwCl [(a_0, ev a_terms s_0), (a_terms, av_J cy 64 g_terms)] H := hP
  have hD : va_D A [(a_0, ev a_terms s_0), (a_terms, av_J cy 64 g_terms)] := hD
  refine lv_lstore_n (lv' := [(3, .long r_9), (0, .ref a_0), (1, .int x1), (2, .int x2)]) hx hb dX0_takeOutOfOthers_5 rfl hl (by decide) rfl (fun ls hl => ?_)
  refine lv_aload_n hx hb dX0_takeOutOfOthers_6 rfl (lv_at hl 1 rfl) ?_
  refine va_get (D := G) (ci := 0) (v := .long (e_odd s_0)) (C := RX0) (T := TX0) (N := 4) hx hb hts iw_X0_takeOutOfOthers_X0 hown hK hP 0 rfl rfl 2 (by decide) (hts (.fieldLink RX0 53 "PaneFrost$Equations" "odd" "J") (by decide +kernel)) (fun _ h9 => h9) rfl dX0_takeOutOfOthers_7 ?_
  refine lv_iload_n hx hb dX0_takeOutOfOthers_10 rfl (lv_at hl 3 rfl) ?_
  refine kc_i (w1 := []) (wr := [(a_0, ev a_terms s_0), (a_terms, av_J cy 64 g_terms)]) hP hD hS hA [] [0, 1] rfl rfl rfl (by decide) (va_runSN (As := [.long (e_odd s_0), .int x2]) (rest := []) ⟨hx, hb, hml, hown, hts⟩ (c_X5_holds (l := l) G cy  H.size (e_odd s_0) x2  (f_X5_holds (e_odd s_0) x2) rfl) ⟨va_cnB 2 hts gX0_takeOutOfOthers_X5_holds_n56 rfl rfl rfl hN.2.2 (hts (.initialized RX5) (by decide +kernel)) ddN_X5_holds ⟨Nat.le_of_ble_eq_true rfl, Nat.le_of_ble_eq_true rfl⟩, hts (.static yX5_holds) (by decide +kernel), trivial⟩ (preS_ (hP.sub (ws' := []) [] rfl) hK (hD.sub (ws' := []) [] rfl rfl) hN) rfl rfl hl.1 rfl (lv_room (Nat.le_of_ble_eq_true rfl)) dX0_takeOutOfOthers_11 ⟨Nat.le_of_ble_eq_true rfl, Nat.le_of_ble_eq_true rfl⟩) (fun H locs hP hD hS => ?_)
  have hP : va_P G vwCl [(a_0, ev a_terms s_0), (a_terms, av_J cy 64 g_terms)] H := hP
  have hD : va_D A [(a_0, ev a_terms s_0), (a_terms, av_J cy 64 g_terms)] := hD
  refine lv_istore (lv' := [(5, .int (bI (f_X5_holds (e_odd s_0) x2))), (3, .long r_9), (0, .ref a_0), (1, .int x1), (2, .int x2)]) hx hb dX0_takeOutOfOthers_14 hl (by decide) rfl (fun ls hl => ?_)
  refine lv_iconst (v := 0) hx hb dX0_takeOutOfOthers_16 (by decide) ?_
  refine lv_istore (lv' := [(6, .int 0), (5, .int (bI (f_X5_holds (e_odd s_0) x2))), (3, .long r_9), (0, .ref a_0), (1, .int x1), (2, .int x2)]) hx hb dX0_takeOutOfOthers_17 hl (by decide) rfl (fun ls hl => ?_)
  exact bl_19 x1 x2 r_9 (bI (f_X5_holds (e_odd s_0) x2)) n s_0 g_terms 0 _ _ hf hP hD hS ls (lv_sub hl [3, 4, 5, 2, 1, 0] rfl)
set_option maxHeartbeats 4000000 in
set_option maxRecDepth 100000 in
theorem c_X0_solve {l : Launch} (G : va_G) (cy : Nat → ClassId) (a_0 : Nat) (a_terms : Nat) (a_r0 : Nat) (sz : Nat) (s_0 : ET) (g_terms : Nat → Int64) (s_r0 : WT) (n : Nat) (R : ET × (Nat → Int64)) (hf : f_X0_solve n s_0 g_terms s_r0 = some R) : Met l yX0_solve wsX0_solve ({ frames := 5, cells := 0, slots := 0, locals := 120 } : Room) (va_Pc [.ref a_0, .ref a_r0] (pcW G cy [(a_0, ev a_terms s_0), (a_terms, av_J cy 64 g_terms), (a_r0, wv s_r0)] sz)) (va_Qv (fun _ : Unit => True) (fun _ t => Wd G cy (va_A [(a_0, ev a_terms s_0), (a_terms, av_J cy 64 g_terms), (a_r0, wv s_r0)] sz) [(a_0, ev a_terms R.1), (a_terms, av_J cy 64 R.2), (a_r0, wv s_r0)] t) (va_A [(a_0, ev a_terms s_0), (a_terms, av_J cy 64 g_terms), (a_r0, wv s_r0)] sz)) 0 0 (va_A [(a_0, ev a_terms s_0), (a_terms, av_J cy 64 g_terms), (a_r0, wv s_r0)] sz) := by
  refine Met.ofW (cc := cX0_solve) (maxL := 4) (ret := none) (by decide) rfl ?_
  intro p e s m args below meth c s₁ B hml hv
  obtain ⟨rfl, hsz, hP, hK, hD0, hN⟩ := hv
  have hx := B.exec
  have hb := B.bytes
  have hr := B.returns
  have hts := atoms_spec (ws := wsX0_solve) B.pre
  have hown : s.vm.findClass RX0 = some m.cls := findClass_of_methodNamed B.named
  have hlocks := B.notSynchronized
  subst hsz
  have hD := hD0.self (sz := s.heap.size)
  generalize hAe : va_A [(a_0, ev a_terms s_0), (a_terms, av_J cy 64 g_terms), (a_r0, wv s_r0)] s.heap.size = A at hD ⊢
  have hA : ∀ q : Nat, s.heap.size ≤ q → A q := fun q h => by rw [← hAe]; exact Or.inr h
  have hS : va_S A s.heap s.heap [] := va_S.rf
  have hP : va_P G vwCl [(a_0, ev a_terms s_0), (a_terms, av_J cy 64 g_terms), (a_r0, wv s_r0)] s.heap := hP
  have bl_12 : ∀ (k : Nat), ∀ (c_s_0 : ET) (c_g_terms : Nat → Int64) (y2 : Int32) (H : Heap) (locs : List Loc), f_X0_solve_b12 n s_r0 k c_s_0 c_g_terms y2 = some R → va_P G vwCl [(a_0, ev a_terms c_s_0), (a_terms, av_J cy 64 c_g_terms), (a_r0, wv s_r0)] H → va_D A [(a_0, ev a_terms c_s_0), (a_terms, av_J cy 64 c_g_terms), (a_r0, wv s_r0)] → va_S A s.heap H locs → ∀ (ls : Array Slot), lv_has ls 4 [(0, .ref a_0), (2, .int y2)] → W p l e ({ frames := 5, cells := 0, slots := 0, locals := 120 } : Room) s m [.ref a_0, .ref a_r0].toArray below meth c H locs 0 0 (MQ below (va_Qv (fun _ : Unit => True) (fun _ t => Wd G cy A [(a_0, ev a_terms R.1), (a_terms, av_J cy 64 R.2), (a_r0, wv s_r0)] t) A) [.ref a_0, .ref a_r0].toArray s 0 0 A) (F0 m 12 ls []) := by
    intro k
    induction k with
    | zero =>
      intro c_s_0 c_g_terms y2 H locs hf; cases hf
    | succ k ih =>
      intro c_s_0 c_g_terms y2 H locs hf hP hD hS ls hl
      have hf := (f_X0_solve_b12_s n s_r0 k c_s_0 c_g_terms y2).symm.trans hf
      refine lv_iload_n hx hb dX0_solve_12 rfl (lv_at hl 1 rfl) ?_
      refine lv_aload_n hx hb dX0_solve_13 rfl (lv_at hl 0 rfl) ?_
      refine va_get (D := G) (ci := 0) (v := .int (e_count c_s_0)) (C := RX0) (T := TX0) (N := 4) hx hb hts iw_X0_solve_X0 hown hK hP 0 rfl rfl 1 (by decide) (hts (.fieldLink RX0 23 "PaneFrost$Equations" "count" "I") (by decide +kernel)) (fun _ h9 => h9) rfl dX0_solve_14 ?_
      refine lv_icmp_ge (tgt := 55) hx hb dX0_solve_17 (by decide) (fun h_1 => ?_) (fun h_1 => ?_)
      · have hf := ip_ h_1 hf
        obtain rfl := Option.some.inj hf
        exact kr_v hx hb hr hlocks hP hK hD hN hS hS.2.2 dX0_solve_55
      · have hf := in_ h_1 hf
        refine lv_aload_n hx hb dX0_solve_20 rfl (lv_at hl 0 rfl) ?_
        refine lv_iload_n hx hb dX0_solve_21 rfl (lv_at hl 1 rfl) ?_
        obtain ⟨r_2, hh_r_2, hf⟩ := obd_some hf
        refine kc_i (w1 := [(a_0, ev a_terms c_s_0), (a_terms, av_J cy 64 c_g_terms)]) (wr := [(a_r0, wv s_r0)]) hP hD hS hA [0, 1] [2] rfl rfl rfl (by decide) (va_runV (As := [.int y2]) (rest := []) ⟨hx, hb, hml, hown, hts⟩ (c_X0_unusedWith (l := l) G cy a_0 a_terms H.size c_s_0 c_g_terms y2 n r_2 hh_r_2) (cwV 1 hts gX0_solve_X0_unusedWith rfl rfl rfl ddV_X0_unusedWith ⟨Nat.le_of_ble_eq_true rfl, Nat.le_of_ble_eq_true rfl⟩) (preV_ (ci := 0) (q0 := 0) rfl rfl (hP.sub (ws' := [(a_0, ev a_terms c_s_0), (a_terms, av_J cy 64 c_g_terms)]) [0, 1] rfl) hK (hD.sub (ws' := [(a_0, ev a_terms c_s_0), (a_terms, av_J cy 64 c_g_terms)]) [0, 1] rfl rfl) hN) rfl rfl hl.1 rfl (lv_room (Nat.le_of_ble_eq_true rfl)) dX0_solve_22 ⟨Nat.le_of_ble_eq_true rfl, Nat.le_of_ble_eq_true rfl⟩) (fun H locs hP hD hS => ?_)
        have hP : va_P G vwCl [(a_r0, wv s_r0), (a_0, ev a_terms c_s_0), (a_terms, av_J cy 64 c_g_terms)] H := hP
        have hD : va_D A [(a_r0, wv s_r0), (a_0, ev a_terms c_s_0), (a_terms, av_J cy 64 c_g_terms)] := hD
        refine lv_istore_n (lv' := [(3, .int r_2), (0, .ref a_0), (2, .int y2)]) hx hb dX0_solve_25 rfl hl (by decide) rfl (fun ls hl => ?_)
        refine lv_iload_n hx hb dX0_solve_26 rfl (lv_at hl 0 rfl) ?_
        refine lv_iconst (v := (-1)) hx hb dX0_solve_27 (by decide) ?_
        refine lv_icmp_eq (tgt := 49) hx hb dX0_solve_28 (by decide) (fun h_3 => ?_) (fun h_3 => ?_)
        · have hf := ip_ h_3 hf
          refine lv_iinc (v := (y2 + 1)) (lv' := [(2, .int (y2 + 1)), (3, .int r_2), (0, .ref a_0)]) hx hb dX0_solve_49 hl (k := 2) rfl rfl (by decide) rfl (fun ls hl => ?_)
          refine lv_goto (tgt := 12) hx hb dX0_solve_52 (by decide) ?_
          exact ih c_s_0 c_g_terms (y2 + 1) _ _ hf (hP.sub (ws' := [(a_0, ev a_terms c_s_0), (a_terms, av_J cy 64 c_g_terms), (a_r0, wv s_r0)]) [1, 2, 0] rfl) (hD.sub (ws' := [(a_0, ev a_terms c_s_0), (a_terms, av_J cy 64 c_g_terms), (a_r0, wv s_r0)]) [1, 2, 0] rfl rfl) hS ls (lv_sub hl [2, 0] rfl)
        · have hf := in_ h_3 hf
          refine lv_aload_n hx hb dX0_solve_31 rfl (lv_at hl 1 rfl) ?_
          refine lv_dup hx hb dX0_solve_32 rfl ?_
          refine va_get (D := G) (ci := 0) (v := .long (e_used c_s_0)) (C := RX0) (T := TX0) (N := 4) hx hb hts iw_X0_solve_X0 hown hK hP 1 rfl rfl 3 (by decide) (hts (.fieldLink RX0 19 "PaneFrost$Equations" "used" "J") (by decide +kernel)) (fun _ h9 => h9) rfl dX0_solve_33 ?_
          refine lv_lconst (v := 1) hx hb dX0_solve_36 rfl ?_
          refine lv_iload_n hx hb dX0_solve_37 rfl (lv_at hl 0 rfl) ?_
          refine lv_lshl (v := (jsl 1 r_2)) hx hb dX0_solve_38 rfl ?_
          refine lv_lor hx hb dX0_solve_39 ?_
          refine va_put (D := G) (ci := 0) (v := .long ((e_used c_s_0) ||| (jsl 1 r_2))) (ty := .long) (C := RX0) (T := TX0) (N := 4) hx hb hts iw_X0_solve_X0 tyX0 tyX0_ok nmX0 hown hK hP hD hS 1 rfl rfl 3 (by decide) (hts (.fieldLink RX0 19 "PaneFrost$Equations" "used" "J") (by decide +kernel)) (fun _ h9 => h9) rfl (by decide +kernel) rfl rfl (Nat.le_of_ble_eq_true rfl) dX0_solve_40 (fun H locs hP hD hS => ?_)
          have hP : va_P G vwCl [(a_r0, wv s_r0), (a_0, ev a_terms (e_count c_s_0, e_odd c_s_0, ((e_used c_s_0) ||| (jsl 1 r_2)))), (a_terms, av_J cy 64 c_g_terms)] H := hP
          have hD : va_D A [(a_r0, wv s_r0), (a_0, ev a_terms (e_count c_s_0, e_odd c_s_0, ((e_used c_s_0) ||| (jsl 1 r_2)))), (a_terms, av_J cy 64 c_g_terms)] := hD
          refine lv_aload_n hx hb dX0_solve_43 rfl (lv_at hl 1 rfl) ?_
          refine lv_iload_n hx hb dX0_solve_44 rfl (lv_at hl 2 rfl) ?_
          refine lv_iload_n hx hb dX0_solve_45 rfl (lv_at hl 0 rfl) ?_
          obtain ⟨r_4, hh_r_4, hf⟩ := obd_some hf
          refine kc_v (w1 := [(a_0, ev a_terms r_4.1), (a_terms, av_J cy 64 r_4.2)]) (wr := [(a_r0, wv s_r0)]) hP hD hS hA [1, 2] [0] rfl rfl rfl (by decide) (va_runV (As := [.int y2, .int r_2]) (rest := []) ⟨hx, hb, hml, hown, hts⟩ (c_X0_takeOutOfOthers (l := l) G cy a_0 a_terms H.size (e_count c_s_0, e_odd c_s_0, ((e_used c_s_0) ||| (jsl 1 r_2))) c_g_terms y2 r_2 n r_4 hh_r_4) (cwV 2 hts gX0_solve_X0_takeOutOfOthers rfl rfl rfl ddV_X0_takeOutOfOthers ⟨Nat.le_of_ble_eq_true rfl, Nat.le_of_ble_eq_true rfl⟩) (preV_ (ci := 0) (q0 := 0) rfl rfl (hP.sub (ws' := [(a_0, ev a_terms (e_count c_s_0, e_odd c_s_0, ((e_used c_s_0) ||| (jsl 1 r_2)))), (a_terms, av_J cy 64 c_g_terms)]) [1, 2] rfl) hK (hD.sub (ws' := [(a_0, ev a_terms (e_count c_s_0, e_odd c_s_0, ((e_used c_s_0) ||| (jsl 1 r_2)))), (a_terms, av_J cy 64 c_g_terms)]) [1, 2] rfl rfl) hN) rfl rfl hl.1 rfl (lv_room (Nat.le_of_ble_eq_true rfl)) dX0_solve_46 ⟨Nat.le_of_ble_eq_true rfl, Nat.le_of_ble_eq_true rfl⟩) (fun H locs hP hD hS => ?_)
          have hP : va_P G vwCl [(a_r0, wv s_r0), (a_0, ev a_terms r_4.1), (a_terms, av_J cy 64 r_4.2)] H := hP
          have hD : va_D A [(a_r0, wv s_r0), (a_0, ev a_terms r_4.1), (a_terms, av_J cy 64 r_4.2)] := hD
          refine lv_iinc (v := (y2 + 1)) (lv' := [(2, .int (y2 + 1)), (3, .int r_2), (0, .ref a_0)]) hx hb dX0_solve_49 hl (k := 2) rfl rfl (by decide) rfl (fun ls hl => ?_)
          refine lv_goto (tgt := 12) hx hb dX0_solve_52 (by decide) ?_
          exact ih r_4.1 r_4.2 (y2 + 1) _ _ hf (hP.sub (ws' := [(a_0, ev a_terms r_4.1), (a_terms, av_J cy 64 r_4.2), (a_r0, wv s_r0)]) [1, 2, 0] rfl) (hD.sub (ws' := [(a_0, ev a_terms r_4.1), (a_terms, av_J cy 64 r_4.2), (a_r0, wv s_r0)]) [1, 2, 0] rfl rfl) hS ls (lv_sub hl [2, 0] rfl)
  have hl := lv_entry [.ref a_0, .ref a_r0] (n := 4) (Nat.le_of_ble_eq_true rfl)
  rw [lg_entry_eq]
  generalize (lg_sl [.ref a_0, .ref a_r0] ++ List.replicate (4 - (lg_sl [.ref a_0, .ref a_r0]).length) Slot.unset).toArray = ls at hl ⊢
  have hl : lv_has ls 4 [(0, .ref a_0), (1, .ref a_r0)] := hl
  unfold f_X0_solve at hf
  refine lv_aload_n hx hb dX0_solve_0 rfl (lv_at hl 0 rfl) ?_
  refine lv_aload_n hx hb dX0_solve_1 rfl (lv_at hl 1 rfl) ?_
  obtain ⟨r_5, hh_r_5, hf⟩ := obd_some hf
  refine kc_v (w1 := [(a_0, ev a_terms r_5.1), (a_terms, av_J cy 64 r_5.2), (a_r0, wv s_r0)]) (wr := []) hP hD hS hA [0, 1, 2] [] rfl rfl rfl (by decide) (va_runV (As := [.ref a_r0]) (rest := []) ⟨hx, hb, hml, hown, hts⟩ (c_X0_write (l := l) G cy a_0 a_terms a_r0 s.heap.size s_0 g_terms s_r0 n r_5 hh_r_5) (cwV 1 hts gX0_solve_X0_write rfl rfl rfl ddV_X0_write ⟨Nat.le_of_ble_eq_true rfl, Nat.le_of_ble_eq_true rfl⟩) (preV_ (ci := 0) (q0 := 0) rfl rfl hP hK hD hN) rfl rfl hl.1 rfl (lv_room (Nat.le_of_ble_eq_true rfl)) dX0_solve_2 ⟨Nat.le_of_ble_eq_true rfl, Nat.le_of_ble_eq_true rfl⟩) (fun H locs hP hD hS => ?_)
  have hP : va_P G vwCl [(a_0, ev a_terms r_5.1), (a_terms, av_J cy 64 r_5.2), (a_r0, wv s_r0)] H := hP
  have hD : va_D A [(a_0, ev a_terms r_5.1), (a_terms, av_J cy 64 r_5.2), (a_r0, wv s_r0)] := hD
  refine lv_aload_n hx hb dX0_solve_5 rfl (lv_at hl 0 rfl) ?_
  refine lv_lconst (v := 0) hx hb dX0_solve_6 rfl ?_
  refine va_put (D := G) (ci := 0) (v := .long 0) (ty := .long) (C := RX0) (T := TX0) (N := 4) hx hb hts iw_X0_solve_X0 tyX0 tyX0_ok nmX0 hown hK hP hD hS 0 rfl rfl 3 (by decide) (hts (.fieldLink RX0 19 "PaneFrost$Equations" "used" "J") (by decide +kernel)) (fun _ h9 => h9) rfl (by decide +kernel) rfl rfl (Nat.le_of_ble_eq_true rfl) dX0_solve_7 (fun H locs hP hD hS => ?_)
  have hP : va_P G vwCl [(a_0, ev a_terms (e_count r_5.1, e_odd r_5.1, 0)), (a_terms, av_J cy 64 r_5.2), (a_r0, wv s_r0)] H := hP
  have hD : va_D A [(a_0, ev a_terms (e_count r_5.1, e_odd r_5.1, 0)), (a_terms, av_J cy 64 r_5.2), (a_r0, wv s_r0)] := hD
  refine lv_iconst (v := 0) hx hb dX0_solve_10 (by decide) ?_
  refine lv_istore_n (lv' := [(2, .int 0), (0, .ref a_0), (1, .ref a_r0)]) hx hb dX0_solve_11 rfl hl (by decide) rfl (fun ls hl => ?_)
  exact bl_12 n (e_count r_5.1, e_odd r_5.1, 0) r_5.2 0 _ _ hf hP hD hS ls (lv_sub hl [1, 0] rfl)
set_option maxHeartbeats 4000000 in
set_option maxRecDepth 100000 in
theorem c_X0_isSolved {l : Launch} (G : va_G) (cy : Nat → ClassId) (a_0 : Nat) (a_terms : Nat) (sz : Nat) (s_0 : ET)  (R : Bool) (hf : f_X0_isSolved s_0 = R) : Met l yX0_isSolved wsX0_isSolved ({ frames := 0, cells := 0, slots := 0, locals := 0 } : Room) (va_Pc [.ref a_0] (pcW G cy [(a_0, ev a_terms s_0)] sz)) (va_Qi (fun r (_ : Unit) => r = bI R) (fun _ t => Wd G cy (va_A [(a_0, ev a_terms s_0)] sz) [(a_0, ev a_terms s_0)] t) (va_A [(a_0, ev a_terms s_0)] sz)) 0 0 (va_A [(a_0, ev a_terms s_0)] sz) := by
  refine Met.ofW (cc := cX0_isSolved) (maxL := 1) (ret := (some .boolean)) (by decide) rfl ?_
  intro p e s m args below meth c s₁ B hml hv
  obtain ⟨rfl, hsz, hP, hK, hD0, hN⟩ := hv
  have hx := B.exec
  have hb := B.bytes
  have hr := B.returns
  have hts := atoms_spec (ws := wsX0_isSolved) B.pre
  have hown : s.vm.findClass RX0 = some m.cls := findClass_of_methodNamed B.named
  have hlocks := B.notSynchronized
  subst hsz
  have hD := hD0.self (sz := s.heap.size)
  generalize hAe : va_A [(a_0, ev a_terms s_0)] s.heap.size = A at hD ⊢
  have hA : ∀ q : Nat, s.heap.size ≤ q → A q := fun q h => by rw [← hAe]; exact Or.inr h
  have hS : va_S A s.heap s.heap [] := va_S.rf
  have hP : va_P G vwCl [(a_0, ev a_terms s_0)] s.heap := hP
  have hl := lv_entry [.ref a_0] (n := 1) (Nat.le_of_ble_eq_true rfl)
  rw [lg_entry_eq]
  generalize (lg_sl [.ref a_0] ++ List.replicate (1 - (lg_sl [.ref a_0]).length) Slot.unset).toArray = ls at hl ⊢
  have hl : lv_has ls 1 [(0, .ref a_0)] := hl
  unfold f_X0_isSolved at hf
  refine lv_aload_n hx hb dX0_isSolved_0 rfl (lv_at hl 0 rfl) ?_
  refine va_get (D := G) (ci := 0) (v := .long (e_odd s_0)) (C := RX0) (T := TX0) (N := 4) hx hb hts iw_X0_isSolved_X0 hown hK hP 0 rfl rfl 2 (by decide) (hts (.fieldLink RX0 53 "PaneFrost$Equations" "odd" "J") (by decide +kernel)) (fun _ h9 => h9) rfl dX0_isSolved_1 ?_
  refine lv_aload_n hx hb dX0_isSolved_4 rfl (lv_at hl 0 rfl) ?_
  refine va_get (D := G) (ci := 0) (v := .long (e_used s_0)) (C := RX0) (T := TX0) (N := 4) hx hb hts iw_X0_isSolved_X0 hown hK hP 0 rfl rfl 3 (by decide) (hts (.fieldLink RX0 19 "PaneFrost$Equations" "used" "J") (by decide +kernel)) (fun _ h9 => h9) rfl dX0_isSolved_5 ?_
  refine lv_ldc2 (v := (-1)) hx hb hown (hts (.constantLong RX0 64 (-1)) (by decide +kernel)) dX0_isSolved_8 ?_
  refine lv_lxor hx hb dX0_isSolved_11 ?_
  refine lv_land hx hb dX0_isSolved_12 ?_
  refine lv_lconst (v := 0) hx hb dX0_isSolved_13 rfl ?_
  refine W.lcmp hx hb dX0_isSolved_14 ?_
  refine lv_if_ne (tgt := 22) hx hb dX0_isSolved_15 (by decide) (fun h_1 => ?_) (fun h_1 => ?_)
  · have hf := in_ (fun q => h_1 (lgc_eq.mpr q)) hf
    refine lv_iconst (v := 0) hx hb dX0_isSolved_22 (by decide) ?_
    subst hf
    exact kr_z (V := bI false) hx hb hr hlocks (bI_nar _) rfl hP hK hD hN hS hS.2.2 dX0_isSolved_23
  · have hf := ip_ (lgc_eq.mp h_1) hf
    refine lv_iconst (v := 1) hx hb dX0_isSolved_18 (by decide) ?_
    refine lv_goto (tgt := 23) hx hb dX0_isSolved_19 (by decide) ?_
    subst hf
    exact kr_z (V := bI true) hx hb hr hlocks (bI_nar _) rfl hP hK hD hN hS hS.2.2 dX0_isSolved_23
set_option maxHeartbeats 4000000 in
set_option maxRecDepth 100000 in
theorem c_X0_free {l : Launch} (G : va_G) (cy : Nat → ClassId) (a_0 : Nat) (a_terms : Nat) (sz : Nat) (s_0 : ET)  (R : Int32) (hf : f_X0_free s_0 = R) : Met l yX0_free wsX0_free ({ frames := 1, cells := 0, slots := 0, locals := 21 } : Room) (va_Pc [.ref a_0] (pcW G cy [(a_0, ev a_terms s_0)] sz)) (va_Qi (fun r (_ : Unit) => r = R) (fun _ t => Wd G cy (va_A [(a_0, ev a_terms s_0)] sz) [(a_0, ev a_terms s_0)] t) (va_A [(a_0, ev a_terms s_0)] sz)) 0 0 (va_A [(a_0, ev a_terms s_0)] sz) := by
  refine Met.ofW (cc := cX0_free) (maxL := 1) (ret := (some .int)) (by decide) rfl ?_
  intro p e s m args below meth c s₁ B hml hv
  obtain ⟨rfl, hsz, hP, hK, hD0, hN⟩ := hv
  have hx := B.exec
  have hb := B.bytes
  have hr := B.returns
  have hts := atoms_spec (ws := wsX0_free) B.pre
  have hown : s.vm.findClass RX0 = some m.cls := findClass_of_methodNamed B.named
  have hlocks := B.notSynchronized
  subst hsz
  have hD := hD0.self (sz := s.heap.size)
  generalize hAe : va_A [(a_0, ev a_terms s_0)] s.heap.size = A at hD ⊢
  have hA : ∀ q : Nat, s.heap.size ≤ q → A q := fun q h => by rw [← hAe]; exact Or.inr h
  have hS : va_S A s.heap s.heap [] := va_S.rf
  have hP : va_P G vwCl [(a_0, ev a_terms s_0)] s.heap := hP
  have hl := lv_entry [.ref a_0] (n := 1) (Nat.le_of_ble_eq_true rfl)
  rw [lg_entry_eq]
  generalize (lg_sl [.ref a_0] ++ List.replicate (1 - (lg_sl [.ref a_0]).length) Slot.unset).toArray = ls at hl ⊢
  have hl : lv_has ls 1 [(0, .ref a_0)] := hl
  unfold f_X0_free at hf
  refine lv_aload_n hx hb dX0_free_0 rfl (lv_at hl 0 rfl) ?_
  refine va_get (D := G) (ci := 0) (v := .int (e_count s_0)) (C := RX0) (T := TX0) (N := 4) hx hb hts iw_X0_free_X0 hown hK hP 0 rfl rfl 1 (by decide) (hts (.fieldLink RX0 23 "PaneFrost$Equations" "count" "I") (by decide +kernel)) (fun _ h9 => h9) rfl dX0_free_1 ?_
  refine lv_aload_n hx hb dX0_free_4 rfl (lv_at hl 0 rfl) ?_
  refine va_get (D := G) (ci := 0) (v := .long (e_used s_0)) (C := RX0) (T := TX0) (N := 4) hx hb hts iw_X0_free_X0 hown hK hP 0 rfl rfl 3 (by decide) (hts (.fieldLink RX0 19 "PaneFrost$Equations" "used" "J") (by decide +kernel)) (fun _ h9 => h9) rfl dX0_free_5 ?_
  refine kc_i (w1 := []) (wr := [(a_0, ev a_terms s_0)]) hP hD hS hA [] [0] rfl rfl rfl (by decide) (va_runS (As := [.long (e_used s_0)]) (rest := [.int (e_count s_0)]) ⟨hx, hb, hml, hown, hts⟩ (c_J13_bitCount_95d88 (l := l) G cy  s.heap.size (e_used s_0)  (f_J13_bitCount_95d88 (e_used s_0)) rfl) (va_cwS 1 hts gX0_free_J13_bitCount_95d88 rfl rfl rfl ddN_J13_bitCount_95d88 ⟨Nat.le_of_ble_eq_true rfl, Nat.le_of_ble_eq_true rfl⟩) (preS_ (hP.sub (ws' := []) [] rfl) hK (hD.sub (ws' := []) [] rfl rfl) hN) rfl rfl hl.1 rfl (lv_room (Nat.le_of_ble_eq_true rfl)) dX0_free_8 ⟨Nat.le_of_ble_eq_true rfl, Nat.le_of_ble_eq_true rfl⟩) (fun H locs hP hD hS => ?_)
  have hP : va_P G vwCl [(a_0, ev a_terms s_0)] H := hP
  have hD : va_D A [(a_0, ev a_terms s_0)] := hD
  refine lv_isub hx hb dX0_free_11 ?_
  subst hf
  exact kr_i hx hb hr hlocks rfl hP hK hD hN hS hS.2.2 dX0_free_12
set_option maxHeartbeats 4000000 in
set_option maxRecDepth 100000 in
theorem c_X0_leastSolution {l : Launch} (G : va_G) (cy : Nat → ClassId) (a_0 : Nat) (a_terms : Nat) (sz : Nat) (s_0 : ET) (g_terms : Nat → Int64) (n : Nat) (R : Int64) (hf : f_X0_leastSolution n s_0 g_terms = some R) : Met l yX0_leastSolution wsX0_leastSolution ({ frames := 1, cells := 0, slots := 0, locals := 22 } : Room) (va_Pc [.ref a_0] (pcW G cy [(a_0, ev a_terms s_0), (a_terms, av_J cy 64 g_terms)] sz)) (va_Ql (fun r (_ : Unit) => r = R) (fun _ t => Wd G cy (va_A [(a_0, ev a_terms s_0), (a_terms, av_J cy 64 g_terms)] sz) [(a_0, ev a_terms s_0), (a_terms, av_J cy 64 g_terms)] t) (va_A [(a_0, ev a_terms s_0), (a_terms, av_J cy 64 g_terms)] sz)) 0 0 (va_A [(a_0, ev a_terms s_0), (a_terms, av_J cy 64 g_terms)] sz) := by
  refine Met.ofW (cc := cX0_leastSolution) (maxL := 4) (ret := (some .long)) (by decide) rfl ?_
  intro p e s m args below meth c s₁ B hml hv
  obtain ⟨rfl, hsz, hP, hK, hD0, hN⟩ := hv
  have hx := B.exec
  have hb := B.bytes
  have hr := B.returns
  have hts := atoms_spec (ws := wsX0_leastSolution) B.pre
  have hown : s.vm.findClass RX0 = some m.cls := findClass_of_methodNamed B.named
  have hlocks := B.notSynchronized
  subst hsz
  have hD := hD0.self (sz := s.heap.size)
  generalize hAe : va_A [(a_0, ev a_terms s_0), (a_terms, av_J cy 64 g_terms)] s.heap.size = A at hD ⊢
  have hA : ∀ q : Nat, s.heap.size ≤ q → A q := fun q h => by rw [← hAe]; exact Or.inr h
  have hS : va_S A s.heap s.heap [] := va_S.rf
  have hP : va_P G vwCl [(a_0, ev a_terms s_0), (a_terms, av_J cy 64 g_terms)] s.heap := hP
  have bl_4 : ∀ (k : Nat), ∀ (y1 : Int64) (y3 : Int32) (H : Heap) (locs : List Loc), f_X0_leastSolution_b4 n s_0 g_terms k y1 y3 = some R → va_P G vwCl [(a_0, ev a_terms s_0), (a_terms, av_J cy 64 g_terms)] H → va_D A [(a_0, ev a_terms s_0), (a_terms, av_J cy 64 g_terms)] → va_S A s.heap H locs → ∀ (ls : Array Slot), lv_has ls 4 [(0, .ref a_0), (1, .long y1), (3, .int y3)] → W p l e ({ frames := 1, cells := 0, slots := 0, locals := 22 } : Room) s m [.ref a_0].toArray below meth c H locs 0 0 (MQ below (va_Ql (fun r (_ : Unit) => r = R) (fun _ t => Wd G cy A [(a_0, ev a_terms s_0), (a_terms, av_J cy 64 g_terms)] t) A) [.ref a_0].toArray s 0 0 A) (F0 m 4 ls []) := by
    intro k
    induction k with
    | zero =>
      intro y1 y3 H locs hf; cases hf
    | succ k ih =>
      intro y1 y3 H locs hf hP hD hS ls hl
      have hf := (f_X0_leastSolution_b4_s n s_0 g_terms k y1 y3).symm.trans hf
      refine lv_iload_n hx hb dX0_leastSolution_4 rfl (lv_at hl 2 rfl) ?_
      refine lv_aload_n hx hb dX0_leastSolution_5 rfl (lv_at hl 0 rfl) ?_
      refine va_get (D := G) (ci := 0) (v := .int (e_count s_0)) (C := RX0) (T := TX0) (N := 4) hx hb hts iw_X0_leastSolution_X0 hown hK hP 0 rfl rfl 1 (by decide) (hts (.fieldLink RX0 23 "PaneFrost$Equations" "count" "I") (by decide +kernel)) (fun _ h9 => h9) rfl dX0_leastSolution_6 ?_
      refine lv_icmp_ge (tgt := 49) hx hb dX0_leastSolution_9 (by decide) (fun h_1 => ?_) (fun h_1 => ?_)
      · have hf := ip_ h_1 hf
        refine lv_lload_n hx hb dX0_leastSolution_49 rfl (lv_at hl 1 rfl) ?_
        obtain rfl := Option.some.inj hf
        exact kr_l hx hb hr hlocks rfl hP hK hD hN hS hS.2.2 dX0_leastSolution_50
      · have hf := in_ h_1 hf
        refine lv_aload_n hx hb dX0_leastSolution_12 rfl (lv_at hl 0 rfl) ?_
        refine va_get (D := G) (ci := 0) (v := .long (e_used s_0)) (C := RX0) (T := TX0) (N := 4) hx hb hts iw_X0_leastSolution_X0 hown hK hP 0 rfl rfl 3 (by decide) (hts (.fieldLink RX0 19 "PaneFrost$Equations" "used" "J") (by decide +kernel)) (fun _ h9 => h9) rfl dX0_leastSolution_13 ?_
        refine lv_aload_n hx hb dX0_leastSolution_16 rfl (lv_at hl 0 rfl) ?_
        refine va_get (D := G) (ci := 0) (v := .long (e_odd s_0)) (C := RX0) (T := TX0) (N := 4) hx hb hts iw_X0_leastSolution_X0 hown hK hP 0 rfl rfl 2 (by decide) (hts (.fieldLink RX0 53 "PaneFrost$Equations" "odd" "J") (by decide +kernel)) (fun _ h9 => h9) rfl dX0_leastSolution_17 ?_
        refine lv_land hx hb dX0_leastSolution_20 ?_
        refine lv_iload_n hx hb dX0_leastSolution_21 rfl (lv_at hl 2 rfl) ?_
        refine kc_i (w1 := []) (wr := [(a_0, ev a_terms s_0), (a_terms, av_J cy 64 g_terms)]) hP hD hS hA [] [0, 1] rfl rfl rfl (by decide) (va_runSN (As := [.long ((e_used s_0) &&& (e_odd s_0)), .int y3]) (rest := []) ⟨hx, hb, hml, hown, hts⟩ (c_X5_holds (l := l) G cy  H.size ((e_used s_0) &&& (e_odd s_0)) y3  (f_X5_holds ((e_used s_0) &&& (e_odd s_0)) y3) rfl) ⟨va_cnB 2 hts gX0_leastSolution_X5_holds_n56 rfl rfl rfl hN.2.2 (hts (.initialized RX5) (by decide +kernel)) ddN_X5_holds ⟨Nat.le_of_ble_eq_true rfl, Nat.le_of_ble_eq_true rfl⟩, hts (.static yX5_holds) (by decide +kernel), trivial⟩ (preS_ (hP.sub (ws' := []) [] rfl) hK (hD.sub (ws' := []) [] rfl rfl) hN) rfl rfl hl.1 rfl (lv_room (Nat.le_of_ble_eq_true rfl)) dX0_leastSolution_22 ⟨Nat.le_of_ble_eq_true rfl, Nat.le_of_ble_eq_true rfl⟩) (fun H locs hP hD hS => ?_)
        have hP : va_P G vwCl [(a_0, ev a_terms s_0), (a_terms, av_J cy 64 g_terms)] H := hP
        have hD : va_D A [(a_0, ev a_terms s_0), (a_terms, av_J cy 64 g_terms)] := hD
        refine lv_if_eq (tgt := 43) hx hb dX0_leastSolution_25 (by decide) (fun h_2 => ?_) (fun h_2 => ?_)
        · have hf := in_ (bI_0 h_2) hf
          refine lv_iinc (v := (y3 + 1)) (lv' := [(3, .int (y3 + 1)), (0, .ref a_0), (1, .long y1)]) hx hb dX0_leastSolution_43 hl (k := 2) rfl rfl (by decide) rfl (fun ls hl => ?_)
          refine lv_goto (tgt := 4) hx hb dX0_leastSolution_46 (by decide) ?_
          exact ih y1 (y3 + 1) _ _ hf hP hD hS ls (lv_sub hl [1, 2, 0] rfl)
        · have hf := ip_ (bI_n0 h_2) hf
          refine lv_lload_n hx hb dX0_leastSolution_28 rfl (lv_at hl 1 rfl) ?_
          refine lv_aload_n hx hb dX0_leastSolution_29 rfl (lv_at hl 0 rfl) ?_
          refine lv_iload_n hx hb dX0_leastSolution_30 rfl (lv_at hl 2 rfl) ?_
          obtain ⟨r_3, hh_r_3, hf⟩ := obd_some hf
          refine kc_l (w1 := [(a_0, ev a_terms s_0), (a_terms, av_J cy 64 g_terms)]) (wr := []) hP hD hS hA [0, 1] [] rfl rfl rfl (by decide) (va_runV (As := [.int y3]) (rest := [.long y1]) ⟨hx, hb, hml, hown, hts⟩ (c_X0_term (l := l) G cy a_0 a_terms H.size s_0 g_terms y3  r_3 hh_r_3) (cwV 1 hts gX0_leastSolution_X0_term rfl rfl rfl ddV_X0_term ⟨Nat.le_of_ble_eq_true rfl, Nat.le_of_ble_eq_true rfl⟩) (preV_ (ci := 0) (q0 := 0) rfl rfl hP hK hD hN) rfl rfl hl.1 rfl (lv_room (Nat.le_of_ble_eq_true rfl)) dX0_leastSolution_31 ⟨Nat.le_of_ble_eq_true rfl, Nat.le_of_ble_eq_true rfl⟩) (fun H locs hP hD hS => ?_)
          have hP : va_P G vwCl [(a_0, ev a_terms s_0), (a_terms, av_J cy 64 g_terms)] H := hP
          have hD : va_D A [(a_0, ev a_terms s_0), (a_terms, av_J cy 64 g_terms)] := hD
          refine lv_aload_n hx hb dX0_leastSolution_34 rfl (lv_at hl 0 rfl) ?_
          refine lv_iload_n hx hb dX0_leastSolution_35 rfl (lv_at hl 2 rfl) ?_
          obtain ⟨r_4, hh_r_4, hf⟩ := obd_some hf
          refine kc_l (w1 := [(a_0, ev a_terms s_0), (a_terms, av_J cy 64 g_terms)]) (wr := []) hP hD hS hA [0, 1] [] rfl rfl rfl (by decide) (va_runV (As := [.int y3]) (rest := [.long r_3, .long y1]) ⟨hx, hb, hml, hown, hts⟩ (c_X0_term (l := l) G cy a_0 a_terms H.size s_0 g_terms y3  r_4 hh_r_4) (cwV 1 hts gX0_leastSolution_X0_term rfl rfl rfl ddV_X0_term ⟨Nat.le_of_ble_eq_true rfl, Nat.le_of_ble_eq_true rfl⟩) (preV_ (ci := 0) (q0 := 0) rfl rfl hP hK hD hN) rfl rfl hl.1 rfl (lv_room (Nat.le_of_ble_eq_true rfl)) dX0_leastSolution_36 ⟨Nat.le_of_ble_eq_true rfl, Nat.le_of_ble_eq_true rfl⟩) (fun H locs hP hD hS => ?_)
          have hP : va_P G vwCl [(a_0, ev a_terms s_0), (a_terms, av_J cy 64 g_terms)] H := hP
          have hD : va_D A [(a_0, ev a_terms s_0), (a_terms, av_J cy 64 g_terms)] := hD
          refine lv_lneg hx hb dX0_leastSolution_39 ?_
          refine lv_land hx hb dX0_leastSolution_40 ?_
          refine lv_lor hx hb dX0_leastSolution_41 ?_
          refine lv_lstore_n (lv' := [(1, .long (y1 ||| (r_3 &&& (-r_4)))), (0, .ref a_0), (3, .int y3)]) hx hb dX0_leastSolution_42 rfl hl (by decide) rfl (fun ls hl => ?_)
          refine lv_iinc (v := (y3 + 1)) (lv' := [(3, .int (y3 + 1)), (1, .long (y1 ||| (r_3 &&& (-r_4)))), (0, .ref a_0)]) hx hb dX0_leastSolution_43 hl (k := 2) rfl rfl (by decide) rfl (fun ls hl => ?_)
          refine lv_goto (tgt := 4) hx hb dX0_leastSolution_46 (by decide) ?_
          exact ih (y1 ||| (r_3 &&& (-r_4))) (y3 + 1) _ _ hf hP hD hS ls (lv_sub hl [2, 1, 0] rfl)
  have hl := lv_entry [.ref a_0] (n := 4) (Nat.le_of_ble_eq_true rfl)
  rw [lg_entry_eq]
  generalize (lg_sl [.ref a_0] ++ List.replicate (4 - (lg_sl [.ref a_0]).length) Slot.unset).toArray = ls at hl ⊢
  have hl : lv_has ls 4 [(0, .ref a_0)] := hl
  unfold f_X0_leastSolution at hf
  refine lv_lconst (v := 0) hx hb dX0_leastSolution_0 rfl ?_
  refine lv_lstore_n (lv' := [(1, .long 0), (0, .ref a_0)]) hx hb dX0_leastSolution_1 rfl hl (by decide) rfl (fun ls hl => ?_)
  refine lv_iconst (v := 0) hx hb dX0_leastSolution_2 (by decide) ?_
  refine lv_istore_n (lv' := [(3, .int 0), (1, .long 0), (0, .ref a_0)]) hx hb dX0_leastSolution_3 rfl hl (by decide) rfl (fun ls hl => ?_)
  exact bl_4 n 0 0 _ _ hf hP hD hS ls (lv_sub hl [2, 1, 0] rfl)
set_option maxHeartbeats 4000000 in
set_option maxRecDepth 100000 in
theorem c_X2_put {l : Launch} (G : va_G) (cy : Nat → ClassId) (a_0 : Nat) (a_kept : Nat) (a_r0 : Nat) (sz : Nat) (s_0 : Bool) (s_kept : WT) (s_r0 : WT)  (R : Bool × WT) (hf : f_X2_put s_0 s_kept s_r0 = R) : Met l yX2_put wsX2_put ({ frames := 1, cells := 0, slots := 0, locals := 21 } : Room) (va_Pc [.ref a_0, .ref a_r0] (pcW G cy [(a_0, sv a_kept s_0), (a_kept, wv s_kept), (a_r0, wv s_r0)] sz)) (va_Qv (fun _ : Unit => True) (fun _ t => Wd G cy (va_A [(a_0, sv a_kept s_0), (a_kept, wv s_kept), (a_r0, wv s_r0)] sz) [(a_0, sv a_kept R.1), (a_kept, wv R.2), (a_r0, wv s_r0)] t) (va_A [(a_0, sv a_kept s_0), (a_kept, wv s_kept), (a_r0, wv s_r0)] sz)) 0 0 (va_A [(a_0, sv a_kept s_0), (a_kept, wv s_kept), (a_r0, wv s_r0)] sz) := by
  refine Met.ofW (cc := cX2_put) (maxL := 2) (ret := none) (by decide) rfl ?_
  intro p e s m args below meth c s₁ B hml hv
  obtain ⟨rfl, hsz, hP, hK, hD0, hN⟩ := hv
  have hx := B.exec
  have hb := B.bytes
  have hr := B.returns
  have hts := atoms_spec (ws := wsX2_put) B.pre
  have hown : s.vm.findClass RX2 = some m.cls := findClass_of_methodNamed B.named
  have hlocks := B.notSynchronized
  subst hsz
  have hD := hD0.self (sz := s.heap.size)
  generalize hAe : va_A [(a_0, sv a_kept s_0), (a_kept, wv s_kept), (a_r0, wv s_r0)] s.heap.size = A at hD ⊢
  have hA : ∀ q : Nat, s.heap.size ≤ q → A q := fun q h => by rw [← hAe]; exact Or.inr h
  have hS : va_S A s.heap s.heap [] := va_S.rf
  have hP : va_P G vwCl [(a_0, sv a_kept s_0), (a_kept, wv s_kept), (a_r0, wv s_r0)] s.heap := hP
  have hl := lv_entry [.ref a_0, .ref a_r0] (n := 2) (Nat.le_of_ble_eq_true rfl)
  rw [lg_entry_eq]
  generalize (lg_sl [.ref a_0, .ref a_r0] ++ List.replicate (2 - (lg_sl [.ref a_0, .ref a_r0]).length) Slot.unset).toArray = ls at hl ⊢
  have hl : lv_has ls 2 [(0, .ref a_0), (1, .ref a_r0)] := hl
  unfold f_X2_put at hf
  refine lv_aload_n hx hb dX2_put_0 rfl (lv_at hl 0 rfl) ?_
  refine va_get (D := G) (ci := 2) (v := .ref a_kept) (C := RX2) (T := TX2) (N := 2) hx hb hts iw_X2_put_X2 hown hK hP 0 rfl rfl 0 (by decide) (hts (.fieldLink RX2 10 "PaneFrost$Slot" "kept" "LPaneFrost$Window;") (by decide +kernel)) (fun _ h9 => h9) rfl dX2_put_1 ?_
  refine lv_aload_n hx hb dX2_put_4 rfl (lv_at hl 1 rfl) ?_
  refine kc_v (w1 := [(a_kept, wv (f_X4_copy s_kept s_r0)), (a_r0, wv s_r0)]) (wr := [(a_0, sv a_kept s_0)]) hP hD hS hA [1, 2] [0] rfl rfl rfl (by decide) (va_runV (As := [.ref a_r0]) (rest := []) ⟨hx, hb, hml, hown, hts⟩ (c_X4_copy (l := l) G cy a_kept a_r0 s.heap.size s_kept s_r0  (f_X4_copy s_kept s_r0) rfl) (cwV 1 hts gX2_put_X4_copy rfl rfl rfl ddV_X4_copy ⟨Nat.le_of_ble_eq_true rfl, Nat.le_of_ble_eq_true rfl⟩) (preV_ (ci := 4) (q0 := 0) rfl rfl (hP.sub (ws' := [(a_kept, wv s_kept), (a_r0, wv s_r0)]) [1, 2] rfl) hK (hD.sub (ws' := [(a_kept, wv s_kept), (a_r0, wv s_r0)]) [1, 2] rfl rfl) hN) rfl rfl hl.1 rfl (lv_room (Nat.le_of_ble_eq_true rfl)) dX2_put_5 ⟨Nat.le_of_ble_eq_true rfl, Nat.le_of_ble_eq_true rfl⟩) (fun H locs hP hD hS => ?_)
  have hP : va_P G vwCl [(a_0, sv a_kept s_0), (a_kept, wv (f_X4_copy s_kept s_r0)), (a_r0, wv s_r0)] H := hP
  have hD : va_D A [(a_0, sv a_kept s_0), (a_kept, wv (f_X4_copy s_kept s_r0)), (a_r0, wv s_r0)] := hD
  refine lv_aload_n hx hb dX2_put_8 rfl (lv_at hl 0 rfl) ?_
  refine lv_iconst (v := 1) hx hb dX2_put_9 (by decide) ?_
  refine va_put (D := G) (ci := 2) (v := .int (bI true)) (ty := .boolean) (C := RX2) (T := TX2) (N := 2) hx hb hts iw_X2_put_X2 tyX2 tyX2_ok nmX2 hown hK hP hD hS 0 rfl rfl 1 (by decide) (hts (.fieldLink RX2 20 "PaneFrost$Slot" "full" "Z") (by decide +kernel)) (fun _ h9 => h9) rfl (by decide +kernel) (bI_nar _) (bI_fit _) (Nat.le_of_ble_eq_true rfl) dX2_put_10 (fun H locs hP hD hS => ?_)
  have hP : va_P G vwCl [(a_0, sv a_kept true), (a_kept, wv (f_X4_copy s_kept s_r0)), (a_r0, wv s_r0)] H := hP
  have hD : va_D A [(a_0, sv a_kept true), (a_kept, wv (f_X4_copy s_kept s_r0)), (a_r0, wv s_r0)] := hD
  subst hf
  exact kr_v hx hb hr hlocks hP hK hD hN hS hS.2.2 dX2_put_13
set_option maxHeartbeats 4000000 in
set_option maxRecDepth 100000 in
theorem c_X2_empty {l : Launch} (G : va_G) (cy : Nat → ClassId) (a_0 : Nat) (a_kept : Nat) (sz : Nat) (s_0 : Bool)  (R : Bool) (hf : f_X2_empty s_0 = R) : Met l yX2_empty wsX2_empty ({ frames := 0, cells := 0, slots := 0, locals := 0 } : Room) (va_Pc [.ref a_0] (pcW G cy [(a_0, sv a_kept s_0)] sz)) (va_Qv (fun _ : Unit => True) (fun _ t => Wd G cy (va_A [(a_0, sv a_kept s_0)] sz) [(a_0, sv a_kept R)] t) (va_A [(a_0, sv a_kept s_0)] sz)) 0 0 (va_A [(a_0, sv a_kept s_0)] sz) := by
  refine Met.ofW (cc := cX2_empty) (maxL := 1) (ret := none) (by decide) rfl ?_
  intro p e s m args below meth c s₁ B hml hv
  obtain ⟨rfl, hsz, hP, hK, hD0, hN⟩ := hv
  have hx := B.exec
  have hb := B.bytes
  have hr := B.returns
  have hts := atoms_spec (ws := wsX2_empty) B.pre
  have hown : s.vm.findClass RX2 = some m.cls := findClass_of_methodNamed B.named
  have hlocks := B.notSynchronized
  subst hsz
  have hD := hD0.self (sz := s.heap.size)
  generalize hAe : va_A [(a_0, sv a_kept s_0)] s.heap.size = A at hD ⊢
  have hA : ∀ q : Nat, s.heap.size ≤ q → A q := fun q h => by rw [← hAe]; exact Or.inr h
  have hS : va_S A s.heap s.heap [] := va_S.rf
  have hP : va_P G vwCl [(a_0, sv a_kept s_0)] s.heap := hP
  have hl := lv_entry [.ref a_0] (n := 1) (Nat.le_of_ble_eq_true rfl)
  rw [lg_entry_eq]
  generalize (lg_sl [.ref a_0] ++ List.replicate (1 - (lg_sl [.ref a_0]).length) Slot.unset).toArray = ls at hl ⊢
  have hl : lv_has ls 1 [(0, .ref a_0)] := hl
  unfold f_X2_empty at hf
  refine lv_aload_n hx hb dX2_empty_0 rfl (lv_at hl 0 rfl) ?_
  refine lv_iconst (v := 0) hx hb dX2_empty_1 (by decide) ?_
  refine va_put (D := G) (ci := 2) (v := .int (bI false)) (ty := .boolean) (C := RX2) (T := TX2) (N := 2) hx hb hts iw_X2_empty_X2 tyX2 tyX2_ok nmX2 hown hK hP hD hS 0 rfl rfl 1 (by decide) (hts (.fieldLink RX2 20 "PaneFrost$Slot" "full" "Z") (by decide +kernel)) (fun _ h9 => h9) rfl (by decide +kernel) (bI_nar _) (bI_fit _) (Nat.le_of_ble_eq_true rfl) dX2_empty_2 (fun H locs hP hD hS => ?_)
  have hP : va_P G vwCl [(a_0, sv a_kept false)] H := hP
  have hD : va_D A [(a_0, sv a_kept false)] := hD
  subst hf
  exact kr_v hx hb hr hlocks hP hK hD hN hS hS.2.2 dX2_empty_5
set_option maxHeartbeats 4000000 in
set_option maxRecDepth 100000 in
theorem c_X3_isFull {l : Launch} (G : va_G) (cy : Nat → ClassId) (a_0 : Nat) (a_signs : Nat) (sz : Nat) (s_0 : TT) (g_signs : Nat → Int32)  (R : Bool) (hf : f_X3_isFull s_0 g_signs = R) : Met l yX3_isFull wsX3_isFull ({ frames := 0, cells := 0, slots := 0, locals := 0 } : Room) (va_Pc [.ref a_0] (pcW G cy [(a_0, tv a_signs s_0), (a_signs, av_C cy 120 g_signs)] sz)) (va_Qi (fun r (_ : Unit) => r = bI R) (fun _ t => Wd G cy (va_A [(a_0, tv a_signs s_0), (a_signs, av_C cy 120 g_signs)] sz) [(a_0, tv a_signs s_0), (a_signs, av_C cy 120 g_signs)] t) (va_A [(a_0, tv a_signs s_0), (a_signs, av_C cy 120 g_signs)] sz)) 0 0 (va_A [(a_0, tv a_signs s_0), (a_signs, av_C cy 120 g_signs)] sz) := by
  refine Met.ofW (cc := cX3_isFull) (maxL := 1) (ret := (some .boolean)) (by decide) rfl ?_
  intro p e s m args below meth c s₁ B hml hv
  obtain ⟨rfl, hsz, hP, hK, hD0, hN⟩ := hv
  have hx := B.exec
  have hb := B.bytes
  have hr := B.returns
  have hts := atoms_spec (ws := wsX3_isFull) B.pre
  have hown : s.vm.findClass RX3 = some m.cls := findClass_of_methodNamed B.named
  have hlocks := B.notSynchronized
  subst hsz
  have hD := hD0.self (sz := s.heap.size)
  generalize hAe : va_A [(a_0, tv a_signs s_0), (a_signs, av_C cy 120 g_signs)] s.heap.size = A at hD ⊢
  have hA : ∀ q : Nat, s.heap.size ≤ q → A q := fun q h => by rw [← hAe]; exact Or.inr h
  have hS : va_S A s.heap s.heap [] := va_S.rf
  have hP : va_P G vwCl [(a_0, tv a_signs s_0), (a_signs, av_C cy 120 g_signs)] s.heap := hP
  have hl := lv_entry [.ref a_0] (n := 1) (Nat.le_of_ble_eq_true rfl)
  rw [lg_entry_eq]
  generalize (lg_sl [.ref a_0] ++ List.replicate (1 - (lg_sl [.ref a_0]).length) Slot.unset).toArray = ls at hl ⊢
  have hl : lv_has ls 1 [(0, .ref a_0)] := hl
  unfold f_X3_isFull at hf
  refine lv_aload_n hx hb dX3_isFull_0 rfl (lv_at hl 0 rfl) ?_
  refine va_get (D := G) (ci := 3) (v := .int (t_length s_0)) (C := RX3) (T := TX3) (N := 6) hx hb hts iw_X3_isFull_X3 hown hK hP 0 rfl rfl 4 (by decide) (hts (.fieldLink RX3 15 "PaneFrost$Text" "length" "I") (by decide +kernel)) (fun _ h9 => h9) rfl dX3_isFull_1 ?_
  refine lv_aload_n hx hb dX3_isFull_4 rfl (lv_at hl 0 rfl) ?_
  refine va_get (D := G) (ci := 3) (v := .ref a_signs) (C := RX3) (T := TX3) (N := 6) hx hb hts iw_X3_isFull_X3 hown hK hP 0 rfl rfl 3 (by decide) (hts (.fieldLink RX3 9 "PaneFrost$Text" "signs" "[C") (by decide +kernel)) (fun _ h9 => h9) rfl dX3_isFull_5 ?_
  refine va_alen (v := 120) hx hb hK hP 1 0 rfl rfl rfl dX3_isFull_8 ?_
  refine lv_icmp_lt (tgt := 16) hx hb dX3_isFull_9 (by decide) (fun h_1 => ?_) (fun h_1 => ?_)
  · have hf := ip_ h_1 hf
    refine lv_iconst (v := 0) hx hb dX3_isFull_16 (by decide) ?_
    subst hf
    exact kr_z (V := bI false) hx hb hr hlocks (bI_nar _) rfl hP hK hD hN hS hS.2.2 dX3_isFull_17
  · have hf := in_ h_1 hf
    refine lv_iconst (v := 1) hx hb dX3_isFull_12 (by decide) ?_
    refine lv_goto (tgt := 17) hx hb dX3_isFull_13 (by decide) ?_
    subst hf
    exact kr_z (V := bI true) hx hb hr hlocks (bI_nar _) rfl hP hK hD hN hS hS.2.2 dX3_isFull_17
set_option maxHeartbeats 4000000 in
set_option maxRecDepth 100000 in
theorem c_X3_add {l : Launch} (G : va_G) (cy : Nat → ClassId) (a_0 : Nat) (a_signs : Nat) (sz : Nat) (s_0 : TT) (g_signs : Nat → Int32) (x1 : Int32)  (R : Int32 × TT × (Nat → Int32)) (hf : f_X3_add s_0 g_signs x1 = some R) : Met l yX3_add wsX3_add ({ frames := 0, cells := 0, slots := 0, locals := 0 } : Room) (va_Pc [.ref a_0, .int x1] (pcW G cy [(a_0, tv a_signs s_0), (a_signs, av_C cy 120 g_signs)] sz)) (va_Qi (fun r (_ : Unit) => r = R.1) (fun _ t => Wd G cy (va_A [(a_0, tv a_signs s_0), (a_signs, av_C cy 120 g_signs)] sz) [(a_0, tv a_signs R.2.1), (a_signs, av_C cy 120 R.2.2)] t) (va_A [(a_0, tv a_signs s_0), (a_signs, av_C cy 120 g_signs)] sz)) 0 0 (va_A [(a_0, tv a_signs s_0), (a_signs, av_C cy 120 g_signs)] sz) := by
  refine Met.ofW (cc := cX3_add) (maxL := 2) (ret := (some .int)) (by decide) rfl ?_
  intro p e s m args below meth c s₁ B hml hv
  obtain ⟨rfl, hsz, hP, hK, hD0, hN⟩ := hv
  have hx := B.exec
  have hb := B.bytes
  have hr := B.returns
  have hts := atoms_spec (ws := wsX3_add) B.pre
  have hown : s.vm.findClass RX3 = some m.cls := findClass_of_methodNamed B.named
  have hlocks := B.notSynchronized
  subst hsz
  have hD := hD0.self (sz := s.heap.size)
  generalize hAe : va_A [(a_0, tv a_signs s_0), (a_signs, av_C cy 120 g_signs)] s.heap.size = A at hD ⊢
  have hA : ∀ q : Nat, s.heap.size ≤ q → A q := fun q h => by rw [← hAe]; exact Or.inr h
  have hS : va_S A s.heap s.heap [] := va_S.rf
  have hP : va_P G vwCl [(a_0, tv a_signs s_0), (a_signs, av_C cy 120 g_signs)] s.heap := hP
  have hl := lv_entry [.ref a_0, .int x1] (n := 2) (Nat.le_of_ble_eq_true rfl)
  rw [lg_entry_eq]
  generalize (lg_sl [.ref a_0, .int x1] ++ List.replicate (2 - (lg_sl [.ref a_0, .int x1]).length) Slot.unset).toArray = ls at hl ⊢
  have hl : lv_has ls 2 [(0, .ref a_0), (1, .int x1)] := hl
  unfold f_X3_add at hf
  refine lv_aload_n hx hb dX3_add_0 rfl (lv_at hl 0 rfl) ?_
  refine va_get (D := G) (ci := 3) (v := .int (t_length s_0)) (C := RX3) (T := TX3) (N := 6) hx hb hts iw_X3_add_X3 hown hK hP 0 rfl rfl 4 (by decide) (hts (.fieldLink RX3 15 "PaneFrost$Text" "length" "I") (by decide +kernel)) (fun _ h9 => h9) rfl dX3_add_1 ?_
  refine lv_if_lt (tgt := 39) hx hb dX3_add_4 (by decide) (fun h_1 => ?_) (fun h_1 => ?_)
  · have hf := ip_ h_1 hf
    refine lv_aload_n hx hb dX3_add_39 rfl (lv_at hl 0 rfl) ?_
    refine va_get (D := G) (ci := 3) (v := .int (t_length s_0)) (C := RX3) (T := TX3) (N := 6) hx hb hts iw_X3_add_X3 hown hK hP 0 rfl rfl 4 (by decide) (hts (.fieldLink RX3 15 "PaneFrost$Text" "length" "I") (by decide +kernel)) (fun _ h9 => h9) rfl dX3_add_40 ?_
    obtain rfl := Option.some.inj hf
    exact kr_i hx hb hr hlocks rfl hP hK hD hN hS hS.2.2 dX3_add_43
  · have hf := in_ h_1 hf
    refine lv_aload_n hx hb dX3_add_7 rfl (lv_at hl 0 rfl) ?_
    refine va_get (D := G) (ci := 3) (v := .int (t_length s_0)) (C := RX3) (T := TX3) (N := 6) hx hb hts iw_X3_add_X3 hown hK hP 0 rfl rfl 4 (by decide) (hts (.fieldLink RX3 15 "PaneFrost$Text" "length" "I") (by decide +kernel)) (fun _ h9 => h9) rfl dX3_add_8 ?_
    refine lv_aload_n hx hb dX3_add_11 rfl (lv_at hl 0 rfl) ?_
    refine va_get (D := G) (ci := 3) (v := .ref a_signs) (C := RX3) (T := TX3) (N := 6) hx hb hts iw_X3_add_X3 hown hK hP 0 rfl rfl 3 (by decide) (hts (.fieldLink RX3 9 "PaneFrost$Text" "signs" "[C") (by decide +kernel)) (fun _ h9 => h9) rfl dX3_add_12 ?_
    refine va_alen (v := 120) hx hb hK hP 1 0 rfl rfl rfl dX3_add_15 ?_
    refine lv_icmp_ge (tgt := 39) hx hb dX3_add_16 (by decide) (fun h_2 => ?_) (fun h_2 => ?_)
    · have hf := ip_ h_2 hf
      refine lv_aload_n hx hb dX3_add_39 rfl (lv_at hl 0 rfl) ?_
      refine va_get (D := G) (ci := 3) (v := .int (t_length s_0)) (C := RX3) (T := TX3) (N := 6) hx hb hts iw_X3_add_X3 hown hK hP 0 rfl rfl 4 (by decide) (hts (.fieldLink RX3 15 "PaneFrost$Text" "length" "I") (by decide +kernel)) (fun _ h9 => h9) rfl dX3_add_40 ?_
      obtain rfl := Option.some.inj hf
      exact kr_i hx hb hr hlocks rfl hP hK hD hN hS hS.2.2 dX3_add_43
    · have hf := in_ h_2 hf
      refine lv_aload_n hx hb dX3_add_19 rfl (lv_at hl 0 rfl) ?_
      refine va_get (D := G) (ci := 3) (v := .ref a_signs) (C := RX3) (T := TX3) (N := 6) hx hb hts iw_X3_add_X3 hown hK hP 0 rfl rfl 3 (by decide) (hts (.fieldLink RX3 9 "PaneFrost$Text" "signs" "[C") (by decide +kernel)) (fun _ h9 => h9) rfl dX3_add_20 ?_
      refine lv_aload_n hx hb dX3_add_23 rfl (lv_at hl 0 rfl) ?_
      refine va_get (D := G) (ci := 3) (v := .int (t_length s_0)) (C := RX3) (T := TX3) (N := 6) hx hb hts iw_X3_add_X3 hown hK hP 0 rfl rfl 4 (by decide) (hts (.fieldLink RX3 15 "PaneFrost$Text" "length" "I") (by decide +kernel)) (fun _ h9 => h9) rfl dX3_add_24 ?_
      refine lv_iload_n hx hb dX3_add_27 rfl (lv_at hl 1 rfl) ?_
      by_cases q_3 : (t_length s_0) < 0 ∨ 120 ≤ (t_length s_0).toNatClampNeg
      · have hf := ip_ q_3 hf; cases hf
      have hf := in_ q_3 hf
      refine vz_cast rfl hx hb hK hP hD hS 1 0 rfl rfl (vin q_3) dX3_add_28 (fun H locs hP hD hS => ?_)
      have hP : va_P G vwCl [(a_0, tv a_signs s_0), (a_signs, av_C cy 120 (upd g_signs (t_length s_0).toNatClampNeg (vp_nar .char x1)))] H := hP
      have hD : va_D A [(a_0, tv a_signs s_0), (a_signs, av_C cy 120 (upd g_signs (t_length s_0).toNatClampNeg (vp_nar .char x1)))] := hD
      refine lv_aload_n hx hb dX3_add_29 rfl (lv_at hl 0 rfl) ?_
      refine lv_dup hx hb dX3_add_30 rfl ?_
      refine va_get (D := G) (ci := 3) (v := .int (t_length s_0)) (C := RX3) (T := TX3) (N := 6) hx hb hts iw_X3_add_X3 hown hK hP 0 rfl rfl 4 (by decide) (hts (.fieldLink RX3 15 "PaneFrost$Text" "length" "I") (by decide +kernel)) (fun _ h9 => h9) rfl dX3_add_31 ?_
      refine lv_iconst (v := 1) hx hb dX3_add_34 (by decide) ?_
      refine lv_iadd hx hb dX3_add_35 ?_
      refine va_put (D := G) (ci := 3) (v := .int ((t_length s_0) + 1)) (ty := .int) (C := RX3) (T := TX3) (N := 6) hx hb hts iw_X3_add_X3 tyX3 tyX3_ok nmX3 hown hK hP hD hS 0 rfl rfl 4 (by decide) (hts (.fieldLink RX3 15 "PaneFrost$Text" "length" "I") (by decide +kernel)) (fun _ h9 => h9) rfl (by decide +kernel) rfl rfl (Nat.le_of_ble_eq_true rfl) dX3_add_36 (fun H locs hP hD hS => ?_)
      have hP : va_P G vwCl [(a_0, tv a_signs (t_letter s_0, t_first s_0, t_second s_0, ((t_length s_0) + 1), t_place s_0)), (a_signs, av_C cy 120 (upd g_signs (t_length s_0).toNatClampNeg (vp_nar .char x1)))] H := hP
      have hD : va_D A [(a_0, tv a_signs (t_letter s_0, t_first s_0, t_second s_0, ((t_length s_0) + 1), t_place s_0)), (a_signs, av_C cy 120 (upd g_signs (t_length s_0).toNatClampNeg (vp_nar .char x1)))] := hD
      refine lv_aload_n hx hb dX3_add_39 rfl (lv_at hl 0 rfl) ?_
      refine va_get (D := G) (ci := 3) (v := .int ((t_length s_0) + 1)) (C := RX3) (T := TX3) (N := 6) hx hb hts iw_X3_add_X3 hown hK hP 0 rfl rfl 4 (by decide) (hts (.fieldLink RX3 15 "PaneFrost$Text" "length" "I") (by decide +kernel)) (fun _ h9 => h9) rfl dX3_add_40 ?_
      obtain rfl := Option.some.inj hf
      exact kr_i hx hb hr hlocks rfl hP hK hD hN hS hS.2.2 dX3_add_43
set_option maxHeartbeats 4000000 in
set_option maxRecDepth 100000 in
theorem c_X3_sign {l : Launch} (G : va_G) (cy : Nat → ClassId) (a_0 : Nat) (a_signs : Nat) (sz : Nat) (s_0 : TT) (g_signs : Nat → Int32)  (R : Int32) (hf : f_X3_sign s_0 g_signs = some R) : Met l yX3_sign wsX3_sign ({ frames := 0, cells := 0, slots := 0, locals := 0 } : Room) (va_Pc [.ref a_0] (pcW G cy [(a_0, tv a_signs s_0), (a_signs, av_C cy 120 g_signs)] sz)) (va_Qi (fun r (_ : Unit) => r = R) (fun _ t => Wd G cy (va_A [(a_0, tv a_signs s_0), (a_signs, av_C cy 120 g_signs)] sz) [(a_0, tv a_signs s_0), (a_signs, av_C cy 120 g_signs)] t) (va_A [(a_0, tv a_signs s_0), (a_signs, av_C cy 120 g_signs)] sz)) 0 0 (va_A [(a_0, tv a_signs s_0), (a_signs, av_C cy 120 g_signs)] sz) := by
  refine Met.ofW (cc := cX3_sign) (maxL := 1) (ret := (some .int)) (by decide) rfl ?_
  intro p e s m args below meth c s₁ B hml hv
  obtain ⟨rfl, hsz, hP, hK, hD0, hN⟩ := hv
  have hx := B.exec
  have hb := B.bytes
  have hr := B.returns
  have hts := atoms_spec (ws := wsX3_sign) B.pre
  have hown : s.vm.findClass RX3 = some m.cls := findClass_of_methodNamed B.named
  have hlocks := B.notSynchronized
  subst hsz
  have hD := hD0.self (sz := s.heap.size)
  generalize hAe : va_A [(a_0, tv a_signs s_0), (a_signs, av_C cy 120 g_signs)] s.heap.size = A at hD ⊢
  have hA : ∀ q : Nat, s.heap.size ≤ q → A q := fun q h => by rw [← hAe]; exact Or.inr h
  have hS : va_S A s.heap s.heap [] := va_S.rf
  have hP : va_P G vwCl [(a_0, tv a_signs s_0), (a_signs, av_C cy 120 g_signs)] s.heap := hP
  have hl := lv_entry [.ref a_0] (n := 1) (Nat.le_of_ble_eq_true rfl)
  rw [lg_entry_eq]
  generalize (lg_sl [.ref a_0] ++ List.replicate (1 - (lg_sl [.ref a_0]).length) Slot.unset).toArray = ls at hl ⊢
  have hl : lv_has ls 1 [(0, .ref a_0)] := hl
  unfold f_X3_sign at hf
  refine lv_aload_n hx hb dX3_sign_0 rfl (lv_at hl 0 rfl) ?_
  refine va_get (D := G) (ci := 3) (v := .int (t_place s_0)) (C := RX3) (T := TX3) (N := 6) hx hb hts iw_X3_sign_X3 hown hK hP 0 rfl rfl 5 (by decide) (hts (.fieldLink RX3 23 "PaneFrost$Text" "place" "I") (by decide +kernel)) (fun _ h9 => h9) rfl dX3_sign_1 ?_
  refine lv_if_lt (tgt := 42) hx hb dX3_sign_4 (by decide) (fun h_1 => ?_) (fun h_1 => ?_)
  · have hf := ip_ h_1 hf
    refine lv_iconst (v := (-1)) hx hb dX3_sign_42 (by decide) ?_
    obtain rfl := Option.some.inj hf
    exact kr_i hx hb hr hlocks rfl hP hK hD hN hS hS.2.2 dX3_sign_43
  · have hf := in_ h_1 hf
    refine lv_aload_n hx hb dX3_sign_7 rfl (lv_at hl 0 rfl) ?_
    refine va_get (D := G) (ci := 3) (v := .int (t_place s_0)) (C := RX3) (T := TX3) (N := 6) hx hb hts iw_X3_sign_X3 hown hK hP 0 rfl rfl 5 (by decide) (hts (.fieldLink RX3 23 "PaneFrost$Text" "place" "I") (by decide +kernel)) (fun _ h9 => h9) rfl dX3_sign_8 ?_
    refine lv_aload_n hx hb dX3_sign_11 rfl (lv_at hl 0 rfl) ?_
    refine va_get (D := G) (ci := 3) (v := .int (t_length s_0)) (C := RX3) (T := TX3) (N := 6) hx hb hts iw_X3_sign_X3 hown hK hP 0 rfl rfl 4 (by decide) (hts (.fieldLink RX3 15 "PaneFrost$Text" "length" "I") (by decide +kernel)) (fun _ h9 => h9) rfl dX3_sign_12 ?_
    refine lv_icmp_ge (tgt := 42) hx hb dX3_sign_15 (by decide) (fun h_2 => ?_) (fun h_2 => ?_)
    · have hf := ip_ h_2 hf
      refine lv_iconst (v := (-1)) hx hb dX3_sign_42 (by decide) ?_
      obtain rfl := Option.some.inj hf
      exact kr_i hx hb hr hlocks rfl hP hK hD hN hS hS.2.2 dX3_sign_43
    · have hf := in_ h_2 hf
      refine lv_aload_n hx hb dX3_sign_18 rfl (lv_at hl 0 rfl) ?_
      refine va_get (D := G) (ci := 3) (v := .int (t_place s_0)) (C := RX3) (T := TX3) (N := 6) hx hb hts iw_X3_sign_X3 hown hK hP 0 rfl rfl 5 (by decide) (hts (.fieldLink RX3 23 "PaneFrost$Text" "place" "I") (by decide +kernel)) (fun _ h9 => h9) rfl dX3_sign_19 ?_
      refine lv_aload_n hx hb dX3_sign_22 rfl (lv_at hl 0 rfl) ?_
      refine va_get (D := G) (ci := 3) (v := .ref a_signs) (C := RX3) (T := TX3) (N := 6) hx hb hts iw_X3_sign_X3 hown hK hP 0 rfl rfl 3 (by decide) (hts (.fieldLink RX3 9 "PaneFrost$Text" "signs" "[C") (by decide +kernel)) (fun _ h9 => h9) rfl dX3_sign_23 ?_
      refine va_alen (v := 120) hx hb hK hP 1 0 rfl rfl rfl dX3_sign_26 ?_
      refine lv_icmp_ge (tgt := 42) hx hb dX3_sign_27 (by decide) (fun h_3 => ?_) (fun h_3 => ?_)
      · have hf := ip_ h_3 hf
        refine lv_iconst (v := (-1)) hx hb dX3_sign_42 (by decide) ?_
        obtain rfl := Option.some.inj hf
        exact kr_i hx hb hr hlocks rfl hP hK hD hN hS hS.2.2 dX3_sign_43
      · have hf := in_ h_3 hf
        refine lv_aload_n hx hb dX3_sign_30 rfl (lv_at hl 0 rfl) ?_
        refine va_get (D := G) (ci := 3) (v := .ref a_signs) (C := RX3) (T := TX3) (N := 6) hx hb hts iw_X3_sign_X3 hown hK hP 0 rfl rfl 3 (by decide) (hts (.fieldLink RX3 9 "PaneFrost$Text" "signs" "[C") (by decide +kernel)) (fun _ h9 => h9) rfl dX3_sign_31 ?_
        refine lv_aload_n hx hb dX3_sign_34 rfl (lv_at hl 0 rfl) ?_
        refine va_get (D := G) (ci := 3) (v := .int (t_place s_0)) (C := RX3) (T := TX3) (N := 6) hx hb hts iw_X3_sign_X3 hown hK hP 0 rfl rfl 5 (by decide) (hts (.fieldLink RX3 23 "PaneFrost$Text" "place" "I") (by decide +kernel)) (fun _ h9 => h9) rfl dX3_sign_35 ?_
        by_cases q_4 : (t_place s_0) < 0 ∨ 120 ≤ (t_place s_0).toNatClampNeg
        · have hf := ip_ q_4 hf; cases hf
        have hf := in_ q_4 hf
        refine vz_cald rfl hx hb hK hP 1 0 rfl rfl (vin q_4) dX3_sign_38 ?_
        refine lv_goto (tgt := 43) hx hb dX3_sign_39 (by decide) ?_
        obtain rfl := Option.some.inj hf
        exact kr_i hx hb hr hlocks rfl hP hK hD hN hS hS.2.2 dX3_sign_43
set_option maxHeartbeats 4000000 in
set_option maxRecDepth 100000 in
theorem c_X3_readNumber {l : Launch} (G : va_G) (cy : Nat → ClassId) (a_0 : Nat) (a_signs : Nat) (sz : Nat) (s_0 : TT) (g_signs : Nat → Int32) (x1 : Int32) (x2 : Int32) (x3 : Int32) (n : Nat) (R : Int32 × TT) (hf : f_X3_readNumber n s_0 g_signs x1 x2 x3 = some R) : Met l yX3_readNumber wsX3_readNumber ({ frames := 1, cells := 0, slots := 0, locals := 20 } : Room) (va_Pc [.ref a_0, .int x1, .int x2, .int x3] (pcW G cy [(a_0, tv a_signs s_0), (a_signs, av_C cy 120 g_signs)] sz)) (va_Qi (fun r (_ : Unit) => r = R.1) (fun _ t => Wd G cy (va_A [(a_0, tv a_signs s_0), (a_signs, av_C cy 120 g_signs)] sz) [(a_0, tv a_signs R.2), (a_signs, av_C cy 120 g_signs)] t) (va_A [(a_0, tv a_signs s_0), (a_signs, av_C cy 120 g_signs)] sz)) 0 0 (va_A [(a_0, tv a_signs s_0), (a_signs, av_C cy 120 g_signs)] sz) := by
  refine Met.ofW (cc := cX3_readNumber) (maxL := 8) (ret := (some .int)) (by decide) rfl ?_
  intro p e s m args below meth c s₁ B hml hv
  obtain ⟨rfl, hsz, hP, hK, hD0, hN⟩ := hv
  have hx := B.exec
  have hb := B.bytes
  have hr := B.returns
  have hts := atoms_spec (ws := wsX3_readNumber) B.pre
  have hown : s.vm.findClass RX3 = some m.cls := findClass_of_methodNamed B.named
  have hlocks := B.notSynchronized
  subst hsz
  have hD := hD0.self (sz := s.heap.size)
  generalize hAe : va_A [(a_0, tv a_signs s_0), (a_signs, av_C cy 120 g_signs)] s.heap.size = A at hD ⊢
  have hA : ∀ q : Nat, s.heap.size ≤ q → A q := fun q h => by rw [← hAe]; exact Or.inr h
  have hS : va_S A s.heap s.heap [] := va_S.rf
  have hP : va_P G vwCl [(a_0, tv a_signs s_0), (a_signs, av_C cy 120 g_signs)] s.heap := hP
  have bl_20 : ∀ (y1 : Int32), ∀ (y2 : Int32), ∀ (y3 : Int32), ∀ (k : Nat), ∀ (c_s_0 : TT) (y4 : Int32) (y5 : Int32) (y6 : Int32) (H : Heap) (locs : List Loc), f_X3_readNumber_b20 n g_signs y1 y2 y3 k c_s_0 y4 y5 y6 = some R → va_P G vwCl [(a_0, tv a_signs c_s_0), (a_signs, av_C cy 120 g_signs)] H → va_D A [(a_0, tv a_signs c_s_0), (a_signs, av_C cy 120 g_signs)] → va_S A s.heap H locs → ∀ (ls : Array Slot), lv_has ls 8 [(0, .ref a_0), (1, .int y1), (2, .int y2), (3, .int y3), (4, .int y4), (5, .int y5), (6, .int y6)] → W p l e ({ frames := 1, cells := 0, slots := 0, locals := 20 } : Room) s m [.ref a_0, .int x1, .int x2, .int x3].toArray below meth c H locs 0 0 (MQ below (va_Qi (fun r (_ : Unit) => r = R.1) (fun _ t => Wd G cy A [(a_0, tv a_signs R.2), (a_signs, av_C cy 120 g_signs)] t) A) [.ref a_0, .int x1, .int x2, .int x3].toArray s 0 0 A) (F0 m 20 ls []) := by
    intro y1
    intro y2
    intro y3
    intro k
    induction k with
    | zero =>
      intro c_s_0 y4 y5 y6 H locs hf; cases hf
    | succ k ih =>
      intro c_s_0 y4 y5 y6 H locs hf hP hD hS ls hl
      have hf := (f_X3_readNumber_b20_s n g_signs y1 y2 y3 k c_s_0 y4 y5 y6).symm.trans hf
      refine lv_iload hx hb dX3_readNumber_20 (lv_at hl 6 rfl) ?_
      refine lv_iload_n hx hb dX3_readNumber_22 rfl (lv_at hl 1 rfl) ?_
      refine lv_icmp_ge (tgt := 103) hx hb dX3_readNumber_23 (by decide) (fun h_1 => ?_) (fun h_1 => ?_)
      · have hf := ip_ h_1 hf
        refine lv_iload hx hb dX3_readNumber_103 (lv_at hl 4 rfl) ?_
        obtain rfl := Option.some.inj hf
        exact kr_i hx hb hr hlocks rfl hP hK hD hN hS hS.2.2 dX3_readNumber_105
      · have hf := in_ h_1 hf
        refine lv_aload_n hx hb dX3_readNumber_26 rfl (lv_at hl 0 rfl) ?_
        obtain ⟨r_2, hh_r_2, hf⟩ := obd_some hf
        refine kc_i (w1 := [(a_0, tv a_signs c_s_0), (a_signs, av_C cy 120 g_signs)]) (wr := []) hP hD hS hA [0, 1] [] rfl rfl rfl (by decide) (va_runV (As := []) (rest := []) ⟨hx, hb, hml, hown, hts⟩ (c_X3_sign (l := l) G cy a_0 a_signs H.size c_s_0 g_signs  r_2 hh_r_2) (cwV 0 hts gX3_readNumber_X3_sign rfl rfl rfl ddV_X3_sign ⟨Nat.le_of_ble_eq_true rfl, Nat.le_of_ble_eq_true rfl⟩) (preV_ (ci := 3) (q0 := 0) rfl rfl hP hK hD hN) rfl rfl hl.1 rfl (lv_room (Nat.le_of_ble_eq_true rfl)) dX3_readNumber_27 ⟨Nat.le_of_ble_eq_true rfl, Nat.le_of_ble_eq_true rfl⟩) (fun H locs hP hD hS => ?_)
        have hP : va_P G vwCl [(a_0, tv a_signs c_s_0), (a_signs, av_C cy 120 g_signs)] H := hP
        have hD : va_D A [(a_0, tv a_signs c_s_0), (a_signs, av_C cy 120 g_signs)] := hD
        refine lv_istore (lv' := [(7, .int r_2), (0, .ref a_0), (1, .int y1), (2, .int y2), (3, .int y3), (4, .int y4), (5, .int y5), (6, .int y6)]) hx hb dX3_readNumber_30 hl (by decide) rfl (fun ls hl => ?_)
        refine lv_iload hx hb dX3_readNumber_32 (lv_at hl 0 rfl) ?_
        refine lv_bipush (v := 48) hx hb dX3_readNumber_34 (by decide) ?_
        refine lv_icmp_lt (tgt := 46) hx hb dX3_readNumber_36 (by decide) (fun h_3 => ?_) (fun h_3 => ?_)
        · have hf := ip_ h_3 hf
          refine lv_iconst (v := (-1)) hx hb dX3_readNumber_46 (by decide) ?_
          obtain rfl := Option.some.inj hf
          exact kr_i hx hb hr hlocks rfl hP hK hD hN hS hS.2.2 dX3_readNumber_47
        · have hf := in_ h_3 hf
          refine lv_iload hx hb dX3_readNumber_39 (lv_at hl 0 rfl) ?_
          refine lv_bipush (v := 57) hx hb dX3_readNumber_41 (by decide) ?_
          refine lv_icmp_le (tgt := 48) hx hb dX3_readNumber_43 (by decide) (fun h_4 => ?_) (fun h_4 => ?_)
          · have hf := ip_ h_4 hf
            refine lv_iload hx hb dX3_readNumber_48 (lv_at hl 6 rfl) ?_
            refine lv_bipush (v := 10) hx hb dX3_readNumber_50 (by decide) ?_
            refine lv_idiv hx hb dX3_readNumber_52 (by decide) ?_
            refine lv_istore (lv' := [(5, .int (y5 / 10)), (7, .int r_2), (0, .ref a_0), (1, .int y1), (2, .int y2), (3, .int y3), (4, .int y4), (6, .int y6)]) hx hb dX3_readNumber_53 hl (by decide) rfl (fun ls hl => ?_)
            refine lv_iload hx hb dX3_readNumber_55 (lv_at hl 6 rfl) ?_
            refine lv_iload hx hb dX3_readNumber_57 (lv_at hl 1 rfl) ?_
            refine lv_bipush (v := 48) hx hb dX3_readNumber_59 (by decide) ?_
            refine lv_isub hx hb dX3_readNumber_61 ?_
            refine lv_iload hx hb dX3_readNumber_62 (lv_at hl 0 rfl) ?_
            refine lv_imul hx hb dX3_readNumber_64 ?_
            refine lv_iadd hx hb dX3_readNumber_65 ?_
            refine lv_istore (lv' := [(4, .int (y4 + ((r_2 - 48) * (y5 / 10)))), (5, .int (y5 / 10)), (7, .int r_2), (0, .ref a_0), (1, .int y1), (2, .int y2), (3, .int y3), (6, .int y6)]) hx hb dX3_readNumber_66 hl (by decide) rfl (fun ls hl => ?_)
            refine lv_iload hx hb dX3_readNumber_68 (lv_at hl 0 rfl) ?_
            refine lv_iload_n hx hb dX3_readNumber_70 rfl (lv_at hl 6 rfl) ?_
            refine lv_icmp_gt (tgt := 85) hx hb dX3_readNumber_71 (by decide) (fun h_5 => ?_) (fun h_5 => ?_)
            · have hf := ip_ h_5 hf
              refine lv_iconst (v := (-1)) hx hb dX3_readNumber_85 (by decide) ?_
              obtain rfl := Option.some.inj hf
              exact kr_i hx hb hr hlocks rfl hP hK hD hN hS hS.2.2 dX3_readNumber_86
            · have hf := in_ h_5 hf
              refine lv_iload hx hb dX3_readNumber_74 (lv_at hl 0 rfl) ?_
              refine lv_iload hx hb dX3_readNumber_76 (lv_at hl 1 rfl) ?_
              refine lv_iadd hx hb dX3_readNumber_78 ?_
              refine lv_iconst (v := 1) hx hb dX3_readNumber_79 (by decide) ?_
              refine lv_isub hx hb dX3_readNumber_80 ?_
              refine lv_iload_n hx hb dX3_readNumber_81 rfl (lv_at hl 5 rfl) ?_
              refine lv_icmp_ge (tgt := 87) hx hb dX3_readNumber_82 (by decide) (fun h_6 => ?_) (fun h_6 => ?_)
              · have hf := ip_ h_6 hf
                refine lv_aload_n hx hb dX3_readNumber_87 rfl (lv_at hl 3 rfl) ?_
                refine lv_dup hx hb dX3_readNumber_88 rfl ?_
                refine va_get (D := G) (ci := 3) (v := .int (t_place c_s_0)) (C := RX3) (T := TX3) (N := 6) hx hb hts iw_X3_readNumber_X3 hown hK hP 0 rfl rfl 5 (by decide) (hts (.fieldLink RX3 23 "PaneFrost$Text" "place" "I") (by decide +kernel)) (fun _ h9 => h9) rfl dX3_readNumber_89 ?_
                refine lv_iconst (v := 1) hx hb dX3_readNumber_92 (by decide) ?_
                refine lv_iadd hx hb dX3_readNumber_93 ?_
                refine va_put (D := G) (ci := 3) (v := .int ((t_place c_s_0) + 1)) (ty := .int) (C := RX3) (T := TX3) (N := 6) hx hb hts iw_X3_readNumber_X3 tyX3 tyX3_ok nmX3 hown hK hP hD hS 0 rfl rfl 5 (by decide) (hts (.fieldLink RX3 23 "PaneFrost$Text" "place" "I") (by decide +kernel)) (fun _ h9 => h9) rfl (by decide +kernel) rfl rfl (Nat.le_of_ble_eq_true rfl) dX3_readNumber_94 (fun H locs hP hD hS => ?_)
                have hP : va_P G vwCl [(a_0, tv a_signs (t_letter c_s_0, t_first c_s_0, t_second c_s_0, t_length c_s_0, ((t_place c_s_0) + 1))), (a_signs, av_C cy 120 g_signs)] H := hP
                have hD : va_D A [(a_0, tv a_signs (t_letter c_s_0, t_first c_s_0, t_second c_s_0, t_length c_s_0, ((t_place c_s_0) + 1))), (a_signs, av_C cy 120 g_signs)] := hD
                refine lv_iinc (v := (y6 + 1)) (lv' := [(6, .int (y6 + 1)), (4, .int (y4 + ((r_2 - 48) * (y5 / 10)))), (5, .int (y5 / 10)), (7, .int r_2), (0, .ref a_0), (1, .int y1), (2, .int y2), (3, .int y3)]) hx hb dX3_readNumber_97 hl (k := 7) rfl rfl (by decide) rfl (fun ls hl => ?_)
                refine lv_goto (tgt := 20) hx hb dX3_readNumber_100 (by decide) ?_
                exact ih (t_letter c_s_0, t_first c_s_0, t_second c_s_0, t_length c_s_0, ((t_place c_s_0) + 1)) (y4 + ((r_2 - 48) * (y5 / 10))) (y5 / 10) (y6 + 1) _ _ hf hP hD hS ls (lv_sub hl [4, 5, 6, 7, 1, 2, 0] rfl)
              · have hf := in_ h_6 hf
                refine lv_iconst (v := (-1)) hx hb dX3_readNumber_85 (by decide) ?_
                obtain rfl := Option.some.inj hf
                exact kr_i hx hb hr hlocks rfl hP hK hD hN hS hS.2.2 dX3_readNumber_86
          · have hf := in_ h_4 hf
            refine lv_iconst (v := (-1)) hx hb dX3_readNumber_46 (by decide) ?_
            obtain rfl := Option.some.inj hf
            exact kr_i hx hb hr hlocks rfl hP hK hD hN hS hS.2.2 dX3_readNumber_47
  have hl := lv_entry [.ref a_0, .int x1, .int x2, .int x3] (n := 8) (Nat.le_of_ble_eq_true rfl)
  rw [lg_entry_eq]
  generalize (lg_sl [.ref a_0, .int x1, .int x2, .int x3] ++ List.replicate (8 - (lg_sl [.ref a_0, .int x1, .int x2, .int x3]).length) Slot.unset).toArray = ls at hl ⊢
  have hl : lv_has ls 8 [(0, .ref a_0), (1, .int x1), (2, .int x2), (3, .int x3)] := hl
  unfold f_X3_readNumber at hf
  refine lv_iconst (v := 0) hx hb dX3_readNumber_0 (by decide) ?_
  refine lv_istore (lv' := [(4, .int 0), (0, .ref a_0), (1, .int x1), (2, .int x2), (3, .int x3)]) hx hb dX3_readNumber_1 hl (by decide) rfl (fun ls hl => ?_)
  refine lv_iload_n hx hb dX3_readNumber_3 rfl (lv_at hl 2 rfl) ?_
  refine lv_iconst (v := 2) hx hb dX3_readNumber_4 (by decide) ?_
  refine lv_icmp_ne (tgt := 13) hx hb dX3_readNumber_5 (by decide) (fun h_7 => ?_) (fun h_7 => ?_)
  · have hf := in_ h_7 hf
    refine lv_bipush (v := 10) hx hb dX3_readNumber_13 (by decide) ?_
    refine lv_istore (lv' := [(5, .int 10), (4, .int 0), (0, .ref a_0), (1, .int x1), (2, .int x2), (3, .int x3)]) hx hb dX3_readNumber_15 hl (by decide) rfl (fun ls hl => ?_)
    refine lv_iconst (v := 0) hx hb dX3_readNumber_17 (by decide) ?_
    refine lv_istore (lv' := [(6, .int 0), (5, .int 10), (4, .int 0), (0, .ref a_0), (1, .int x1), (2, .int x2), (3, .int x3)]) hx hb dX3_readNumber_18 hl (by decide) rfl (fun ls hl => ?_)
    exact bl_20 x1 x2 x3 n s_0 0 10 0 _ _ hf hP hD hS ls (lv_sub hl [3, 4, 5, 6, 2, 1, 0] rfl)
  · have hf := ip_ h_7 hf
    refine lv_bipush (v := 100) hx hb dX3_readNumber_8 (by decide) ?_
    refine lv_goto (tgt := 15) hx hb dX3_readNumber_10 (by decide) ?_
    refine lv_istore (lv' := [(5, .int 100), (4, .int 0), (0, .ref a_0), (1, .int x1), (2, .int x2), (3, .int x3)]) hx hb dX3_readNumber_15 hl (by decide) rfl (fun ls hl => ?_)
    refine lv_iconst (v := 0) hx hb dX3_readNumber_17 (by decide) ?_
    refine lv_istore (lv' := [(6, .int 0), (5, .int 100), (4, .int 0), (0, .ref a_0), (1, .int x1), (2, .int x2), (3, .int x3)]) hx hb dX3_readNumber_18 hl (by decide) rfl (fun ls hl => ?_)
    exact bl_20 x1 x2 x3 n s_0 0 100 0 _ _ hf hP hD hS ls (lv_sub hl [3, 4, 5, 6, 2, 1, 0] rfl)
set_option maxHeartbeats 4000000 in
set_option maxRecDepth 100000 in
theorem c_X3_readFirst {l : Launch} (G : va_G) (cy : Nat → ClassId) (a_0 : Nat) (a_signs : Nat) (sz : Nat) (s_0 : TT) (g_signs : Nat → Int32) (x1 : Int32) (x2 : Int32) (x3 : Int32) (n : Nat) (R : Bool × TT) (hf : f_X3_readFirst n s_0 g_signs x1 x2 x3 = some R) : Met l yX3_readFirst wsX3_readFirst ({ frames := 2, cells := 0, slots := 0, locals := 47 } : Room) (va_Pc [.ref a_0, .int x1, .int x2, .int x3] (pcW G cy [(a_0, tv a_signs s_0), (a_signs, av_C cy 120 g_signs)] sz)) (va_Qi (fun r (_ : Unit) => r = bI R.1) (fun _ t => Wd G cy (va_A [(a_0, tv a_signs s_0), (a_signs, av_C cy 120 g_signs)] sz) [(a_0, tv a_signs R.2), (a_signs, av_C cy 120 g_signs)] t) (va_A [(a_0, tv a_signs s_0), (a_signs, av_C cy 120 g_signs)] sz)) 0 0 (va_A [(a_0, tv a_signs s_0), (a_signs, av_C cy 120 g_signs)] sz) := by
  refine Met.ofW (cc := cX3_readFirst) (maxL := 4) (ret := (some .boolean)) (by decide) rfl ?_
  intro p e s m args below meth c s₁ B hml hv
  obtain ⟨rfl, hsz, hP, hK, hD0, hN⟩ := hv
  have hx := B.exec
  have hb := B.bytes
  have hr := B.returns
  have hts := atoms_spec (ws := wsX3_readFirst) B.pre
  have hown : s.vm.findClass RX3 = some m.cls := findClass_of_methodNamed B.named
  have hlocks := B.notSynchronized
  subst hsz
  have hD := hD0.self (sz := s.heap.size)
  generalize hAe : va_A [(a_0, tv a_signs s_0), (a_signs, av_C cy 120 g_signs)] s.heap.size = A at hD ⊢
  have hA : ∀ q : Nat, s.heap.size ≤ q → A q := fun q h => by rw [← hAe]; exact Or.inr h
  have hS : va_S A s.heap s.heap [] := va_S.rf
  have hP : va_P G vwCl [(a_0, tv a_signs s_0), (a_signs, av_C cy 120 g_signs)] s.heap := hP
  have hl := lv_entry [.ref a_0, .int x1, .int x2, .int x3] (n := 4) (Nat.le_of_ble_eq_true rfl)
  rw [lg_entry_eq]
  generalize (lg_sl [.ref a_0, .int x1, .int x2, .int x3] ++ List.replicate (4 - (lg_sl [.ref a_0, .int x1, .int x2, .int x3]).length) Slot.unset).toArray = ls at hl ⊢
  have hl : lv_has ls 4 [(0, .ref a_0), (1, .int x1), (2, .int x2), (3, .int x3)] := hl
  unfold f_X3_readFirst at hf
  refine lv_aload_n hx hb dX3_readFirst_0 rfl (lv_at hl 0 rfl) ?_
  refine lv_aload_n hx hb dX3_readFirst_1 rfl (lv_at hl 0 rfl) ?_
  refine lv_iload_n hx hb dX3_readFirst_2 rfl (lv_at hl 1 rfl) ?_
  refine lv_iload_n hx hb dX3_readFirst_3 rfl (lv_at hl 2 rfl) ?_
  refine lv_iload_n hx hb dX3_readFirst_4 rfl (lv_at hl 3 rfl) ?_
  obtain ⟨r_1, hh_r_1, hf⟩ := obd_some hf
  refine kc_i (w1 := [(a_0, tv a_signs r_1.2), (a_signs, av_C cy 120 g_signs)]) (wr := []) hP hD hS hA [0, 1] [] rfl rfl rfl (by decide) (va_runV (As := [.int x1, .int x2, .int x3]) (rest := [.ref a_0]) ⟨hx, hb, hml, hown, hts⟩ (c_X3_readNumber (l := l) G cy a_0 a_signs s.heap.size s_0 g_signs x1 x2 x3 n r_1 hh_r_1) (cwV 3 hts gX3_readFirst_X3_readNumber rfl rfl rfl ddV_X3_readNumber ⟨Nat.le_of_ble_eq_true rfl, Nat.le_of_ble_eq_true rfl⟩) (preV_ (ci := 3) (q0 := 0) rfl rfl hP hK hD hN) rfl rfl hl.1 rfl (lv_room (Nat.le_of_ble_eq_true rfl)) dX3_readFirst_5 ⟨Nat.le_of_ble_eq_true rfl, Nat.le_of_ble_eq_true rfl⟩) (fun H locs hP hD hS => ?_)
  have hP : va_P G vwCl [(a_0, tv a_signs r_1.2), (a_signs, av_C cy 120 g_signs)] H := hP
  have hD : va_D A [(a_0, tv a_signs r_1.2), (a_signs, av_C cy 120 g_signs)] := hD
  refine va_put (D := G) (ci := 3) (v := .int r_1.1) (ty := .int) (C := RX3) (T := TX3) (N := 6) hx hb hts iw_X3_readFirst_X3 tyX3 tyX3_ok nmX3 hown hK hP hD hS 0 rfl rfl 1 (by decide) (hts (.fieldLink RX3 55 "PaneFrost$Text" "first" "I") (by decide +kernel)) (fun _ h9 => h9) rfl (by decide +kernel) rfl rfl (Nat.le_of_ble_eq_true rfl) dX3_readFirst_8 (fun H locs hP hD hS => ?_)
  have hP : va_P G vwCl [(a_0, tv a_signs (t_letter r_1.2, r_1.1, t_second r_1.2, t_length r_1.2, t_place r_1.2)), (a_signs, av_C cy 120 g_signs)] H := hP
  have hD : va_D A [(a_0, tv a_signs (t_letter r_1.2, r_1.1, t_second r_1.2, t_length r_1.2, t_place r_1.2)), (a_signs, av_C cy 120 g_signs)] := hD
  refine lv_aload_n hx hb dX3_readFirst_11 rfl (lv_at hl 0 rfl) ?_
  refine va_get (D := G) (ci := 3) (v := .int r_1.1) (C := RX3) (T := TX3) (N := 6) hx hb hts iw_X3_readFirst_X3 hown hK hP 0 rfl rfl 1 (by decide) (hts (.fieldLink RX3 55 "PaneFrost$Text" "first" "I") (by decide +kernel)) (fun _ h9 => h9) rfl dX3_readFirst_12 ?_
  refine lv_iconst (v := (-1)) hx hb dX3_readFirst_15 (by decide) ?_
  refine lv_icmp_eq (tgt := 23) hx hb dX3_readFirst_16 (by decide) (fun h_2 => ?_) (fun h_2 => ?_)
  · have hf := ip_ h_2 hf
    refine lv_iconst (v := 0) hx hb dX3_readFirst_23 (by decide) ?_
    obtain rfl := Option.some.inj hf
    exact kr_z (V := bI false) hx hb hr hlocks (bI_nar _) rfl hP hK hD hN hS hS.2.2 dX3_readFirst_24
  · have hf := in_ h_2 hf
    refine lv_iconst (v := 1) hx hb dX3_readFirst_19 (by decide) ?_
    refine lv_goto (tgt := 24) hx hb dX3_readFirst_20 (by decide) ?_
    obtain rfl := Option.some.inj hf
    exact kr_z (V := bI true) hx hb hr hlocks (bI_nar _) rfl hP hK hD hN hS hS.2.2 dX3_readFirst_24
set_option maxHeartbeats 4000000 in
set_option maxRecDepth 100000 in
theorem c_X3_readSecond {l : Launch} (G : va_G) (cy : Nat → ClassId) (a_0 : Nat) (a_signs : Nat) (sz : Nat) (s_0 : TT) (g_signs : Nat → Int32) (x1 : Int32) (x2 : Int32) (n : Nat) (R : Bool × TT) (hf : f_X3_readSecond n s_0 g_signs x1 x2 = some R) : Met l yX3_readSecond wsX3_readSecond ({ frames := 2, cells := 0, slots := 0, locals := 47 } : Room) (va_Pc [.ref a_0, .int x1, .int x2] (pcW G cy [(a_0, tv a_signs s_0), (a_signs, av_C cy 120 g_signs)] sz)) (va_Qi (fun r (_ : Unit) => r = bI R.1) (fun _ t => Wd G cy (va_A [(a_0, tv a_signs s_0), (a_signs, av_C cy 120 g_signs)] sz) [(a_0, tv a_signs R.2), (a_signs, av_C cy 120 g_signs)] t) (va_A [(a_0, tv a_signs s_0), (a_signs, av_C cy 120 g_signs)] sz)) 0 0 (va_A [(a_0, tv a_signs s_0), (a_signs, av_C cy 120 g_signs)] sz) := by
  refine Met.ofW (cc := cX3_readSecond) (maxL := 3) (ret := (some .boolean)) (by decide) rfl ?_
  intro p e s m args below meth c s₁ B hml hv
  obtain ⟨rfl, hsz, hP, hK, hD0, hN⟩ := hv
  have hx := B.exec
  have hb := B.bytes
  have hr := B.returns
  have hts := atoms_spec (ws := wsX3_readSecond) B.pre
  have hown : s.vm.findClass RX3 = some m.cls := findClass_of_methodNamed B.named
  have hlocks := B.notSynchronized
  subst hsz
  have hD := hD0.self (sz := s.heap.size)
  generalize hAe : va_A [(a_0, tv a_signs s_0), (a_signs, av_C cy 120 g_signs)] s.heap.size = A at hD ⊢
  have hA : ∀ q : Nat, s.heap.size ≤ q → A q := fun q h => by rw [← hAe]; exact Or.inr h
  have hS : va_S A s.heap s.heap [] := va_S.rf
  have hP : va_P G vwCl [(a_0, tv a_signs s_0), (a_signs, av_C cy 120 g_signs)] s.heap := hP
  have hl := lv_entry [.ref a_0, .int x1, .int x2] (n := 3) (Nat.le_of_ble_eq_true rfl)
  rw [lg_entry_eq]
  generalize (lg_sl [.ref a_0, .int x1, .int x2] ++ List.replicate (3 - (lg_sl [.ref a_0, .int x1, .int x2]).length) Slot.unset).toArray = ls at hl ⊢
  have hl : lv_has ls 3 [(0, .ref a_0), (1, .int x1), (2, .int x2)] := hl
  unfold f_X3_readSecond at hf
  refine lv_aload_n hx hb dX3_readSecond_0 rfl (lv_at hl 0 rfl) ?_
  refine lv_aload_n hx hb dX3_readSecond_1 rfl (lv_at hl 0 rfl) ?_
  refine lv_iconst (v := 1) hx hb dX3_readSecond_2 (by decide) ?_
  refine lv_iload_n hx hb dX3_readSecond_3 rfl (lv_at hl 1 rfl) ?_
  refine lv_iload_n hx hb dX3_readSecond_4 rfl (lv_at hl 2 rfl) ?_
  obtain ⟨r_1, hh_r_1, hf⟩ := obd_some hf
  refine kc_i (w1 := [(a_0, tv a_signs r_1.2), (a_signs, av_C cy 120 g_signs)]) (wr := []) hP hD hS hA [0, 1] [] rfl rfl rfl (by decide) (va_runV (As := [.int 1, .int x1, .int x2]) (rest := [.ref a_0]) ⟨hx, hb, hml, hown, hts⟩ (c_X3_readNumber (l := l) G cy a_0 a_signs s.heap.size s_0 g_signs 1 x1 x2 n r_1 hh_r_1) (cwV 3 hts gX3_readSecond_X3_readNumber rfl rfl rfl ddV_X3_readNumber ⟨Nat.le_of_ble_eq_true rfl, Nat.le_of_ble_eq_true rfl⟩) (preV_ (ci := 3) (q0 := 0) rfl rfl hP hK hD hN) rfl rfl hl.1 rfl (lv_room (Nat.le_of_ble_eq_true rfl)) dX3_readSecond_5 ⟨Nat.le_of_ble_eq_true rfl, Nat.le_of_ble_eq_true rfl⟩) (fun H locs hP hD hS => ?_)
  have hP : va_P G vwCl [(a_0, tv a_signs r_1.2), (a_signs, av_C cy 120 g_signs)] H := hP
  have hD : va_D A [(a_0, tv a_signs r_1.2), (a_signs, av_C cy 120 g_signs)] := hD
  refine va_put (D := G) (ci := 3) (v := .int r_1.1) (ty := .int) (C := RX3) (T := TX3) (N := 6) hx hb hts iw_X3_readSecond_X3 tyX3 tyX3_ok nmX3 hown hK hP hD hS 0 rfl rfl 2 (by decide) (hts (.fieldLink RX3 45 "PaneFrost$Text" "second" "I") (by decide +kernel)) (fun _ h9 => h9) rfl (by decide +kernel) rfl rfl (Nat.le_of_ble_eq_true rfl) dX3_readSecond_8 (fun H locs hP hD hS => ?_)
  have hP : va_P G vwCl [(a_0, tv a_signs (t_letter r_1.2, t_first r_1.2, r_1.1, t_length r_1.2, t_place r_1.2)), (a_signs, av_C cy 120 g_signs)] H := hP
  have hD : va_D A [(a_0, tv a_signs (t_letter r_1.2, t_first r_1.2, r_1.1, t_length r_1.2, t_place r_1.2)), (a_signs, av_C cy 120 g_signs)] := hD
  refine lv_aload_n hx hb dX3_readSecond_11 rfl (lv_at hl 0 rfl) ?_
  refine va_get (D := G) (ci := 3) (v := .int r_1.1) (C := RX3) (T := TX3) (N := 6) hx hb hts iw_X3_readSecond_X3 hown hK hP 0 rfl rfl 2 (by decide) (hts (.fieldLink RX3 45 "PaneFrost$Text" "second" "I") (by decide +kernel)) (fun _ h9 => h9) rfl dX3_readSecond_12 ?_
  refine lv_iconst (v := (-1)) hx hb dX3_readSecond_15 (by decide) ?_
  refine lv_icmp_eq (tgt := 23) hx hb dX3_readSecond_16 (by decide) (fun h_2 => ?_) (fun h_2 => ?_)
  · have hf := ip_ h_2 hf
    refine lv_iconst (v := 0) hx hb dX3_readSecond_23 (by decide) ?_
    obtain rfl := Option.some.inj hf
    exact kr_z (V := bI false) hx hb hr hlocks (bI_nar _) rfl hP hK hD hN hS hS.2.2 dX3_readSecond_24
  · have hf := in_ h_2 hf
    refine lv_iconst (v := 1) hx hb dX3_readSecond_19 (by decide) ?_
    refine lv_goto (tgt := 24) hx hb dX3_readSecond_20 (by decide) ?_
    obtain rfl := Option.some.inj hf
    exact kr_z (V := bI true) hx hb hr hlocks (bI_nar _) rfl hP hK hD hN hS hS.2.2 dX3_readSecond_24
set_option maxHeartbeats 4000000 in
set_option maxRecDepth 100000 in
theorem c_X3_readWindow {l : Launch} (G : va_G) (cy : Nat → ClassId) (a_0 : Nat) (a_signs : Nat) (sz : Nat) (s_0 : TT) (g_signs : Nat → Int32) (n : Nat) (R : Bool × TT) (hf : f_X3_readWindow n s_0 g_signs = some R) : Met l yX3_readWindow wsX3_readWindow ({ frames := 3, cells := 0, slots := 0, locals := 70 } : Room) (va_Pc [.ref a_0] (pcW G cy [(a_0, tv a_signs s_0), (a_signs, av_C cy 120 g_signs)] sz)) (va_Qi (fun r (_ : Unit) => r = bI R.1) (fun _ t => Wd G cy (va_A [(a_0, tv a_signs s_0), (a_signs, av_C cy 120 g_signs)] sz) [(a_0, tv a_signs R.2), (a_signs, av_C cy 120 g_signs)] t) (va_A [(a_0, tv a_signs s_0), (a_signs, av_C cy 120 g_signs)] sz)) 0 0 (va_A [(a_0, tv a_signs s_0), (a_signs, av_C cy 120 g_signs)] sz) := by
  refine Met.ofW (cc := cX3_readWindow) (maxL := 1) (ret := (some .boolean)) (by decide) rfl ?_
  intro p e s m args below meth c s₁ B hml hv
  obtain ⟨rfl, hsz, hP, hK, hD0, hN⟩ := hv
  have hx := B.exec
  have hb := B.bytes
  have hr := B.returns
  have hts := atoms_spec (ws := wsX3_readWindow) B.pre
  have hown : s.vm.findClass RX3 = some m.cls := findClass_of_methodNamed B.named
  have hlocks := B.notSynchronized
  subst hsz
  have hD := hD0.self (sz := s.heap.size)
  generalize hAe : va_A [(a_0, tv a_signs s_0), (a_signs, av_C cy 120 g_signs)] s.heap.size = A at hD ⊢
  have hA : ∀ q : Nat, s.heap.size ≤ q → A q := fun q h => by rw [← hAe]; exact Or.inr h
  have hS : va_S A s.heap s.heap [] := va_S.rf
  have hP : va_P G vwCl [(a_0, tv a_signs s_0), (a_signs, av_C cy 120 g_signs)] s.heap := hP
  have hl := lv_entry [.ref a_0] (n := 1) (Nat.le_of_ble_eq_true rfl)
  rw [lg_entry_eq]
  generalize (lg_sl [.ref a_0] ++ List.replicate (1 - (lg_sl [.ref a_0]).length) Slot.unset).toArray = ls at hl ⊢
  have hl : lv_has ls 1 [(0, .ref a_0)] := hl
  unfold f_X3_readWindow at hf
  refine lv_aload_n hx hb dX3_readWindow_0 rfl (lv_at hl 0 rfl) ?_
  refine lv_iconst (v := 0) hx hb dX3_readWindow_1 (by decide) ?_
  refine va_put (D := G) (ci := 3) (v := .int 0) (ty := .int) (C := RX3) (T := TX3) (N := 6) hx hb hts iw_X3_readWindow_X3 tyX3 tyX3_ok nmX3 hown hK hP hD hS 0 rfl rfl 5 (by decide) (hts (.fieldLink RX3 23 "PaneFrost$Text" "place" "I") (by decide +kernel)) (fun _ h9 => h9) rfl (by decide +kernel) rfl rfl (Nat.le_of_ble_eq_true rfl) dX3_readWindow_2 (fun H locs hP hD hS => ?_)
  have hP : va_P G vwCl [(a_0, tv a_signs (t_letter s_0, t_first s_0, t_second s_0, t_length s_0, 0)), (a_signs, av_C cy 120 g_signs)] H := hP
  have hD : va_D A [(a_0, tv a_signs (t_letter s_0, t_first s_0, t_second s_0, t_length s_0, 0)), (a_signs, av_C cy 120 g_signs)] := hD
  refine lv_aload_n hx hb dX3_readWindow_5 rfl (lv_at hl 0 rfl) ?_
  obtain ⟨r_1, hh_r_1, hf⟩ := obd_some hf
  refine kc_i (w1 := [(a_0, tv a_signs (t_letter s_0, t_first s_0, t_second s_0, t_length s_0, 0)), (a_signs, av_C cy 120 g_signs)]) (wr := []) hP hD hS hA [0, 1] [] rfl rfl rfl (by decide) (va_runV (As := []) (rest := []) ⟨hx, hb, hml, hown, hts⟩ (c_X3_sign (l := l) G cy a_0 a_signs H.size (t_letter s_0, t_first s_0, t_second s_0, t_length s_0, 0) g_signs  r_1 hh_r_1) (cwV 0 hts gX3_readWindow_X3_sign rfl rfl rfl ddV_X3_sign ⟨Nat.le_of_ble_eq_true rfl, Nat.le_of_ble_eq_true rfl⟩) (preV_ (ci := 3) (q0 := 0) rfl rfl hP hK hD hN) rfl rfl hl.1 rfl (lv_room (Nat.le_of_ble_eq_true rfl)) dX3_readWindow_6 ⟨Nat.le_of_ble_eq_true rfl, Nat.le_of_ble_eq_true rfl⟩) (fun H locs hP hD hS => ?_)
  have hP : va_P G vwCl [(a_0, tv a_signs (t_letter s_0, t_first s_0, t_second s_0, t_length s_0, 0)), (a_signs, av_C cy 120 g_signs)] H := hP
  have hD : va_D A [(a_0, tv a_signs (t_letter s_0, t_first s_0, t_second s_0, t_length s_0, 0)), (a_signs, av_C cy 120 g_signs)] := hD
  refine lv_bipush (v := 87) hx hb dX3_readWindow_9 (by decide) ?_
  refine lv_icmp_eq (tgt := 16) hx hb dX3_readWindow_11 (by decide) (fun h_2 => ?_) (fun h_2 => ?_)
  · have hf := ip_ h_2 hf
    refine lv_aload_n hx hb dX3_readWindow_16 rfl (lv_at hl 0 rfl) ?_
    refine lv_dup hx hb dX3_readWindow_17 rfl ?_
    refine va_get (D := G) (ci := 3) (v := .int 0) (C := RX3) (T := TX3) (N := 6) hx hb hts iw_X3_readWindow_X3 hown hK hP 0 rfl rfl 5 (by decide) (hts (.fieldLink RX3 23 "PaneFrost$Text" "place" "I") (by decide +kernel)) (fun _ h9 => h9) rfl dX3_readWindow_18 ?_
    refine lv_iconst (v := 1) hx hb dX3_readWindow_21 (by decide) ?_
    refine lv_iadd hx hb dX3_readWindow_22 ?_
    refine va_put (D := G) (ci := 3) (v := .int (0 + 1)) (ty := .int) (C := RX3) (T := TX3) (N := 6) hx hb hts iw_X3_readWindow_X3 tyX3 tyX3_ok nmX3 hown hK hP hD hS 0 rfl rfl 5 (by decide) (hts (.fieldLink RX3 23 "PaneFrost$Text" "place" "I") (by decide +kernel)) (fun _ h9 => h9) rfl (by decide +kernel) rfl rfl (Nat.le_of_ble_eq_true rfl) dX3_readWindow_23 (fun H locs hP hD hS => ?_)
    have hP : va_P G vwCl [(a_0, tv a_signs (t_letter s_0, t_first s_0, t_second s_0, t_length s_0, (0 + 1))), (a_signs, av_C cy 120 g_signs)] H := hP
    have hD : va_D A [(a_0, tv a_signs (t_letter s_0, t_first s_0, t_second s_0, t_length s_0, (0 + 1))), (a_signs, av_C cy 120 g_signs)] := hD
    refine lv_aload_n hx hb dX3_readWindow_26 rfl (lv_at hl 0 rfl) ?_
    refine lv_iconst (v := 1) hx hb dX3_readWindow_27 (by decide) ?_
    refine lv_iconst (v := 2) hx hb dX3_readWindow_28 (by decide) ?_
    refine lv_bipush (v := 8) hx hb dX3_readWindow_29 (by decide) ?_
    obtain ⟨r_3, hh_r_3, hf⟩ := obd_some hf
    refine kc_i (w1 := [(a_0, tv a_signs r_3.2), (a_signs, av_C cy 120 g_signs)]) (wr := []) hP hD hS hA [0, 1] [] rfl rfl rfl (by decide) (va_runV (As := [.int 1, .int 2, .int 8]) (rest := []) ⟨hx, hb, hml, hown, hts⟩ (c_X3_readFirst (l := l) G cy a_0 a_signs H.size (t_letter s_0, t_first s_0, t_second s_0, t_length s_0, (0 + 1)) g_signs 1 2 8 n r_3 hh_r_3) (cwV 3 hts gX3_readWindow_X3_readFirst rfl rfl rfl ddV_X3_readFirst ⟨Nat.le_of_ble_eq_true rfl, Nat.le_of_ble_eq_true rfl⟩) (preV_ (ci := 3) (q0 := 0) rfl rfl hP hK hD hN) rfl rfl hl.1 rfl (lv_room (Nat.le_of_ble_eq_true rfl)) dX3_readWindow_31 ⟨Nat.le_of_ble_eq_true rfl, Nat.le_of_ble_eq_true rfl⟩) (fun H locs hP hD hS => ?_)
    have hP : va_P G vwCl [(a_0, tv a_signs r_3.2), (a_signs, av_C cy 120 g_signs)] H := hP
    have hD : va_D A [(a_0, tv a_signs r_3.2), (a_signs, av_C cy 120 g_signs)] := hD
    refine lv_if_eq (tgt := 51) hx hb dX3_readWindow_34 (by decide) (fun h_4 => ?_) (fun h_4 => ?_)
    · have hf := in_ (bI_0 h_4) hf
      refine lv_iconst (v := 0) hx hb dX3_readWindow_51 (by decide) ?_
      obtain rfl := Option.some.inj hf
      exact kr_z (V := bI false) hx hb hr hlocks (bI_nar _) rfl hP hK hD hN hS hS.2.2 dX3_readWindow_52
    · have hf := ip_ (bI_n0 h_4) hf
      refine lv_aload_n hx hb dX3_readWindow_37 rfl (lv_at hl 0 rfl) ?_
      refine lv_iconst (v := 2) hx hb dX3_readWindow_38 (by decide) ?_
      refine lv_bipush (v := 8) hx hb dX3_readWindow_39 (by decide) ?_
      obtain ⟨r_5, hh_r_5, hf⟩ := obd_some hf
      refine kc_i (w1 := [(a_0, tv a_signs r_5.2), (a_signs, av_C cy 120 g_signs)]) (wr := []) hP hD hS hA [0, 1] [] rfl rfl rfl (by decide) (va_runV (As := [.int 2, .int 8]) (rest := []) ⟨hx, hb, hml, hown, hts⟩ (c_X3_readSecond (l := l) G cy a_0 a_signs H.size r_3.2 g_signs 2 8 n r_5 hh_r_5) (cwV 2 hts gX3_readWindow_X3_readSecond rfl rfl rfl ddV_X3_readSecond ⟨Nat.le_of_ble_eq_true rfl, Nat.le_of_ble_eq_true rfl⟩) (preV_ (ci := 3) (q0 := 0) rfl rfl hP hK hD hN) rfl rfl hl.1 rfl (lv_room (Nat.le_of_ble_eq_true rfl)) dX3_readWindow_41 ⟨Nat.le_of_ble_eq_true rfl, Nat.le_of_ble_eq_true rfl⟩) (fun H locs hP hD hS => ?_)
      have hP : va_P G vwCl [(a_0, tv a_signs r_5.2), (a_signs, av_C cy 120 g_signs)] H := hP
      have hD : va_D A [(a_0, tv a_signs r_5.2), (a_signs, av_C cy 120 g_signs)] := hD
      refine lv_if_eq (tgt := 51) hx hb dX3_readWindow_44 (by decide) (fun h_6 => ?_) (fun h_6 => ?_)
      · have hf := in_ (bI_0 h_6) hf
        refine lv_iconst (v := 0) hx hb dX3_readWindow_51 (by decide) ?_
        obtain rfl := Option.some.inj hf
        exact kr_z (V := bI false) hx hb hr hlocks (bI_nar _) rfl hP hK hD hN hS hS.2.2 dX3_readWindow_52
      · have hf := ip_ (bI_n0 h_6) hf
        refine lv_iconst (v := 1) hx hb dX3_readWindow_47 (by decide) ?_
        refine lv_goto (tgt := 52) hx hb dX3_readWindow_48 (by decide) ?_
        obtain rfl := Option.some.inj hf
        exact kr_z (V := bI true) hx hb hr hlocks (bI_nar _) rfl hP hK hD hN hS hS.2.2 dX3_readWindow_52
  · have hf := in_ h_2 hf
    refine lv_iconst (v := 0) hx hb dX3_readWindow_14 (by decide) ?_
    obtain rfl := Option.some.inj hf
    exact kr_z (V := bI false) hx hb hr hlocks (bI_nar _) rfl hP hK hD hN hS hS.2.2 dX3_readWindow_15
set_option maxHeartbeats 4000000 in
set_option maxRecDepth 100000 in
theorem c_X3_readCell {l : Launch} (G : va_G) (cy : Nat → ClassId) (a_0 : Nat) (a_signs : Nat) (sz : Nat) (s_0 : TT) (g_signs : Nat → Int32) (n : Nat) (R : Bool × TT) (hf : f_X3_readCell n s_0 g_signs = some R) : Met l yX3_readCell wsX3_readCell ({ frames := 3, cells := 0, slots := 0, locals := 70 } : Room) (va_Pc [.ref a_0] (pcW G cy [(a_0, tv a_signs s_0), (a_signs, av_C cy 120 g_signs)] sz)) (va_Qi (fun r (_ : Unit) => r = bI R.1) (fun _ t => Wd G cy (va_A [(a_0, tv a_signs s_0), (a_signs, av_C cy 120 g_signs)] sz) [(a_0, tv a_signs R.2), (a_signs, av_C cy 120 g_signs)] t) (va_A [(a_0, tv a_signs s_0), (a_signs, av_C cy 120 g_signs)] sz)) 0 0 (va_A [(a_0, tv a_signs s_0), (a_signs, av_C cy 120 g_signs)] sz) := by
  refine Met.ofW (cc := cX3_readCell) (maxL := 1) (ret := (some .boolean)) (by decide) rfl ?_
  intro p e s m args below meth c s₁ B hml hv
  obtain ⟨rfl, hsz, hP, hK, hD0, hN⟩ := hv
  have hx := B.exec
  have hb := B.bytes
  have hr := B.returns
  have hts := atoms_spec (ws := wsX3_readCell) B.pre
  have hown : s.vm.findClass RX3 = some m.cls := findClass_of_methodNamed B.named
  have hlocks := B.notSynchronized
  subst hsz
  have hD := hD0.self (sz := s.heap.size)
  generalize hAe : va_A [(a_0, tv a_signs s_0), (a_signs, av_C cy 120 g_signs)] s.heap.size = A at hD ⊢
  have hA : ∀ q : Nat, s.heap.size ≤ q → A q := fun q h => by rw [← hAe]; exact Or.inr h
  have hS : va_S A s.heap s.heap [] := va_S.rf
  have hP : va_P G vwCl [(a_0, tv a_signs s_0), (a_signs, av_C cy 120 g_signs)] s.heap := hP
  have hl := lv_entry [.ref a_0] (n := 1) (Nat.le_of_ble_eq_true rfl)
  rw [lg_entry_eq]
  generalize (lg_sl [.ref a_0] ++ List.replicate (1 - (lg_sl [.ref a_0]).length) Slot.unset).toArray = ls at hl ⊢
  have hl : lv_has ls 1 [(0, .ref a_0)] := hl
  unfold f_X3_readCell at hf
  refine lv_aload_n hx hb dX3_readCell_0 rfl (lv_at hl 0 rfl) ?_
  refine lv_iconst (v := 2) hx hb dX3_readCell_1 (by decide) ?_
  refine lv_iconst (v := 0) hx hb dX3_readCell_2 (by decide) ?_
  refine lv_bipush (v := 63) hx hb dX3_readCell_3 (by decide) ?_
  obtain ⟨r_1, hh_r_1, hf⟩ := obd_some hf
  refine kc_i (w1 := [(a_0, tv a_signs r_1.2), (a_signs, av_C cy 120 g_signs)]) (wr := []) hP hD hS hA [0, 1] [] rfl rfl rfl (by decide) (va_runV (As := [.int 2, .int 0, .int 63]) (rest := []) ⟨hx, hb, hml, hown, hts⟩ (c_X3_readFirst (l := l) G cy a_0 a_signs s.heap.size s_0 g_signs 2 0 63 n r_1 hh_r_1) (cwV 3 hts gX3_readCell_X3_readFirst rfl rfl rfl ddV_X3_readFirst ⟨Nat.le_of_ble_eq_true rfl, Nat.le_of_ble_eq_true rfl⟩) (preV_ (ci := 3) (q0 := 0) rfl rfl hP hK hD hN) rfl rfl hl.1 rfl (lv_room (Nat.le_of_ble_eq_true rfl)) dX3_readCell_5 ⟨Nat.le_of_ble_eq_true rfl, Nat.le_of_ble_eq_true rfl⟩) (fun H locs hP hD hS => ?_)
  have hP : va_P G vwCl [(a_0, tv a_signs r_1.2), (a_signs, av_C cy 120 g_signs)] H := hP
  have hD : va_D A [(a_0, tv a_signs r_1.2), (a_signs, av_C cy 120 g_signs)] := hD
  obtain rfl := Option.some.inj hf
  exact kr_z (V := bI r_1.1) hx hb hr hlocks (bI_nar _) rfl hP hK hD hN hS hS.2.2 dX3_readCell_8
set_option maxHeartbeats 4000000 in
set_option maxRecDepth 100000 in
theorem c_X3_readCommand {l : Launch} (G : va_G) (cy : Nat → ClassId) (a_0 : Nat) (a_signs : Nat) (sz : Nat) (s_0 : TT) (g_signs : Nat → Int32) (n : Nat) (R : Bool × TT) (hf : f_X3_readCommand n s_0 g_signs = some R) : Met l yX3_readCommand wsX3_readCommand ({ frames := 4, cells := 0, slots := 0, locals := 90 } : Room) (va_Pc [.ref a_0] (pcW G cy [(a_0, tv a_signs s_0), (a_signs, av_C cy 120 g_signs)] sz)) (va_Qi (fun r (_ : Unit) => r = bI R.1) (fun _ t => Wd G cy (va_A [(a_0, tv a_signs s_0), (a_signs, av_C cy 120 g_signs)] sz) [(a_0, tv a_signs R.2), (a_signs, av_C cy 120 g_signs)] t) (va_A [(a_0, tv a_signs s_0), (a_signs, av_C cy 120 g_signs)] sz)) 0 0 (va_A [(a_0, tv a_signs s_0), (a_signs, av_C cy 120 g_signs)] sz) := by
  refine Met.ofW (cc := cX3_readCommand) (maxL := 1) (ret := (some .boolean)) (by decide) rfl ?_
  intro p e s m args below meth c s₁ B hml hv
  obtain ⟨rfl, hsz, hP, hK, hD0, hN⟩ := hv
  have hx := B.exec
  have hb := B.bytes
  have hr := B.returns
  have hts := atoms_spec (ws := wsX3_readCommand) B.pre
  have hown : s.vm.findClass RX3 = some m.cls := findClass_of_methodNamed B.named
  have hlocks := B.notSynchronized
  subst hsz
  have hD := hD0.self (sz := s.heap.size)
  generalize hAe : va_A [(a_0, tv a_signs s_0), (a_signs, av_C cy 120 g_signs)] s.heap.size = A at hD ⊢
  have hA : ∀ q : Nat, s.heap.size ≤ q → A q := fun q h => by rw [← hAe]; exact Or.inr h
  have hS : va_S A s.heap s.heap [] := va_S.rf
  have hP : va_P G vwCl [(a_0, tv a_signs s_0), (a_signs, av_C cy 120 g_signs)] s.heap := hP
  have hl := lv_entry [.ref a_0] (n := 1) (Nat.le_of_ble_eq_true rfl)
  rw [lg_entry_eq]
  generalize (lg_sl [.ref a_0] ++ List.replicate (1 - (lg_sl [.ref a_0]).length) Slot.unset).toArray = ls at hl ⊢
  have hl : lv_has ls 1 [(0, .ref a_0)] := hl
  unfold f_X3_readCommand at hf
  refine lv_aload_n hx hb dX3_readCommand_0 rfl (lv_at hl 0 rfl) ?_
  refine va_get (D := G) (ci := 3) (v := .int (t_place s_0)) (C := RX3) (T := TX3) (N := 6) hx hb hts iw_X3_readCommand_X3 hown hK hP 0 rfl rfl 5 (by decide) (hts (.fieldLink RX3 23 "PaneFrost$Text" "place" "I") (by decide +kernel)) (fun _ h9 => h9) rfl dX3_readCommand_1 ?_
  refine lv_aload_n hx hb dX3_readCommand_4 rfl (lv_at hl 0 rfl) ?_
  refine va_get (D := G) (ci := 3) (v := .int (t_length s_0)) (C := RX3) (T := TX3) (N := 6) hx hb hts iw_X3_readCommand_X3 hown hK hP 0 rfl rfl 4 (by decide) (hts (.fieldLink RX3 15 "PaneFrost$Text" "length" "I") (by decide +kernel)) (fun _ h9 => h9) rfl dX3_readCommand_5 ?_
  refine lv_icmp_lt (tgt := 13) hx hb dX3_readCommand_8 (by decide) (fun h_1 => ?_) (fun h_1 => ?_)
  · have hf := ip_ h_1 hf
    refine lv_aload_n hx hb dX3_readCommand_13 rfl (lv_at hl 0 rfl) ?_
    refine lv_aload_n hx hb dX3_readCommand_14 rfl (lv_at hl 0 rfl) ?_
    obtain ⟨r_2, hh_r_2, hf⟩ := obd_some hf
    refine kc_i (w1 := [(a_0, tv a_signs s_0), (a_signs, av_C cy 120 g_signs)]) (wr := []) hP hD hS hA [0, 1] [] rfl rfl rfl (by decide) (va_runV (As := []) (rest := [.ref a_0]) ⟨hx, hb, hml, hown, hts⟩ (c_X3_sign (l := l) G cy a_0 a_signs s.heap.size s_0 g_signs  r_2 hh_r_2) (cwV 0 hts gX3_readCommand_X3_sign rfl rfl rfl ddV_X3_sign ⟨Nat.le_of_ble_eq_true rfl, Nat.le_of_ble_eq_true rfl⟩) (preV_ (ci := 3) (q0 := 0) rfl rfl hP hK hD hN) rfl rfl hl.1 rfl (lv_room (Nat.le_of_ble_eq_true rfl)) dX3_readCommand_15 ⟨Nat.le_of_ble_eq_true rfl, Nat.le_of_ble_eq_true rfl⟩) (fun H locs hP hD hS => ?_)
    have hP : va_P G vwCl [(a_0, tv a_signs s_0), (a_signs, av_C cy 120 g_signs)] H := hP
    have hD : va_D A [(a_0, tv a_signs s_0), (a_signs, av_C cy 120 g_signs)] := hD
    refine lv_i2c (v := (ich r_2)) hx hb dX3_readCommand_18 rfl ?_
    refine va_put (D := G) (ci := 3) (v := .int (ich r_2)) (ty := .char) (C := RX3) (T := TX3) (N := 6) hx hb hts iw_X3_readCommand_X3 tyX3 tyX3_ok nmX3 hown hK hP hD hS 0 rfl rfl 0 (by decide) (hts (.fieldLink RX3 41 "PaneFrost$Text" "letter" "C") (by decide +kernel)) (fun _ h9 => h9) rfl (by decide +kernel) (pk_nc _) (pk_fc _) (Nat.le_of_ble_eq_true rfl) dX3_readCommand_19 (fun H locs hP hD hS => ?_)
    have hP : va_P G vwCl [(a_0, tv a_signs ((ich r_2), t_first s_0, t_second s_0, t_length s_0, t_place s_0)), (a_signs, av_C cy 120 g_signs)] H := hP
    have hD : va_D A [(a_0, tv a_signs ((ich r_2), t_first s_0, t_second s_0, t_length s_0, t_place s_0)), (a_signs, av_C cy 120 g_signs)] := hD
    refine lv_aload_n hx hb dX3_readCommand_22 rfl (lv_at hl 0 rfl) ?_
    refine lv_iconst (v := 0) hx hb dX3_readCommand_23 (by decide) ?_
    refine va_put (D := G) (ci := 3) (v := .int 0) (ty := .int) (C := RX3) (T := TX3) (N := 6) hx hb hts iw_X3_readCommand_X3 tyX3 tyX3_ok nmX3 hown hK hP hD hS 0 rfl rfl 2 (by decide) (hts (.fieldLink RX3 45 "PaneFrost$Text" "second" "I") (by decide +kernel)) (fun _ h9 => h9) rfl (by decide +kernel) rfl rfl (Nat.le_of_ble_eq_true rfl) dX3_readCommand_24 (fun H locs hP hD hS => ?_)
    have hP : va_P G vwCl [(a_0, tv a_signs ((ich r_2), t_first s_0, 0, t_length s_0, t_place s_0)), (a_signs, av_C cy 120 g_signs)] H := hP
    have hD : va_D A [(a_0, tv a_signs ((ich r_2), t_first s_0, 0, t_length s_0, t_place s_0)), (a_signs, av_C cy 120 g_signs)] := hD
    refine lv_aload_n hx hb dX3_readCommand_27 rfl (lv_at hl 0 rfl) ?_
    refine va_get (D := G) (ci := 3) (v := .int (ich r_2)) (C := RX3) (T := TX3) (N := 6) hx hb hts iw_X3_readCommand_X3 hown hK hP 0 rfl rfl 0 (by decide) (hts (.fieldLink RX3 41 "PaneFrost$Text" "letter" "C") (by decide +kernel)) (fun _ h9 => h9) rfl dX3_readCommand_28 ?_
    by_cases h_3 : (ich r_2) = 98
    · have hf := ip_ h_3 hf
      refine lv_tableIn (tgt := 167) (off := 136) hx hb dX3_readCommand_31 (by show ¬ (ich r_2).toInt < 98; rw [h_3]; decide) (by show ¬ 116 < (ich r_2).toInt; rw [h_3]; decide) (by show (#[136, 241, 241, 241, 89, 241, 241, 241, 241, 241, 241, 241, 222, 241, 241, 241, 171, 104, 189] : Array Int)[((ich r_2).toInt - 98).toNat]? = some 136; rw [h_3]; rfl) (by decide) ?_
      refine lv_aload_n hx hb dX3_readCommand_167 rfl (lv_at hl 0 rfl) ?_
      refine lv_dup hx hb dX3_readCommand_168 rfl ?_
      refine va_get (D := G) (ci := 3) (v := .int (t_place s_0)) (C := RX3) (T := TX3) (N := 6) hx hb hts iw_X3_readCommand_X3 hown hK hP 0 rfl rfl 5 (by decide) (hts (.fieldLink RX3 23 "PaneFrost$Text" "place" "I") (by decide +kernel)) (fun _ h9 => h9) rfl dX3_readCommand_169 ?_
      refine lv_iconst (v := 1) hx hb dX3_readCommand_172 (by decide) ?_
      refine lv_iadd hx hb dX3_readCommand_173 ?_
      refine va_put (D := G) (ci := 3) (v := .int ((t_place s_0) + 1)) (ty := .int) (C := RX3) (T := TX3) (N := 6) hx hb hts iw_X3_readCommand_X3 tyX3 tyX3_ok nmX3 hown hK hP hD hS 0 rfl rfl 5 (by decide) (hts (.fieldLink RX3 23 "PaneFrost$Text" "place" "I") (by decide +kernel)) (fun _ h9 => h9) rfl (by decide +kernel) rfl rfl (Nat.le_of_ble_eq_true rfl) dX3_readCommand_174 (fun H locs hP hD hS => ?_)
      have hP : va_P G vwCl [(a_0, tv a_signs ((ich r_2), t_first s_0, 0, t_length s_0, ((t_place s_0) + 1))), (a_signs, av_C cy 120 g_signs)] H := hP
      have hD : va_D A [(a_0, tv a_signs ((ich r_2), t_first s_0, 0, t_length s_0, ((t_place s_0) + 1))), (a_signs, av_C cy 120 g_signs)] := hD
      refine lv_aload_n hx hb dX3_readCommand_177 rfl (lv_at hl 0 rfl) ?_
      refine lv_iconst (v := 1) hx hb dX3_readCommand_178 (by decide) ?_
      refine lv_iconst (v := 0) hx hb dX3_readCommand_179 (by decide) ?_
      refine lv_iconst (v := 3) hx hb dX3_readCommand_180 (by decide) ?_
      obtain ⟨r_4, hh_r_4, hf⟩ := obd_some hf
      refine kc_i (w1 := [(a_0, tv a_signs r_4.2), (a_signs, av_C cy 120 g_signs)]) (wr := []) hP hD hS hA [0, 1] [] rfl rfl rfl (by decide) (va_runV (As := [.int 1, .int 0, .int 3]) (rest := []) ⟨hx, hb, hml, hown, hts⟩ (c_X3_readFirst (l := l) G cy a_0 a_signs H.size ((ich r_2), t_first s_0, 0, t_length s_0, ((t_place s_0) + 1)) g_signs 1 0 3 n r_4 hh_r_4) (cwV 3 hts gX3_readCommand_X3_readFirst rfl rfl rfl ddV_X3_readFirst ⟨Nat.le_of_ble_eq_true rfl, Nat.le_of_ble_eq_true rfl⟩) (preV_ (ci := 3) (q0 := 0) rfl rfl hP hK hD hN) rfl rfl hl.1 rfl (lv_room (Nat.le_of_ble_eq_true rfl)) dX3_readCommand_181 ⟨Nat.le_of_ble_eq_true rfl, Nat.le_of_ble_eq_true rfl⟩) (fun H locs hP hD hS => ?_)
      have hP : va_P G vwCl [(a_0, tv a_signs r_4.2), (a_signs, av_C cy 120 g_signs)] H := hP
      have hD : va_D A [(a_0, tv a_signs r_4.2), (a_signs, av_C cy 120 g_signs)] := hD
      refine lv_if_eq (tgt := 200) hx hb dX3_readCommand_184 (by decide) (fun h_5 => ?_) (fun h_5 => ?_)
      · have hf := in_ (bI_0 h_5) hf
        refine lv_iconst (v := 0) hx hb dX3_readCommand_200 (by decide) ?_
        obtain rfl := Option.some.inj hf
        exact kr_z (V := bI false) hx hb hr hlocks (bI_nar _) rfl hP hK hD hN hS hS.2.2 dX3_readCommand_201
      · have hf := ip_ (bI_n0 h_5) hf
        refine lv_aload_n hx hb dX3_readCommand_187 rfl (lv_at hl 0 rfl) ?_
        refine lv_iconst (v := 0) hx hb dX3_readCommand_188 (by decide) ?_
        refine lv_iconst (v := 2) hx hb dX3_readCommand_189 (by decide) ?_
        obtain ⟨r_6, hh_r_6, hf⟩ := obd_some hf
        refine kc_i (w1 := [(a_0, tv a_signs r_6.2), (a_signs, av_C cy 120 g_signs)]) (wr := []) hP hD hS hA [0, 1] [] rfl rfl rfl (by decide) (va_runV (As := [.int 0, .int 2]) (rest := []) ⟨hx, hb, hml, hown, hts⟩ (c_X3_readSecond (l := l) G cy a_0 a_signs H.size r_4.2 g_signs 0 2 n r_6 hh_r_6) (cwV 2 hts gX3_readCommand_X3_readSecond rfl rfl rfl ddV_X3_readSecond ⟨Nat.le_of_ble_eq_true rfl, Nat.le_of_ble_eq_true rfl⟩) (preV_ (ci := 3) (q0 := 0) rfl rfl hP hK hD hN) rfl rfl hl.1 rfl (lv_room (Nat.le_of_ble_eq_true rfl)) dX3_readCommand_190 ⟨Nat.le_of_ble_eq_true rfl, Nat.le_of_ble_eq_true rfl⟩) (fun H locs hP hD hS => ?_)
        have hP : va_P G vwCl [(a_0, tv a_signs r_6.2), (a_signs, av_C cy 120 g_signs)] H := hP
        have hD : va_D A [(a_0, tv a_signs r_6.2), (a_signs, av_C cy 120 g_signs)] := hD
        refine lv_if_eq (tgt := 200) hx hb dX3_readCommand_193 (by decide) (fun h_7 => ?_) (fun h_7 => ?_)
        · have hf := in_ (bI_0 h_7) hf
          refine lv_iconst (v := 0) hx hb dX3_readCommand_200 (by decide) ?_
          obtain rfl := Option.some.inj hf
          exact kr_z (V := bI false) hx hb hr hlocks (bI_nar _) rfl hP hK hD hN hS hS.2.2 dX3_readCommand_201
        · have hf := ip_ (bI_n0 h_7) hf
          refine lv_iconst (v := 1) hx hb dX3_readCommand_196 (by decide) ?_
          refine lv_goto (tgt := 201) hx hb dX3_readCommand_197 (by decide) ?_
          obtain rfl := Option.some.inj hf
          exact kr_z (V := bI true) hx hb hr hlocks (bI_nar _) rfl hP hK hD hN hS hS.2.2 dX3_readCommand_201
    have hf := in_ h_3 hf
    by_cases h_8 : (ich r_2) = 102
    · have hf := ip_ h_8 hf
      refine lv_tableIn (tgt := 120) (off := 89) hx hb dX3_readCommand_31 (by show ¬ (ich r_2).toInt < 98; rw [h_8]; decide) (by show ¬ 116 < (ich r_2).toInt; rw [h_8]; decide) (by show (#[136, 241, 241, 241, 89, 241, 241, 241, 241, 241, 241, 241, 222, 241, 241, 241, 171, 104, 189] : Array Int)[((ich r_2).toInt - 98).toNat]? = some 89; rw [h_8]; rfl) (by decide) ?_
      refine lv_aload_n hx hb dX3_readCommand_120 rfl (lv_at hl 0 rfl) ?_
      refine lv_dup hx hb dX3_readCommand_121 rfl ?_
      refine va_get (D := G) (ci := 3) (v := .int (t_place s_0)) (C := RX3) (T := TX3) (N := 6) hx hb hts iw_X3_readCommand_X3 hown hK hP 0 rfl rfl 5 (by decide) (hts (.fieldLink RX3 23 "PaneFrost$Text" "place" "I") (by decide +kernel)) (fun _ h9 => h9) rfl dX3_readCommand_122 ?_
      refine lv_iconst (v := 1) hx hb dX3_readCommand_125 (by decide) ?_
      refine lv_iadd hx hb dX3_readCommand_126 ?_
      refine va_put (D := G) (ci := 3) (v := .int ((t_place s_0) + 1)) (ty := .int) (C := RX3) (T := TX3) (N := 6) hx hb hts iw_X3_readCommand_X3 tyX3 tyX3_ok nmX3 hown hK hP hD hS 0 rfl rfl 5 (by decide) (hts (.fieldLink RX3 23 "PaneFrost$Text" "place" "I") (by decide +kernel)) (fun _ h9 => h9) rfl (by decide +kernel) rfl rfl (Nat.le_of_ble_eq_true rfl) dX3_readCommand_127 (fun H locs hP hD hS => ?_)
      have hP : va_P G vwCl [(a_0, tv a_signs ((ich r_2), t_first s_0, 0, t_length s_0, ((t_place s_0) + 1))), (a_signs, av_C cy 120 g_signs)] H := hP
      have hD : va_D A [(a_0, tv a_signs ((ich r_2), t_first s_0, 0, t_length s_0, ((t_place s_0) + 1))), (a_signs, av_C cy 120 g_signs)] := hD
      refine lv_aload_n hx hb dX3_readCommand_130 rfl (lv_at hl 0 rfl) ?_
      obtain ⟨r_9, hh_r_9, hf⟩ := obd_some hf
      refine kc_i (w1 := [(a_0, tv a_signs r_9.2), (a_signs, av_C cy 120 g_signs)]) (wr := []) hP hD hS hA [0, 1] [] rfl rfl rfl (by decide) (va_runV (As := []) (rest := []) ⟨hx, hb, hml, hown, hts⟩ (c_X3_readCell (l := l) G cy a_0 a_signs H.size ((ich r_2), t_first s_0, 0, t_length s_0, ((t_place s_0) + 1)) g_signs n r_9 hh_r_9) (cwV 0 hts gX3_readCommand_X3_readCell rfl rfl rfl ddV_X3_readCell ⟨Nat.le_of_ble_eq_true rfl, Nat.le_of_ble_eq_true rfl⟩) (preV_ (ci := 3) (q0 := 0) rfl rfl hP hK hD hN) rfl rfl hl.1 rfl (lv_room (Nat.le_of_ble_eq_true rfl)) dX3_readCommand_131 ⟨Nat.le_of_ble_eq_true rfl, Nat.le_of_ble_eq_true rfl⟩) (fun H locs hP hD hS => ?_)
      have hP : va_P G vwCl [(a_0, tv a_signs r_9.2), (a_signs, av_C cy 120 g_signs)] H := hP
      have hD : va_D A [(a_0, tv a_signs r_9.2), (a_signs, av_C cy 120 g_signs)] := hD
      obtain rfl := Option.some.inj hf
      exact kr_z (V := bI r_9.1) hx hb hr hlocks (bI_nar _) rfl hP hK hD hN hS hS.2.2 dX3_readCommand_134
    have hf := in_ h_8 hf
    by_cases h_10 : (ich r_2) = 110
    · have hf := ip_ h_10 hf
      refine lv_tableIn (tgt := 253) (off := 222) hx hb dX3_readCommand_31 (by show ¬ (ich r_2).toInt < 98; rw [h_10]; decide) (by show ¬ 116 < (ich r_2).toInt; rw [h_10]; decide) (by show (#[136, 241, 241, 241, 89, 241, 241, 241, 241, 241, 241, 241, 222, 241, 241, 241, 171, 104, 189] : Array Int)[((ich r_2).toInt - 98).toNat]? = some 222; rw [h_10]; rfl) (by decide) ?_
      refine lv_aload_n hx hb dX3_readCommand_253 rfl (lv_at hl 0 rfl) ?_
      refine lv_dup hx hb dX3_readCommand_254 rfl ?_
      refine va_get (D := G) (ci := 3) (v := .int (t_place s_0)) (C := RX3) (T := TX3) (N := 6) hx hb hts iw_X3_readCommand_X3 hown hK hP 0 rfl rfl 5 (by decide) (hts (.fieldLink RX3 23 "PaneFrost$Text" "place" "I") (by decide +kernel)) (fun _ h9 => h9) rfl dX3_readCommand_255 ?_
      refine lv_iconst (v := 1) hx hb dX3_readCommand_258 (by decide) ?_
      refine lv_iadd hx hb dX3_readCommand_259 ?_
      refine va_put (D := G) (ci := 3) (v := .int ((t_place s_0) + 1)) (ty := .int) (C := RX3) (T := TX3) (N := 6) hx hb hts iw_X3_readCommand_X3 tyX3 tyX3_ok nmX3 hown hK hP hD hS 0 rfl rfl 5 (by decide) (hts (.fieldLink RX3 23 "PaneFrost$Text" "place" "I") (by decide +kernel)) (fun _ h9 => h9) rfl (by decide +kernel) rfl rfl (Nat.le_of_ble_eq_true rfl) dX3_readCommand_260 (fun H locs hP hD hS => ?_)
      have hP : va_P G vwCl [(a_0, tv a_signs ((ich r_2), t_first s_0, 0, t_length s_0, ((t_place s_0) + 1))), (a_signs, av_C cy 120 g_signs)] H := hP
      have hD : va_D A [(a_0, tv a_signs ((ich r_2), t_first s_0, 0, t_length s_0, ((t_place s_0) + 1))), (a_signs, av_C cy 120 g_signs)] := hD
      refine lv_aload_n hx hb dX3_readCommand_263 rfl (lv_at hl 0 rfl) ?_
      refine lv_iconst (v := 2) hx hb dX3_readCommand_264 (by decide) ?_
      refine lv_iconst (v := 1) hx hb dX3_readCommand_265 (by decide) ?_
      refine lv_bipush (v := 60) hx hb dX3_readCommand_266 (by decide) ?_
      obtain ⟨r_11, hh_r_11, hf⟩ := obd_some hf
      refine kc_i (w1 := [(a_0, tv a_signs r_11.2), (a_signs, av_C cy 120 g_signs)]) (wr := []) hP hD hS hA [0, 1] [] rfl rfl rfl (by decide) (va_runV (As := [.int 2, .int 1, .int 60]) (rest := []) ⟨hx, hb, hml, hown, hts⟩ (c_X3_readFirst (l := l) G cy a_0 a_signs H.size ((ich r_2), t_first s_0, 0, t_length s_0, ((t_place s_0) + 1)) g_signs 2 1 60 n r_11 hh_r_11) (cwV 3 hts gX3_readCommand_X3_readFirst rfl rfl rfl ddV_X3_readFirst ⟨Nat.le_of_ble_eq_true rfl, Nat.le_of_ble_eq_true rfl⟩) (preV_ (ci := 3) (q0 := 0) rfl rfl hP hK hD hN) rfl rfl hl.1 rfl (lv_room (Nat.le_of_ble_eq_true rfl)) dX3_readCommand_268 ⟨Nat.le_of_ble_eq_true rfl, Nat.le_of_ble_eq_true rfl⟩) (fun H locs hP hD hS => ?_)
      have hP : va_P G vwCl [(a_0, tv a_signs r_11.2), (a_signs, av_C cy 120 g_signs)] H := hP
      have hD : va_D A [(a_0, tv a_signs r_11.2), (a_signs, av_C cy 120 g_signs)] := hD
      obtain rfl := Option.some.inj hf
      exact kr_z (V := bI r_11.1) hx hb hr hlocks (bI_nar _) rfl hP hK hD hN hS hS.2.2 dX3_readCommand_271
    have hf := in_ h_10 hf
    by_cases h_12 : (ich r_2) = 114
    · have hf := ip_ h_12 hf
      refine lv_tableIn (tgt := 202) (off := 171) hx hb dX3_readCommand_31 (by show ¬ (ich r_2).toInt < 98; rw [h_12]; decide) (by show ¬ 116 < (ich r_2).toInt; rw [h_12]; decide) (by show (#[136, 241, 241, 241, 89, 241, 241, 241, 241, 241, 241, 241, 222, 241, 241, 241, 171, 104, 189] : Array Int)[((ich r_2).toInt - 98).toNat]? = some 171; rw [h_12]; rfl) (by decide) ?_
      refine lv_aload_n hx hb dX3_readCommand_202 rfl (lv_at hl 0 rfl) ?_
      refine lv_dup hx hb dX3_readCommand_203 rfl ?_
      refine va_get (D := G) (ci := 3) (v := .int (t_place s_0)) (C := RX3) (T := TX3) (N := 6) hx hb hts iw_X3_readCommand_X3 hown hK hP 0 rfl rfl 5 (by decide) (hts (.fieldLink RX3 23 "PaneFrost$Text" "place" "I") (by decide +kernel)) (fun _ h9 => h9) rfl dX3_readCommand_204 ?_
      refine lv_iconst (v := 1) hx hb dX3_readCommand_207 (by decide) ?_
      refine lv_iadd hx hb dX3_readCommand_208 ?_
      refine va_put (D := G) (ci := 3) (v := .int ((t_place s_0) + 1)) (ty := .int) (C := RX3) (T := TX3) (N := 6) hx hb hts iw_X3_readCommand_X3 tyX3 tyX3_ok nmX3 hown hK hP hD hS 0 rfl rfl 5 (by decide) (hts (.fieldLink RX3 23 "PaneFrost$Text" "place" "I") (by decide +kernel)) (fun _ h9 => h9) rfl (by decide +kernel) rfl rfl (Nat.le_of_ble_eq_true rfl) dX3_readCommand_209 (fun H locs hP hD hS => ?_)
      have hP : va_P G vwCl [(a_0, tv a_signs ((ich r_2), t_first s_0, 0, t_length s_0, ((t_place s_0) + 1))), (a_signs, av_C cy 120 g_signs)] H := hP
      have hD : va_D A [(a_0, tv a_signs ((ich r_2), t_first s_0, 0, t_length s_0, ((t_place s_0) + 1))), (a_signs, av_C cy 120 g_signs)] := hD
      refine lv_aload_n hx hb dX3_readCommand_212 rfl (lv_at hl 0 rfl) ?_
      refine lv_iconst (v := 1) hx hb dX3_readCommand_213 (by decide) ?_
      refine lv_iconst (v := 0) hx hb dX3_readCommand_214 (by decide) ?_
      refine lv_iconst (v := 2) hx hb dX3_readCommand_215 (by decide) ?_
      obtain ⟨r_13, hh_r_13, hf⟩ := obd_some hf
      refine kc_i (w1 := [(a_0, tv a_signs r_13.2), (a_signs, av_C cy 120 g_signs)]) (wr := []) hP hD hS hA [0, 1] [] rfl rfl rfl (by decide) (va_runV (As := [.int 1, .int 0, .int 2]) (rest := []) ⟨hx, hb, hml, hown, hts⟩ (c_X3_readFirst (l := l) G cy a_0 a_signs H.size ((ich r_2), t_first s_0, 0, t_length s_0, ((t_place s_0) + 1)) g_signs 1 0 2 n r_13 hh_r_13) (cwV 3 hts gX3_readCommand_X3_readFirst rfl rfl rfl ddV_X3_readFirst ⟨Nat.le_of_ble_eq_true rfl, Nat.le_of_ble_eq_true rfl⟩) (preV_ (ci := 3) (q0 := 0) rfl rfl hP hK hD hN) rfl rfl hl.1 rfl (lv_room (Nat.le_of_ble_eq_true rfl)) dX3_readCommand_216 ⟨Nat.le_of_ble_eq_true rfl, Nat.le_of_ble_eq_true rfl⟩) (fun H locs hP hD hS => ?_)
      have hP : va_P G vwCl [(a_0, tv a_signs r_13.2), (a_signs, av_C cy 120 g_signs)] H := hP
      have hD : va_D A [(a_0, tv a_signs r_13.2), (a_signs, av_C cy 120 g_signs)] := hD
      obtain rfl := Option.some.inj hf
      exact kr_z (V := bI r_13.1) hx hb hr hlocks (bI_nar _) rfl hP hK hD hN hS hS.2.2 dX3_readCommand_219
    have hf := in_ h_12 hf
    by_cases h_14 : (ich r_2) = 115
    · have hf := ip_ h_14 hf
      refine lv_tableIn (tgt := 135) (off := 104) hx hb dX3_readCommand_31 (by show ¬ (ich r_2).toInt < 98; rw [h_14]; decide) (by show ¬ 116 < (ich r_2).toInt; rw [h_14]; decide) (by show (#[136, 241, 241, 241, 89, 241, 241, 241, 241, 241, 241, 241, 222, 241, 241, 241, 171, 104, 189] : Array Int)[((ich r_2).toInt - 98).toNat]? = some 104; rw [h_14]; rfl) (by decide) ?_
      refine lv_aload_n hx hb dX3_readCommand_135 rfl (lv_at hl 0 rfl) ?_
      refine lv_dup hx hb dX3_readCommand_136 rfl ?_
      refine va_get (D := G) (ci := 3) (v := .int (t_place s_0)) (C := RX3) (T := TX3) (N := 6) hx hb hts iw_X3_readCommand_X3 hown hK hP 0 rfl rfl 5 (by decide) (hts (.fieldLink RX3 23 "PaneFrost$Text" "place" "I") (by decide +kernel)) (fun _ h9 => h9) rfl dX3_readCommand_137 ?_
      refine lv_iconst (v := 1) hx hb dX3_readCommand_140 (by decide) ?_
      refine lv_iadd hx hb dX3_readCommand_141 ?_
      refine va_put (D := G) (ci := 3) (v := .int ((t_place s_0) + 1)) (ty := .int) (C := RX3) (T := TX3) (N := 6) hx hb hts iw_X3_readCommand_X3 tyX3 tyX3_ok nmX3 hown hK hP hD hS 0 rfl rfl 5 (by decide) (hts (.fieldLink RX3 23 "PaneFrost$Text" "place" "I") (by decide +kernel)) (fun _ h9 => h9) rfl (by decide +kernel) rfl rfl (Nat.le_of_ble_eq_true rfl) dX3_readCommand_142 (fun H locs hP hD hS => ?_)
      have hP : va_P G vwCl [(a_0, tv a_signs ((ich r_2), t_first s_0, 0, t_length s_0, ((t_place s_0) + 1))), (a_signs, av_C cy 120 g_signs)] H := hP
      have hD : va_D A [(a_0, tv a_signs ((ich r_2), t_first s_0, 0, t_length s_0, ((t_place s_0) + 1))), (a_signs, av_C cy 120 g_signs)] := hD
      refine lv_aload_n hx hb dX3_readCommand_145 rfl (lv_at hl 0 rfl) ?_
      obtain ⟨r_15, hh_r_15, hf⟩ := obd_some hf
      refine kc_i (w1 := [(a_0, tv a_signs r_15.2), (a_signs, av_C cy 120 g_signs)]) (wr := []) hP hD hS hA [0, 1] [] rfl rfl rfl (by decide) (va_runV (As := []) (rest := []) ⟨hx, hb, hml, hown, hts⟩ (c_X3_readCell (l := l) G cy a_0 a_signs H.size ((ich r_2), t_first s_0, 0, t_length s_0, ((t_place s_0) + 1)) g_signs n r_15 hh_r_15) (cwV 0 hts gX3_readCommand_X3_readCell rfl rfl rfl ddV_X3_readCell ⟨Nat.le_of_ble_eq_true rfl, Nat.le_of_ble_eq_true rfl⟩) (preV_ (ci := 3) (q0 := 0) rfl rfl hP hK hD hN) rfl rfl hl.1 rfl (lv_room (Nat.le_of_ble_eq_true rfl)) dX3_readCommand_146 ⟨Nat.le_of_ble_eq_true rfl, Nat.le_of_ble_eq_true rfl⟩) (fun H locs hP hD hS => ?_)
      have hP : va_P G vwCl [(a_0, tv a_signs r_15.2), (a_signs, av_C cy 120 g_signs)] H := hP
      have hD : va_D A [(a_0, tv a_signs r_15.2), (a_signs, av_C cy 120 g_signs)] := hD
      refine lv_if_eq (tgt := 165) hx hb dX3_readCommand_149 (by decide) (fun h_16 => ?_) (fun h_16 => ?_)
      · have hf := in_ (bI_0 h_16) hf
        refine lv_iconst (v := 0) hx hb dX3_readCommand_165 (by decide) ?_
        obtain rfl := Option.some.inj hf
        exact kr_z (V := bI false) hx hb hr hlocks (bI_nar _) rfl hP hK hD hN hS hS.2.2 dX3_readCommand_166
      · have hf := ip_ (bI_n0 h_16) hf
        refine lv_aload_n hx hb dX3_readCommand_152 rfl (lv_at hl 0 rfl) ?_
        refine lv_iconst (v := 0) hx hb dX3_readCommand_153 (by decide) ?_
        refine lv_iconst (v := 3) hx hb dX3_readCommand_154 (by decide) ?_
        obtain ⟨r_17, hh_r_17, hf⟩ := obd_some hf
        refine kc_i (w1 := [(a_0, tv a_signs r_17.2), (a_signs, av_C cy 120 g_signs)]) (wr := []) hP hD hS hA [0, 1] [] rfl rfl rfl (by decide) (va_runV (As := [.int 0, .int 3]) (rest := []) ⟨hx, hb, hml, hown, hts⟩ (c_X3_readSecond (l := l) G cy a_0 a_signs H.size r_15.2 g_signs 0 3 n r_17 hh_r_17) (cwV 2 hts gX3_readCommand_X3_readSecond rfl rfl rfl ddV_X3_readSecond ⟨Nat.le_of_ble_eq_true rfl, Nat.le_of_ble_eq_true rfl⟩) (preV_ (ci := 3) (q0 := 0) rfl rfl hP hK hD hN) rfl rfl hl.1 rfl (lv_room (Nat.le_of_ble_eq_true rfl)) dX3_readCommand_155 ⟨Nat.le_of_ble_eq_true rfl, Nat.le_of_ble_eq_true rfl⟩) (fun H locs hP hD hS => ?_)
        have hP : va_P G vwCl [(a_0, tv a_signs r_17.2), (a_signs, av_C cy 120 g_signs)] H := hP
        have hD : va_D A [(a_0, tv a_signs r_17.2), (a_signs, av_C cy 120 g_signs)] := hD
        refine lv_if_eq (tgt := 165) hx hb dX3_readCommand_158 (by decide) (fun h_18 => ?_) (fun h_18 => ?_)
        · have hf := in_ (bI_0 h_18) hf
          refine lv_iconst (v := 0) hx hb dX3_readCommand_165 (by decide) ?_
          obtain rfl := Option.some.inj hf
          exact kr_z (V := bI false) hx hb hr hlocks (bI_nar _) rfl hP hK hD hN hS hS.2.2 dX3_readCommand_166
        · have hf := ip_ (bI_n0 h_18) hf
          refine lv_iconst (v := 1) hx hb dX3_readCommand_161 (by decide) ?_
          refine lv_goto (tgt := 166) hx hb dX3_readCommand_162 (by decide) ?_
          obtain rfl := Option.some.inj hf
          exact kr_z (V := bI true) hx hb hr hlocks (bI_nar _) rfl hP hK hD hN hS hS.2.2 dX3_readCommand_166
    have hf := in_ h_14 hf
    by_cases h_19 : (ich r_2) = 116
    · have hf := ip_ h_19 hf
      refine lv_tableIn (tgt := 220) (off := 189) hx hb dX3_readCommand_31 (by show ¬ (ich r_2).toInt < 98; rw [h_19]; decide) (by show ¬ 116 < (ich r_2).toInt; rw [h_19]; decide) (by show (#[136, 241, 241, 241, 89, 241, 241, 241, 241, 241, 241, 241, 222, 241, 241, 241, 171, 104, 189] : Array Int)[((ich r_2).toInt - 98).toNat]? = some 189; rw [h_19]; rfl) (by decide) ?_
      refine lv_aload_n hx hb dX3_readCommand_220 rfl (lv_at hl 0 rfl) ?_
      refine lv_dup hx hb dX3_readCommand_221 rfl ?_
      refine va_get (D := G) (ci := 3) (v := .int (t_place s_0)) (C := RX3) (T := TX3) (N := 6) hx hb hts iw_X3_readCommand_X3 hown hK hP 0 rfl rfl 5 (by decide) (hts (.fieldLink RX3 23 "PaneFrost$Text" "place" "I") (by decide +kernel)) (fun _ h9 => h9) rfl dX3_readCommand_222 ?_
      refine lv_iconst (v := 1) hx hb dX3_readCommand_225 (by decide) ?_
      refine lv_iadd hx hb dX3_readCommand_226 ?_
      refine va_put (D := G) (ci := 3) (v := .int ((t_place s_0) + 1)) (ty := .int) (C := RX3) (T := TX3) (N := 6) hx hb hts iw_X3_readCommand_X3 tyX3 tyX3_ok nmX3 hown hK hP hD hS 0 rfl rfl 5 (by decide) (hts (.fieldLink RX3 23 "PaneFrost$Text" "place" "I") (by decide +kernel)) (fun _ h9 => h9) rfl (by decide +kernel) rfl rfl (Nat.le_of_ble_eq_true rfl) dX3_readCommand_227 (fun H locs hP hD hS => ?_)
      have hP : va_P G vwCl [(a_0, tv a_signs ((ich r_2), t_first s_0, 0, t_length s_0, ((t_place s_0) + 1))), (a_signs, av_C cy 120 g_signs)] H := hP
      have hD : va_D A [(a_0, tv a_signs ((ich r_2), t_first s_0, 0, t_length s_0, ((t_place s_0) + 1))), (a_signs, av_C cy 120 g_signs)] := hD
      refine lv_aload_n hx hb dX3_readCommand_230 rfl (lv_at hl 0 rfl) ?_
      obtain ⟨r_20, hh_r_20, hf⟩ := obd_some hf
      refine kc_i (w1 := [(a_0, tv a_signs r_20.2), (a_signs, av_C cy 120 g_signs)]) (wr := []) hP hD hS hA [0, 1] [] rfl rfl rfl (by decide) (va_runV (As := []) (rest := []) ⟨hx, hb, hml, hown, hts⟩ (c_X3_readCell (l := l) G cy a_0 a_signs H.size ((ich r_2), t_first s_0, 0, t_length s_0, ((t_place s_0) + 1)) g_signs n r_20 hh_r_20) (cwV 0 hts gX3_readCommand_X3_readCell rfl rfl rfl ddV_X3_readCell ⟨Nat.le_of_ble_eq_true rfl, Nat.le_of_ble_eq_true rfl⟩) (preV_ (ci := 3) (q0 := 0) rfl rfl hP hK hD hN) rfl rfl hl.1 rfl (lv_room (Nat.le_of_ble_eq_true rfl)) dX3_readCommand_231 ⟨Nat.le_of_ble_eq_true rfl, Nat.le_of_ble_eq_true rfl⟩) (fun H locs hP hD hS => ?_)
      have hP : va_P G vwCl [(a_0, tv a_signs r_20.2), (a_signs, av_C cy 120 g_signs)] H := hP
      have hD : va_D A [(a_0, tv a_signs r_20.2), (a_signs, av_C cy 120 g_signs)] := hD
      refine lv_if_eq (tgt := 251) hx hb dX3_readCommand_234 (by decide) (fun h_21 => ?_) (fun h_21 => ?_)
      · have hf := in_ (bI_0 h_21) hf
        refine lv_iconst (v := 0) hx hb dX3_readCommand_251 (by decide) ?_
        obtain rfl := Option.some.inj hf
        exact kr_z (V := bI false) hx hb hr hlocks (bI_nar _) rfl hP hK hD hN hS hS.2.2 dX3_readCommand_252
      · have hf := ip_ (bI_n0 h_21) hf
        refine lv_aload_n hx hb dX3_readCommand_237 rfl (lv_at hl 0 rfl) ?_
        refine lv_iconst (v := 0) hx hb dX3_readCommand_238 (by decide) ?_
        refine lv_bipush (v := 9) hx hb dX3_readCommand_239 (by decide) ?_
        obtain ⟨r_22, hh_r_22, hf⟩ := obd_some hf
        refine kc_i (w1 := [(a_0, tv a_signs r_22.2), (a_signs, av_C cy 120 g_signs)]) (wr := []) hP hD hS hA [0, 1] [] rfl rfl rfl (by decide) (va_runV (As := [.int 0, .int 9]) (rest := []) ⟨hx, hb, hml, hown, hts⟩ (c_X3_readSecond (l := l) G cy a_0 a_signs H.size r_20.2 g_signs 0 9 n r_22 hh_r_22) (cwV 2 hts gX3_readCommand_X3_readSecond rfl rfl rfl ddV_X3_readSecond ⟨Nat.le_of_ble_eq_true rfl, Nat.le_of_ble_eq_true rfl⟩) (preV_ (ci := 3) (q0 := 0) rfl rfl hP hK hD hN) rfl rfl hl.1 rfl (lv_room (Nat.le_of_ble_eq_true rfl)) dX3_readCommand_241 ⟨Nat.le_of_ble_eq_true rfl, Nat.le_of_ble_eq_true rfl⟩) (fun H locs hP hD hS => ?_)
        have hP : va_P G vwCl [(a_0, tv a_signs r_22.2), (a_signs, av_C cy 120 g_signs)] H := hP
        have hD : va_D A [(a_0, tv a_signs r_22.2), (a_signs, av_C cy 120 g_signs)] := hD
        refine lv_if_eq (tgt := 251) hx hb dX3_readCommand_244 (by decide) (fun h_23 => ?_) (fun h_23 => ?_)
        · have hf := in_ (bI_0 h_23) hf
          refine lv_iconst (v := 0) hx hb dX3_readCommand_251 (by decide) ?_
          obtain rfl := Option.some.inj hf
          exact kr_z (V := bI false) hx hb hr hlocks (bI_nar _) rfl hP hK hD hN hS hS.2.2 dX3_readCommand_252
        · have hf := ip_ (bI_n0 h_23) hf
          refine lv_iconst (v := 1) hx hb dX3_readCommand_247 (by decide) ?_
          refine lv_goto (tgt := 252) hx hb dX3_readCommand_248 (by decide) ?_
          obtain rfl := Option.some.inj hf
          exact kr_z (V := bI true) hx hb hr hlocks (bI_nar _) rfl hP hK hD hN hS hS.2.2 dX3_readCommand_252
    have hf := in_ h_19 hf
    have th_3 : ¬ (ich r_2).toInt = 98 := fun q => h_3 (Int32.toInt_inj.mp (q.trans (by decide)))
    have th_8 : ¬ (ich r_2).toInt = 102 := fun q => h_8 (Int32.toInt_inj.mp (q.trans (by decide)))
    have th_10 : ¬ (ich r_2).toInt = 110 := fun q => h_10 (Int32.toInt_inj.mp (q.trans (by decide)))
    have th_12 : ¬ (ich r_2).toInt = 114 := fun q => h_12 (Int32.toInt_inj.mp (q.trans (by decide)))
    have th_14 : ¬ (ich r_2).toInt = 115 := fun q => h_14 (Int32.toInt_inj.mp (q.trans (by decide)))
    have th_19 : ¬ (ich r_2).toInt = 116 := fun q => h_19 (Int32.toInt_inj.mp (q.trans (by decide)))
    have hdf : ((ich r_2).toInt < 98 ∨ 116 < (ich r_2).toInt) ∨ (ich r_2).toInt = 99 ∨ (ich r_2).toInt = 100 ∨ (ich r_2).toInt = 101 ∨ (ich r_2).toInt = 103 ∨ (ich r_2).toInt = 104 ∨ (ich r_2).toInt = 105 ∨ (ich r_2).toInt = 106 ∨ (ich r_2).toInt = 107 ∨ (ich r_2).toInt = 108 ∨ (ich r_2).toInt = 109 ∨ (ich r_2).toInt = 111 ∨ (ich r_2).toInt = 112 ∨ (ich r_2).toInt = 113 := by omega
    refine lv_tableD (tgt := 272) hx hb dX3_readCommand_31 (by rcases hdf with (g | g) | g | g | g | g | g | g | g | g | g | g | g | g | g; exact Or.inl (Or.inl g); exact Or.inl (Or.inr g); exact Or.inr (by show (#[136, 241, 241, 241, 89, 241, 241, 241, 241, 241, 241, 241, 222, 241, 241, 241, 171, 104, 189] : Array Int)[((ich r_2).toInt - 98).toNat]? = some 241; rw [g]; rfl); exact Or.inr (by show (#[136, 241, 241, 241, 89, 241, 241, 241, 241, 241, 241, 241, 222, 241, 241, 241, 171, 104, 189] : Array Int)[((ich r_2).toInt - 98).toNat]? = some 241; rw [g]; rfl); exact Or.inr (by show (#[136, 241, 241, 241, 89, 241, 241, 241, 241, 241, 241, 241, 222, 241, 241, 241, 171, 104, 189] : Array Int)[((ich r_2).toInt - 98).toNat]? = some 241; rw [g]; rfl); exact Or.inr (by show (#[136, 241, 241, 241, 89, 241, 241, 241, 241, 241, 241, 241, 222, 241, 241, 241, 171, 104, 189] : Array Int)[((ich r_2).toInt - 98).toNat]? = some 241; rw [g]; rfl); exact Or.inr (by show (#[136, 241, 241, 241, 89, 241, 241, 241, 241, 241, 241, 241, 222, 241, 241, 241, 171, 104, 189] : Array Int)[((ich r_2).toInt - 98).toNat]? = some 241; rw [g]; rfl); exact Or.inr (by show (#[136, 241, 241, 241, 89, 241, 241, 241, 241, 241, 241, 241, 222, 241, 241, 241, 171, 104, 189] : Array Int)[((ich r_2).toInt - 98).toNat]? = some 241; rw [g]; rfl); exact Or.inr (by show (#[136, 241, 241, 241, 89, 241, 241, 241, 241, 241, 241, 241, 222, 241, 241, 241, 171, 104, 189] : Array Int)[((ich r_2).toInt - 98).toNat]? = some 241; rw [g]; rfl); exact Or.inr (by show (#[136, 241, 241, 241, 89, 241, 241, 241, 241, 241, 241, 241, 222, 241, 241, 241, 171, 104, 189] : Array Int)[((ich r_2).toInt - 98).toNat]? = some 241; rw [g]; rfl); exact Or.inr (by show (#[136, 241, 241, 241, 89, 241, 241, 241, 241, 241, 241, 241, 222, 241, 241, 241, 171, 104, 189] : Array Int)[((ich r_2).toInt - 98).toNat]? = some 241; rw [g]; rfl); exact Or.inr (by show (#[136, 241, 241, 241, 89, 241, 241, 241, 241, 241, 241, 241, 222, 241, 241, 241, 171, 104, 189] : Array Int)[((ich r_2).toInt - 98).toNat]? = some 241; rw [g]; rfl); exact Or.inr (by show (#[136, 241, 241, 241, 89, 241, 241, 241, 241, 241, 241, 241, 222, 241, 241, 241, 171, 104, 189] : Array Int)[((ich r_2).toInt - 98).toNat]? = some 241; rw [g]; rfl); exact Or.inr (by show (#[136, 241, 241, 241, 89, 241, 241, 241, 241, 241, 241, 241, 222, 241, 241, 241, 171, 104, 189] : Array Int)[((ich r_2).toInt - 98).toNat]? = some 241; rw [g]; rfl); exact Or.inr (by show (#[136, 241, 241, 241, 89, 241, 241, 241, 241, 241, 241, 241, 222, 241, 241, 241, 171, 104, 189] : Array Int)[((ich r_2).toInt - 98).toNat]? = some 241; rw [g]; rfl)) (by decide) ?_
    refine lv_iconst (v := 0) hx hb dX3_readCommand_272 (by decide) ?_
    obtain rfl := Option.some.inj hf
    exact kr_z (V := bI false) hx hb hr hlocks (bI_nar _) rfl hP hK hD hN hS hS.2.2 dX3_readCommand_273
  · have hf := in_ h_1 hf
    refine lv_iconst (v := 0) hx hb dX3_readCommand_11 (by decide) ?_
    obtain rfl := Option.some.inj hf
    exact kr_z (V := bI false) hx hb hr hlocks (bI_nar _) rfl hP hK hD hN hS hS.2.2 dX3_readCommand_12
set_option maxHeartbeats 4000000 in
set_option maxRecDepth 100000 in
theorem c_X3_firstError {l : Launch} (G : va_G) (cy : Nat → ClassId) (a_0 : Nat) (a_signs : Nat) (sz : Nat) (s_0 : TT) (g_signs : Nat → Int32) (n : Nat) (R : Int32 × TT) (hf : f_X3_firstError n s_0 g_signs = some R) : Met l yX3_firstError wsX3_firstError ({ frames := 5, cells := 0, slots := 0, locals := 110 } : Room) (va_Pc [.ref a_0] (pcW G cy [(a_0, tv a_signs s_0), (a_signs, av_C cy 120 g_signs)] sz)) (va_Qi (fun r (_ : Unit) => r = R.1) (fun _ t => Wd G cy (va_A [(a_0, tv a_signs s_0), (a_signs, av_C cy 120 g_signs)] sz) [(a_0, tv a_signs R.2), (a_signs, av_C cy 120 g_signs)] t) (va_A [(a_0, tv a_signs s_0), (a_signs, av_C cy 120 g_signs)] sz)) 0 0 (va_A [(a_0, tv a_signs s_0), (a_signs, av_C cy 120 g_signs)] sz) := by
  refine Met.ofW (cc := cX3_firstError) (maxL := 2) (ret := (some .int)) (by decide) rfl ?_
  intro p e s m args below meth c s₁ B hml hv
  obtain ⟨rfl, hsz, hP, hK, hD0, hN⟩ := hv
  have hx := B.exec
  have hb := B.bytes
  have hr := B.returns
  have hts := atoms_spec (ws := wsX3_firstError) B.pre
  have hown : s.vm.findClass RX3 = some m.cls := findClass_of_methodNamed B.named
  have hlocks := B.notSynchronized
  subst hsz
  have hD := hD0.self (sz := s.heap.size)
  generalize hAe : va_A [(a_0, tv a_signs s_0), (a_signs, av_C cy 120 g_signs)] s.heap.size = A at hD ⊢
  have hA : ∀ q : Nat, s.heap.size ≤ q → A q := fun q h => by rw [← hAe]; exact Or.inr h
  have hS : va_S A s.heap s.heap [] := va_S.rf
  have hP : va_P G vwCl [(a_0, tv a_signs s_0), (a_signs, av_C cy 120 g_signs)] s.heap := hP
  have bl_14 : ∀ (k : Nat), ∀ (c_s_0 : TT) (y1 : Int32) (H : Heap) (locs : List Loc), f_X3_firstError_b14 n g_signs k c_s_0 y1 = some R → va_P G vwCl [(a_0, tv a_signs c_s_0), (a_signs, av_C cy 120 g_signs)] H → va_D A [(a_0, tv a_signs c_s_0), (a_signs, av_C cy 120 g_signs)] → va_S A s.heap H locs → ∀ (ls : Array Slot), lv_has ls 2 [(0, .ref a_0), (1, .int y1)] → W p l e ({ frames := 5, cells := 0, slots := 0, locals := 110 } : Room) s m [.ref a_0].toArray below meth c H locs 0 0 (MQ below (va_Qi (fun r (_ : Unit) => r = R.1) (fun _ t => Wd G cy A [(a_0, tv a_signs R.2), (a_signs, av_C cy 120 g_signs)] t) A) [.ref a_0].toArray s 0 0 A) (F0 m 14 ls []) := by
    intro k
    induction k with
    | zero =>
      intro c_s_0 y1 H locs hf; cases hf
    | succ k ih =>
      intro c_s_0 y1 H locs hf hP hD hS ls hl
      have hf := (f_X3_firstError_b14_s n g_signs k c_s_0 y1).symm.trans hf
      refine lv_iload_n hx hb dX3_firstError_14 rfl (lv_at hl 1 rfl) ?_
      refine lv_bipush (v := 120) hx hb dX3_firstError_15 (by decide) ?_
      refine lv_icmp_ge (tgt := 49) hx hb dX3_firstError_17 (by decide) (fun h_1 => ?_) (fun h_1 => ?_)
      · have hf := ip_ h_1 hf
        refine lv_iconst (v := (-1)) hx hb dX3_firstError_49 (by decide) ?_
        obtain rfl := Option.some.inj hf
        exact kr_i hx hb hr hlocks rfl hP hK hD hN hS hS.2.2 dX3_firstError_50
      · have hf := in_ h_1 hf
        refine lv_aload_n hx hb dX3_firstError_20 rfl (lv_at hl 0 rfl) ?_
        refine va_get (D := G) (ci := 3) (v := .int (t_place c_s_0)) (C := RX3) (T := TX3) (N := 6) hx hb hts iw_X3_firstError_X3 hown hK hP 0 rfl rfl 5 (by decide) (hts (.fieldLink RX3 23 "PaneFrost$Text" "place" "I") (by decide +kernel)) (fun _ h9 => h9) rfl dX3_firstError_21 ?_
        refine lv_aload_n hx hb dX3_firstError_24 rfl (lv_at hl 0 rfl) ?_
        refine va_get (D := G) (ci := 3) (v := .int (t_length c_s_0)) (C := RX3) (T := TX3) (N := 6) hx hb hts iw_X3_firstError_X3 hown hK hP 0 rfl rfl 4 (by decide) (hts (.fieldLink RX3 15 "PaneFrost$Text" "length" "I") (by decide +kernel)) (fun _ h9 => h9) rfl dX3_firstError_25 ?_
        refine lv_icmp_ge (tgt := 49) hx hb dX3_firstError_28 (by decide) (fun h_2 => ?_) (fun h_2 => ?_)
        · have hf := ip_ h_2 hf
          refine lv_iconst (v := (-1)) hx hb dX3_firstError_49 (by decide) ?_
          obtain rfl := Option.some.inj hf
          exact kr_i hx hb hr hlocks rfl hP hK hD hN hS hS.2.2 dX3_firstError_50
        · have hf := in_ h_2 hf
          refine lv_aload_n hx hb dX3_firstError_31 rfl (lv_at hl 0 rfl) ?_
          obtain ⟨r_3, hh_r_3, hf⟩ := obd_some hf
          refine kc_i (w1 := [(a_0, tv a_signs r_3.2), (a_signs, av_C cy 120 g_signs)]) (wr := []) hP hD hS hA [0, 1] [] rfl rfl rfl (by decide) (va_runV (As := []) (rest := []) ⟨hx, hb, hml, hown, hts⟩ (c_X3_readCommand (l := l) G cy a_0 a_signs H.size c_s_0 g_signs n r_3 hh_r_3) (cwV 0 hts gX3_firstError_X3_readCommand rfl rfl rfl ddV_X3_readCommand ⟨Nat.le_of_ble_eq_true rfl, Nat.le_of_ble_eq_true rfl⟩) (preV_ (ci := 3) (q0 := 0) rfl rfl hP hK hD hN) rfl rfl hl.1 rfl (lv_room (Nat.le_of_ble_eq_true rfl)) dX3_firstError_32 ⟨Nat.le_of_ble_eq_true rfl, Nat.le_of_ble_eq_true rfl⟩) (fun H locs hP hD hS => ?_)
          have hP : va_P G vwCl [(a_0, tv a_signs r_3.2), (a_signs, av_C cy 120 g_signs)] H := hP
          have hD : va_D A [(a_0, tv a_signs r_3.2), (a_signs, av_C cy 120 g_signs)] := hD
          refine lv_if_ne (tgt := 43) hx hb dX3_firstError_35 (by decide) (fun h_4 => ?_) (fun h_4 => ?_)
          · have hf := ip_ (bI_n0 h_4) hf
            refine lv_iinc (v := (y1 + 1)) (lv' := [(1, .int (y1 + 1)), (0, .ref a_0)]) hx hb dX3_firstError_43 hl (k := 1) rfl rfl (by decide) rfl (fun ls hl => ?_)
            refine lv_goto (tgt := 14) hx hb dX3_firstError_46 (by decide) ?_
            exact ih r_3.2 (y1 + 1) _ _ hf hP hD hS ls (lv_sub hl [1, 0] rfl)
          · have hf := in_ (bI_0 h_4) hf
            refine lv_aload_n hx hb dX3_firstError_38 rfl (lv_at hl 0 rfl) ?_
            refine va_get (D := G) (ci := 3) (v := .int (t_place r_3.2)) (C := RX3) (T := TX3) (N := 6) hx hb hts iw_X3_firstError_X3 hown hK hP 0 rfl rfl 5 (by decide) (hts (.fieldLink RX3 23 "PaneFrost$Text" "place" "I") (by decide +kernel)) (fun _ h9 => h9) rfl dX3_firstError_39 ?_
            obtain rfl := Option.some.inj hf
            exact kr_i hx hb hr hlocks rfl hP hK hD hN hS hS.2.2 dX3_firstError_42
  have hl := lv_entry [.ref a_0] (n := 2) (Nat.le_of_ble_eq_true rfl)
  rw [lg_entry_eq]
  generalize (lg_sl [.ref a_0] ++ List.replicate (2 - (lg_sl [.ref a_0]).length) Slot.unset).toArray = ls at hl ⊢
  have hl : lv_has ls 2 [(0, .ref a_0)] := hl
  unfold f_X3_firstError at hf
  refine lv_aload_n hx hb dX3_firstError_0 rfl (lv_at hl 0 rfl) ?_
  obtain ⟨r_5, hh_r_5, hf⟩ := obd_some hf
  refine kc_i (w1 := [(a_0, tv a_signs r_5.2), (a_signs, av_C cy 120 g_signs)]) (wr := []) hP hD hS hA [0, 1] [] rfl rfl rfl (by decide) (va_runV (As := []) (rest := []) ⟨hx, hb, hml, hown, hts⟩ (c_X3_readWindow (l := l) G cy a_0 a_signs s.heap.size s_0 g_signs n r_5 hh_r_5) (cwV 0 hts gX3_firstError_X3_readWindow rfl rfl rfl ddV_X3_readWindow ⟨Nat.le_of_ble_eq_true rfl, Nat.le_of_ble_eq_true rfl⟩) (preV_ (ci := 3) (q0 := 0) rfl rfl hP hK hD hN) rfl rfl hl.1 rfl (lv_room (Nat.le_of_ble_eq_true rfl)) dX3_firstError_1 ⟨Nat.le_of_ble_eq_true rfl, Nat.le_of_ble_eq_true rfl⟩) (fun H locs hP hD hS => ?_)
  have hP : va_P G vwCl [(a_0, tv a_signs r_5.2), (a_signs, av_C cy 120 g_signs)] H := hP
  have hD : va_D A [(a_0, tv a_signs r_5.2), (a_signs, av_C cy 120 g_signs)] := hD
  refine lv_if_ne (tgt := 12) hx hb dX3_firstError_4 (by decide) (fun h_6 => ?_) (fun h_6 => ?_)
  · have hf := ip_ (bI_n0 h_6) hf
    refine lv_iconst (v := 0) hx hb dX3_firstError_12 (by decide) ?_
    refine lv_istore_n (lv' := [(1, .int 0), (0, .ref a_0)]) hx hb dX3_firstError_13 rfl hl (by decide) rfl (fun ls hl => ?_)
    exact bl_14 n r_5.2 0 _ _ hf hP hD hS ls (lv_sub hl [1, 0] rfl)
  · have hf := in_ (bI_0 h_6) hf
    refine lv_aload_n hx hb dX3_firstError_7 rfl (lv_at hl 0 rfl) ?_
    refine va_get (D := G) (ci := 3) (v := .int (t_place r_5.2)) (C := RX3) (T := TX3) (N := 6) hx hb hts iw_X3_firstError_X3 hown hK hP 0 rfl rfl 5 (by decide) (hts (.fieldLink RX3 23 "PaneFrost$Text" "place" "I") (by decide +kernel)) (fun _ h9 => h9) rfl dX3_firstError_8 ?_
    obtain rfl := Option.some.inj hf
    exact kr_i hx hb hr hlocks rfl hP hK hD hN hS hS.2.2 dX3_firstError_11
set_option maxHeartbeats 4000000 in
set_option maxRecDepth 100000 in
theorem c_X1_forget {l : Launch} (G : va_G) (cy : Nat → ClassId) (a_0 : Nat) (a_kept : Nat) (sz : Nat) (s_0 : PT)  (R : PT) (hf : f_X1_forget s_0 = R) : Met l yX1_forget wsX1_forget ({ frames := 0, cells := 0, slots := 0, locals := 0 } : Room) (va_Pc [.ref a_0] (pcW G cy [(a_0, pv a_kept s_0)] sz)) (va_Qv (fun _ : Unit => True) (fun _ t => Wd G cy (va_A [(a_0, pv a_kept s_0)] sz) [(a_0, pv a_kept R)] t) (va_A [(a_0, pv a_kept s_0)] sz)) 0 0 (va_A [(a_0, pv a_kept s_0)] sz) := by
  refine Met.ofW (cc := cX1_forget) (maxL := 1) (ret := none) (by decide) rfl ?_
  intro p e s m args below meth c s₁ B hml hv
  obtain ⟨rfl, hsz, hP, hK, hD0, hN⟩ := hv
  have hx := B.exec
  have hb := B.bytes
  have hr := B.returns
  have hts := atoms_spec (ws := wsX1_forget) B.pre
  have hown : s.vm.findClass RX1 = some m.cls := findClass_of_methodNamed B.named
  have hlocks := B.notSynchronized
  subst hsz
  have hD := hD0.self (sz := s.heap.size)
  generalize hAe : va_A [(a_0, pv a_kept s_0)] s.heap.size = A at hD ⊢
  have hA : ∀ q : Nat, s.heap.size ≤ q → A q := fun q h => by rw [← hAe]; exact Or.inr h
  have hS : va_S A s.heap s.heap [] := va_S.rf
  have hP : va_P G vwCl [(a_0, pv a_kept s_0)] s.heap := hP
  have hl := lv_entry [.ref a_0] (n := 1) (Nat.le_of_ble_eq_true rfl)
  rw [lg_entry_eq]
  generalize (lg_sl [.ref a_0] ++ List.replicate (1 - (lg_sl [.ref a_0]).length) Slot.unset).toArray = ls at hl ⊢
  have hl : lv_has ls 1 [(0, .ref a_0)] := hl
  unfold f_X1_forget at hf
  refine lv_aload_n hx hb dX1_forget_0 rfl (lv_at hl 0 rfl) ?_
  refine lv_iconst (v := 0) hx hb dX1_forget_1 (by decide) ?_
  refine va_put (D := G) (ci := 1) (v := .int 0) (ty := .int) (C := RX1) (T := TX1) (N := 3) hx hb hts iw_X1_forget_X1 tyX1 tyX1_ok nmX1 hown hK hP hD hS 0 rfl rfl 0 (by decide) (hts (.fieldLink RX1 18 "PaneFrost$Past" "count" "I") (by decide +kernel)) (fun _ h9 => h9) rfl (by decide +kernel) rfl rfl (Nat.le_of_ble_eq_true rfl) dX1_forget_2 (fun H locs hP hD hS => ?_)
  have hP : va_P G vwCl [(a_0, pv a_kept (0, p_newest s_0))] H := hP
  have hD : va_D A [(a_0, pv a_kept (0, p_newest s_0))] := hD
  subst hf
  exact kr_v hx hb hr hlocks hP hK hD hN hS hS.2.2 dX1_forget_5
