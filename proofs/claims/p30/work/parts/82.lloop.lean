/-! the law's loop -/
theorem ddN_L_act : yL_act.cls ≠ "java/lang/invoke/MethodHandle" ∧ yL_act.cls ≠ "java/lang/invoke/VarHandle" ∧ (parseMethodDescriptor yL_act.desc).map (fun d => d.parameters.length) = some 2 := by decide +kernel
theorem ddV_L_act : yL_act.cls = RL ∧ yL_act.cls ≠ "java/lang/invoke/MethodHandle" ∧ yL_act.cls ≠ "java/lang/invoke/VarHandle" ∧ (parseMethodDescriptor yL_act.desc).map (fun d => d.parameters.length) = some 2 := by decide +kernel
theorem ddN_L_alike : yL_alike.cls ≠ "java/lang/invoke/MethodHandle" ∧ yL_alike.cls ≠ "java/lang/invoke/VarHandle" ∧ (parseMethodDescriptor yL_alike.desc).map (fun d => d.parameters.length) = some 3 := by decide +kernel
theorem ddV_L_alike : yL_alike.cls = RL ∧ yL_alike.cls ≠ "java/lang/invoke/MethodHandle" ∧ yL_alike.cls ≠ "java/lang/invoke/VarHandle" ∧ (parseMethodDescriptor yL_alike.desc).map (fun d => d.parameters.length) = some 3 := by decide +kernel
theorem ddN_L_cell : yL_cell.cls ≠ "java/lang/invoke/MethodHandle" ∧ yL_cell.cls ≠ "java/lang/invoke/VarHandle" ∧ (parseMethodDescriptor yL_cell.desc).map (fun d => d.parameters.length) = some 2 := by decide +kernel
theorem ddV_L_cell : yL_cell.cls = RL ∧ yL_cell.cls ≠ "java/lang/invoke/MethodHandle" ∧ yL_cell.cls ≠ "java/lang/invoke/VarHandle" ∧ (parseMethodDescriptor yL_cell.desc).map (fun d => d.parameters.length) = some 2 := by decide +kernel
theorem ddN_L_holds : yL_holds.cls ≠ "java/lang/invoke/MethodHandle" ∧ yL_holds.cls ≠ "java/lang/invoke/VarHandle" ∧ (parseMethodDescriptor yL_holds.desc).map (fun d => d.parameters.length) = some 1 := by decide +kernel
theorem ddV_L_holds : yL_holds.cls = RL ∧ yL_holds.cls ≠ "java/lang/invoke/MethodHandle" ∧ yL_holds.cls ≠ "java/lang/invoke/VarHandle" ∧ (parseMethodDescriptor yL_holds.desc).map (fun d => d.parameters.length) = some 1 := by decide +kernel
theorem ddN_L_nights : yL_nights.cls ≠ "java/lang/invoke/MethodHandle" ∧ yL_nights.cls ≠ "java/lang/invoke/VarHandle" ∧ (parseMethodDescriptor yL_nights.desc).map (fun d => d.parameters.length) = some 3 := by decide +kernel
theorem ddV_L_nights : yL_nights.cls = RL ∧ yL_nights.cls ≠ "java/lang/invoke/MethodHandle" ∧ yL_nights.cls ≠ "java/lang/invoke/VarHandle" ∧ (parseMethodDescriptor yL_nights.desc).map (fun d => d.parameters.length) = some 3 := by decide +kernel
theorem ddN_L_refuses : yL_refuses.cls ≠ "java/lang/invoke/MethodHandle" ∧ yL_refuses.cls ≠ "java/lang/invoke/VarHandle" ∧ (parseMethodDescriptor yL_refuses.desc).map (fun d => d.parameters.length) = some 2 := by decide +kernel
theorem ddV_L_refuses : yL_refuses.cls = RL ∧ yL_refuses.cls ≠ "java/lang/invoke/MethodHandle" ∧ yL_refuses.cls ≠ "java/lang/invoke/VarHandle" ∧ (parseMethodDescriptor yL_refuses.desc).map (fun d => d.parameters.length) = some 2 := by decide +kernel
theorem ddN_L_scratches : yL_scratches.cls ≠ "java/lang/invoke/MethodHandle" ∧ yL_scratches.cls ≠ "java/lang/invoke/VarHandle" ∧ (parseMethodDescriptor yL_scratches.desc).map (fun d => d.parameters.length) = some 3 := by decide +kernel
theorem ddV_L_scratches : yL_scratches.cls = RL ∧ yL_scratches.cls ≠ "java/lang/invoke/MethodHandle" ∧ yL_scratches.cls ≠ "java/lang/invoke/VarHandle" ∧ (parseMethodDescriptor yL_scratches.desc).map (fun d => d.parameters.length) = some 3 := by decide +kernel
theorem xX {b L : Nat} {xs : Nat → Int32} {s : State} {H : Heap} {locs : List Loc} {A : Nat → Prop} (hX : va_X b L xs s s.heap) (hbl : b < s.heap.size) (hbA : ¬ A b) (hS : va_S A s.heap H locs) : va_X b L xs s H := by
  obtain ⟨scr, h1, h2⟩ := hX
  exact ⟨scr, by rw [hS.2.1 b hbl hbA]; exact h1, h2⟩
set_option maxHeartbeats 4000000 in
set_option maxRecDepth 100000 in
theorem law_loop {p : Program} {l : Launch} {e : Env} {s : State} {m : MethodId} {below : List Frame} {meth : Method} {c : Code} {G : va_G} {cy : Nat → ClassId} {b L : Nat} {xs : Nat → Int32} (hfl : l.stackTraces = false) (C0 : lw_At p s m meth c b L xs) (hL : L ≤ 260) (hK : va_K G vwCl (tyL cy) s) (hN : NW s) (hE : EN (fun q : Nat => s.heap.size ≤ q) s s.heap) (hXN : XN s) (b_0 bk_0 b_1 bk_1 : Nat → Nat) {n : Nat} (hn : 1000 ≤ n) {T : Nat} (hT : T ≤ 26) : ∀ (r K : Nat), K + r = T → ∀ (o_0 o_1 : OT) (v : VT), VV v → vis o_0 = v → vis o_1 = v → ∀ (H : Heap) (locs : List Loc) (cc : Nat), cc + r * 8169 ≤ 700000 → va_P G vwCl (oW cy b_0 bk_0 o_0 ++ oW cy b_1 bk_1 o_1) H → va_D (fun q : Nat => s.heap.size ≤ q) (oW cy b_0 bk_0 o_0 ++ oW cy b_1 bk_1 o_1) → va_S (fun q : Nat => s.heap.size ≤ q) s.heap H locs → ∀ (ls : Array Slot), lv_has ls 8 [(5, .int (nI K)), (4, .int 1), (3, .int (nI T)), (2, .ref (b_1 0)), (1, .ref (b_0 0)), (0, .ref b)] → W p l e room_1 s m #[Value.ref b] below meth c H locs cc (6 * cc) (lw_Z below #[Value.ref b] s) (F0 m 34 ls []) := by
  obtain ⟨hx, hb, hr, hml, hown, htt, hX, hbl, hlocks, hgv⟩ := C0
  have hb : c.code = cL_law := hb
  have hA : ∀ q : Nat, s.heap.size ≤ q → (fun q : Nat => s.heap.size ≤ q) q := fun _ h => h
  have hbA : ¬ (fun q : Nat => s.heap.size ≤ q) b := Nat.not_le.mpr hbl
  intro r
  induction r with
  | zero =>
    intro K hK0 o_0 o_1 v V ho hq H locs cc hcc hP hD hS ls hl
    refine lv_iload hx hb dL_law_34 (lv_at hl 0 rfl) ?_
    refine lv_iload_n hx hb dL_law_36 rfl (lv_at hl 2 rfl) ?_
    refine lv_icmp_ge (tgt := 183) hx hb dL_law_37 (by decide) (fun h_1 => ?_) (fun h_1 => ?_)
    · refine lv_iload hx hb dL_law_183 (lv_at hl 1 rfl) ?_
      refine va_forget (fun q hq => hS.2.2 q hq) ?_
      refine W.widen (k := 730771) (n := 6909156) (by omega) (by omega) ?_
      exact lw_ret hx hb hr hlocks dL_law_185
    · exact absurd (nI_le (by omega) (by omega)) h_1
  | succ r ih =>
    intro K hK0 o_0 o_1 v V ho hq H locs cc hcc hP hD hS ls hl
    refine lv_iload hx hb dL_law_34 (lv_at hl 0 rfl) ?_
    refine lv_iload_n hx hb dL_law_36 rfl (lv_at hl 2 rfl) ?_
    refine lv_icmp_ge (tgt := 183) hx hb dL_law_37 (by decide) (fun h_1 => ?_) (fun h_1 => ?_)
    · exact absurd h_1 (nI_ge (by omega) (by omega))
    refine lv_iload hx hb dL_law_40 (lv_at hl 1 rfl) ?_
    refine lv_if_eq (tgt := 183) hx hb dL_law_42 (by decide) (fun h_2 => ?_) (fun h_2 => ?_)
    · exact absurd h_2 (by decide)
    refine lv_aload_n hx hb dL_law_45 rfl (lv_at hl 5 rfl) ?_
    refine lv_iconst (v := 1) hx hb dL_law_46 (by decide) ?_
    refine lv_iload hx hb dL_law_47 (lv_at hl 0 rfl) ?_
    refine lv_iadd hx hb dL_law_49 ?_
    rw [show (1 : Int32) + nI K = nI (1 + K) from nI_add 1 K]
    refine kb_i (V := cF L xs (1 + K)) (w1 := []) hS (Jn_0 hP hD hS hA) (va_runS (As := [.ref b, .int (nI (1 + K))]) (rest := []) ⟨hx, hb, hml, hown, htt⟩ (c_L_cell (l := l) G cy hL H.size (1 + K) (by omega)) (va_cwS 2 htt gB_law_L_cell rfl rfl rfl ddN_L_cell ⟨(Nat.le_of_ble_eq_true rfl), (Nat.le_of_ble_eq_true rfl)⟩) (preSC (xX hX hbl hbA hS) hK hN) rfl rfl hl.1 rfl (lv_room (Nat.le_of_ble_eq_true rfl)) dL_law_50 ⟨by show cc + 0 ≤ 730771; omega, by show 6 * cc + 0 ≤ 6909156; omega⟩) (fun H locs hP hD hS => ?_)
    have hP : va_P G vwCl (oW cy b_0 bk_0 o_0 ++ oW cy b_1 bk_1 o_1) H := hP
    have hD : va_D (fun q : Nat => s.heap.size ≤ q) (oW cy b_0 bk_0 o_0 ++ oW cy b_1 bk_1 o_1) := hD
    obtain ⟨X, hX31, eX⟩ := cF_ex L xs (1 + K)
    rw [eX]
    refine lv_istore (lv' := [(6, .int (nI X)), (5, .int (nI K)), (4, .int 1), (3, .int (nI T)), (2, .ref (b_1 0)), (1, .ref (b_0 0)), (0, .ref b)]) hx hb dL_law_53 hl (by decide) rfl (fun ls hl => ?_)
    obtain ⟨ra, v1, V1, hact⟩ := act_ok V hn (nI X)
    refine lv_aload_n hx hb dL_law_55 rfl (lv_at hl 5 rfl) ?_
    refine lv_iload hx hb dL_law_56 (lv_at hl 0 rfl) ?_
    refine kb_i6 (V := (ra, put o_0 v1).1) (w1 := oW cy b_0 bk_0 (put o_0 v1)) hS (Nat.le_of_ble_eq_true rfl) (Jn_l hP hD hS hA) (va_runS (As := [.ref (b_0 0), .int (nI X)]) (rest := []) ⟨hx, hb, hml, hown, htt⟩ (c_L_act (l := l) hfl G cy b_0 bk_0 H.size o_0 (nI X) n (ra, put o_0 v1) (hact o_0 ho)) (va_cwS 2 htt gB_law_L_act rfl rfl rfl ddN_L_act ⟨(Nat.le_of_ble_eq_true rfl), (Nat.le_of_ble_eq_true rfl)⟩) (preSN hXN (hE.kept hS.2.1) (Jn_l hP hD hS hA).1 (P_l hP) hK (D_l hD) hN) rfl rfl hl.1 rfl (lv_room (Nat.le_of_ble_eq_true rfl)) dL_law_58 ⟨by show cc + 12 ≤ 730771; omega, by show 6 * (cc) + 72 ≤ 6909156; omega⟩) (fun H locs hP hD hS => ?_)
    have hP : va_P G vwCl (oW cy b_0 bk_0 (put o_0 v1) ++ oW cy b_1 bk_1 o_1) H := hP
    have hD : va_D (fun q : Nat => s.heap.size ≤ q) (oW cy b_0 bk_0 (put o_0 v1) ++ oW cy b_1 bk_1 o_1) := hD
    refine lv_istore (lv' := [(7, .int ra), (6, .int (nI X)), (5, .int (nI K)), (4, .int 1), (3, .int (nI T)), (2, .ref (b_1 0)), (1, .ref (b_0 0)), (0, .ref b)]) hx hb dL_law_61 hl (by decide) rfl (fun ls hl => ?_)
    obtain ⟨σ, hσ, E⟩ := V.1
    obtain ⟨σ1, hσ1, E1⟩ := V1.1
    have r1 : irm (nI X) 100000 = nI (X % 100000) := irm_nI (d := 100000) hX31 (by omega) (by omega)
    have r2 : irm (nI X) 1000 = nI (X % 1000) := irm_nI (d := 1000) hX31 (by omega) (by omega)
    have r3 : irm (nI X) 5000 = nI (X % 5000) := irm_nI (d := 5000) hX31 (by omega) (by omega)
    have r4 : nI X / 7 = nI (X / 7) := dv (d := 7) hX31 (by omega) (by omega)
    have r5 : nI X / 11 = nI (X / 11) := dv (d := 11) hX31 (by omega) (by omega)
    refine lv_aload_n hx hb dL_law_63 rfl (lv_at hl 5 rfl) ?_
    refine lv_iload hx hb dL_law_64 (lv_at hl 1 rfl) ?_
    refine lv_ldc (v := 100000) hx hb hown (htt (.constant RL 196 (100000)) (by decide +kernel)) dL_law_66 ?_
    refine lv_irem hx hb dL_law_68 (by decide) ?_
    rw [show nI X - nI X / 100000 * 100000 = nI (X % 100000) from r1]
    refine kb_i6 (V := bI (true, o_1).1) (w1 := oW cy b_1 bk_1 o_1) hS (Nat.le_of_ble_eq_true rfl) (Jn_r hP hD hS hA) (va_runS (As := [.ref (b_1 0), .int (nI (X % 100000))]) (rest := []) ⟨hx, hb, hml, hown, htt⟩ (c_L_refuses (l := l) hfl G cy b_1 bk_1 H.size o_1 (nI (X % 100000)) n (true, o_1) (rf_ok (W_of E hq) hσ hn (by omega))) (va_cwS 2 htt gB_law_L_refuses rfl rfl rfl ddN_L_refuses ⟨(Nat.le_of_ble_eq_true rfl), (Nat.le_of_ble_eq_true rfl)⟩) (preSN hXN (hE.kept hS.2.1) (Jn_r hP hD hS hA).1 (P_r hP) hK (D_r hD) hN) rfl rfl hl.1 rfl (lv_room (Nat.le_of_ble_eq_true rfl)) dL_law_69 ⟨by show cc + 12 + 85 ≤ 730771; omega, by show 6 * (cc + 12) + 510 ≤ 6909156; omega⟩) (fun H locs hP hD hS => ?_)
    have hP : va_P G vwCl (oW cy b_0 bk_0 (put o_0 v1) ++ oW cy b_1 bk_1 o_1) H := hP
    have hD : va_D (fun q : Nat => s.heap.size ≤ q) (oW cy b_0 bk_0 (put o_0 v1) ++ oW cy b_1 bk_1 o_1) := hD
    refine lv_if_eq (tgt := 174) hx hb dL_law_72 (by decide) (fun h_9 => ?_) (fun h_9 => ?_)
    · exact absurd h_9 bt0
    refine lv_aload_n hx hb dL_law_75 rfl (lv_at hl 5 rfl) ?_
    refine lv_iload hx hb dL_law_76 (lv_at hl 1 rfl) ?_
    refine kb_i6 (V := (ra, put o_1 v1).1) (w1 := oW cy b_1 bk_1 (put o_1 v1)) hS (Nat.le_of_ble_eq_true rfl) (Jn_r hP hD hS hA) (va_runS (As := [.ref (b_1 0), .int (nI X)]) (rest := []) ⟨hx, hb, hml, hown, htt⟩ (c_L_act (l := l) hfl G cy b_1 bk_1 H.size o_1 (nI X) n (ra, put o_1 v1) (hact o_1 hq)) (va_cwS 2 htt gB_law_L_act rfl rfl rfl ddN_L_act ⟨(Nat.le_of_ble_eq_true rfl), (Nat.le_of_ble_eq_true rfl)⟩) (preSN hXN (hE.kept hS.2.1) (Jn_r hP hD hS hA).1 (P_r hP) hK (D_r hD) hN) rfl rfl hl.1 rfl (lv_room (Nat.le_of_ble_eq_true rfl)) dL_law_78 ⟨by show cc + 97 + 12 ≤ 730771; omega, by show 6 * (cc + 97) + 72 ≤ 6909156; omega⟩) (fun H locs hP hD hS => ?_)
    have hP : va_P G vwCl (oW cy b_0 bk_0 (put o_0 v1) ++ oW cy b_1 bk_1 (put o_1 v1)) H := hP
    have hD : va_D (fun q : Nat => s.heap.size ≤ q) (oW cy b_0 bk_0 (put o_0 v1) ++ oW cy b_1 bk_1 (put o_1 v1)) := hD
    refine lv_iload hx hb dL_law_81 (lv_at hl 0 rfl) ?_
    refine lv_icmp_ne (tgt := 174) hx hb dL_law_83 (by decide) (fun h_3 => ?_) (fun h_3 => ?_)
    · exact absurd rfl h_3
    refine lv_aload_n hx hb dL_law_86 rfl (lv_at hl 5 rfl) ?_
    refine lv_iload hx hb dL_law_87 (lv_at hl 1 rfl) ?_
    refine lv_sipush (v := 1000) hx hb dL_law_89 (by decide) ?_
    refine lv_irem hx hb dL_law_92 (by decide) ?_
    rw [show nI X - nI X / 1000 * 1000 = nI (X % 1000) from r2]
    refine kb_i6 (V := bI (true, put o_1 v1).1) (w1 := oW cy b_1 bk_1 (put o_1 v1)) hS (Nat.le_of_ble_eq_true rfl) (Jn_r hP hD hS hA) (va_runS (As := [.ref (b_1 0), .int (nI (X % 1000))]) (rest := []) ⟨hx, hb, hml, hown, htt⟩ (c_L_refuses (l := l) hfl G cy b_1 bk_1 H.size (put o_1 v1) (nI (X % 1000)) n (true, put o_1 v1) (rf_ok (o := put o_1 v1) E1 hσ1 hn (by omega))) (va_cwS 2 htt gB_law_L_refuses rfl rfl rfl ddN_L_refuses ⟨(Nat.le_of_ble_eq_true rfl), (Nat.le_of_ble_eq_true rfl)⟩) (preSN hXN (hE.kept hS.2.1) (Jn_r hP hD hS hA).1 (P_r hP) hK (D_r hD) hN) rfl rfl hl.1 rfl (lv_room (Nat.le_of_ble_eq_true rfl)) dL_law_93 ⟨by show cc + 109 + 85 ≤ 730771; omega, by show 6 * (cc + 109) + 510 ≤ 6909156; omega⟩) (fun H locs hP hD hS => ?_)
    have hP : va_P G vwCl (oW cy b_0 bk_0 (put o_0 v1) ++ oW cy b_1 bk_1 (put o_1 v1)) H := hP
    have hD : va_D (fun q : Nat => s.heap.size ≤ q) (oW cy b_0 bk_0 (put o_0 v1) ++ oW cy b_1 bk_1 (put o_1 v1)) := hD
    refine lv_if_eq (tgt := 174) hx hb dL_law_96 (by decide) (fun h_9 => ?_) (fun h_9 => ?_)
    · exact absurd h_9 bt0
    obtain ⟨o2, q2, ho2, hq2, eA⟩ := al_ok (v := v1) V1.1 hn (o := put o_0 v1) (q := put o_1 v1) rfl rfl (X := X % 5000) (by omega)
    refine lv_aload_n hx hb dL_law_99 rfl (lv_at hl 6 rfl) ?_
    refine lv_aload_n hx hb dL_law_100 rfl (lv_at hl 5 rfl) ?_
    refine lv_iload hx hb dL_law_101 (lv_at hl 1 rfl) ?_
    refine lv_sipush (v := 5000) hx hb dL_law_103 (by decide) ?_
    refine lv_irem hx hb dL_law_106 (by decide) ?_
    rw [show nI X - nI X / 5000 * 5000 = nI (X % 5000) from r3]
    refine kb_i6 (V := bI (true, o2, q2).1) (w1 := oW cy b_0 bk_0 o2 ++ oW cy b_1 bk_1 q2) hS (Nat.le_of_ble_eq_true rfl) (Jn_1 hP hD hS hA) (va_runS (As := [.ref (b_0 0), .ref (b_1 0), .int (nI (X % 5000))]) (rest := []) ⟨hx, hb, hml, hown, htt⟩ (c_L_alike (l := l) hfl G cy b_0 bk_0 b_1 bk_1 H.size (put o_0 v1) (put o_1 v1) (nI (X % 5000)) n (true, o2, q2) eA) (va_cwS 3 htt gB_law_L_alike rfl rfl rfl ddN_L_alike ⟨(Nat.le_of_ble_eq_true rfl), (Nat.le_of_ble_eq_true rfl)⟩) (preSN hXN (hE.kept hS.2.1) (Jn_1 hP hD hS hA).1 hP hK hD hN) rfl rfl hl.1 rfl (lv_room (Nat.le_of_ble_eq_true rfl)) dL_law_107 ⟨by show cc + 194 + 898 ≤ 730771; omega, by show 6 * (cc + 194) + 5388 ≤ 6909156; omega⟩) (fun H locs hP hD hS => ?_)
    have hP : va_P G vwCl (oW cy b_0 bk_0 o2 ++ oW cy b_1 bk_1 q2) H := hP
    have hD : va_D (fun q : Nat => s.heap.size ≤ q) (oW cy b_0 bk_0 o2 ++ oW cy b_1 bk_1 q2) := hD
    refine lv_if_eq (tgt := 174) hx hb dL_law_110 (by decide) (fun h_9 => ?_) (fun h_9 => ?_)
    · exact absurd h_9 bt0
    obtain ⟨o3, q3, v3, V3, ho3, hq3, eN⟩ := night_ok V1 hn ho2 hq2 (X := X / 7) (by omega)
    have from137 : ∀ (H : Heap) (locs : List Loc), va_P G vwCl (oW cy b_0 bk_0 o2 ++ oW cy b_1 bk_1 q2) H → va_D (fun q : Nat => s.heap.size ≤ q) (oW cy b_0 bk_0 o2 ++ oW cy b_1 bk_1 q2) → va_S (fun q : Nat => s.heap.size ≤ q) s.heap H locs → ∀ (ls : Array Slot), lv_has ls 8 [(7, .int ra), (6, .int (nI X)), (5, .int (nI K)), (4, .int 1), (3, .int (nI T)), (2, .ref (b_1 0)), (1, .ref (b_0 0)), (0, .ref b)] → W p l e room_1 s m #[Value.ref b] below meth c H locs (cc + 8058) (6 * (cc + 8058)) (lw_Z below #[Value.ref b] s) (F0 m 137 ls []) := by
      intro H locs hP hD hS ls hl
      refine lv_aload_n hx hb dL_law_137 rfl (lv_at hl 6 rfl) ?_
      refine lv_aload_n hx hb dL_law_138 rfl (lv_at hl 5 rfl) ?_
      refine lv_iload hx hb dL_law_139 (lv_at hl 1 rfl) ?_
      refine lv_bipush (v := 7) hx hb dL_law_141 (by decide) ?_
      refine lv_idiv hx hb dL_law_143 (by decide) ?_
      rw [r4]
      refine kb_i6 (V := bI (true, o3, q3).1) (w1 := oW cy b_0 bk_0 o3 ++ oW cy b_1 bk_1 q3) hS (Nat.le_of_ble_eq_true rfl) (Jn_1 hP hD hS hA) (va_runS (As := [.ref (b_0 0), .ref (b_1 0), .int (nI (X / 7))]) (rest := []) ⟨hx, hb, hml, hown, htt⟩ (c_L_nights (l := l) hfl G cy b_0 bk_0 b_1 bk_1 H.size o2 q2 (nI (X / 7)) n (true, o3, q3) eN) (va_cwS 3 htt gB_law_L_nights rfl rfl rfl ddN_L_nights ⟨(Nat.le_of_ble_eq_true rfl), (Nat.le_of_ble_eq_true rfl)⟩) (preSN hXN (hE.kept hS.2.1) (Jn_1 hP hD hS hA).1 hP hK hD hN) rfl rfl hl.1 rfl (lv_room (Nat.le_of_ble_eq_true rfl)) dL_law_144 ⟨by show cc + 8058 + 50 ≤ 730771; omega, by show 6 * (cc + 8058) + 300 ≤ 6909156; omega⟩) (fun H locs hP hD hS => ?_)
      have hP : va_P G vwCl (oW cy b_0 bk_0 o3 ++ oW cy b_1 bk_1 q3) H := hP
      have hD : va_D (fun q : Nat => s.heap.size ≤ q) (oW cy b_0 bk_0 o3 ++ oW cy b_1 bk_1 q3) := hD
      refine lv_if_eq (tgt := 174) hx hb dL_law_147 (by decide) (fun h_9 => ?_) (fun h_9 => ?_)
      · exact absurd h_9 bt0
      refine lv_iload hx hb dL_law_150 (lv_at hl 2 rfl) ?_
      refine lv_iconst (v := 3) hx hb dL_law_152 (by decide) ?_
      refine lv_irem hx hb dL_law_153 (by decide) ?_
      refine lv_if_gt (tgt := 170) hx hb dL_law_154 (by decide) (fun h_5 => ?_) (fun h_5 => ?_)
      · skip
        refine lv_iconst (v := 1) hx hb dL_law_170 (by decide) ?_
        refine lv_goto (tgt := 175) hx hb dL_law_171 (by decide) ?_
        refine lv_istore (lv' := [(4, .int 1), (7, .int ra), (6, .int (nI X)), (5, .int (nI K)), (3, .int (nI T)), (2, .ref (b_1 0)), (1, .ref (b_0 0)), (0, .ref b)]) hx hb dL_law_175 hl (by decide) rfl (fun ls hl => ?_)
        refine lv_iinc (k := 3) (v := nI (K + 1)) (lv' := [(5, .int (nI (K + 1))), (4, .int 1), (7, .int ra), (6, .int (nI X)), (3, .int (nI T)), (2, .ref (b_1 0)), (1, .ref (b_0 0)), (0, .ref b)]) hx hb dL_law_177 hl rfl (nI_1 K) (by decide) rfl (fun ls hl => ?_)
        refine lv_goto (tgt := 34) hx hb dL_law_180 (by decide) ?_
        exact ih (K + 1) (by omega) o3 q3 v3 V3 ho3 hq3 H locs (cc + 8108) (by omega) hP hD hS ls (lv_sub hl [0, 1, 4, 5, 6, 7] rfl)
      · skip
        obtain ⟨o4, q4, v4, V4, ho4, hq4, eS⟩ := scr_ok V3 hn ho3 hq3 (X := X / 11) (by omega)
        refine lv_aload_n hx hb dL_law_157 rfl (lv_at hl 6 rfl) ?_
        refine lv_aload_n hx hb dL_law_158 rfl (lv_at hl 5 rfl) ?_
        refine lv_iload hx hb dL_law_159 (lv_at hl 1 rfl) ?_
        refine lv_bipush (v := 11) hx hb dL_law_161 (by decide) ?_
        refine lv_idiv hx hb dL_law_163 (by decide) ?_
        rw [r5]
        refine kb_i6 (V := bI (true, o4, q4).1) (w1 := oW cy b_0 bk_0 o4 ++ oW cy b_1 bk_1 q4) hS (Nat.le_of_ble_eq_true rfl) (Jn_1 hP hD hS hA) (va_runS (As := [.ref (b_0 0), .ref (b_1 0), .int (nI (X / 11))]) (rest := []) ⟨hx, hb, hml, hown, htt⟩ (c_L_scratches (l := l) hfl G cy b_0 bk_0 b_1 bk_1 H.size o3 q3 (nI (X / 11)) n (true, o4, q4) eS) (va_cwS 3 htt gB_law_L_scratches rfl rfl rfl ddN_L_scratches ⟨(Nat.le_of_ble_eq_true rfl), (Nat.le_of_ble_eq_true rfl)⟩) (preSN hXN (hE.kept hS.2.1) (Jn_1 hP hD hS hA).1 hP hK hD hN) rfl rfl hl.1 rfl (lv_room (Nat.le_of_ble_eq_true rfl)) dL_law_164 ⟨by show cc + 8108 + 61 ≤ 730771; omega, by show 6 * (cc + 8108) + 366 ≤ 6909156; omega⟩) (fun H locs hP hD hS => ?_)
        have hP : va_P G vwCl (oW cy b_0 bk_0 o4 ++ oW cy b_1 bk_1 q4) H := hP
        have hD : va_D (fun q : Nat => s.heap.size ≤ q) (oW cy b_0 bk_0 o4 ++ oW cy b_1 bk_1 q4) := hD
        refine lv_if_eq (tgt := 174) hx hb dL_law_167 (by decide) (fun h_9 => ?_) (fun h_9 => ?_)
        · exact absurd h_9 bt0
        refine lv_iconst (v := 1) hx hb dL_law_170 (by decide) ?_
        refine lv_goto (tgt := 175) hx hb dL_law_171 (by decide) ?_
        refine lv_istore (lv' := [(4, .int 1), (7, .int ra), (6, .int (nI X)), (5, .int (nI K)), (3, .int (nI T)), (2, .ref (b_1 0)), (1, .ref (b_0 0)), (0, .ref b)]) hx hb dL_law_175 hl (by decide) rfl (fun ls hl => ?_)
        refine lv_iinc (k := 3) (v := nI (K + 1)) (lv' := [(5, .int (nI (K + 1))), (4, .int 1), (7, .int ra), (6, .int (nI X)), (3, .int (nI T)), (2, .ref (b_1 0)), (1, .ref (b_0 0)), (0, .ref b)]) hx hb dL_law_177 hl rfl (nI_1 K) (by decide) rfl (fun ls hl => ?_)
        refine lv_goto (tgt := 34) hx hb dL_law_180 (by decide) ?_
        exact ih (K + 1) (by omega) o4 q4 v4 V4 ho4 hq4 H locs (cc + 8169) (by omega) hP hD hS ls (lv_sub hl [0, 1, 4, 5, 6, 7] rfl)
    refine lv_iload hx hb dL_law_113 (lv_at hl 2 rfl) ?_
    refine lv_iconst (v := 2) hx hb dL_law_115 (by decide) ?_
    refine lv_irem hx hb dL_law_116 (by decide) ?_
    have E2 := W_of E1 ho2
    have E3 := W_of E1 hq2
    refine lv_if_ne (tgt := 130) hx hb dL_law_117 (by decide) (fun h_4 => ?_) (fun h_4 => ?_)
    · skip
      refine lv_aload_n hx hb dL_law_130 rfl (lv_at hl 5 rfl) ?_
      refine kb_i6 (V := bI (true, q2).1) (w1 := oW cy b_1 bk_1 q2) hS (Nat.le_of_ble_eq_true rfl) (Jn_r hP hD hS hA) (va_runS (As := [.ref (b_1 0)]) (rest := []) ⟨hx, hb, hml, hown, htt⟩ (c_L_holds (l := l) hfl G cy b_1 bk_1 H.size q2 n (true, q2) (hold_ok E3 hσ1 hn)) (va_cwS 1 htt gB_law_L_holds rfl rfl rfl ddN_L_holds ⟨(Nat.le_of_ble_eq_true rfl), (Nat.le_of_ble_eq_true rfl)⟩) (preSN hXN (hE.kept hS.2.1) (Jn_r hP hD hS hA).1 (P_r hP) hK (D_r hD) hN) rfl rfl hl.1 rfl (lv_room (Nat.le_of_ble_eq_true rfl)) dL_law_131 ⟨by show cc + 1092 + 6966 ≤ 730771; omega, by show 6 * (cc + 1092) + 41796 ≤ 6909156; omega⟩) (fun H locs hP hD hS => ?_)
      have hP : va_P G vwCl (oW cy b_0 bk_0 o2 ++ oW cy b_1 bk_1 q2) H := hP
      have hD : va_D (fun q : Nat => s.heap.size ≤ q) (oW cy b_0 bk_0 o2 ++ oW cy b_1 bk_1 q2) := hD
      refine lv_if_eq (tgt := 174) hx hb dL_law_134 (by decide) (fun h_9 => ?_) (fun h_9 => ?_)
      · exact absurd h_9 bt0
      exact from137 H locs hP hD hS ls hl
    · skip
      refine lv_aload_n hx hb dL_law_120 rfl (lv_at hl 6 rfl) ?_
      refine kb_i6 (V := bI (true, o2).1) (w1 := oW cy b_0 bk_0 o2) hS (Nat.le_of_ble_eq_true rfl) (Jn_l hP hD hS hA) (va_runS (As := [.ref (b_0 0)]) (rest := []) ⟨hx, hb, hml, hown, htt⟩ (c_L_holds (l := l) hfl G cy b_0 bk_0 H.size o2 n (true, o2) (hold_ok E2 hσ1 hn)) (va_cwS 1 htt gB_law_L_holds rfl rfl rfl ddN_L_holds ⟨(Nat.le_of_ble_eq_true rfl), (Nat.le_of_ble_eq_true rfl)⟩) (preSN hXN (hE.kept hS.2.1) (Jn_l hP hD hS hA).1 (P_l hP) hK (D_l hD) hN) rfl rfl hl.1 rfl (lv_room (Nat.le_of_ble_eq_true rfl)) dL_law_121 ⟨by show cc + 1092 + 6966 ≤ 730771; omega, by show 6 * (cc + 1092) + 41796 ≤ 6909156; omega⟩) (fun H locs hP hD hS => ?_)
      have hP : va_P G vwCl (oW cy b_0 bk_0 o2 ++ oW cy b_1 bk_1 q2) H := hP
      have hD : va_D (fun q : Nat => s.heap.size ≤ q) (oW cy b_0 bk_0 o2 ++ oW cy b_1 bk_1 q2) := hD
      refine lv_if_eq (tgt := 174) hx hb dL_law_124 (by decide) (fun h_9 => ?_) (fun h_9 => ?_)
      · exact absurd h_9 bt0
      refine lv_goto (tgt := 137) hx hb dL_law_127 (by decide) ?_
      exact from137 H locs hP hD hS ls hl
