set_option maxHeartbeats 4000000 in
set_option maxRecDepth 100000 in
theorem c_L_refuses {l : Launch} (hfl : l.stackTraces = false) (G : va_G) (cy : Nat → ClassId) (b_0 bk_0 : Nat → Nat) (sz : Nat) (o_0 : OT) (x1 : Int32) (n : Nat) (R : Bool × OT) (hf : f_L_refuses n o_0 x1 = some R) : Met l yL_refuses wB_refuses ({ frames := 11, cells := 85, slots := 510, locals := 218 } : Room) (va_Pc [.ref (b_0 0), .int x1] (pcN G cy (oW cy b_0 bk_0 o_0) sz)) (va_Qi (fun r (_ : Unit) => r = bI R.1) (fun _ t => Wd G cy (va_A (oW cy b_0 bk_0 o_0) sz) (oW cy b_0 bk_0 R.2) t) (va_A (oW cy b_0 bk_0 o_0) sz)) 85 510 (va_A (oW cy b_0 bk_0 o_0) sz) := by
  refine Met.ofW (cc := cL_refuses) (maxL := 6) (ret := (some .boolean)) (by decide) rfl ?_
  intro p e s m args below meth c s₁ B hml hv
  obtain ⟨rfl, ⟨⟨hsz, hP, hK, hD0, hN⟩, hE⟩, hXN⟩ := hv
  have hx := B.exec
  have hb := B.bytes
  have hr := B.returns
  have hts := atoms_spec (ws := wB_refuses) B.pre
  have hown : s.vm.findClass RL = some m.cls := findClass_of_methodNamed B.named
  have hlocks := B.notSynchronized
  subst hsz
  have hD := hD0.self (sz := s.heap.size)
  generalize hAe : va_A (oW cy b_0 bk_0 o_0) s.heap.size = A at hD hE ⊢
  have hA : ∀ q : Nat, s.heap.size ≤ q → A q := fun q h => by rw [← hAe]; exact Or.inr h
  have hS : va_S A s.heap s.heap [] := va_S.rf
  have hP : va_P G vwCl (oW cy b_0 bk_0 o_0) s.heap := hP
  have bl_613 : ∀ (c_o_0 : OT) (H : Heap) (locs : List Loc) (cc : Nat), cc + (0) ≤ 85 → f_L_refuses_b613 n c_o_0 = some R → va_P G vwCl (oW cy b_0 bk_0 c_o_0) H → va_D A (oW cy b_0 bk_0 c_o_0) → va_S A s.heap H locs → ∀ (ls : Array Slot), lv_has ls 6 [] → W p l e ({ frames := 11, cells := 85, slots := 510, locals := 218 } : Room) s m [.ref (b_0 0), .int x1].toArray below meth c H locs cc (6 * cc) (MQ below (va_Qi (fun r (_ : Unit) => r = bI R.1) (fun _ t => Wd G cy A (oW cy b_0 bk_0 R.2) t) A) [.ref (b_0 0), .int x1].toArray s 85 510 A) (F0 m 613 ls []) := by
    intro c_o_0 H locs cc hcc hf hP hD hS ls hl
    unfold f_L_refuses_b613 at hf
    refine lv_iconst (v := 0) hx hb dL_refuses_613 (by decide) ?_
    refine W.widen (k := 85) (n := 510) (by omega) (by omega) ?_
    obtain rfl := Option.some.inj hf
    exact kr_z (V := bI false) hx hb hr hlocks (bI_nar _) rfl hP hK hD hN hS hS.2.2 dL_refuses_614
  have bl_355 : ∀ (c_o_0 : OT) (y1 : Int32) (y2 : Int32) (y3 : Int32) (z1 : Int32) (z2 : Int32) (H : Heap) (locs : List Loc) (cc : Nat), cc + (37) ≤ 85 → f_L_refuses_b355 n c_o_0 y1 y2 y3 z1 z2 = some R → va_P G vwCl (oW cy b_0 bk_0 c_o_0) H → va_D A (oW cy b_0 bk_0 c_o_0) → va_S A s.heap H locs → ∀ (ls : Array Slot), lv_has ls 6 [(0, .ref (b_0 0)), (1, .int y1), (2, .int y2), (3, .int y3)] → W p l e ({ frames := 11, cells := 85, slots := 510, locals := 218 } : Room) s m [.ref (b_0 0), .int x1].toArray below meth c H locs cc (6 * cc) (MQ below (va_Qi (fun r (_ : Unit) => r = bI R.1) (fun _ t => Wd G cy A (oW cy b_0 bk_0 R.2) t) A) [.ref (b_0 0), .int x1].toArray s 85 510 A) (F0 m 355 ls [.int z2, .int z1, .ref (b_0 0)]) := by
    intro c_o_0 y1 y2 y3 z1 z2 H locs cc hcc hf hP hD hS ls hl
    unfold f_L_refuses_b355 at hf
    refine lv_iconst (v := 0) hx hb dL_refuses_355 (by decide) ?_
    refine lv_iconst (v := 0) hx hb dL_refuses_356 (by decide) ?_
    obtain ⟨r_1, hh_r_1, hf⟩ := obd_some hf
    refine kb_i6 (V := r_1.1) (w1 := oW cy b_0 bk_0 r_1.2) hS (Nat.le_of_ble_eq_true rfl) (Jn_1 hP hD hS hA) (va_runS (As := [.ref (b_0 0), .int z1, .int z2, .int 0, .int 0]) (rest := []) ⟨hx, hb, hml, hown, hts⟩ (c_L_call (l := l) hfl G cy b_0 bk_0 H.size c_o_0 z1 z2 0 0 n r_1 hh_r_1) (va_cwS 5 hts gB_refuses_L_call rfl rfl rfl ddN_L_call ⟨(Nat.le_of_ble_eq_true rfl), (Nat.le_of_ble_eq_true rfl)⟩) (preSN hXN (hE.kept hS.2.1) (Jn_1 hP hD hS hA).1 hP hK hD hN) rfl rfl hl.1 rfl (lv_room (Nat.le_of_ble_eq_true rfl)) dL_refuses_357 ⟨by show cc + 3 ≤ 85; omega, by show 6 * cc + 18 ≤ 510; omega⟩) (fun H locs hP hD hS => ?_)
    have hP : va_P G vwCl (oW cy b_0 bk_0 r_1.2) H := hP
    have hD : va_D A (oW cy b_0 bk_0 r_1.2) := hD
    refine lv_ldc (v := (-9999002)) hx hb hown (hts (.constant RL 29 (-9999002)) (by decide +kernel)) dL_refuses_360 ?_
    refine lv_icmp_ne (tgt := 613) hx hb dL_refuses_362 (by decide) (fun h_2 => ?_) (fun h_2 => ?_)
    · have hf := in_ h_2 hf
      exact bl_613  r_1.2 _ _ _ (by omega) hf hP hD hS ls (lv_sub hl [] rfl)
    · have hf := ip_ h_2 hf
      refine lv_aload_n hx hb dL_refuses_365 rfl (lv_at hl 0 rfl) ?_
      refine lv_bipush (v := 11) hx hb dL_refuses_366 (by decide) ?_
      refine lv_iload_n hx hb dL_refuses_368 rfl (lv_at hl 3 rfl) ?_
      refine lv_bipush (v := 99) hx hb dL_refuses_369 (by decide) ?_
      refine lv_iconst (v := 0) hx hb dL_refuses_371 (by decide) ?_
      obtain ⟨r_3, hh_r_3, hf⟩ := obd_some hf
      refine kb_i6 (V := r_3.1) (w1 := oW cy b_0 bk_0 r_3.2) hS (Nat.le_of_ble_eq_true rfl) (Jn_1 hP hD hS hA) (va_runS (As := [.ref (b_0 0), .int 11, .int y3, .int 99, .int 0]) (rest := []) ⟨hx, hb, hml, hown, hts⟩ (c_L_call (l := l) hfl G cy b_0 bk_0 H.size r_1.2 11 y3 99 0 n r_3 hh_r_3) (va_cwS 5 hts gB_refuses_L_call rfl rfl rfl ddN_L_call ⟨(Nat.le_of_ble_eq_true rfl), (Nat.le_of_ble_eq_true rfl)⟩) (preSN hXN (hE.kept hS.2.1) (Jn_1 hP hD hS hA).1 hP hK hD hN) rfl rfl hl.1 rfl (lv_room (Nat.le_of_ble_eq_true rfl)) dL_refuses_372 ⟨by show cc + 3 + 3 ≤ 85; omega, by show 6 * (cc + 3) + 18 ≤ 510; omega⟩) (fun H locs hP hD hS => ?_)
      have hP : va_P G vwCl (oW cy b_0 bk_0 r_3.2) H := hP
      have hD : va_D A (oW cy b_0 bk_0 r_3.2) := hD
      refine lv_ldc (v := (-9999001)) hx hb hown (hts (.constant RL 52 (-9999001)) (by decide +kernel)) dL_refuses_375 ?_
      refine lv_icmp_ne (tgt := 613) hx hb dL_refuses_377 (by decide) (fun h_4 => ?_) (fun h_4 => ?_)
      · have hf := in_ h_4 hf
        exact bl_613  r_3.2 _ _ _ (by omega) hf hP hD hS ls (lv_sub hl [] rfl)
      · have hf := ip_ h_4 hf
        refine lv_aload_n hx hb dL_refuses_380 rfl (lv_at hl 0 rfl) ?_
        refine lv_bipush (v := 11) hx hb dL_refuses_381 (by decide) ?_
        refine lv_iload_n hx hb dL_refuses_383 rfl (lv_at hl 1 rfl) ?_
        refine lv_iload_n hx hb dL_refuses_384 rfl (lv_at hl 2 rfl) ?_
        by_cases q_5 : y2 = 0
        · have hf := ip_ q_5 hf; cases hf
        have hf := in_ q_5 hf
        refine lv_irem hx hb dL_refuses_385 q_5 ?_
        refine lv_bipush (v := 10) hx hb dL_refuses_386 (by decide) ?_
        refine lv_iload_n hx hb dL_refuses_388 rfl (lv_at hl 1 rfl) ?_
        refine lv_bipush (v := 9) hx hb dL_refuses_389 (by decide) ?_
        refine lv_irem hx hb dL_refuses_391 (by decide) ?_
        refine lv_iadd hx hb dL_refuses_392 ?_
        refine lv_iconst (v := 0) hx hb dL_refuses_393 (by decide) ?_
        obtain ⟨r_6, hh_r_6, hf⟩ := obd_some hf
        refine kb_i6 (V := r_6.1) (w1 := oW cy b_0 bk_0 r_6.2) hS (Nat.le_of_ble_eq_true rfl) (Jn_1 hP hD hS hA) (va_runS (As := [.ref (b_0 0), .int 11, .int (irm y1 y2), .int (10 + (irm y1 9)), .int 0]) (rest := []) ⟨hx, hb, hml, hown, hts⟩ (c_L_call (l := l) hfl G cy b_0 bk_0 H.size r_3.2 11 (irm y1 y2) (10 + (irm y1 9)) 0 n r_6 hh_r_6) (va_cwS 5 hts gB_refuses_L_call rfl rfl rfl ddN_L_call ⟨(Nat.le_of_ble_eq_true rfl), (Nat.le_of_ble_eq_true rfl)⟩) (preSN hXN (hE.kept hS.2.1) (Jn_1 hP hD hS hA).1 hP hK hD hN) rfl rfl hl.1 rfl (lv_room (Nat.le_of_ble_eq_true rfl)) dL_refuses_394 ⟨by show cc + 6 + 3 ≤ 85; omega, by show 6 * (cc + 6) + 18 ≤ 510; omega⟩) (fun H locs hP hD hS => ?_)
        have hP : va_P G vwCl (oW cy b_0 bk_0 r_6.2) H := hP
        have hD : va_D A (oW cy b_0 bk_0 r_6.2) := hD
        refine lv_ldc (v := (-9999002)) hx hb hown (hts (.constant RL 29 (-9999002)) (by decide +kernel)) dL_refuses_397 ?_
        refine lv_icmp_ne (tgt := 613) hx hb dL_refuses_399 (by decide) (fun h_7 => ?_) (fun h_7 => ?_)
        · have hf := in_ h_7 hf
          exact bl_613  r_6.2 _ _ _ (by omega) hf hP hD hS ls (lv_sub hl [] rfl)
        · have hf := ip_ h_7 hf
          refine lv_aload_n hx hb dL_refuses_402 rfl (lv_at hl 0 rfl) ?_
          refine lv_bipush (v := 12) hx hb dL_refuses_403 (by decide) ?_
          refine lv_bipush (v := 61) hx hb dL_refuses_405 (by decide) ?_
          refine lv_iload_n hx hb dL_refuses_407 rfl (lv_at hl 1 rfl) ?_
          refine lv_bipush (v := 9) hx hb dL_refuses_408 (by decide) ?_
          refine lv_irem hx hb dL_refuses_410 (by decide) ?_
          refine lv_iadd hx hb dL_refuses_411 ?_
          refine lv_iconst (v := 0) hx hb dL_refuses_412 (by decide) ?_
          refine lv_iconst (v := 0) hx hb dL_refuses_413 (by decide) ?_
          obtain ⟨r_8, hh_r_8, hf⟩ := obd_some hf
          refine kb_i6 (V := r_8.1) (w1 := oW cy b_0 bk_0 r_8.2) hS (Nat.le_of_ble_eq_true rfl) (Jn_1 hP hD hS hA) (va_runS (As := [.ref (b_0 0), .int 12, .int (61 + (irm y1 9)), .int 0, .int 0]) (rest := []) ⟨hx, hb, hml, hown, hts⟩ (c_L_call (l := l) hfl G cy b_0 bk_0 H.size r_6.2 12 (61 + (irm y1 9)) 0 0 n r_8 hh_r_8) (va_cwS 5 hts gB_refuses_L_call rfl rfl rfl ddN_L_call ⟨(Nat.le_of_ble_eq_true rfl), (Nat.le_of_ble_eq_true rfl)⟩) (preSN hXN (hE.kept hS.2.1) (Jn_1 hP hD hS hA).1 hP hK hD hN) rfl rfl hl.1 rfl (lv_room (Nat.le_of_ble_eq_true rfl)) dL_refuses_414 ⟨by show cc + 9 + 3 ≤ 85; omega, by show 6 * (cc + 9) + 18 ≤ 510; omega⟩) (fun H locs hP hD hS => ?_)
          have hP : va_P G vwCl (oW cy b_0 bk_0 r_8.2) H := hP
          have hD : va_D A (oW cy b_0 bk_0 r_8.2) := hD
          refine lv_ldc (v := (-9999002)) hx hb hown (hts (.constant RL 29 (-9999002)) (by decide +kernel)) dL_refuses_417 ?_
          refine lv_icmp_ne (tgt := 613) hx hb dL_refuses_419 (by decide) (fun h_9 => ?_) (fun h_9 => ?_)
          · have hf := in_ h_9 hf
            exact bl_613  r_8.2 _ _ _ (by omega) hf hP hD hS ls (lv_sub hl [] rfl)
          · have hf := ip_ h_9 hf
            refine lv_aload_n hx hb dL_refuses_422 rfl (lv_at hl 0 rfl) ?_
            refine lv_sipush (v := 201) hx hb dL_refuses_423 (by decide) ?_
            refine lv_iload_n hx hb dL_refuses_426 rfl (lv_at hl 1 rfl) ?_
            refine lv_bipush (v := 9) hx hb dL_refuses_427 (by decide) ?_
            refine lv_irem hx hb dL_refuses_429 (by decide) ?_
            refine lv_iadd hx hb dL_refuses_430 ?_
            obtain ⟨r_10, hh_r_10, hf⟩ := obd_some hf
            refine kbx_l (R0 := r_10) (w1 := fun (u : Int64) => oW cy b_0 bk_0 r_8.2) (V := fun (u : Int64) => u) hS (Nat.le_of_ble_eq_true rfl) (Jn_1 hP hD hS hA) (vx_runSX (As := [.ref (b_0 0), .int (201 + (irm y1 9))]) (rest := []) ⟨hx, hb, hml, hown, hts⟩ (c_L_looks (l := l) hfl G cy (b_0 0) (b_0 1) (b_0 2) (b_0 3) (b_0 4) (b_0 5) (b_0 6) (b_0 7) (b_0 8) (b_0 9) (b_0 10) (b_0 11) (b_0 12) (b_0 13) bk_0 H.size r_8.2.1 r_8.2.2.1 r_8.2.2.2.1 r_8.2.2.2.2.1 r_8.2.2.2.2.2.1 r_8.2.2.2.2.2.2.1 r_8.2.2.2.2.2.2.2.1 r_8.2.2.2.2.2.2.2.2.1 r_8.2.2.2.2.2.2.2.2.2.1 r_8.2.2.2.2.2.2.2.2.2.2.1 r_8.2.2.2.2.2.2.2.2.2.2.2.1 r_8.2.2.2.2.2.2.2.2.2.2.2.2.1 r_8.2.2.2.2.2.2.2.2.2.2.2.2.2 (201 + (irm y1 9)) n r_10 hh_r_10) (vx_cwSW 2 hts gB_refuses_L_looks rfl rfl rfl ddN_L_looks ⟨(Nat.le_of_ble_eq_true rfl), (Nat.le_of_ble_eq_true rfl)⟩) (preSN hXN (hE.kept hS.2.1) (Jn_1 hP hD hS hA).1 hP hK hD hN) rfl rfl hl.1 rfl (lv_room (Nat.le_of_ble_eq_true rfl)) dL_refuses_431 ⟨by show cc + 12 + 1 ≤ 85; omega, by show 6 * (cc + 12) + 6 ≤ 510; omega⟩) (fun H locs hP hD hS => ?_)
            have hP : va_P G vwCl (oW cy b_0 bk_0 r_8.2) H := hP
            have hD : va_D A (oW cy b_0 bk_0 r_8.2) := hD
            refine lv_ldc2 (v := (-9999002)) hx hb hown (hts (.constantLong RL 15 (-9999002)) (by decide +kernel)) dL_refuses_434 ?_
            refine W.lcmp hx hb dL_refuses_437 ?_
            refine lv_if_ne (tgt := 613) hx hb dL_refuses_438 (by decide) (fun h_11 => ?_) (fun h_11 => ?_)
            · have hf := in_ (fun q => h_11 (lgc_eq.mpr q)) hf
              exact bl_613  r_8.2 _ _ _ (by omega) hf hP hD hS ls (lv_sub hl [] rfl)
            · have hf := ip_ (lgc_eq.mp h_11) hf
              refine lv_aload_n hx hb dL_refuses_441 rfl (lv_at hl 0 rfl) ?_
              refine lv_iload_n hx hb dL_refuses_442 rfl (lv_at hl 1 rfl) ?_
              refine lv_bipush (v := 9) hx hb dL_refuses_443 (by decide) ?_
              refine lv_irem hx hb dL_refuses_445 (by decide) ?_
              refine lv_ineg hx hb dL_refuses_446 ?_
              obtain ⟨r_12, hh_r_12, hf⟩ := obd_some hf
              refine kbx_l (R0 := r_12) (w1 := fun (u : Int64) => oW cy b_0 bk_0 r_8.2) (V := fun (u : Int64) => u) hS (Nat.le_of_ble_eq_true rfl) (Jn_1 hP hD hS hA) (vx_runSX (As := [.ref (b_0 0), .int (-(irm y1 9))]) (rest := []) ⟨hx, hb, hml, hown, hts⟩ (c_L_looks (l := l) hfl G cy (b_0 0) (b_0 1) (b_0 2) (b_0 3) (b_0 4) (b_0 5) (b_0 6) (b_0 7) (b_0 8) (b_0 9) (b_0 10) (b_0 11) (b_0 12) (b_0 13) bk_0 H.size r_8.2.1 r_8.2.2.1 r_8.2.2.2.1 r_8.2.2.2.2.1 r_8.2.2.2.2.2.1 r_8.2.2.2.2.2.2.1 r_8.2.2.2.2.2.2.2.1 r_8.2.2.2.2.2.2.2.2.1 r_8.2.2.2.2.2.2.2.2.2.1 r_8.2.2.2.2.2.2.2.2.2.2.1 r_8.2.2.2.2.2.2.2.2.2.2.2.1 r_8.2.2.2.2.2.2.2.2.2.2.2.2.1 r_8.2.2.2.2.2.2.2.2.2.2.2.2.2 (-(irm y1 9)) n r_12 hh_r_12) (vx_cwSW 2 hts gB_refuses_L_looks rfl rfl rfl ddN_L_looks ⟨(Nat.le_of_ble_eq_true rfl), (Nat.le_of_ble_eq_true rfl)⟩) (preSN hXN (hE.kept hS.2.1) (Jn_1 hP hD hS hA).1 hP hK hD hN) rfl rfl hl.1 rfl (lv_room (Nat.le_of_ble_eq_true rfl)) dL_refuses_447 ⟨by show cc + 13 + 1 ≤ 85; omega, by show 6 * (cc + 13) + 6 ≤ 510; omega⟩) (fun H locs hP hD hS => ?_)
              have hP : va_P G vwCl (oW cy b_0 bk_0 r_8.2) H := hP
              have hD : va_D A (oW cy b_0 bk_0 r_8.2) := hD
              refine lv_ldc2 (v := (-9999002)) hx hb hown (hts (.constantLong RL 15 (-9999002)) (by decide +kernel)) dL_refuses_450 ?_
              refine W.lcmp hx hb dL_refuses_453 ?_
              refine lv_if_ne (tgt := 613) hx hb dL_refuses_454 (by decide) (fun h_13 => ?_) (fun h_13 => ?_)
              · have hf := in_ (fun q => h_13 (lgc_eq.mpr q)) hf
                exact bl_613  r_8.2 _ _ _ (by omega) hf hP hD hS ls (lv_sub hl [] rfl)
              · have hf := ip_ (lgc_eq.mp h_13) hf
                refine lv_aload_n hx hb dL_refuses_457 rfl (lv_at hl 0 rfl) ?_
                refine lv_bipush (v := 14) hx hb dL_refuses_458 (by decide) ?_
                refine lv_iconst (v := 2) hx hb dL_refuses_460 (by decide) ?_
                refine lv_iload_n hx hb dL_refuses_461 rfl (lv_at hl 1 rfl) ?_
                refine lv_bipush (v := 9) hx hb dL_refuses_462 (by decide) ?_
                refine lv_irem hx hb dL_refuses_464 (by decide) ?_
                refine lv_iadd hx hb dL_refuses_465 ?_
                refine lv_iconst (v := 0) hx hb dL_refuses_466 (by decide) ?_
                refine lv_iconst (v := 0) hx hb dL_refuses_467 (by decide) ?_
                obtain ⟨r_14, hh_r_14, hf⟩ := obd_some hf
                refine kb_i6 (V := r_14.1) (w1 := oW cy b_0 bk_0 r_14.2) hS (Nat.le_of_ble_eq_true rfl) (Jn_1 hP hD hS hA) (va_runS (As := [.ref (b_0 0), .int 14, .int (2 + (irm y1 9)), .int 0, .int 0]) (rest := []) ⟨hx, hb, hml, hown, hts⟩ (c_L_call (l := l) hfl G cy b_0 bk_0 H.size r_8.2 14 (2 + (irm y1 9)) 0 0 n r_14 hh_r_14) (va_cwS 5 hts gB_refuses_L_call rfl rfl rfl ddN_L_call ⟨(Nat.le_of_ble_eq_true rfl), (Nat.le_of_ble_eq_true rfl)⟩) (preSN hXN (hE.kept hS.2.1) (Jn_1 hP hD hS hA).1 hP hK hD hN) rfl rfl hl.1 rfl (lv_room (Nat.le_of_ble_eq_true rfl)) dL_refuses_468 ⟨by show cc + 14 + 3 ≤ 85; omega, by show 6 * (cc + 14) + 18 ≤ 510; omega⟩) (fun H locs hP hD hS => ?_)
                have hP : va_P G vwCl (oW cy b_0 bk_0 r_14.2) H := hP
                have hD : va_D A (oW cy b_0 bk_0 r_14.2) := hD
                refine lv_ldc (v := (-9999002)) hx hb hown (hts (.constant RL 29 (-9999002)) (by decide +kernel)) dL_refuses_471 ?_
                refine lv_icmp_ne (tgt := 613) hx hb dL_refuses_473 (by decide) (fun h_15 => ?_) (fun h_15 => ?_)
                · have hf := in_ h_15 hf
                  exact bl_613  r_14.2 _ _ _ (by omega) hf hP hD hS ls (lv_sub hl [] rfl)
                · have hf := ip_ h_15 hf
                  refine lv_aload_n hx hb dL_refuses_476 rfl (lv_at hl 0 rfl) ?_
                  refine lv_bipush (v := 16) hx hb dL_refuses_477 (by decide) ?_
                  refine lv_iload_n hx hb dL_refuses_479 rfl (lv_at hl 3 rfl) ?_
                  refine lv_iconst (v := 0) hx hb dL_refuses_480 (by decide) ?_
                  refine lv_iconst (v := 0) hx hb dL_refuses_481 (by decide) ?_
                  obtain ⟨r_16, hh_r_16, hf⟩ := obd_some hf
                  refine kb_i6 (V := r_16.1) (w1 := oW cy b_0 bk_0 r_16.2) hS (Nat.le_of_ble_eq_true rfl) (Jn_1 hP hD hS hA) (va_runS (As := [.ref (b_0 0), .int 16, .int y3, .int 0, .int 0]) (rest := []) ⟨hx, hb, hml, hown, hts⟩ (c_L_call (l := l) hfl G cy b_0 bk_0 H.size r_14.2 16 y3 0 0 n r_16 hh_r_16) (va_cwS 5 hts gB_refuses_L_call rfl rfl rfl ddN_L_call ⟨(Nat.le_of_ble_eq_true rfl), (Nat.le_of_ble_eq_true rfl)⟩) (preSN hXN (hE.kept hS.2.1) (Jn_1 hP hD hS hA).1 hP hK hD hN) rfl rfl hl.1 rfl (lv_room (Nat.le_of_ble_eq_true rfl)) dL_refuses_482 ⟨by show cc + 17 + 3 ≤ 85; omega, by show 6 * (cc + 17) + 18 ≤ 510; omega⟩) (fun H locs hP hD hS => ?_)
                  have hP : va_P G vwCl (oW cy b_0 bk_0 r_16.2) H := hP
                  have hD : va_D A (oW cy b_0 bk_0 r_16.2) := hD
                  refine lv_ldc (v := (-9999001)) hx hb hown (hts (.constant RL 52 (-9999001)) (by decide +kernel)) dL_refuses_485 ?_
                  refine lv_icmp_ne (tgt := 613) hx hb dL_refuses_487 (by decide) (fun h_17 => ?_) (fun h_17 => ?_)
                  · have hf := in_ h_17 hf
                    exact bl_613  r_16.2 _ _ _ (by omega) hf hP hD hS ls (lv_sub hl [] rfl)
                  · have hf := ip_ h_17 hf
                    refine lv_aload_n hx hb dL_refuses_490 rfl (lv_at hl 0 rfl) ?_
                    refine lv_bipush (v := 17) hx hb dL_refuses_491 (by decide) ?_
                    refine lv_iload_n hx hb dL_refuses_493 rfl (lv_at hl 3 rfl) ?_
                    refine lv_iconst (v := 0) hx hb dL_refuses_494 (by decide) ?_
                    refine lv_iconst (v := 0) hx hb dL_refuses_495 (by decide) ?_
                    obtain ⟨r_18, hh_r_18, hf⟩ := obd_some hf
                    refine kb_i6 (V := r_18.1) (w1 := oW cy b_0 bk_0 r_18.2) hS (Nat.le_of_ble_eq_true rfl) (Jn_1 hP hD hS hA) (va_runS (As := [.ref (b_0 0), .int 17, .int y3, .int 0, .int 0]) (rest := []) ⟨hx, hb, hml, hown, hts⟩ (c_L_call (l := l) hfl G cy b_0 bk_0 H.size r_16.2 17 y3 0 0 n r_18 hh_r_18) (va_cwS 5 hts gB_refuses_L_call rfl rfl rfl ddN_L_call ⟨(Nat.le_of_ble_eq_true rfl), (Nat.le_of_ble_eq_true rfl)⟩) (preSN hXN (hE.kept hS.2.1) (Jn_1 hP hD hS hA).1 hP hK hD hN) rfl rfl hl.1 rfl (lv_room (Nat.le_of_ble_eq_true rfl)) dL_refuses_496 ⟨by show cc + 20 + 3 ≤ 85; omega, by show 6 * (cc + 20) + 18 ≤ 510; omega⟩) (fun H locs hP hD hS => ?_)
                    have hP : va_P G vwCl (oW cy b_0 bk_0 r_18.2) H := hP
                    have hD : va_D A (oW cy b_0 bk_0 r_18.2) := hD
                    refine lv_ldc (v := (-9999001)) hx hb hown (hts (.constant RL 52 (-9999001)) (by decide +kernel)) dL_refuses_499 ?_
                    refine lv_icmp_ne (tgt := 613) hx hb dL_refuses_501 (by decide) (fun h_19 => ?_) (fun h_19 => ?_)
                    · have hf := in_ h_19 hf
                      exact bl_613  r_18.2 _ _ _ (by omega) hf hP hD hS ls (lv_sub hl [] rfl)
                    · have hf := ip_ h_19 hf
                      refine lv_aload_n hx hb dL_refuses_504 rfl (lv_at hl 0 rfl) ?_
                      refine lv_bipush (v := 17) hx hb dL_refuses_505 (by decide) ?_
                      refine lv_iload_n hx hb dL_refuses_507 rfl (lv_at hl 1 rfl) ?_
                      refine lv_iload_n hx hb dL_refuses_508 rfl (lv_at hl 2 rfl) ?_
                      by_cases q_20 : y2 = 0
                      · have hf := ip_ q_20 hf; cases hf
                      have hf := in_ q_20 hf
                      refine lv_irem hx hb dL_refuses_509 q_20 ?_
                      refine lv_bipush (v := 21) hx hb dL_refuses_510 (by decide) ?_
                      refine lv_iload_n hx hb dL_refuses_512 rfl (lv_at hl 1 rfl) ?_
                      refine lv_bipush (v := 9) hx hb dL_refuses_513 (by decide) ?_
                      refine lv_irem hx hb dL_refuses_515 (by decide) ?_
                      refine lv_iadd hx hb dL_refuses_516 ?_
                      refine lv_iconst (v := 0) hx hb dL_refuses_517 (by decide) ?_
                      obtain ⟨r_21, hh_r_21, hf⟩ := obd_some hf
                      refine kb_i6 (V := r_21.1) (w1 := oW cy b_0 bk_0 r_21.2) hS (Nat.le_of_ble_eq_true rfl) (Jn_1 hP hD hS hA) (va_runS (As := [.ref (b_0 0), .int 17, .int (irm y1 y2), .int (21 + (irm y1 9)), .int 0]) (rest := []) ⟨hx, hb, hml, hown, hts⟩ (c_L_call (l := l) hfl G cy b_0 bk_0 H.size r_18.2 17 (irm y1 y2) (21 + (irm y1 9)) 0 n r_21 hh_r_21) (va_cwS 5 hts gB_refuses_L_call rfl rfl rfl ddN_L_call ⟨(Nat.le_of_ble_eq_true rfl), (Nat.le_of_ble_eq_true rfl)⟩) (preSN hXN (hE.kept hS.2.1) (Jn_1 hP hD hS hA).1 hP hK hD hN) rfl rfl hl.1 rfl (lv_room (Nat.le_of_ble_eq_true rfl)) dL_refuses_518 ⟨by show cc + 23 + 3 ≤ 85; omega, by show 6 * (cc + 23) + 18 ≤ 510; omega⟩) (fun H locs hP hD hS => ?_)
                      have hP : va_P G vwCl (oW cy b_0 bk_0 r_21.2) H := hP
                      have hD : va_D A (oW cy b_0 bk_0 r_21.2) := hD
                      refine lv_ldc (v := (-9999002)) hx hb hown (hts (.constant RL 29 (-9999002)) (by decide +kernel)) dL_refuses_521 ?_
                      refine lv_icmp_ne (tgt := 613) hx hb dL_refuses_523 (by decide) (fun h_22 => ?_) (fun h_22 => ?_)
                      · have hf := in_ h_22 hf
                        exact bl_613  r_21.2 _ _ _ (by omega) hf hP hD hS ls (lv_sub hl [] rfl)
                      · have hf := ip_ h_22 hf
                        refine lv_aload_n hx hb dL_refuses_526 rfl (lv_at hl 0 rfl) ?_
                        refine lv_bipush (v := 18) hx hb dL_refuses_527 (by decide) ?_
                        refine lv_iconst (v := 2) hx hb dL_refuses_529 (by decide) ?_
                        refine lv_iload_n hx hb dL_refuses_530 rfl (lv_at hl 1 rfl) ?_
                        refine lv_bipush (v := 50) hx hb dL_refuses_531 (by decide) ?_
                        refine lv_irem hx hb dL_refuses_533 (by decide) ?_
                        refine lv_iadd hx hb dL_refuses_534 ?_
                        refine lv_iconst (v := 0) hx hb dL_refuses_535 (by decide) ?_
                        refine lv_iconst (v := 0) hx hb dL_refuses_536 (by decide) ?_
                        obtain ⟨r_23, hh_r_23, hf⟩ := obd_some hf
                        refine kb_i6 (V := r_23.1) (w1 := oW cy b_0 bk_0 r_23.2) hS (Nat.le_of_ble_eq_true rfl) (Jn_1 hP hD hS hA) (va_runS (As := [.ref (b_0 0), .int 18, .int (2 + (irm y1 50)), .int 0, .int 0]) (rest := []) ⟨hx, hb, hml, hown, hts⟩ (c_L_call (l := l) hfl G cy b_0 bk_0 H.size r_21.2 18 (2 + (irm y1 50)) 0 0 n r_23 hh_r_23) (va_cwS 5 hts gB_refuses_L_call rfl rfl rfl ddN_L_call ⟨(Nat.le_of_ble_eq_true rfl), (Nat.le_of_ble_eq_true rfl)⟩) (preSN hXN (hE.kept hS.2.1) (Jn_1 hP hD hS hA).1 hP hK hD hN) rfl rfl hl.1 rfl (lv_room (Nat.le_of_ble_eq_true rfl)) dL_refuses_537 ⟨by show cc + 26 + 3 ≤ 85; omega, by show 6 * (cc + 26) + 18 ≤ 510; omega⟩) (fun H locs hP hD hS => ?_)
                        have hP : va_P G vwCl (oW cy b_0 bk_0 r_23.2) H := hP
                        have hD : va_D A (oW cy b_0 bk_0 r_23.2) := hD
                        refine lv_ldc (v := (-9999001)) hx hb hown (hts (.constant RL 52 (-9999001)) (by decide +kernel)) dL_refuses_540 ?_
                        refine lv_icmp_ne (tgt := 613) hx hb dL_refuses_542 (by decide) (fun h_24 => ?_) (fun h_24 => ?_)
                        · have hf := in_ h_24 hf
                          exact bl_613  r_23.2 _ _ _ (by omega) hf hP hD hS ls (lv_sub hl [] rfl)
                        · have hf := ip_ h_24 hf
                          refine lv_aload_n hx hb dL_refuses_545 rfl (lv_at hl 0 rfl) ?_
                          refine lv_bipush (v := 19) hx hb dL_refuses_546 (by decide) ?_
                          refine lv_iconst (v := (-1)) hx hb dL_refuses_548 (by decide) ?_
                          refine lv_iload_n hx hb dL_refuses_549 rfl (lv_at hl 1 rfl) ?_
                          refine lv_bipush (v := 9) hx hb dL_refuses_550 (by decide) ?_
                          refine lv_irem hx hb dL_refuses_552 (by decide) ?_
                          refine lv_isub hx hb dL_refuses_553 ?_
                          refine lv_iconst (v := 0) hx hb dL_refuses_554 (by decide) ?_
                          refine lv_iconst (v := 0) hx hb dL_refuses_555 (by decide) ?_
                          obtain ⟨r_25, hh_r_25, hf⟩ := obd_some hf
                          refine kb_i6 (V := r_25.1) (w1 := oW cy b_0 bk_0 r_25.2) hS (Nat.le_of_ble_eq_true rfl) (Jn_1 hP hD hS hA) (va_runS (As := [.ref (b_0 0), .int 19, .int ((-1) - (irm y1 9)), .int 0, .int 0]) (rest := []) ⟨hx, hb, hml, hown, hts⟩ (c_L_call (l := l) hfl G cy b_0 bk_0 H.size r_23.2 19 ((-1) - (irm y1 9)) 0 0 n r_25 hh_r_25) (va_cwS 5 hts gB_refuses_L_call rfl rfl rfl ddN_L_call ⟨(Nat.le_of_ble_eq_true rfl), (Nat.le_of_ble_eq_true rfl)⟩) (preSN hXN (hE.kept hS.2.1) (Jn_1 hP hD hS hA).1 hP hK hD hN) rfl rfl hl.1 rfl (lv_room (Nat.le_of_ble_eq_true rfl)) dL_refuses_556 ⟨by show cc + 29 + 3 ≤ 85; omega, by show 6 * (cc + 29) + 18 ≤ 510; omega⟩) (fun H locs hP hD hS => ?_)
                          have hP : va_P G vwCl (oW cy b_0 bk_0 r_25.2) H := hP
                          have hD : va_D A (oW cy b_0 bk_0 r_25.2) := hD
                          refine lv_ldc (v := (-9999001)) hx hb hown (hts (.constant RL 52 (-9999001)) (by decide +kernel)) dL_refuses_559 ?_
                          refine lv_icmp_ne (tgt := 613) hx hb dL_refuses_561 (by decide) (fun h_26 => ?_) (fun h_26 => ?_)
                          · have hf := in_ h_26 hf
                            exact bl_613  r_25.2 _ _ _ (by omega) hf hP hD hS ls (lv_sub hl [] rfl)
                          · have hf := ip_ h_26 hf
                            refine lv_aload_n hx hb dL_refuses_564 rfl (lv_at hl 0 rfl) ?_
                            refine lv_iconst (v := 0) hx hb dL_refuses_565 (by decide) ?_
                            refine lv_lconst (v := 0) hx hb dL_refuses_566 rfl ?_
                            obtain ⟨r_27, hh_r_27, hf⟩ := obd_some hf
                            refine kbx_i (R0 := r_27) (w1 := fun (u : Int32 × WT) => oW cy b_0 bk_0 (oTr r_25.2 u.2)) (V := fun (u : Int32 × WT) => u.1) hS (Nat.le_of_ble_eq_true rfl) (Jn_1 hP hD hS hA) (vx_runSX (As := [.ref (b_0 0), .int 0, .long 0]) (rest := []) ⟨hx, hb, hml, hown, hts⟩ (c_L_doScript (l := l) hfl G cy (b_0 0) (b_0 1) (b_0 2) (b_0 3) (b_0 4) (b_0 5) (b_0 6) (b_0 7) (b_0 8) (b_0 9) (b_0 10) (b_0 11) (b_0 12) (b_0 13) bk_0 H.size r_25.2.1 r_25.2.2.1 r_25.2.2.2.1 r_25.2.2.2.2.1 r_25.2.2.2.2.2.1 r_25.2.2.2.2.2.2.1 r_25.2.2.2.2.2.2.2.1 r_25.2.2.2.2.2.2.2.2.1 r_25.2.2.2.2.2.2.2.2.2.1 r_25.2.2.2.2.2.2.2.2.2.2.1 r_25.2.2.2.2.2.2.2.2.2.2.2.1 r_25.2.2.2.2.2.2.2.2.2.2.2.2.1 r_25.2.2.2.2.2.2.2.2.2.2.2.2.2 0 0 n r_27 hh_r_27) (vx_cwSW 3 hts gB_refuses_L_doScript rfl rfl rfl ddN_L_doScript ⟨(Nat.le_of_ble_eq_true rfl), (Nat.le_of_ble_eq_true rfl)⟩) (preSN hXN (hE.kept hS.2.1) (Jn_1 hP hD hS hA).1 hP hK hD hN) rfl rfl hl.1 rfl (lv_room (Nat.le_of_ble_eq_true rfl)) dL_refuses_567 ⟨by show cc + 32 + 2 ≤ 85; omega, by show 6 * (cc + 32) + 12 ≤ 510; omega⟩) (fun H locs hP hD hS => ?_)
                            have hP : va_P G vwCl (oW cy b_0 bk_0 (oTr r_25.2 r_27.2)) H := hP
                            have hD : va_D A (oW cy b_0 bk_0 (oTr r_25.2 r_27.2)) := hD
                            refine lv_ldc (v := (-9999002)) hx hb hown (hts (.constant RL 29 (-9999002)) (by decide +kernel)) dL_refuses_570 ?_
                            refine lv_icmp_ne (tgt := 613) hx hb dL_refuses_572 (by decide) (fun h_28 => ?_) (fun h_28 => ?_)
                            · have hf := in_ h_28 hf
                              exact bl_613  (oTr r_25.2 r_27.2) _ _ _ (by omega) hf hP hD hS ls (lv_sub hl [] rfl)
                            · have hf := ip_ h_28 hf
                              refine lv_aload_n hx hb dL_refuses_575 rfl (lv_at hl 0 rfl) ?_
                              refine lv_iconst (v := 1) hx hb dL_refuses_576 (by decide) ?_
                              refine lv_ldc2 (v := 10000) hx hb hown (hts (.constantLong RL 180 (10000)) (by decide +kernel)) dL_refuses_577 ?_
                              refine lv_iload_n hx hb dL_refuses_580 rfl (lv_at hl 1 rfl) ?_
                              refine lv_i2l (v := y1.toInt64) hx hb dL_refuses_581 rfl ?_
                              refine lv_ladd hx hb dL_refuses_582 ?_
                              obtain ⟨r_29, hh_r_29, hf⟩ := obd_some hf
                              refine kbx_i (R0 := r_29) (w1 := fun (u : Int32 × WT) => oW cy b_0 bk_0 (oTr (oTr r_25.2 r_27.2) u.2)) (V := fun (u : Int32 × WT) => u.1) hS (Nat.le_of_ble_eq_true rfl) (Jn_1 hP hD hS hA) (vx_runSX (As := [.ref (b_0 0), .int 1, .long (10000 + y1.toInt64)]) (rest := []) ⟨hx, hb, hml, hown, hts⟩ (c_L_doScript (l := l) hfl G cy (b_0 0) (b_0 1) (b_0 2) (b_0 3) (b_0 4) (b_0 5) (b_0 6) (b_0 7) (b_0 8) (b_0 9) (b_0 10) (b_0 11) (b_0 12) (b_0 13) bk_0 H.size (oTr r_25.2 r_27.2).1 (oTr r_25.2 r_27.2).2.1 (oTr r_25.2 r_27.2).2.2.1 (oTr r_25.2 r_27.2).2.2.2.1 (oTr r_25.2 r_27.2).2.2.2.2.1 (oTr r_25.2 r_27.2).2.2.2.2.2.1 (oTr r_25.2 r_27.2).2.2.2.2.2.2.1 (oTr r_25.2 r_27.2).2.2.2.2.2.2.2.1 (oTr r_25.2 r_27.2).2.2.2.2.2.2.2.2.1 (oTr r_25.2 r_27.2).2.2.2.2.2.2.2.2.2.1 (oTr r_25.2 r_27.2).2.2.2.2.2.2.2.2.2.2.1 (oTr r_25.2 r_27.2).2.2.2.2.2.2.2.2.2.2.2.1 (oTr r_25.2 r_27.2).2.2.2.2.2.2.2.2.2.2.2.2 1 (10000 + y1.toInt64) n r_29 hh_r_29) (vx_cwSW 3 hts gB_refuses_L_doScript rfl rfl rfl ddN_L_doScript ⟨(Nat.le_of_ble_eq_true rfl), (Nat.le_of_ble_eq_true rfl)⟩) (preSN hXN (hE.kept hS.2.1) (Jn_1 hP hD hS hA).1 hP hK hD hN) rfl rfl hl.1 rfl (lv_room (Nat.le_of_ble_eq_true rfl)) dL_refuses_583 ⟨by show cc + 34 + 2 ≤ 85; omega, by show 6 * (cc + 34) + 12 ≤ 510; omega⟩) (fun H locs hP hD hS => ?_)
                              have hP : va_P G vwCl (oW cy b_0 bk_0 (oTr (oTr r_25.2 r_27.2) r_29.2)) H := hP
                              have hD : va_D A (oW cy b_0 bk_0 (oTr (oTr r_25.2 r_27.2) r_29.2)) := hD
                              refine lv_ldc (v := (-9999002)) hx hb hown (hts (.constant RL 29 (-9999002)) (by decide +kernel)) dL_refuses_586 ?_
                              refine lv_icmp_ne (tgt := 613) hx hb dL_refuses_588 (by decide) (fun h_30 => ?_) (fun h_30 => ?_)
                              · have hf := in_ h_30 hf
                                exact bl_613  (oTr (oTr r_25.2 r_27.2) r_29.2) _ _ _ (by omega) hf hP hD hS ls (lv_sub hl [] rfl)
                              · have hf := ip_ h_30 hf
                                refine lv_aload_n hx hb dL_refuses_591 rfl (lv_at hl 0 rfl) ?_
                                refine lv_iload_n hx hb dL_refuses_592 rfl (lv_at hl 1 rfl) ?_
                                refine lv_i2l (v := y1.toInt64) hx hb dL_refuses_593 rfl ?_
                                refine lv_bipush (v := 61) hx hb dL_refuses_594 (by decide) ?_
                                refine lv_iload_n hx hb dL_refuses_596 rfl (lv_at hl 1 rfl) ?_
                                refine lv_bipush (v := 9) hx hb dL_refuses_597 (by decide) ?_
                                refine lv_irem hx hb dL_refuses_599 (by decide) ?_
                                refine lv_iadd hx hb dL_refuses_600 ?_
                                obtain ⟨r_31, hh_r_31, hf⟩ := obd_some hf
                                refine kbx_i (R0 := r_31) (w1 := fun (u : Int32 × WT) => oW cy b_0 bk_0 (oTr (oTr (oTr r_25.2 r_27.2) r_29.2) u.2)) (V := fun (u : Int32 × WT) => u.1) hS (Nat.le_of_ble_eq_true rfl) (Jn_1 hP hD hS hA) (vx_runSX (As := [.ref (b_0 0), .long y1.toInt64, .int (61 + (irm y1 9))]) (rest := []) ⟨hx, hb, hml, hown, hts⟩ (c_L_doSimulate (l := l) hfl G cy (b_0 0) (b_0 1) (b_0 2) (b_0 3) (b_0 4) (b_0 5) (b_0 6) (b_0 7) (b_0 8) (b_0 9) (b_0 10) (b_0 11) (b_0 12) (b_0 13) bk_0 H.size (oTr (oTr r_25.2 r_27.2) r_29.2).1 (oTr (oTr r_25.2 r_27.2) r_29.2).2.1 (oTr (oTr r_25.2 r_27.2) r_29.2).2.2.1 (oTr (oTr r_25.2 r_27.2) r_29.2).2.2.2.1 (oTr (oTr r_25.2 r_27.2) r_29.2).2.2.2.2.1 (oTr (oTr r_25.2 r_27.2) r_29.2).2.2.2.2.2.1 (oTr (oTr r_25.2 r_27.2) r_29.2).2.2.2.2.2.2.1 (oTr (oTr r_25.2 r_27.2) r_29.2).2.2.2.2.2.2.2.1 (oTr (oTr r_25.2 r_27.2) r_29.2).2.2.2.2.2.2.2.2.1 (oTr (oTr r_25.2 r_27.2) r_29.2).2.2.2.2.2.2.2.2.2.1 (oTr (oTr r_25.2 r_27.2) r_29.2).2.2.2.2.2.2.2.2.2.2.1 (oTr (oTr r_25.2 r_27.2) r_29.2).2.2.2.2.2.2.2.2.2.2.2.1 (oTr (oTr r_25.2 r_27.2) r_29.2).2.2.2.2.2.2.2.2.2.2.2.2 y1.toInt64 (61 + (irm y1 9)) n r_31 hh_r_31) (vx_cwSW 3 hts gB_refuses_L_doSimulate rfl rfl rfl ddN_L_doSimulate ⟨(Nat.le_of_ble_eq_true rfl), (Nat.le_of_ble_eq_true rfl)⟩) (preSN hXN (hE.kept hS.2.1) (Jn_1 hP hD hS hA).1 hP hK hD hN) rfl rfl hl.1 rfl (lv_room (Nat.le_of_ble_eq_true rfl)) dL_refuses_601 ⟨by show cc + 36 + 1 ≤ 85; omega, by show 6 * (cc + 36) + 6 ≤ 510; omega⟩) (fun H locs hP hD hS => ?_)
                                have hP : va_P G vwCl (oW cy b_0 bk_0 (oTr (oTr (oTr r_25.2 r_27.2) r_29.2) r_31.2)) H := hP
                                have hD : va_D A (oW cy b_0 bk_0 (oTr (oTr (oTr r_25.2 r_27.2) r_29.2) r_31.2)) := hD
                                refine lv_ldc (v := (-9999002)) hx hb hown (hts (.constant RL 29 (-9999002)) (by decide +kernel)) dL_refuses_604 ?_
                                refine lv_icmp_ne (tgt := 613) hx hb dL_refuses_606 (by decide) (fun h_32 => ?_) (fun h_32 => ?_)
                                · have hf := in_ h_32 hf
                                  exact bl_613  (oTr (oTr (oTr r_25.2 r_27.2) r_29.2) r_31.2) _ _ _ (by omega) hf hP hD hS ls (lv_sub hl [] rfl)
                                · have hf := ip_ h_32 hf
                                  refine lv_iconst (v := 1) hx hb dL_refuses_609 (by decide) ?_
                                  refine lv_goto (tgt := 614) hx hb dL_refuses_610 (by decide) ?_
                                  refine W.widen (k := 85) (n := 510) (by omega) (by omega) ?_
                                  obtain rfl := Option.some.inj hf
                                  exact kr_z (V := bI true) hx hb hr hlocks (bI_nar _) rfl hP hK hD hN hS hS.2.2 dL_refuses_614
  have bl_112 : ∀ (c_o_0 : OT) (y1 : Int32) (y2 : Int32) (y3 : Int32) (y4 : Int32) (y5 : Int32) (z1 : Int32) (z2 : Int32) (H : Heap) (locs : List Loc) (cc : Nat), cc + (79) ≤ 85 → f_L_refuses_b112 n c_o_0 y1 y2 y3 y4 y5 z1 z2 = some R → va_P G vwCl (oW cy b_0 bk_0 c_o_0) H → va_D A (oW cy b_0 bk_0 c_o_0) → va_S A s.heap H locs → ∀ (ls : Array Slot), lv_has ls 6 [(0, .ref (b_0 0)), (1, .int y1), (2, .int y2), (3, .int y3), (4, .int y4), (5, .int y5)] → W p l e ({ frames := 11, cells := 85, slots := 510, locals := 218 } : Room) s m [.ref (b_0 0), .int x1].toArray below meth c H locs cc (6 * cc) (MQ below (va_Qi (fun r (_ : Unit) => r = bI R.1) (fun _ t => Wd G cy A (oW cy b_0 bk_0 R.2) t) A) [.ref (b_0 0), .int x1].toArray s 85 510 A) (F0 m 112 ls [.int z2, .int z1, .ref (b_0 0)]) := by
    intro c_o_0 y1 y2 y3 y4 y5 z1 z2 H locs cc hcc hf hP hD hS ls hl
    unfold f_L_refuses_b112 at hf
    refine lv_iconst (v := 0) hx hb dL_refuses_112 (by decide) ?_
    refine lv_iconst (v := 0) hx hb dL_refuses_113 (by decide) ?_
    obtain ⟨r_33, hh_r_33, hf⟩ := obd_some hf
    refine kb_i6 (V := r_33.1) (w1 := oW cy b_0 bk_0 r_33.2) hS (Nat.le_of_ble_eq_true rfl) (Jn_1 hP hD hS hA) (va_runS (As := [.ref (b_0 0), .int z1, .int z2, .int 0, .int 0]) (rest := []) ⟨hx, hb, hml, hown, hts⟩ (c_L_call (l := l) hfl G cy b_0 bk_0 H.size c_o_0 z1 z2 0 0 n r_33 hh_r_33) (va_cwS 5 hts gB_refuses_L_call rfl rfl rfl ddN_L_call ⟨(Nat.le_of_ble_eq_true rfl), (Nat.le_of_ble_eq_true rfl)⟩) (preSN hXN (hE.kept hS.2.1) (Jn_1 hP hD hS hA).1 hP hK hD hN) rfl rfl hl.1 rfl (lv_room (Nat.le_of_ble_eq_true rfl)) dL_refuses_114 ⟨by show cc + 3 ≤ 85; omega, by show 6 * cc + 18 ≤ 510; omega⟩) (fun H locs hP hD hS => ?_)
    have hP : va_P G vwCl (oW cy b_0 bk_0 r_33.2) H := hP
    have hD : va_D A (oW cy b_0 bk_0 r_33.2) := hD
    refine lv_ldc (v := (-9999002)) hx hb hown (hts (.constant RL 29 (-9999002)) (by decide +kernel)) dL_refuses_117 ?_
    refine lv_icmp_ne (tgt := 613) hx hb dL_refuses_119 (by decide) (fun h_34 => ?_) (fun h_34 => ?_)
    · have hf := in_ h_34 hf
      exact bl_613  r_33.2 _ _ _ (by omega) hf hP hD hS ls (lv_sub hl [] rfl)
    · have hf := ip_ h_34 hf
      refine lv_aload_n hx hb dL_refuses_122 rfl (lv_at hl 0 rfl) ?_
      refine lv_iconst (v := 2) hx hb dL_refuses_123 (by decide) ?_
      refine lv_bipush (v := 8) hx hb dL_refuses_124 (by decide) ?_
      refine lv_iload_n hx hb dL_refuses_126 rfl (lv_at hl 1 rfl) ?_
      refine lv_bipush (v := 50) hx hb dL_refuses_127 (by decide) ?_
      refine lv_irem hx hb dL_refuses_129 (by decide) ?_
      refine lv_iadd hx hb dL_refuses_130 ?_
      refine lv_iconst (v := 0) hx hb dL_refuses_131 (by decide) ?_
      refine lv_iconst (v := 0) hx hb dL_refuses_132 (by decide) ?_
      obtain ⟨r_35, hh_r_35, hf⟩ := obd_some hf
      refine kb_i6 (V := r_35.1) (w1 := oW cy b_0 bk_0 r_35.2) hS (Nat.le_of_ble_eq_true rfl) (Jn_1 hP hD hS hA) (va_runS (As := [.ref (b_0 0), .int 2, .int (8 + (irm y1 50)), .int 0, .int 0]) (rest := []) ⟨hx, hb, hml, hown, hts⟩ (c_L_call (l := l) hfl G cy b_0 bk_0 H.size r_33.2 2 (8 + (irm y1 50)) 0 0 n r_35 hh_r_35) (va_cwS 5 hts gB_refuses_L_call rfl rfl rfl ddN_L_call ⟨(Nat.le_of_ble_eq_true rfl), (Nat.le_of_ble_eq_true rfl)⟩) (preSN hXN (hE.kept hS.2.1) (Jn_1 hP hD hS hA).1 hP hK hD hN) rfl rfl hl.1 rfl (lv_room (Nat.le_of_ble_eq_true rfl)) dL_refuses_133 ⟨by show cc + 3 + 3 ≤ 85; omega, by show 6 * (cc + 3) + 18 ≤ 510; omega⟩) (fun H locs hP hD hS => ?_)
      have hP : va_P G vwCl (oW cy b_0 bk_0 r_35.2) H := hP
      have hD : va_D A (oW cy b_0 bk_0 r_35.2) := hD
      refine lv_ldc (v := (-9999002)) hx hb hown (hts (.constant RL 29 (-9999002)) (by decide +kernel)) dL_refuses_136 ?_
      refine lv_icmp_ne (tgt := 613) hx hb dL_refuses_138 (by decide) (fun h_36 => ?_) (fun h_36 => ?_)
      · have hf := in_ h_36 hf
        exact bl_613  r_35.2 _ _ _ (by omega) hf hP hD hS ls (lv_sub hl [] rfl)
      · have hf := ip_ h_36 hf
        refine lv_aload_n hx hb dL_refuses_141 rfl (lv_at hl 0 rfl) ?_
        refine lv_iconst (v := 3) hx hb dL_refuses_142 (by decide) ?_
        refine lv_iload_n hx hb dL_refuses_143 rfl (lv_at hl 3 rfl) ?_
        refine lv_bipush (v := 9) hx hb dL_refuses_144 (by decide) ?_
        refine lv_iconst (v := 0) hx hb dL_refuses_146 (by decide) ?_
        obtain ⟨r_37, hh_r_37, hf⟩ := obd_some hf
        refine kb_i6 (V := r_37.1) (w1 := oW cy b_0 bk_0 r_37.2) hS (Nat.le_of_ble_eq_true rfl) (Jn_1 hP hD hS hA) (va_runS (As := [.ref (b_0 0), .int 3, .int y3, .int 9, .int 0]) (rest := []) ⟨hx, hb, hml, hown, hts⟩ (c_L_call (l := l) hfl G cy b_0 bk_0 H.size r_35.2 3 y3 9 0 n r_37 hh_r_37) (va_cwS 5 hts gB_refuses_L_call rfl rfl rfl ddN_L_call ⟨(Nat.le_of_ble_eq_true rfl), (Nat.le_of_ble_eq_true rfl)⟩) (preSN hXN (hE.kept hS.2.1) (Jn_1 hP hD hS hA).1 hP hK hD hN) rfl rfl hl.1 rfl (lv_room (Nat.le_of_ble_eq_true rfl)) dL_refuses_147 ⟨by show cc + 6 + 3 ≤ 85; omega, by show 6 * (cc + 6) + 18 ≤ 510; omega⟩) (fun H locs hP hD hS => ?_)
        have hP : va_P G vwCl (oW cy b_0 bk_0 r_37.2) H := hP
        have hD : va_D A (oW cy b_0 bk_0 r_37.2) := hD
        refine lv_ldc (v := (-9999001)) hx hb hown (hts (.constant RL 52 (-9999001)) (by decide +kernel)) dL_refuses_150 ?_
        refine lv_icmp_ne (tgt := 613) hx hb dL_refuses_152 (by decide) (fun h_38 => ?_) (fun h_38 => ?_)
        · have hf := in_ h_38 hf
          exact bl_613  r_37.2 _ _ _ (by omega) hf hP hD hS ls (lv_sub hl [] rfl)
        · have hf := ip_ h_38 hf
          refine lv_aload_n hx hb dL_refuses_155 rfl (lv_at hl 0 rfl) ?_
          refine lv_iconst (v := 3) hx hb dL_refuses_156 (by decide) ?_
          refine lv_iload_n hx hb dL_refuses_157 rfl (lv_at hl 1 rfl) ?_
          refine lv_iload_n hx hb dL_refuses_158 rfl (lv_at hl 2 rfl) ?_
          by_cases q_39 : y2 = 0
          · have hf := ip_ q_39 hf; cases hf
          have hf := in_ q_39 hf
          refine lv_irem hx hb dL_refuses_159 q_39 ?_
          refine lv_iconst (v := 4) hx hb dL_refuses_160 (by decide) ?_
          refine lv_iload_n hx hb dL_refuses_161 rfl (lv_at hl 1 rfl) ?_
          refine lv_bipush (v := 9) hx hb dL_refuses_162 (by decide) ?_
          refine lv_irem hx hb dL_refuses_164 (by decide) ?_
          refine lv_iadd hx hb dL_refuses_165 ?_
          refine lv_iconst (v := 0) hx hb dL_refuses_166 (by decide) ?_
          obtain ⟨r_40, hh_r_40, hf⟩ := obd_some hf
          refine kb_i6 (V := r_40.1) (w1 := oW cy b_0 bk_0 r_40.2) hS (Nat.le_of_ble_eq_true rfl) (Jn_1 hP hD hS hA) (va_runS (As := [.ref (b_0 0), .int 3, .int (irm y1 y2), .int (4 + (irm y1 9)), .int 0]) (rest := []) ⟨hx, hb, hml, hown, hts⟩ (c_L_call (l := l) hfl G cy b_0 bk_0 H.size r_37.2 3 (irm y1 y2) (4 + (irm y1 9)) 0 n r_40 hh_r_40) (va_cwS 5 hts gB_refuses_L_call rfl rfl rfl ddN_L_call ⟨(Nat.le_of_ble_eq_true rfl), (Nat.le_of_ble_eq_true rfl)⟩) (preSN hXN (hE.kept hS.2.1) (Jn_1 hP hD hS hA).1 hP hK hD hN) rfl rfl hl.1 rfl (lv_room (Nat.le_of_ble_eq_true rfl)) dL_refuses_167 ⟨by show cc + 9 + 3 ≤ 85; omega, by show 6 * (cc + 9) + 18 ≤ 510; omega⟩) (fun H locs hP hD hS => ?_)
          have hP : va_P G vwCl (oW cy b_0 bk_0 r_40.2) H := hP
          have hD : va_D A (oW cy b_0 bk_0 r_40.2) := hD
          refine lv_ldc (v := (-9999002)) hx hb hown (hts (.constant RL 29 (-9999002)) (by decide +kernel)) dL_refuses_170 ?_
          refine lv_icmp_ne (tgt := 613) hx hb dL_refuses_172 (by decide) (fun h_41 => ?_) (fun h_41 => ?_)
          · have hf := in_ h_41 hf
            exact bl_613  r_40.2 _ _ _ (by omega) hf hP hD hS ls (lv_sub hl [] rfl)
          · have hf := ip_ h_41 hf
            refine lv_aload_n hx hb dL_refuses_175 rfl (lv_at hl 0 rfl) ?_
            refine lv_iconst (v := 4) hx hb dL_refuses_176 (by decide) ?_
            refine lv_iload_n hx hb dL_refuses_177 rfl (lv_at hl 3 rfl) ?_
            refine lv_bipush (v := 9) hx hb dL_refuses_178 (by decide) ?_
            refine lv_iconst (v := 0) hx hb dL_refuses_180 (by decide) ?_
            obtain ⟨r_42, hh_r_42, hf⟩ := obd_some hf
            refine kb_i6 (V := r_42.1) (w1 := oW cy b_0 bk_0 r_42.2) hS (Nat.le_of_ble_eq_true rfl) (Jn_1 hP hD hS hA) (va_runS (As := [.ref (b_0 0), .int 4, .int y3, .int 9, .int 0]) (rest := []) ⟨hx, hb, hml, hown, hts⟩ (c_L_call (l := l) hfl G cy b_0 bk_0 H.size r_40.2 4 y3 9 0 n r_42 hh_r_42) (va_cwS 5 hts gB_refuses_L_call rfl rfl rfl ddN_L_call ⟨(Nat.le_of_ble_eq_true rfl), (Nat.le_of_ble_eq_true rfl)⟩) (preSN hXN (hE.kept hS.2.1) (Jn_1 hP hD hS hA).1 hP hK hD hN) rfl rfl hl.1 rfl (lv_room (Nat.le_of_ble_eq_true rfl)) dL_refuses_181 ⟨by show cc + 12 + 3 ≤ 85; omega, by show 6 * (cc + 12) + 18 ≤ 510; omega⟩) (fun H locs hP hD hS => ?_)
            have hP : va_P G vwCl (oW cy b_0 bk_0 r_42.2) H := hP
            have hD : va_D A (oW cy b_0 bk_0 r_42.2) := hD
            refine lv_ldc (v := (-9999001)) hx hb hown (hts (.constant RL 52 (-9999001)) (by decide +kernel)) dL_refuses_184 ?_
            refine lv_icmp_ne (tgt := 613) hx hb dL_refuses_186 (by decide) (fun h_43 => ?_) (fun h_43 => ?_)
            · have hf := in_ h_43 hf
              exact bl_613  r_42.2 _ _ _ (by omega) hf hP hD hS ls (lv_sub hl [] rfl)
            · have hf := ip_ h_43 hf
              refine lv_aload_n hx hb dL_refuses_189 rfl (lv_at hl 0 rfl) ?_
              refine lv_iconst (v := 4) hx hb dL_refuses_190 (by decide) ?_
              refine lv_iload_n hx hb dL_refuses_191 rfl (lv_at hl 1 rfl) ?_
              refine lv_iload_n hx hb dL_refuses_192 rfl (lv_at hl 2 rfl) ?_
              by_cases q_44 : y2 = 0
              · have hf := ip_ q_44 hf; cases hf
              have hf := in_ q_44 hf
              refine lv_irem hx hb dL_refuses_193 q_44 ?_
              refine lv_iload hx hb dL_refuses_194 (lv_at hl 4 rfl) ?_
              refine lv_iconst (v := 0) hx hb dL_refuses_196 (by decide) ?_
              obtain ⟨r_45, hh_r_45, hf⟩ := obd_some hf
              refine kb_i6 (V := r_45.1) (w1 := oW cy b_0 bk_0 r_45.2) hS (Nat.le_of_ble_eq_true rfl) (Jn_1 hP hD hS hA) (va_runS (As := [.ref (b_0 0), .int 4, .int (irm y1 y2), .int y4, .int 0]) (rest := []) ⟨hx, hb, hml, hown, hts⟩ (c_L_call (l := l) hfl G cy b_0 bk_0 H.size r_42.2 4 (irm y1 y2) y4 0 n r_45 hh_r_45) (va_cwS 5 hts gB_refuses_L_call rfl rfl rfl ddN_L_call ⟨(Nat.le_of_ble_eq_true rfl), (Nat.le_of_ble_eq_true rfl)⟩) (preSN hXN (hE.kept hS.2.1) (Jn_1 hP hD hS hA).1 hP hK hD hN) rfl rfl hl.1 rfl (lv_room (Nat.le_of_ble_eq_true rfl)) dL_refuses_197 ⟨by show cc + 15 + 3 ≤ 85; omega, by show 6 * (cc + 15) + 18 ≤ 510; omega⟩) (fun H locs hP hD hS => ?_)
              have hP : va_P G vwCl (oW cy b_0 bk_0 r_45.2) H := hP
              have hD : va_D A (oW cy b_0 bk_0 r_45.2) := hD
              refine lv_ldc (v := (-9999002)) hx hb hown (hts (.constant RL 29 (-9999002)) (by decide +kernel)) dL_refuses_200 ?_
              refine lv_icmp_ne (tgt := 613) hx hb dL_refuses_202 (by decide) (fun h_46 => ?_) (fun h_46 => ?_)
              · have hf := in_ h_46 hf
                exact bl_613  r_45.2 _ _ _ (by omega) hf hP hD hS ls (lv_sub hl [] rfl)
              · have hf := ip_ h_46 hf
                refine lv_aload_n hx hb dL_refuses_205 rfl (lv_at hl 0 rfl) ?_
                refine lv_iconst (v := 5) hx hb dL_refuses_206 (by decide) ?_
                refine lv_iload hx hb dL_refuses_207 (lv_at hl 4 rfl) ?_
                refine lv_iconst (v := 0) hx hb dL_refuses_209 (by decide) ?_
                refine lv_iconst (v := 0) hx hb dL_refuses_210 (by decide) ?_
                obtain ⟨r_47, hh_r_47, hf⟩ := obd_some hf
                refine kb_i6 (V := r_47.1) (w1 := oW cy b_0 bk_0 r_47.2) hS (Nat.le_of_ble_eq_true rfl) (Jn_1 hP hD hS hA) (va_runS (As := [.ref (b_0 0), .int 5, .int y4, .int 0, .int 0]) (rest := []) ⟨hx, hb, hml, hown, hts⟩ (c_L_call (l := l) hfl G cy b_0 bk_0 H.size r_45.2 5 y4 0 0 n r_47 hh_r_47) (va_cwS 5 hts gB_refuses_L_call rfl rfl rfl ddN_L_call ⟨(Nat.le_of_ble_eq_true rfl), (Nat.le_of_ble_eq_true rfl)⟩) (preSN hXN (hE.kept hS.2.1) (Jn_1 hP hD hS hA).1 hP hK hD hN) rfl rfl hl.1 rfl (lv_room (Nat.le_of_ble_eq_true rfl)) dL_refuses_211 ⟨by show cc + 18 + 3 ≤ 85; omega, by show 6 * (cc + 18) + 18 ≤ 510; omega⟩) (fun H locs hP hD hS => ?_)
                have hP : va_P G vwCl (oW cy b_0 bk_0 r_47.2) H := hP
                have hD : va_D A (oW cy b_0 bk_0 r_47.2) := hD
                refine lv_ldc (v := (-9999002)) hx hb hown (hts (.constant RL 29 (-9999002)) (by decide +kernel)) dL_refuses_214 ?_
                refine lv_icmp_ne (tgt := 613) hx hb dL_refuses_216 (by decide) (fun h_48 => ?_) (fun h_48 => ?_)
                · have hf := in_ h_48 hf
                  exact bl_613  r_47.2 _ _ _ (by omega) hf hP hD hS ls (lv_sub hl [] rfl)
                · have hf := ip_ h_48 hf
                  refine lv_aload_n hx hb dL_refuses_219 rfl (lv_at hl 0 rfl) ?_
                  refine lv_bipush (v := 6) hx hb dL_refuses_220 (by decide) ?_
                  refine lv_iload hx hb dL_refuses_222 (lv_at hl 5 rfl) ?_
                  refine lv_iconst (v := 4) hx hb dL_refuses_224 (by decide) ?_
                  refine lv_iconst (v := 0) hx hb dL_refuses_225 (by decide) ?_
                  obtain ⟨r_49, hh_r_49, hf⟩ := obd_some hf
                  refine kb_i6 (V := r_49.1) (w1 := oW cy b_0 bk_0 r_49.2) hS (Nat.le_of_ble_eq_true rfl) (Jn_1 hP hD hS hA) (va_runS (As := [.ref (b_0 0), .int 6, .int y5, .int 4, .int 0]) (rest := []) ⟨hx, hb, hml, hown, hts⟩ (c_L_call (l := l) hfl G cy b_0 bk_0 H.size r_47.2 6 y5 4 0 n r_49 hh_r_49) (va_cwS 5 hts gB_refuses_L_call rfl rfl rfl ddN_L_call ⟨(Nat.le_of_ble_eq_true rfl), (Nat.le_of_ble_eq_true rfl)⟩) (preSN hXN (hE.kept hS.2.1) (Jn_1 hP hD hS hA).1 hP hK hD hN) rfl rfl hl.1 rfl (lv_room (Nat.le_of_ble_eq_true rfl)) dL_refuses_226 ⟨by show cc + 21 + 3 ≤ 85; omega, by show 6 * (cc + 21) + 18 ≤ 510; omega⟩) (fun H locs hP hD hS => ?_)
                  have hP : va_P G vwCl (oW cy b_0 bk_0 r_49.2) H := hP
                  have hD : va_D A (oW cy b_0 bk_0 r_49.2) := hD
                  refine lv_ldc (v := (-9999002)) hx hb hown (hts (.constant RL 29 (-9999002)) (by decide +kernel)) dL_refuses_229 ?_
                  refine lv_icmp_ne (tgt := 613) hx hb dL_refuses_231 (by decide) (fun h_50 => ?_) (fun h_50 => ?_)
                  · have hf := in_ h_50 hf
                    exact bl_613  r_49.2 _ _ _ (by omega) hf hP hD hS ls (lv_sub hl [] rfl)
                  · have hf := ip_ h_50 hf
                    refine lv_aload_n hx hb dL_refuses_234 rfl (lv_at hl 0 rfl) ?_
                    refine lv_bipush (v := 6) hx hb dL_refuses_235 (by decide) ?_
                    refine lv_iconst (v := 4) hx hb dL_refuses_237 (by decide) ?_
                    refine lv_iload hx hb dL_refuses_238 (lv_at hl 5 rfl) ?_
                    refine lv_iconst (v := 0) hx hb dL_refuses_240 (by decide) ?_
                    obtain ⟨r_51, hh_r_51, hf⟩ := obd_some hf
                    refine kb_i6 (V := r_51.1) (w1 := oW cy b_0 bk_0 r_51.2) hS (Nat.le_of_ble_eq_true rfl) (Jn_1 hP hD hS hA) (va_runS (As := [.ref (b_0 0), .int 6, .int 4, .int y5, .int 0]) (rest := []) ⟨hx, hb, hml, hown, hts⟩ (c_L_call (l := l) hfl G cy b_0 bk_0 H.size r_49.2 6 4 y5 0 n r_51 hh_r_51) (va_cwS 5 hts gB_refuses_L_call rfl rfl rfl ddN_L_call ⟨(Nat.le_of_ble_eq_true rfl), (Nat.le_of_ble_eq_true rfl)⟩) (preSN hXN (hE.kept hS.2.1) (Jn_1 hP hD hS hA).1 hP hK hD hN) rfl rfl hl.1 rfl (lv_room (Nat.le_of_ble_eq_true rfl)) dL_refuses_241 ⟨by show cc + 24 + 3 ≤ 85; omega, by show 6 * (cc + 24) + 18 ≤ 510; omega⟩) (fun H locs hP hD hS => ?_)
                    have hP : va_P G vwCl (oW cy b_0 bk_0 r_51.2) H := hP
                    have hD : va_D A (oW cy b_0 bk_0 r_51.2) := hD
                    refine lv_ldc (v := (-9999002)) hx hb hown (hts (.constant RL 29 (-9999002)) (by decide +kernel)) dL_refuses_244 ?_
                    refine lv_icmp_ne (tgt := 613) hx hb dL_refuses_246 (by decide) (fun h_52 => ?_) (fun h_52 => ?_)
                    · have hf := in_ h_52 hf
                      exact bl_613  r_51.2 _ _ _ (by omega) hf hP hD hS ls (lv_sub hl [] rfl)
                    · have hf := ip_ h_52 hf
                      refine lv_aload_n hx hb dL_refuses_249 rfl (lv_at hl 0 rfl) ?_
                      refine lv_bipush (v := 7) hx hb dL_refuses_250 (by decide) ?_
                      refine lv_iload_n hx hb dL_refuses_252 rfl (lv_at hl 3 rfl) ?_
                      refine lv_iconst (v := 0) hx hb dL_refuses_253 (by decide) ?_
                      refine lv_iconst (v := 0) hx hb dL_refuses_254 (by decide) ?_
                      obtain ⟨r_53, hh_r_53, hf⟩ := obd_some hf
                      refine kb_i6 (V := r_53.1) (w1 := oW cy b_0 bk_0 r_53.2) hS (Nat.le_of_ble_eq_true rfl) (Jn_1 hP hD hS hA) (va_runS (As := [.ref (b_0 0), .int 7, .int y3, .int 0, .int 0]) (rest := []) ⟨hx, hb, hml, hown, hts⟩ (c_L_call (l := l) hfl G cy b_0 bk_0 H.size r_51.2 7 y3 0 0 n r_53 hh_r_53) (va_cwS 5 hts gB_refuses_L_call rfl rfl rfl ddN_L_call ⟨(Nat.le_of_ble_eq_true rfl), (Nat.le_of_ble_eq_true rfl)⟩) (preSN hXN (hE.kept hS.2.1) (Jn_1 hP hD hS hA).1 hP hK hD hN) rfl rfl hl.1 rfl (lv_room (Nat.le_of_ble_eq_true rfl)) dL_refuses_255 ⟨by show cc + 27 + 3 ≤ 85; omega, by show 6 * (cc + 27) + 18 ≤ 510; omega⟩) (fun H locs hP hD hS => ?_)
                      have hP : va_P G vwCl (oW cy b_0 bk_0 r_53.2) H := hP
                      have hD : va_D A (oW cy b_0 bk_0 r_53.2) := hD
                      refine lv_ldc (v := (-9999001)) hx hb hown (hts (.constant RL 52 (-9999001)) (by decide +kernel)) dL_refuses_258 ?_
                      refine lv_icmp_ne (tgt := 613) hx hb dL_refuses_260 (by decide) (fun h_54 => ?_) (fun h_54 => ?_)
                      · have hf := in_ h_54 hf
                        exact bl_613  r_53.2 _ _ _ (by omega) hf hP hD hS ls (lv_sub hl [] rfl)
                      · have hf := ip_ h_54 hf
                        refine lv_aload_n hx hb dL_refuses_263 rfl (lv_at hl 0 rfl) ?_
                        refine lv_bipush (v := 8) hx hb dL_refuses_264 (by decide) ?_
                        refine lv_iload_n hx hb dL_refuses_266 rfl (lv_at hl 3 rfl) ?_
                        refine lv_bipush (v := 9) hx hb dL_refuses_267 (by decide) ?_
                        refine lv_iconst (v := 0) hx hb dL_refuses_269 (by decide) ?_
                        obtain ⟨r_55, hh_r_55, hf⟩ := obd_some hf
                        refine kb_i6 (V := r_55.1) (w1 := oW cy b_0 bk_0 r_55.2) hS (Nat.le_of_ble_eq_true rfl) (Jn_1 hP hD hS hA) (va_runS (As := [.ref (b_0 0), .int 8, .int y3, .int 9, .int 0]) (rest := []) ⟨hx, hb, hml, hown, hts⟩ (c_L_call (l := l) hfl G cy b_0 bk_0 H.size r_53.2 8 y3 9 0 n r_55 hh_r_55) (va_cwS 5 hts gB_refuses_L_call rfl rfl rfl ddN_L_call ⟨(Nat.le_of_ble_eq_true rfl), (Nat.le_of_ble_eq_true rfl)⟩) (preSN hXN (hE.kept hS.2.1) (Jn_1 hP hD hS hA).1 hP hK hD hN) rfl rfl hl.1 rfl (lv_room (Nat.le_of_ble_eq_true rfl)) dL_refuses_270 ⟨by show cc + 30 + 3 ≤ 85; omega, by show 6 * (cc + 30) + 18 ≤ 510; omega⟩) (fun H locs hP hD hS => ?_)
                        have hP : va_P G vwCl (oW cy b_0 bk_0 r_55.2) H := hP
                        have hD : va_D A (oW cy b_0 bk_0 r_55.2) := hD
                        refine lv_ldc (v := (-9999001)) hx hb hown (hts (.constant RL 52 (-9999001)) (by decide +kernel)) dL_refuses_273 ?_
                        refine lv_icmp_ne (tgt := 613) hx hb dL_refuses_275 (by decide) (fun h_56 => ?_) (fun h_56 => ?_)
                        · have hf := in_ h_56 hf
                          exact bl_613  r_55.2 _ _ _ (by omega) hf hP hD hS ls (lv_sub hl [] rfl)
                        · have hf := ip_ h_56 hf
                          refine lv_aload_n hx hb dL_refuses_278 rfl (lv_at hl 0 rfl) ?_
                          refine lv_bipush (v := 8) hx hb dL_refuses_279 (by decide) ?_
                          refine lv_iload_n hx hb dL_refuses_281 rfl (lv_at hl 1 rfl) ?_
                          refine lv_iload_n hx hb dL_refuses_282 rfl (lv_at hl 2 rfl) ?_
                          by_cases q_57 : y2 = 0
                          · have hf := ip_ q_57 hf; cases hf
                          have hf := in_ q_57 hf
                          refine lv_irem hx hb dL_refuses_283 q_57 ?_
                          refine lv_iload hx hb dL_refuses_284 (lv_at hl 4 rfl) ?_
                          refine lv_iconst (v := 0) hx hb dL_refuses_286 (by decide) ?_
                          obtain ⟨r_58, hh_r_58, hf⟩ := obd_some hf
                          refine kb_i6 (V := r_58.1) (w1 := oW cy b_0 bk_0 r_58.2) hS (Nat.le_of_ble_eq_true rfl) (Jn_1 hP hD hS hA) (va_runS (As := [.ref (b_0 0), .int 8, .int (irm y1 y2), .int y4, .int 0]) (rest := []) ⟨hx, hb, hml, hown, hts⟩ (c_L_call (l := l) hfl G cy b_0 bk_0 H.size r_55.2 8 (irm y1 y2) y4 0 n r_58 hh_r_58) (va_cwS 5 hts gB_refuses_L_call rfl rfl rfl ddN_L_call ⟨(Nat.le_of_ble_eq_true rfl), (Nat.le_of_ble_eq_true rfl)⟩) (preSN hXN (hE.kept hS.2.1) (Jn_1 hP hD hS hA).1 hP hK hD hN) rfl rfl hl.1 rfl (lv_room (Nat.le_of_ble_eq_true rfl)) dL_refuses_287 ⟨by show cc + 33 + 3 ≤ 85; omega, by show 6 * (cc + 33) + 18 ≤ 510; omega⟩) (fun H locs hP hD hS => ?_)
                          have hP : va_P G vwCl (oW cy b_0 bk_0 r_58.2) H := hP
                          have hD : va_D A (oW cy b_0 bk_0 r_58.2) := hD
                          refine lv_ldc (v := (-9999002)) hx hb hown (hts (.constant RL 29 (-9999002)) (by decide +kernel)) dL_refuses_290 ?_
                          refine lv_icmp_ne (tgt := 613) hx hb dL_refuses_292 (by decide) (fun h_59 => ?_) (fun h_59 => ?_)
                          · have hf := in_ h_59 hf
                            exact bl_613  r_58.2 _ _ _ (by omega) hf hP hD hS ls (lv_sub hl [] rfl)
                          · have hf := ip_ h_59 hf
                            refine lv_aload_n hx hb dL_refuses_295 rfl (lv_at hl 0 rfl) ?_
                            refine lv_bipush (v := 9) hx hb dL_refuses_296 (by decide) ?_
                            refine lv_iload hx hb dL_refuses_298 (lv_at hl 4 rfl) ?_
                            refine lv_iconst (v := 0) hx hb dL_refuses_300 (by decide) ?_
                            refine lv_iconst (v := 0) hx hb dL_refuses_301 (by decide) ?_
                            obtain ⟨r_60, hh_r_60, hf⟩ := obd_some hf
                            refine kb_i6 (V := r_60.1) (w1 := oW cy b_0 bk_0 r_60.2) hS (Nat.le_of_ble_eq_true rfl) (Jn_1 hP hD hS hA) (va_runS (As := [.ref (b_0 0), .int 9, .int y4, .int 0, .int 0]) (rest := []) ⟨hx, hb, hml, hown, hts⟩ (c_L_call (l := l) hfl G cy b_0 bk_0 H.size r_58.2 9 y4 0 0 n r_60 hh_r_60) (va_cwS 5 hts gB_refuses_L_call rfl rfl rfl ddN_L_call ⟨(Nat.le_of_ble_eq_true rfl), (Nat.le_of_ble_eq_true rfl)⟩) (preSN hXN (hE.kept hS.2.1) (Jn_1 hP hD hS hA).1 hP hK hD hN) rfl rfl hl.1 rfl (lv_room (Nat.le_of_ble_eq_true rfl)) dL_refuses_302 ⟨by show cc + 36 + 3 ≤ 85; omega, by show 6 * (cc + 36) + 18 ≤ 510; omega⟩) (fun H locs hP hD hS => ?_)
                            have hP : va_P G vwCl (oW cy b_0 bk_0 r_60.2) H := hP
                            have hD : va_D A (oW cy b_0 bk_0 r_60.2) := hD
                            refine lv_ldc (v := (-9999002)) hx hb hown (hts (.constant RL 29 (-9999002)) (by decide +kernel)) dL_refuses_305 ?_
                            refine lv_icmp_ne (tgt := 613) hx hb dL_refuses_307 (by decide) (fun h_61 => ?_) (fun h_61 => ?_)
                            · have hf := in_ h_61 hf
                              exact bl_613  r_60.2 _ _ _ (by omega) hf hP hD hS ls (lv_sub hl [] rfl)
                            · have hf := ip_ h_61 hf
                              refine lv_aload_n hx hb dL_refuses_310 rfl (lv_at hl 0 rfl) ?_
                              refine lv_bipush (v := 9) hx hb dL_refuses_311 (by decide) ?_
                              refine lv_iload_n hx hb dL_refuses_313 rfl (lv_at hl 1 rfl) ?_
                              refine lv_iconst (v := 4) hx hb dL_refuses_314 (by decide) ?_
                              refine lv_irem hx hb dL_refuses_315 (by decide) ?_
                              refine lv_iconst (v := 3) hx hb dL_refuses_316 (by decide) ?_
                              refine lv_iload_n hx hb dL_refuses_317 rfl (lv_at hl 1 rfl) ?_
                              refine lv_bipush (v := 9) hx hb dL_refuses_318 (by decide) ?_
                              refine lv_irem hx hb dL_refuses_320 (by decide) ?_
                              refine lv_iadd hx hb dL_refuses_321 ?_
                              refine lv_iconst (v := 0) hx hb dL_refuses_322 (by decide) ?_
                              obtain ⟨r_62, hh_r_62, hf⟩ := obd_some hf
                              refine kb_i6 (V := r_62.1) (w1 := oW cy b_0 bk_0 r_62.2) hS (Nat.le_of_ble_eq_true rfl) (Jn_1 hP hD hS hA) (va_runS (As := [.ref (b_0 0), .int 9, .int (irm y1 4), .int (3 + (irm y1 9)), .int 0]) (rest := []) ⟨hx, hb, hml, hown, hts⟩ (c_L_call (l := l) hfl G cy b_0 bk_0 H.size r_60.2 9 (irm y1 4) (3 + (irm y1 9)) 0 n r_62 hh_r_62) (va_cwS 5 hts gB_refuses_L_call rfl rfl rfl ddN_L_call ⟨(Nat.le_of_ble_eq_true rfl), (Nat.le_of_ble_eq_true rfl)⟩) (preSN hXN (hE.kept hS.2.1) (Jn_1 hP hD hS hA).1 hP hK hD hN) rfl rfl hl.1 rfl (lv_room (Nat.le_of_ble_eq_true rfl)) dL_refuses_323 ⟨by show cc + 39 + 3 ≤ 85; omega, by show 6 * (cc + 39) + 18 ≤ 510; omega⟩) (fun H locs hP hD hS => ?_)
                              have hP : va_P G vwCl (oW cy b_0 bk_0 r_62.2) H := hP
                              have hD : va_D A (oW cy b_0 bk_0 r_62.2) := hD
                              refine lv_ldc (v := (-9999002)) hx hb hown (hts (.constant RL 29 (-9999002)) (by decide +kernel)) dL_refuses_326 ?_
                              refine lv_icmp_ne (tgt := 613) hx hb dL_refuses_328 (by decide) (fun h_63 => ?_) (fun h_63 => ?_)
                              · have hf := in_ h_63 hf
                                exact bl_613  r_62.2 _ _ _ (by omega) hf hP hD hS ls (lv_sub hl [] rfl)
                              · have hf := ip_ h_63 hf
                                refine lv_aload_n hx hb dL_refuses_331 rfl (lv_at hl 0 rfl) ?_
                                refine lv_bipush (v := 10) hx hb dL_refuses_332 (by decide) ?_
                                refine lv_iload_n hx hb dL_refuses_334 rfl (lv_at hl 1 rfl) ?_
                                refine lv_iconst (v := 2) hx hb dL_refuses_335 (by decide) ?_
                                refine lv_irem hx hb dL_refuses_336 (by decide) ?_
                                refine lv_if_ne (tgt := 349) hx hb dL_refuses_337 (by decide) (fun h_64 => ?_) (fun h_64 => ?_)
                                · have hf := in_ h_64 hf
                                  refine lv_iconst (v := 3) hx hb dL_refuses_349 (by decide) ?_
                                  refine lv_iload_n hx hb dL_refuses_350 rfl (lv_at hl 1 rfl) ?_
                                  refine lv_bipush (v := 9) hx hb dL_refuses_351 (by decide) ?_
                                  refine lv_irem hx hb dL_refuses_353 (by decide) ?_
                                  refine lv_iadd hx hb dL_refuses_354 ?_
                                  exact bl_355  r_62.2 y1 y2 y3 10 (3 + (irm y1 9)) _ _ _ (by omega) hf hP hD hS ls (lv_sub hl [0, 1, 2, 3] rfl)
                                · have hf := ip_ h_64 hf
                                  refine lv_iconst (v := (-1)) hx hb dL_refuses_340 (by decide) ?_
                                  refine lv_iload_n hx hb dL_refuses_341 rfl (lv_at hl 1 rfl) ?_
                                  refine lv_bipush (v := 9) hx hb dL_refuses_342 (by decide) ?_
                                  refine lv_irem hx hb dL_refuses_344 (by decide) ?_
                                  refine lv_isub hx hb dL_refuses_345 ?_
                                  refine lv_goto (tgt := 355) hx hb dL_refuses_346 (by decide) ?_
                                  exact bl_355  r_62.2 y1 y2 y3 10 ((-1) - (irm y1 9)) _ _ _ (by omega) hf hP hD hS ls (lv_sub hl [0, 1, 2, 3] rfl)
  have bl_61 : ∀ (c_o_0 : OT) (y1 : Int32) (y2 : Int32) (y3 : Int32) (z0 : Int32) (H : Heap) (locs : List Loc) (cc : Nat), cc + (79) ≤ 85 → f_L_refuses_b61 n c_o_0 y1 y2 y3 z0 = some R → va_P G vwCl (oW cy b_0 bk_0 c_o_0) H → va_D A (oW cy b_0 bk_0 c_o_0) → va_S A s.heap H locs → ∀ (ls : Array Slot), lv_has ls 6 [(0, .ref (b_0 0)), (1, .int y1), (2, .int y2), (3, .int y3)] → W p l e ({ frames := 11, cells := 85, slots := 510, locals := 218 } : Room) s m [.ref (b_0 0), .int x1].toArray below meth c H locs cc (6 * cc) (MQ below (va_Qi (fun r (_ : Unit) => r = bI R.1) (fun _ t => Wd G cy A (oW cy b_0 bk_0 R.2) t) A) [.ref (b_0 0), .int x1].toArray s 85 510 A) (F0 m 61 ls [.int z0]) := by
    intro c_o_0 y1 y2 y3 z0 H locs cc hcc hf hP hD hS ls hl
    unfold f_L_refuses_b61 at hf
    refine lv_istore (lv' := [(4, .int z0), (0, .ref (b_0 0)), (1, .int y1), (2, .int y2), (3, .int y3)]) hx hb dL_refuses_61 hl (by decide) rfl (fun ls hl => ?_)
    refine lv_iload_n hx hb dL_refuses_63 rfl (lv_at hl 2 rfl) ?_
    refine lv_iconst (v := 2) hx hb dL_refuses_64 (by decide) ?_
    refine lv_irem hx hb dL_refuses_65 (by decide) ?_
    refine lv_if_ne (tgt := 78) hx hb dL_refuses_66 (by decide) (fun h_65 => ?_) (fun h_65 => ?_)
    · have hf := in_ h_65 hf
      refine lv_bipush (v := 9) hx hb dL_refuses_78 (by decide) ?_
      refine lv_iload_n hx hb dL_refuses_80 rfl (lv_at hl 2 rfl) ?_
      refine lv_bipush (v := 99) hx hb dL_refuses_81 (by decide) ?_
      refine lv_irem hx hb dL_refuses_83 (by decide) ?_
      refine lv_iadd hx hb dL_refuses_84 ?_
      refine lv_istore (lv' := [(5, .int (9 + (irm y1 99))), (4, .int z0), (0, .ref (b_0 0)), (1, .int y1), (2, .int y2), (3, .int y3)]) hx hb dL_refuses_85 hl (by decide) rfl (fun ls hl => ?_)
      refine lv_aload_n hx hb dL_refuses_87 rfl (lv_at hl 2 rfl) ?_
      refine lv_iconst (v := 0) hx hb dL_refuses_88 (by decide) ?_
      refine lv_iload_n hx hb dL_refuses_89 rfl (lv_at hl 3 rfl) ?_
      refine lv_iconst (v := 2) hx hb dL_refuses_90 (by decide) ?_
      refine lv_irem hx hb dL_refuses_91 (by decide) ?_
      refine lv_if_ne (tgt := 104) hx hb dL_refuses_92 (by decide) (fun h_66 => ?_) (fun h_66 => ?_)
      · have hf := in_ h_66 hf
        refine lv_sipush (v := 256) hx hb dL_refuses_104 (by decide) ?_
        refine lv_iload_n hx hb dL_refuses_107 rfl (lv_at hl 3 rfl) ?_
        refine lv_bipush (v := 9) hx hb dL_refuses_108 (by decide) ?_
        refine lv_irem hx hb dL_refuses_110 (by decide) ?_
        refine lv_iadd hx hb dL_refuses_111 ?_
        exact bl_112  c_o_0 y1 y2 y3 z0 (9 + (irm y1 99)) 0 (256 + (irm y1 9)) _ _ _ (by omega) hf hP hD hS ls (lv_sub hl [2, 3, 4, 5, 1, 0] rfl)
      · have hf := ip_ h_66 hf
        refine lv_iconst (v := (-1)) hx hb dL_refuses_95 (by decide) ?_
        refine lv_iload_n hx hb dL_refuses_96 rfl (lv_at hl 3 rfl) ?_
        refine lv_bipush (v := 9) hx hb dL_refuses_97 (by decide) ?_
        refine lv_irem hx hb dL_refuses_99 (by decide) ?_
        refine lv_isub hx hb dL_refuses_100 ?_
        refine lv_goto (tgt := 112) hx hb dL_refuses_101 (by decide) ?_
        exact bl_112  c_o_0 y1 y2 y3 z0 (9 + (irm y1 99)) 0 ((-1) - (irm y1 9)) _ _ _ (by omega) hf hP hD hS ls (lv_sub hl [2, 3, 4, 5, 1, 0] rfl)
    · have hf := ip_ h_65 hf
      refine lv_iconst (v := 1) hx hb dL_refuses_69 (by decide) ?_
      refine lv_iload_n hx hb dL_refuses_70 rfl (lv_at hl 2 rfl) ?_
      refine lv_bipush (v := 99) hx hb dL_refuses_71 (by decide) ?_
      refine lv_irem hx hb dL_refuses_73 (by decide) ?_
      refine lv_isub hx hb dL_refuses_74 ?_
      refine lv_goto (tgt := 85) hx hb dL_refuses_75 (by decide) ?_
      refine lv_istore (lv' := [(5, .int (1 - (irm y1 99))), (4, .int z0), (0, .ref (b_0 0)), (1, .int y1), (2, .int y2), (3, .int y3)]) hx hb dL_refuses_85 hl (by decide) rfl (fun ls hl => ?_)
      refine lv_aload_n hx hb dL_refuses_87 rfl (lv_at hl 2 rfl) ?_
      refine lv_iconst (v := 0) hx hb dL_refuses_88 (by decide) ?_
      refine lv_iload_n hx hb dL_refuses_89 rfl (lv_at hl 3 rfl) ?_
      refine lv_iconst (v := 2) hx hb dL_refuses_90 (by decide) ?_
      refine lv_irem hx hb dL_refuses_91 (by decide) ?_
      refine lv_if_ne (tgt := 104) hx hb dL_refuses_92 (by decide) (fun h_67 => ?_) (fun h_67 => ?_)
      · have hf := in_ h_67 hf
        refine lv_sipush (v := 256) hx hb dL_refuses_104 (by decide) ?_
        refine lv_iload_n hx hb dL_refuses_107 rfl (lv_at hl 3 rfl) ?_
        refine lv_bipush (v := 9) hx hb dL_refuses_108 (by decide) ?_
        refine lv_irem hx hb dL_refuses_110 (by decide) ?_
        refine lv_iadd hx hb dL_refuses_111 ?_
        exact bl_112  c_o_0 y1 y2 y3 z0 (1 - (irm y1 99)) 0 (256 + (irm y1 9)) _ _ _ (by omega) hf hP hD hS ls (lv_sub hl [2, 3, 4, 5, 1, 0] rfl)
      · have hf := ip_ h_67 hf
        refine lv_iconst (v := (-1)) hx hb dL_refuses_95 (by decide) ?_
        refine lv_iload_n hx hb dL_refuses_96 rfl (lv_at hl 3 rfl) ?_
        refine lv_bipush (v := 9) hx hb dL_refuses_97 (by decide) ?_
        refine lv_irem hx hb dL_refuses_99 (by decide) ?_
        refine lv_isub hx hb dL_refuses_100 ?_
        refine lv_goto (tgt := 112) hx hb dL_refuses_101 (by decide) ?_
        exact bl_112  c_o_0 y1 y2 y3 z0 (1 - (irm y1 99)) 0 ((-1) - (irm y1 9)) _ _ _ (by omega) hf hP hD hS ls (lv_sub hl [2, 3, 4, 5, 1, 0] rfl)
  have hl := lv_entry [.ref (b_0 0), .int x1] (n := 6) (Nat.le_of_ble_eq_true rfl)
  rw [lg_entry_eq]
  generalize (lg_sl [.ref (b_0 0), .int x1] ++ List.replicate (6 - (lg_sl [.ref (b_0 0), .int x1]).length) Slot.unset).toArray = ls at hl ⊢
  have hl : lv_has ls 6 [(0, .ref (b_0 0)), (1, .int x1)] := hl
  unfold f_L_refuses at hf
  refine W.widen (k := 0) (n := 6 * 0) (Nat.le_refl _) (Nat.le_refl _) ?_
  refine lv_aload_n hx hb dL_refuses_0 rfl (lv_at hl 0 rfl) ?_
  refine lv_iconst (v := 2) hx hb dL_refuses_1 (by decide) ?_
  refine lv_iconst (v := 0) hx hb dL_refuses_2 (by decide) ?_
  refine lv_iconst (v := 0) hx hb dL_refuses_3 (by decide) ?_
  refine lv_iconst (v := 0) hx hb dL_refuses_4 (by decide) ?_
  obtain ⟨r_68, hh_r_68, hf⟩ := obd_some hf
  refine kb_i6 (V := r_68.1) (w1 := oW cy b_0 bk_0 r_68.2) hS (Nat.le_of_ble_eq_true rfl) (Jn_1 hP hD hS hA) (va_runS (As := [.ref (b_0 0), .int 2, .int 0, .int 0, .int 0]) (rest := []) ⟨hx, hb, hml, hown, hts⟩ (c_L_call (l := l) hfl G cy b_0 bk_0 s.heap.size o_0 2 0 0 0 n r_68 hh_r_68) (va_cwS 5 hts gB_refuses_L_call rfl rfl rfl ddN_L_call ⟨(Nat.le_of_ble_eq_true rfl), (Nat.le_of_ble_eq_true rfl)⟩) (preSN hXN (hE.kept hS.2.1) (Jn_1 hP hD hS hA).1 hP hK hD hN) rfl rfl hl.1 rfl (lv_room (Nat.le_of_ble_eq_true rfl)) dL_refuses_5 ⟨by show 0 + 3 ≤ 85; omega, by show 6 * 0 + 18 ≤ 510; omega⟩) (fun H locs hP hD hS => ?_)
  have hP : va_P G vwCl (oW cy b_0 bk_0 r_68.2) H := hP
  have hD : va_D A (oW cy b_0 bk_0 r_68.2) := hD
  refine lv_aload_n hx hb dL_refuses_8 rfl (lv_at hl 0 rfl) ?_
  refine lv_iconst (v := 2) hx hb dL_refuses_9 (by decide) ?_
  refine lv_iconst (v := 1) hx hb dL_refuses_10 (by decide) ?_
  refine lv_iconst (v := 0) hx hb dL_refuses_11 (by decide) ?_
  refine lv_iconst (v := 0) hx hb dL_refuses_12 (by decide) ?_
  obtain ⟨r_69, hh_r_69, hf⟩ := obd_some hf
  refine kb_i6 (V := r_69.1) (w1 := oW cy b_0 bk_0 r_69.2) hS (Nat.le_of_ble_eq_true rfl) (Jn_1 hP hD hS hA) (va_runS (As := [.ref (b_0 0), .int 2, .int 1, .int 0, .int 0]) (rest := [.int r_68.1]) ⟨hx, hb, hml, hown, hts⟩ (c_L_call (l := l) hfl G cy b_0 bk_0 H.size r_68.2 2 1 0 0 n r_69 hh_r_69) (va_cwS 5 hts gB_refuses_L_call rfl rfl rfl ddN_L_call ⟨(Nat.le_of_ble_eq_true rfl), (Nat.le_of_ble_eq_true rfl)⟩) (preSN hXN (hE.kept hS.2.1) (Jn_1 hP hD hS hA).1 hP hK hD hN) rfl rfl hl.1 rfl (lv_room (Nat.le_of_ble_eq_true rfl)) dL_refuses_13 ⟨by show 0 + 3 + 3 ≤ 85; omega, by show 6 * (0 + 3) + 18 ≤ 510; omega⟩) (fun H locs hP hD hS => ?_)
  have hP : va_P G vwCl (oW cy b_0 bk_0 r_69.2) H := hP
  have hD : va_D A (oW cy b_0 bk_0 r_69.2) := hD
  refine lv_imul hx hb dL_refuses_16 ?_
  refine lv_istore_n (lv' := [(2, .int (r_68.1 * r_69.1)), (0, .ref (b_0 0)), (1, .int x1)]) hx hb dL_refuses_17 rfl hl (by decide) rfl (fun ls hl => ?_)
  refine lv_iload_n hx hb dL_refuses_18 rfl (lv_at hl 2 rfl) ?_
  refine lv_iconst (v := 2) hx hb dL_refuses_19 (by decide) ?_
  refine lv_irem hx hb dL_refuses_20 (by decide) ?_
  refine lv_if_ne (tgt := 33) hx hb dL_refuses_21 (by decide) (fun h_70 => ?_) (fun h_70 => ?_)
  · have hf := in_ h_70 hf
    refine lv_iload_n hx hb dL_refuses_33 rfl (lv_at hl 0 rfl) ?_
    refine lv_iload_n hx hb dL_refuses_34 rfl (lv_at hl 2 rfl) ?_
    refine lv_bipush (v := 99) hx hb dL_refuses_35 (by decide) ?_
    refine lv_irem hx hb dL_refuses_37 (by decide) ?_
    refine lv_iadd hx hb dL_refuses_38 ?_
    refine lv_istore_n (lv' := [(3, .int ((r_68.1 * r_69.1) + (irm x1 99))), (2, .int (r_68.1 * r_69.1)), (0, .ref (b_0 0)), (1, .int x1)]) hx hb dL_refuses_39 rfl hl (by decide) rfl (fun ls hl => ?_)
    refine lv_iload_n hx hb dL_refuses_40 rfl (lv_at hl 3 rfl) ?_
    refine lv_iconst (v := 2) hx hb dL_refuses_41 (by decide) ?_
    refine lv_irem hx hb dL_refuses_42 (by decide) ?_
    refine lv_if_ne (tgt := 55) hx hb dL_refuses_43 (by decide) (fun h_71 => ?_) (fun h_71 => ?_)
    · have hf := in_ h_71 hf
      refine lv_iconst (v := 4) hx hb dL_refuses_55 (by decide) ?_
      refine lv_iload_n hx hb dL_refuses_56 rfl (lv_at hl 3 rfl) ?_
      refine lv_bipush (v := 99) hx hb dL_refuses_57 (by decide) ?_
      refine lv_irem hx hb dL_refuses_59 (by decide) ?_
      refine lv_iadd hx hb dL_refuses_60 ?_
      exact bl_61  r_69.2 x1 (r_68.1 * r_69.1) ((r_68.1 * r_69.1) + (irm x1 99)) (4 + (irm x1 99)) _ _ _ (by omega) hf hP hD hS ls (lv_sub hl [2, 3, 1, 0] rfl)
    · have hf := ip_ h_71 hf
      refine lv_iconst (v := (-1)) hx hb dL_refuses_46 (by decide) ?_
      refine lv_iload_n hx hb dL_refuses_47 rfl (lv_at hl 3 rfl) ?_
      refine lv_bipush (v := 99) hx hb dL_refuses_48 (by decide) ?_
      refine lv_irem hx hb dL_refuses_50 (by decide) ?_
      refine lv_isub hx hb dL_refuses_51 ?_
      refine lv_goto (tgt := 61) hx hb dL_refuses_52 (by decide) ?_
      exact bl_61  r_69.2 x1 (r_68.1 * r_69.1) ((r_68.1 * r_69.1) + (irm x1 99)) ((-1) - (irm x1 99)) _ _ _ (by omega) hf hP hD hS ls (lv_sub hl [2, 3, 1, 0] rfl)
  · have hf := ip_ h_70 hf
    refine lv_iconst (v := (-1)) hx hb dL_refuses_24 (by decide) ?_
    refine lv_iload_n hx hb dL_refuses_25 rfl (lv_at hl 2 rfl) ?_
    refine lv_bipush (v := 99) hx hb dL_refuses_26 (by decide) ?_
    refine lv_irem hx hb dL_refuses_28 (by decide) ?_
    refine lv_isub hx hb dL_refuses_29 ?_
    refine lv_goto (tgt := 39) hx hb dL_refuses_30 (by decide) ?_
    refine lv_istore_n (lv' := [(3, .int ((-1) - (irm x1 99))), (2, .int (r_68.1 * r_69.1)), (0, .ref (b_0 0)), (1, .int x1)]) hx hb dL_refuses_39 rfl hl (by decide) rfl (fun ls hl => ?_)
    refine lv_iload_n hx hb dL_refuses_40 rfl (lv_at hl 3 rfl) ?_
    refine lv_iconst (v := 2) hx hb dL_refuses_41 (by decide) ?_
    refine lv_irem hx hb dL_refuses_42 (by decide) ?_
    refine lv_if_ne (tgt := 55) hx hb dL_refuses_43 (by decide) (fun h_72 => ?_) (fun h_72 => ?_)
    · have hf := in_ h_72 hf
      refine lv_iconst (v := 4) hx hb dL_refuses_55 (by decide) ?_
      refine lv_iload_n hx hb dL_refuses_56 rfl (lv_at hl 3 rfl) ?_
      refine lv_bipush (v := 99) hx hb dL_refuses_57 (by decide) ?_
      refine lv_irem hx hb dL_refuses_59 (by decide) ?_
      refine lv_iadd hx hb dL_refuses_60 ?_
      exact bl_61  r_69.2 x1 (r_68.1 * r_69.1) ((-1) - (irm x1 99)) (4 + (irm x1 99)) _ _ _ (by omega) hf hP hD hS ls (lv_sub hl [2, 3, 1, 0] rfl)
    · have hf := ip_ h_72 hf
      refine lv_iconst (v := (-1)) hx hb dL_refuses_46 (by decide) ?_
      refine lv_iload_n hx hb dL_refuses_47 rfl (lv_at hl 3 rfl) ?_
      refine lv_bipush (v := 99) hx hb dL_refuses_48 (by decide) ?_
      refine lv_irem hx hb dL_refuses_50 (by decide) ?_
      refine lv_isub hx hb dL_refuses_51 ?_
      refine lv_goto (tgt := 61) hx hb dL_refuses_52 (by decide) ?_
      exact bl_61  r_69.2 x1 (r_68.1 * r_69.1) ((-1) - (irm x1 99)) ((-1) - (irm x1 99)) _ _ _ (by omega) hf hP hD hS ls (lv_sub hl [2, 3, 1, 0] rfl)
