set_option maxHeartbeats 4000000 in
set_option maxRecDepth 100000 in
theorem c_L_nights {l : Launch} (hfl : l.stackTraces = false) (G : va_G) (cy : Nat → ClassId) (b_0 bk_0 : Nat → Nat) (b_1 bk_1 : Nat → Nat) (sz : Nat) (o_0 : OT) (o_1 : OT) (x2 : Int32) (n : Nat) (R : Bool × OT × OT) (hf : f_L_nights n o_0 o_1 x2 = some R) : Met l yL_nights wB_nights ({ frames := 11, cells := 50, slots := 300, locals := 218 } : Room) (va_Pc [.ref (b_0 0), .ref (b_1 0), .int x2] (pcN G cy (oW cy b_0 bk_0 o_0 ++ oW cy b_1 bk_1 o_1) sz)) (va_Qi (fun r (_ : Unit) => r = bI R.1) (fun _ t => Wd G cy (va_A (oW cy b_0 bk_0 o_0 ++ oW cy b_1 bk_1 o_1) sz) (oW cy b_0 bk_0 R.2.1 ++ oW cy b_1 bk_1 R.2.2) t) (va_A (oW cy b_0 bk_0 o_0 ++ oW cy b_1 bk_1 o_1) sz)) 50 300 (va_A (oW cy b_0 bk_0 o_0 ++ oW cy b_1 bk_1 o_1) sz) := by
  refine Met.ofW (cc := cL_nights) (maxL := 21) (ret := (some .boolean)) (by decide) rfl ?_
  intro p e s m args below meth c s₁ B hml hv
  obtain ⟨rfl, ⟨⟨hsz, hP, hK, hD0, hN⟩, hE⟩, hXN⟩ := hv
  have hx := B.exec
  have hb := B.bytes
  have hr := B.returns
  have hts := atoms_spec (ws := wB_nights) B.pre
  have hown : s.vm.findClass RL = some m.cls := findClass_of_methodNamed B.named
  have hlocks := B.notSynchronized
  subst hsz
  have hD := hD0.self (sz := s.heap.size)
  generalize hAe : va_A (oW cy b_0 bk_0 o_0 ++ oW cy b_1 bk_1 o_1) s.heap.size = A at hD hE ⊢
  have hA : ∀ q : Nat, s.heap.size ≤ q → A q := fun q h => by rw [← hAe]; exact Or.inr h
  have hS : va_S A s.heap s.heap [] := va_S.rf
  have hP : va_P G vwCl (oW cy b_0 bk_0 o_0 ++ oW cy b_1 bk_1 o_1) s.heap := hP
  have bl_503 : ∀ (c_o_0 : OT) (c_o_1 : OT) (y6 : Int64) (z0 : Int32) (H : Heap) (locs : List Loc) (cc : Nat), cc + (6) ≤ 50 → f_L_nights_b503 n c_o_0 c_o_1 y6 z0 = some R → va_P G vwCl (oW cy b_0 bk_0 c_o_0 ++ oW cy b_1 bk_1 c_o_1) H → va_D A (oW cy b_0 bk_0 c_o_0 ++ oW cy b_1 bk_1 c_o_1) → va_S A s.heap H locs → ∀ (ls : Array Slot), lv_has ls 21 [(0, .ref (b_0 0)), (1, .ref (b_1 0)), (6, .long y6)] → W p l e ({ frames := 11, cells := 50, slots := 300, locals := 218 } : Room) s m [.ref (b_0 0), .ref (b_1 0), .int x2].toArray below meth c H locs cc (6 * cc) (MQ below (va_Qi (fun r (_ : Unit) => r = bI R.1) (fun _ t => Wd G cy A (oW cy b_0 bk_0 R.2.1 ++ oW cy b_1 bk_1 R.2.2) t) A) [.ref (b_0 0), .ref (b_1 0), .int x2].toArray s 50 300 A) (F0 m 503 ls [.int z0]) := by
    intro c_o_0 c_o_1 y6 z0 H locs cc hcc hf hP hD hS ls hl
    unfold f_L_nights_b503 at hf
    refine lv_istore (lv' := [(15, .int z0), (0, .ref (b_0 0)), (1, .ref (b_1 0)), (6, .long y6)]) hx hb dL_nights_503 hl (by decide) rfl (fun ls hl => ?_)
    refine lv_iload hx hb dL_nights_505 (lv_at hl 0 rfl) ?_
    refine lv_if_eq (tgt := 554) hx hb dL_nights_507 (by decide) (fun h_1 => ?_) (fun h_1 => ?_)
    · have hf := ip_ h_1 hf
      refine lv_iconst (v := 0) hx hb dL_nights_554 (by decide) ?_
      refine W.widen (k := 50) (n := 300) (by omega) (by omega) ?_
      obtain rfl := Option.some.inj hf
      exact kr_z (V := bI false) hx hb hr hlocks (bI_nar _) rfl hP hK hD hN hS hS.2.2 dL_nights_555
    · have hf := in_ h_1 hf
      refine lv_aload_n hx hb dL_nights_510 rfl (lv_at hl 1 rfl) ?_
      refine lv_bipush (v := 13) hx hb dL_nights_511 (by decide) ?_
      refine lv_iconst (v := 0) hx hb dL_nights_513 (by decide) ?_
      refine lv_iconst (v := 0) hx hb dL_nights_514 (by decide) ?_
      refine lv_iconst (v := 0) hx hb dL_nights_515 (by decide) ?_
      obtain ⟨r_2, hh_r_2, hf⟩ := obd_some hf
      refine kb_i6 (V := r_2.1) (w1 := oW cy b_0 bk_0 r_2.2) hS (Nat.le_of_ble_eq_true rfl) (Jn_l hP hD hS hA) (va_runS (As := [.ref (b_0 0), .int 13, .int 0, .int 0, .int 0]) (rest := []) ⟨hx, hb, hml, hown, hts⟩ (c_L_call (l := l) hfl G cy b_0 bk_0 H.size c_o_0 13 0 0 0 n r_2 hh_r_2) (va_cwS 5 hts gB_nights_L_call rfl rfl rfl ddN_L_call ⟨(Nat.le_of_ble_eq_true rfl), (Nat.le_of_ble_eq_true rfl)⟩) (preSN hXN (hE.kept hS.2.1) (Jn_l hP hD hS hA).1 (P_l hP) hK (D_l hD) hN) rfl rfl hl.1 rfl (lv_room (Nat.le_of_ble_eq_true rfl)) dL_nights_516 ⟨by show cc + 3 ≤ 50; omega, by show 6 * cc + 18 ≤ 300; omega⟩) (fun H locs hP hD hS => ?_)
      have hP : va_P G vwCl (oW cy b_0 bk_0 r_2.2 ++ oW cy b_1 bk_1 c_o_1) H := hP
      have hD : va_D A (oW cy b_0 bk_0 r_2.2 ++ oW cy b_1 bk_1 c_o_1) := hD
      refine kb_i (V := bI (f_L_thrown r_2.1)) (w1 := []) hS (Jn_0 hP hD hS hA) (va_runS (As := [.int r_2.1]) (rest := []) ⟨hx, hb, hml, hown, hts⟩ (c_L_thrown (l := l) G cy H.size r_2.1 _ rfl) (va_cwS 1 hts gB_nights_L_thrown rfl rfl rfl ddN_L_thrown ⟨(Nat.le_of_ble_eq_true rfl), (Nat.le_of_ble_eq_true rfl)⟩) (preS_ P_0 hK (D_0 (A := A)) hN) rfl rfl hl.1 rfl (lv_room (Nat.le_of_ble_eq_true rfl)) dL_nights_519 ⟨by show cc + 3 + 0 ≤ 50; omega, by show 6 * (cc + 3) + 0 ≤ 300; omega⟩) (fun H locs hP hD hS => ?_)
      have hP : va_P G vwCl (oW cy b_0 bk_0 r_2.2 ++ oW cy b_1 bk_1 c_o_1) H := hP
      have hD : va_D A (oW cy b_0 bk_0 r_2.2 ++ oW cy b_1 bk_1 c_o_1) := hD
      refine lv_if_ne (tgt := 554) hx hb dL_nights_522 (by decide) (fun h_3 => ?_) (fun h_3 => ?_)
      · have hf := ip_ (bI_n0 h_3) hf
        refine lv_iconst (v := 0) hx hb dL_nights_554 (by decide) ?_
        refine W.widen (k := 50) (n := 300) (by omega) (by omega) ?_
        obtain rfl := Option.some.inj hf
        exact kr_z (V := bI false) hx hb hr hlocks (bI_nar _) rfl hP hK hD hN hS hS.2.2 dL_nights_555
      · have hf := in_ (bI_0 h_3) hf
        refine lv_aload_n hx hb dL_nights_525 rfl (lv_at hl 2 rfl) ?_
        refine lv_bipush (v := 13) hx hb dL_nights_526 (by decide) ?_
        refine lv_iconst (v := 0) hx hb dL_nights_528 (by decide) ?_
        refine lv_iconst (v := 0) hx hb dL_nights_529 (by decide) ?_
        refine lv_iconst (v := 0) hx hb dL_nights_530 (by decide) ?_
        obtain ⟨r_4, hh_r_4, hf⟩ := obd_some hf
        refine kb_i6 (V := r_4.1) (w1 := oW cy b_1 bk_1 r_4.2) hS (Nat.le_of_ble_eq_true rfl) (Jn_r hP hD hS hA) (va_runS (As := [.ref (b_1 0), .int 13, .int 0, .int 0, .int 0]) (rest := []) ⟨hx, hb, hml, hown, hts⟩ (c_L_call (l := l) hfl G cy b_1 bk_1 H.size c_o_1 13 0 0 0 n r_4 hh_r_4) (va_cwS 5 hts gB_nights_L_call rfl rfl rfl ddN_L_call ⟨(Nat.le_of_ble_eq_true rfl), (Nat.le_of_ble_eq_true rfl)⟩) (preSN hXN (hE.kept hS.2.1) (Jn_r hP hD hS hA).1 (P_r hP) hK (D_r hD) hN) rfl rfl hl.1 rfl (lv_room (Nat.le_of_ble_eq_true rfl)) dL_nights_531 ⟨by show cc + 3 + 3 ≤ 50; omega, by show 6 * (cc + 3) + 18 ≤ 300; omega⟩) (fun H locs hP hD hS => ?_)
        have hP : va_P G vwCl (oW cy b_0 bk_0 r_2.2 ++ oW cy b_1 bk_1 r_4.2) H := hP
        have hD : va_D A (oW cy b_0 bk_0 r_2.2 ++ oW cy b_1 bk_1 r_4.2) := hD
        refine kb_i (V := bI (f_L_thrown r_4.1)) (w1 := []) hS (Jn_0 hP hD hS hA) (va_runS (As := [.int r_4.1]) (rest := []) ⟨hx, hb, hml, hown, hts⟩ (c_L_thrown (l := l) G cy H.size r_4.1 _ rfl) (va_cwS 1 hts gB_nights_L_thrown rfl rfl rfl ddN_L_thrown ⟨(Nat.le_of_ble_eq_true rfl), (Nat.le_of_ble_eq_true rfl)⟩) (preS_ P_0 hK (D_0 (A := A)) hN) rfl rfl hl.1 rfl (lv_room (Nat.le_of_ble_eq_true rfl)) dL_nights_534 ⟨by show cc + 6 + 0 ≤ 50; omega, by show 6 * (cc + 6) + 0 ≤ 300; omega⟩) (fun H locs hP hD hS => ?_)
        have hP : va_P G vwCl (oW cy b_0 bk_0 r_2.2 ++ oW cy b_1 bk_1 r_4.2) H := hP
        have hD : va_D A (oW cy b_0 bk_0 r_2.2 ++ oW cy b_1 bk_1 r_4.2) := hD
        refine lv_if_ne (tgt := 554) hx hb dL_nights_537 (by decide) (fun h_5 => ?_) (fun h_5 => ?_)
        · have hf := ip_ (bI_n0 h_5) hf
          refine lv_iconst (v := 0) hx hb dL_nights_554 (by decide) ?_
          refine W.widen (k := 50) (n := 300) (by omega) (by omega) ?_
          obtain rfl := Option.some.inj hf
          exact kr_z (V := bI false) hx hb hr hlocks (bI_nar _) rfl hP hK hD hN hS hS.2.2 dL_nights_555
        · have hf := in_ (bI_0 h_5) hf
          refine lv_aload_n hx hb dL_nights_540 rfl (lv_at hl 1 rfl) ?_
          refine kb_l (V := (w_frozen (o_w r_2.2))) (w1 := oW cy b_0 bk_0 r_2.2) hS (Jn_l hP hD hS hA) (va_runV (As := []) (rest := []) ⟨hx, hb, hml, hown, hts⟩ (c_X5_frozen (l := l) G cy (b_0 0) (b_0 1) (b_0 2) (b_0 3) (b_0 4) (b_0 5) (b_0 6) (b_0 7) (b_0 8) (b_0 9) (b_0 10) (b_0 11) (b_0 12) (b_0 13) bk_0 H.size (o_tx r_2.2) (o_sg r_2.2) (o_w r_2.2) (o_tr r_2.2) (o_p r_2.2) (o_sk r_2.2) (o_b0 r_2.2) (o_k0 r_2.2) (o_b1 r_2.2) (o_k1 r_2.2) (o_e r_2.2) (o_g r_2.2) (o_l r_2.2) _ rfl) (cwV 0 hts gB_nights_X5_frozen rfl rfl rfl ddV_X5_frozen ⟨(Nat.le_of_ble_eq_true rfl), (Nat.le_of_ble_eq_true rfl)⟩) (preV_ (ci := 5) (q0 := 0) rfl rfl (P_l hP) hK (D_l hD) hN) rfl rfl hl.1 rfl (lv_room (Nat.le_of_ble_eq_true rfl)) dL_nights_541 ⟨by show cc + 6 + 0 ≤ 50; omega, by show 6 * (cc + 6) + 0 ≤ 300; omega⟩) (fun H locs hP hD hS => ?_)
          have hP : va_P G vwCl (oW cy b_0 bk_0 r_2.2 ++ oW cy b_1 bk_1 r_4.2) H := hP
          have hD : va_D A (oW cy b_0 bk_0 r_2.2 ++ oW cy b_1 bk_1 r_4.2) := hD
          refine lv_lload hx hb dL_nights_544 (lv_at hl 3 rfl) ?_
          refine W.lcmp hx hb dL_nights_546 ?_
          refine lv_if_ne (tgt := 554) hx hb dL_nights_547 (by decide) (fun h_6 => ?_) (fun h_6 => ?_)
          · have hf := in_ (fun q => h_6 (lgc_eq.mpr q)) hf
            refine lv_iconst (v := 0) hx hb dL_nights_554 (by decide) ?_
            refine W.widen (k := 50) (n := 300) (by omega) (by omega) ?_
            obtain rfl := Option.some.inj hf
            exact kr_z (V := bI false) hx hb hr hlocks (bI_nar _) rfl hP hK hD hN hS hS.2.2 dL_nights_555
          · have hf := ip_ (lgc_eq.mp h_6) hf
            refine lv_iconst (v := 1) hx hb dL_nights_550 (by decide) ?_
            refine lv_goto (tgt := 555) hx hb dL_nights_551 (by decide) ?_
            refine W.widen (k := 50) (n := 300) (by omega) (by omega) ?_
            obtain rfl := Option.some.inj hf
            exact kr_z (V := bI true) hx hb hr hlocks (bI_nar _) rfl hP hK hD hN hS hS.2.2 dL_nights_555
  have bl_427 : ∀ (c_o_0 : OT) (c_o_1 : OT) (y3 : Int32) (y6 : Int64) (y10 : Int64) (y15 : Int32) (y16 : Int32) (y17 : Int64) (y19 : Int32) (z0 : Int32) (H : Heap) (locs : List Loc) (cc : Nat), cc + (6) ≤ 50 → f_L_nights_b427 n c_o_0 c_o_1 y3 y6 y10 y15 y16 y17 y19 z0 = some R → va_P G vwCl (oW cy b_0 bk_0 c_o_0 ++ oW cy b_1 bk_1 c_o_1) H → va_D A (oW cy b_0 bk_0 c_o_0 ++ oW cy b_1 bk_1 c_o_1) → va_S A s.heap H locs → ∀ (ls : Array Slot), lv_has ls 21 [(0, .ref (b_0 0)), (1, .ref (b_1 0)), (3, .int y3), (6, .long y6), (10, .long y10), (15, .int y15), (16, .int y16), (17, .long y17), (19, .int y19)] → W p l e ({ frames := 11, cells := 50, slots := 300, locals := 218 } : Room) s m [.ref (b_0 0), .ref (b_1 0), .int x2].toArray below meth c H locs cc (6 * cc) (MQ below (va_Qi (fun r (_ : Unit) => r = bI R.1) (fun _ t => Wd G cy A (oW cy b_0 bk_0 R.2.1 ++ oW cy b_1 bk_1 R.2.2) t) A) [.ref (b_0 0), .ref (b_1 0), .int x2].toArray s 50 300 A) (F0 m 427 ls [.int z0]) := by
    intro c_o_0 c_o_1 y3 y6 y10 y15 y16 y17 y19 z0 H locs cc hcc hf hP hD hS ls hl
    unfold f_L_nights_b427 at hf
    refine lv_istore (lv' := [(20, .int z0), (0, .ref (b_0 0)), (1, .ref (b_1 0)), (3, .int y3), (6, .long y6), (10, .long y10), (15, .int y15), (16, .int y16), (17, .long y17), (19, .int y19)]) hx hb dL_nights_427 hl (by decide) rfl (fun ls hl => ?_)
    refine lv_iload hx hb dL_nights_429 (lv_at hl 6 rfl) ?_
    refine lv_if_eq (tgt := 502) hx hb dL_nights_431 (by decide) (fun h_7 => ?_) (fun h_7 => ?_)
    · have hf := ip_ h_7 hf
      refine lv_iconst (v := 0) hx hb dL_nights_502 (by decide) ?_
      exact bl_503  c_o_0 c_o_1 y6 0 _ _ _ (by omega) hf hP hD hS ls (lv_sub hl [1, 2, 4] rfl)
    · have hf := in_ h_7 hf
      refine lv_iload hx hb dL_nights_434 (lv_at hl 9 rfl) ?_
      refine lv_if_eq (tgt := 469) hx hb dL_nights_436 (by decide) (fun h_8 => ?_) (fun h_8 => ?_)
      · have hf := ip_ h_8 hf
        refine lv_iload hx hb dL_nights_469 (lv_at hl 7 rfl) ?_
        refine lv_if_lt (tgt := 502) hx hb dL_nights_471 (by decide) (fun h_9 => ?_) (fun h_9 => ?_)
        · have hf := ip_ h_9 hf
          refine lv_iconst (v := 0) hx hb dL_nights_502 (by decide) ?_
          exact bl_503  c_o_0 c_o_1 y6 0 _ _ _ (by omega) hf hP hD hS ls (lv_sub hl [1, 2, 4] rfl)
        · have hf := in_ h_9 hf
          refine lv_iload hx hb dL_nights_474 (lv_at hl 7 rfl) ?_
          refine lv_iload_n hx hb dL_nights_476 rfl (lv_at hl 3 rfl) ?_
          refine lv_icmp_gt (tgt := 502) hx hb dL_nights_477 (by decide) (fun h_10 => ?_) (fun h_10 => ?_)
          · have hf := ip_ h_10 hf
            refine lv_iconst (v := 0) hx hb dL_nights_502 (by decide) ?_
            exact bl_503  c_o_0 c_o_1 y6 0 _ _ _ (by omega) hf hP hD hS ls (lv_sub hl [1, 2, 4] rfl)
          · have hf := in_ h_10 hf
            refine lv_iload hx hb dL_nights_480 (lv_at hl 0 rfl) ?_
            refine lv_if_eq (tgt := 502) hx hb dL_nights_482 (by decide) (fun h_11 => ?_) (fun h_11 => ?_)
            · have hf := ip_ h_11 hf
              refine lv_iconst (v := 0) hx hb dL_nights_502 (by decide) ?_
              exact bl_503  c_o_0 c_o_1 y6 0 _ _ _ (by omega) hf hP hD hS ls (lv_sub hl [1, 2, 4] rfl)
            · have hf := in_ h_11 hf
              refine lv_iload hx hb dL_nights_485 (lv_at hl 7 rfl) ?_
              refine lv_if_gt (tgt := 498) hx hb dL_nights_487 (by decide) (fun h_12 => ?_) (fun h_12 => ?_)
              · have hf := ip_ h_12 hf
                refine lv_iconst (v := 1) hx hb dL_nights_498 (by decide) ?_
                refine lv_goto (tgt := 503) hx hb dL_nights_499 (by decide) ?_
                exact bl_503  c_o_0 c_o_1 y6 1 _ _ _ (by omega) hf hP hD hS ls (lv_sub hl [1, 2, 4] rfl)
              · have hf := in_ h_12 hf
                refine lv_lload hx hb dL_nights_490 (lv_at hl 8 rfl) ?_
                refine lv_lload hx hb dL_nights_492 (lv_at hl 4 rfl) ?_
                refine W.lcmp hx hb dL_nights_494 ?_
                refine lv_if_ne (tgt := 502) hx hb dL_nights_495 (by decide) (fun h_13 => ?_) (fun h_13 => ?_)
                · have hf := in_ (fun q => h_13 (lgc_eq.mpr q)) hf
                  refine lv_iconst (v := 0) hx hb dL_nights_502 (by decide) ?_
                  exact bl_503  c_o_0 c_o_1 y6 0 _ _ _ (by omega) hf hP hD hS ls (lv_sub hl [1, 2, 4] rfl)
                · have hf := ip_ (lgc_eq.mp h_13) hf
                  refine lv_iconst (v := 1) hx hb dL_nights_498 (by decide) ?_
                  refine lv_goto (tgt := 503) hx hb dL_nights_499 (by decide) ?_
                  exact bl_503  c_o_0 c_o_1 y6 1 _ _ _ (by omega) hf hP hD hS ls (lv_sub hl [1, 2, 4] rfl)
      · have hf := in_ h_8 hf
        refine lv_iload hx hb dL_nights_439 (lv_at hl 7 rfl) ?_
        refine lv_ldc (v := (-9999003)) hx hb hown (hts (.constant RL 38 (-9999003)) (by decide +kernel)) dL_nights_441 ?_
        refine lv_icmp_ne (tgt := 502) hx hb dL_nights_443 (by decide) (fun h_14 => ?_) (fun h_14 => ?_)
        · have hf := in_ h_14 hf
          refine lv_iconst (v := 0) hx hb dL_nights_502 (by decide) ?_
          exact bl_503  c_o_0 c_o_1 y6 0 _ _ _ (by omega) hf hP hD hS ls (lv_sub hl [1, 2, 4] rfl)
        · have hf := ip_ h_14 hf
          refine lv_lload hx hb dL_nights_446 (lv_at hl 8 rfl) ?_
          refine lv_ldc2 (v := (-9999003)) hx hb hown (hts (.constantLong RL 23 (-9999003)) (by decide +kernel)) dL_nights_448 ?_
          refine W.lcmp hx hb dL_nights_451 ?_
          refine lv_if_ne (tgt := 502) hx hb dL_nights_452 (by decide) (fun h_15 => ?_) (fun h_15 => ?_)
          · have hf := in_ (fun q => h_15 (lgc_eq.mpr q)) hf
            refine lv_iconst (v := 0) hx hb dL_nights_502 (by decide) ?_
            exact bl_503  c_o_0 c_o_1 y6 0 _ _ _ (by omega) hf hP hD hS ls (lv_sub hl [1, 2, 4] rfl)
          · have hf := ip_ (lgc_eq.mp h_15) hf
            refine lv_lload hx hb dL_nights_455 (lv_at hl 5 rfl) ?_
            refine lv_lload hx hb dL_nights_457 (lv_at hl 4 rfl) ?_
            refine lv_land hx hb dL_nights_459 ?_
            refine lv_lload hx hb dL_nights_460 (lv_at hl 4 rfl) ?_
            refine W.lcmp hx hb dL_nights_462 ?_
            refine lv_if_ne (tgt := 502) hx hb dL_nights_463 (by decide) (fun h_16 => ?_) (fun h_16 => ?_)
            · have hf := in_ (fun q => h_16 (lgc_eq.mpr q)) hf
              refine lv_iconst (v := 0) hx hb dL_nights_502 (by decide) ?_
              exact bl_503  c_o_0 c_o_1 y6 0 _ _ _ (by omega) hf hP hD hS ls (lv_sub hl [1, 2, 4] rfl)
            · have hf := ip_ (lgc_eq.mp h_16) hf
              refine lv_goto (tgt := 498) hx hb dL_nights_466 (by decide) ?_
              refine lv_iconst (v := 1) hx hb dL_nights_498 (by decide) ?_
              refine lv_goto (tgt := 503) hx hb dL_nights_499 (by decide) ?_
              exact bl_503  c_o_0 c_o_1 y6 1 _ _ _ (by omega) hf hP hD hS ls (lv_sub hl [1, 2, 4] rfl)
  have bl_376 : ∀ (c_o_0 : OT) (c_o_1 : OT) (y3 : Int32) (y6 : Int64) (y10 : Int64) (y15 : Int32) (y16 : Int32) (y17 : Int64) (z0 : Int32) (H : Heap) (locs : List Loc) (cc : Nat), cc + (6) ≤ 50 → f_L_nights_b376 n c_o_0 c_o_1 y3 y6 y10 y15 y16 y17 z0 = some R → va_P G vwCl (oW cy b_0 bk_0 c_o_0 ++ oW cy b_1 bk_1 c_o_1) H → va_D A (oW cy b_0 bk_0 c_o_0 ++ oW cy b_1 bk_1 c_o_1) → va_S A s.heap H locs → ∀ (ls : Array Slot), lv_has ls 21 [(0, .ref (b_0 0)), (1, .ref (b_1 0)), (3, .int y3), (6, .long y6), (10, .long y10), (15, .int y15), (16, .int y16), (17, .long y17)] → W p l e ({ frames := 11, cells := 50, slots := 300, locals := 218 } : Room) s m [.ref (b_0 0), .ref (b_1 0), .int x2].toArray below meth c H locs cc (6 * cc) (MQ below (va_Qi (fun r (_ : Unit) => r = bI R.1) (fun _ t => Wd G cy A (oW cy b_0 bk_0 R.2.1 ++ oW cy b_1 bk_1 R.2.2) t) A) [.ref (b_0 0), .ref (b_1 0), .int x2].toArray s 50 300 A) (F0 m 376 ls [.int z0]) := by
    intro c_o_0 c_o_1 y3 y6 y10 y15 y16 y17 z0 H locs cc hcc hf hP hD hS ls hl
    unfold f_L_nights_b376 at hf
    refine lv_istore (lv' := [(19, .int z0), (0, .ref (b_0 0)), (1, .ref (b_1 0)), (3, .int y3), (6, .long y6), (10, .long y10), (15, .int y15), (16, .int y16), (17, .long y17)]) hx hb dL_nights_376 hl (by decide) rfl (fun ls hl => ?_)
    refine lv_lload hx hb dL_nights_378 (lv_at hl 8 rfl) ?_
    refine lv_bipush (v := 32) hx hb dL_nights_380 (by decide) ?_
    refine lv_lushr (v := (jus y17 32)) hx hb dL_nights_382 rfl ?_
    refine lv_lload hx hb dL_nights_383 (lv_at hl 4 rfl) ?_
    refine lv_bipush (v := 32) hx hb dL_nights_385 (by decide) ?_
    refine lv_lushr (v := (jus y6 32)) hx hb dL_nights_387 rfl ?_
    refine W.lcmp hx hb dL_nights_388 ?_
    refine lv_if_lt (tgt := 422) hx hb dL_nights_389 (by decide) (fun h_17 => ?_) (fun h_17 => ?_)
    · have hf := ip_ (lgc_lt.mp h_17) hf
      refine lv_iconst (v := 1) hx hb dL_nights_422 (by decide) ?_
      refine lv_goto (tgt := 427) hx hb dL_nights_423 (by decide) ?_
      exact bl_427  c_o_0 c_o_1 y3 y6 y10 y15 y16 y17 z0 1 _ _ _ (by omega) hf hP hD hS ls (lv_sub hl [1, 2, 3, 4, 5, 6, 7, 8, 0] rfl)
    · have hf := in_ (fun q => h_17 (lgc_lt.mpr q)) hf
      refine lv_lload hx hb dL_nights_392 (lv_at hl 8 rfl) ?_
      refine lv_bipush (v := 32) hx hb dL_nights_394 (by decide) ?_
      refine lv_lushr (v := (jus y17 32)) hx hb dL_nights_396 rfl ?_
      refine lv_lload hx hb dL_nights_397 (lv_at hl 4 rfl) ?_
      refine lv_bipush (v := 32) hx hb dL_nights_399 (by decide) ?_
      refine lv_lushr (v := (jus y6 32)) hx hb dL_nights_401 rfl ?_
      refine W.lcmp hx hb dL_nights_402 ?_
      refine lv_if_ne (tgt := 426) hx hb dL_nights_403 (by decide) (fun h_18 => ?_) (fun h_18 => ?_)
      · have hf := in_ (fun q => h_18 (lgc_eq.mpr q)) hf
        refine lv_iconst (v := 0) hx hb dL_nights_426 (by decide) ?_
        exact bl_427  c_o_0 c_o_1 y3 y6 y10 y15 y16 y17 z0 0 _ _ _ (by omega) hf hP hD hS ls (lv_sub hl [1, 2, 3, 4, 5, 6, 7, 8, 0] rfl)
      · have hf := ip_ (lgc_eq.mp h_18) hf
        refine lv_lload hx hb dL_nights_406 (lv_at hl 8 rfl) ?_
        refine lv_ldc2 (v := 4294967295) hx hb hown (hts (.constantLong RL 222 (4294967295)) (by decide +kernel)) dL_nights_408 ?_
        refine lv_land hx hb dL_nights_411 ?_
        refine lv_lload hx hb dL_nights_412 (lv_at hl 4 rfl) ?_
        refine lv_ldc2 (v := 4294967295) hx hb hown (hts (.constantLong RL 222 (4294967295)) (by decide +kernel)) dL_nights_414 ?_
        refine lv_land hx hb dL_nights_417 ?_
        refine W.lcmp hx hb dL_nights_418 ?_
        refine lv_if_gt (tgt := 426) hx hb dL_nights_419 (by decide) (fun h_19 => ?_) (fun h_19 => ?_)
        · have hf := ip_ (lgc_gt.mp h_19) hf
          refine lv_iconst (v := 0) hx hb dL_nights_426 (by decide) ?_
          exact bl_427  c_o_0 c_o_1 y3 y6 y10 y15 y16 y17 z0 0 _ _ _ (by omega) hf hP hD hS ls (lv_sub hl [1, 2, 3, 4, 5, 6, 7, 8, 0] rfl)
        · have hf := in_ (fun q => h_19 (lgc_gt.mpr q)) hf
          refine lv_iconst (v := 1) hx hb dL_nights_422 (by decide) ?_
          refine lv_goto (tgt := 427) hx hb dL_nights_423 (by decide) ?_
          exact bl_427  c_o_0 c_o_1 y3 y6 y10 y15 y16 y17 z0 1 _ _ _ (by omega) hf hP hD hS ls (lv_sub hl [1, 2, 3, 4, 5, 6, 7, 8, 0] rfl)
  have bl_340 : ∀ (c_o_0 : OT) (c_o_1 : OT) (y3 : Int32) (y6 : Int64) (y10 : Int64) (H : Heap) (locs : List Loc) (cc : Nat), cc + (13) ≤ 50 → f_L_nights_b340 n c_o_0 c_o_1 y3 y6 y10 = some R → va_P G vwCl (oW cy b_0 bk_0 c_o_0 ++ oW cy b_1 bk_1 c_o_1) H → va_D A (oW cy b_0 bk_0 c_o_0 ++ oW cy b_1 bk_1 c_o_1) → va_S A s.heap H locs → ∀ (ls : Array Slot), lv_has ls 21 [(0, .ref (b_0 0)), (1, .ref (b_1 0)), (3, .int y3), (6, .long y6), (10, .long y10)] → W p l e ({ frames := 11, cells := 50, slots := 300, locals := 218 } : Room) s m [.ref (b_0 0), .ref (b_1 0), .int x2].toArray below meth c H locs cc (6 * cc) (MQ below (va_Qi (fun r (_ : Unit) => r = bI R.1) (fun _ t => Wd G cy A (oW cy b_0 bk_0 R.2.1 ++ oW cy b_1 bk_1 R.2.2) t) A) [.ref (b_0 0), .ref (b_1 0), .int x2].toArray s 50 300 A) (F0 m 340 ls []) := by
    intro c_o_0 c_o_1 y3 y6 y10 H locs cc hcc hf hP hD hS ls hl
    unfold f_L_nights_b340 at hf
    refine lv_iconst (v := 0) hx hb dL_nights_340 (by decide) ?_
    refine lv_istore (lv' := [(15, .int 0), (0, .ref (b_0 0)), (1, .ref (b_1 0)), (3, .int y3), (6, .long y6), (10, .long y10)]) hx hb dL_nights_341 hl (by decide) rfl (fun ls hl => ?_)
    refine lv_aload_n hx hb dL_nights_343 rfl (lv_at hl 1 rfl) ?_
    refine lv_bipush (v := 15) hx hb dL_nights_344 (by decide) ?_
    refine lv_iconst (v := 0) hx hb dL_nights_346 (by decide) ?_
    refine lv_iconst (v := 0) hx hb dL_nights_347 (by decide) ?_
    refine lv_iconst (v := 0) hx hb dL_nights_348 (by decide) ?_
    obtain ⟨r_20, hh_r_20, hf⟩ := obd_some hf
    refine kb_i6 (V := r_20.1) (w1 := oW cy b_0 bk_0 r_20.2) hS (Nat.le_of_ble_eq_true rfl) (Jn_l hP hD hS hA) (va_runS (As := [.ref (b_0 0), .int 15, .int 0, .int 0, .int 0]) (rest := []) ⟨hx, hb, hml, hown, hts⟩ (c_L_call (l := l) hfl G cy b_0 bk_0 H.size c_o_0 15 0 0 0 n r_20 hh_r_20) (va_cwS 5 hts gB_nights_L_call rfl rfl rfl ddN_L_call ⟨(Nat.le_of_ble_eq_true rfl), (Nat.le_of_ble_eq_true rfl)⟩) (preSN hXN (hE.kept hS.2.1) (Jn_l hP hD hS hA).1 (P_l hP) hK (D_l hD) hN) rfl rfl hl.1 rfl (lv_room (Nat.le_of_ble_eq_true rfl)) dL_nights_349 ⟨by show cc + 3 ≤ 50; omega, by show 6 * cc + 18 ≤ 300; omega⟩) (fun H locs hP hD hS => ?_)
    have hP : va_P G vwCl (oW cy b_0 bk_0 r_20.2 ++ oW cy b_1 bk_1 c_o_1) H := hP
    have hD : va_D A (oW cy b_0 bk_0 r_20.2 ++ oW cy b_1 bk_1 c_o_1) := hD
    refine lv_istore (lv' := [(16, .int r_20.1), (15, .int 0), (0, .ref (b_0 0)), (1, .ref (b_1 0)), (3, .int y3), (6, .long y6), (10, .long y10)]) hx hb dL_nights_352 hl (by decide) rfl (fun ls hl => ?_)
    refine lv_aload_n hx hb dL_nights_354 rfl (lv_at hl 2 rfl) ?_
    obtain ⟨r_21, hh_r_21, hf⟩ := obd_some hf
    refine kbx_l (R0 := r_21) (w1 := fun (u : Int64 × ET × (Nat → Int64)) => oW cy b_0 bk_0 (oEq r_20.2 u.2.1 u.2.2)) (V := fun (u : Int64 × ET × (Nat → Int64)) => u.1) hS (Nat.le_of_ble_eq_true rfl) (Jn_l hP hD hS hA) (vx_runSX (As := [.ref (b_0 0)]) (rest := []) ⟨hx, hb, hml, hown, hts⟩ (c_L_was (l := l) hfl G cy (b_0 0) (b_0 1) (b_0 2) (b_0 3) (b_0 4) (b_0 5) (b_0 6) (b_0 7) (b_0 8) (b_0 9) (b_0 10) (b_0 11) (b_0 12) (b_0 13) bk_0 H.size r_20.2.1 r_20.2.2.1 r_20.2.2.2.1 r_20.2.2.2.2.1 r_20.2.2.2.2.2.1 r_20.2.2.2.2.2.2.1 r_20.2.2.2.2.2.2.2.1 r_20.2.2.2.2.2.2.2.2.1 r_20.2.2.2.2.2.2.2.2.2.1 r_20.2.2.2.2.2.2.2.2.2.2.1 r_20.2.2.2.2.2.2.2.2.2.2.2.1 r_20.2.2.2.2.2.2.2.2.2.2.2.2.1 r_20.2.2.2.2.2.2.2.2.2.2.2.2.2 n r_21 hh_r_21) (vx_cwSW 1 hts gB_nights_L_was rfl rfl rfl ddN_L_was ⟨(Nat.le_of_ble_eq_true rfl), (Nat.le_of_ble_eq_true rfl)⟩) (preSN hXN (hE.kept hS.2.1) (Jn_l hP hD hS hA).1 (P_l hP) hK (D_l hD) hN) rfl rfl hl.1 rfl (lv_room (Nat.le_of_ble_eq_true rfl)) dL_nights_355 ⟨by show cc + 3 + 1 ≤ 50; omega, by show 6 * (cc + 3) + 6 ≤ 300; omega⟩) (fun H locs hP hD hS => ?_)
    have hP : va_P G vwCl (oW cy b_0 bk_0 (oEq r_20.2 r_21.2.1 r_21.2.2) ++ oW cy b_1 bk_1 c_o_1) H := hP
    have hD : va_D A (oW cy b_0 bk_0 (oEq r_20.2 r_21.2.1 r_21.2.2) ++ oW cy b_1 bk_1 c_o_1) := hD
    refine lv_lstore (lv' := [(17, .long r_21.1), (16, .int r_20.1), (15, .int 0), (0, .ref (b_0 0)), (1, .ref (b_1 0)), (3, .int y3), (6, .long y6), (10, .long y10)]) hx hb dL_nights_358 hl (by decide) rfl (fun ls hl => ?_)
    refine lv_aload_n hx hb dL_nights_360 rfl (lv_at hl 3 rfl) ?_
    refine lv_iconst (v := 2) hx hb dL_nights_361 (by decide) ?_
    refine lv_iconst (v := 4) hx hb dL_nights_362 (by decide) ?_
    refine lv_iconst (v := 0) hx hb dL_nights_363 (by decide) ?_
    refine lv_iconst (v := 0) hx hb dL_nights_364 (by decide) ?_
    obtain ⟨r_22, hh_r_22, hf⟩ := obd_some hf
    refine kb_i6 (V := r_22.1) (w1 := oW cy b_0 bk_0 r_22.2) hS (Nat.le_of_ble_eq_true rfl) (Jn_l hP hD hS hA) (va_runS (As := [.ref (b_0 0), .int 2, .int 4, .int 0, .int 0]) (rest := []) ⟨hx, hb, hml, hown, hts⟩ (c_L_call (l := l) hfl G cy b_0 bk_0 H.size (oEq r_20.2 r_21.2.1 r_21.2.2) 2 4 0 0 n r_22 hh_r_22) (va_cwS 5 hts gB_nights_L_call rfl rfl rfl ddN_L_call ⟨(Nat.le_of_ble_eq_true rfl), (Nat.le_of_ble_eq_true rfl)⟩) (preSN hXN (hE.kept hS.2.1) (Jn_l hP hD hS hA).1 (P_l hP) hK (D_l hD) hN) rfl rfl hl.1 rfl (lv_room (Nat.le_of_ble_eq_true rfl)) dL_nights_365 ⟨by show cc + 4 + 3 ≤ 50; omega, by show 6 * (cc + 4) + 18 ≤ 300; omega⟩) (fun H locs hP hD hS => ?_)
    have hP : va_P G vwCl (oW cy b_0 bk_0 r_22.2 ++ oW cy b_1 bk_1 c_o_1) H := hP
    have hD : va_D A (oW cy b_0 bk_0 r_22.2 ++ oW cy b_1 bk_1 c_o_1) := hD
    refine lv_if_ne (tgt := 375) hx hb dL_nights_368 (by decide) (fun h_23 => ?_) (fun h_23 => ?_)
    · have hf := in_ h_23 hf
      refine lv_iconst (v := 0) hx hb dL_nights_375 (by decide) ?_
      exact bl_376  r_22.2 c_o_1 y3 y6 y10 0 r_20.1 r_21.1 0 _ _ _ (by omega) hf hP hD hS ls (lv_sub hl [3, 4, 5, 6, 7, 2, 1, 0] rfl)
    · have hf := ip_ h_23 hf
      refine lv_iconst (v := 1) hx hb dL_nights_371 (by decide) ?_
      refine lv_goto (tgt := 376) hx hb dL_nights_372 (by decide) ?_
      exact bl_376  r_22.2 c_o_1 y3 y6 y10 0 r_20.1 r_21.1 1 _ _ _ (by omega) hf hP hD hS ls (lv_sub hl [3, 4, 5, 6, 7, 2, 1, 0] rfl)
  have bl_298 : ∀ (c_o_0 : OT) (c_o_1 : OT) (y3 : Int32) (y6 : Int64) (y10 : Int64) (z0 : Int32) (H : Heap) (locs : List Loc) (cc : Nat), cc + (19) ≤ 50 → f_L_nights_b298 n c_o_0 c_o_1 y3 y6 y10 z0 = some R → va_P G vwCl (oW cy b_0 bk_0 c_o_0 ++ oW cy b_1 bk_1 c_o_1) H → va_D A (oW cy b_0 bk_0 c_o_0 ++ oW cy b_1 bk_1 c_o_1) → va_S A s.heap H locs → ∀ (ls : Array Slot), lv_has ls 21 [(0, .ref (b_0 0)), (1, .ref (b_1 0)), (3, .int y3), (6, .long y6), (10, .long y10)] → W p l e ({ frames := 11, cells := 50, slots := 300, locals := 218 } : Room) s m [.ref (b_0 0), .ref (b_1 0), .int x2].toArray below meth c H locs cc (6 * cc) (MQ below (va_Qi (fun r (_ : Unit) => r = bI R.1) (fun _ t => Wd G cy A (oW cy b_0 bk_0 R.2.1 ++ oW cy b_1 bk_1 R.2.2) t) A) [.ref (b_0 0), .ref (b_1 0), .int x2].toArray s 50 300 A) (F0 m 298 ls [.int z0]) := by
    intro c_o_0 c_o_1 y3 y6 y10 z0 H locs cc hcc hf hP hD hS ls hl
    unfold f_L_nights_b298 at hf
    refine lv_istore (lv' := [(15, .int z0), (0, .ref (b_0 0)), (1, .ref (b_1 0)), (3, .int y3), (6, .long y6), (10, .long y10)]) hx hb dL_nights_298 hl (by decide) rfl (fun ls hl => ?_)
    refine lv_iload hx hb dL_nights_300 (lv_at hl 0 rfl) ?_
    refine lv_if_eq (tgt := 340) hx hb dL_nights_302 (by decide) (fun h_24 => ?_) (fun h_24 => ?_)
    · have hf := ip_ h_24 hf
      exact bl_340  c_o_0 c_o_1 y3 y6 y10 _ _ _ (by omega) hf hP hD hS ls (lv_sub hl [1, 2, 3, 4, 5] rfl)
    · have hf := in_ h_24 hf
      refine lv_aload_n hx hb dL_nights_305 rfl (lv_at hl 1 rfl) ?_
      refine lv_bipush (v := 12) hx hb dL_nights_306 (by decide) ?_
      refine lv_iconst (v := 1) hx hb dL_nights_308 (by decide) ?_
      refine lv_iconst (v := 0) hx hb dL_nights_309 (by decide) ?_
      refine lv_iconst (v := 0) hx hb dL_nights_310 (by decide) ?_
      obtain ⟨r_25, hh_r_25, hf⟩ := obd_some hf
      refine kb_i6 (V := r_25.1) (w1 := oW cy b_0 bk_0 r_25.2) hS (Nat.le_of_ble_eq_true rfl) (Jn_l hP hD hS hA) (va_runS (As := [.ref (b_0 0), .int 12, .int 1, .int 0, .int 0]) (rest := []) ⟨hx, hb, hml, hown, hts⟩ (c_L_call (l := l) hfl G cy b_0 bk_0 H.size c_o_0 12 1 0 0 n r_25 hh_r_25) (va_cwS 5 hts gB_nights_L_call rfl rfl rfl ddN_L_call ⟨(Nat.le_of_ble_eq_true rfl), (Nat.le_of_ble_eq_true rfl)⟩) (preSN hXN (hE.kept hS.2.1) (Jn_l hP hD hS hA).1 (P_l hP) hK (D_l hD) hN) rfl rfl hl.1 rfl (lv_room (Nat.le_of_ble_eq_true rfl)) dL_nights_311 ⟨by show cc + 3 ≤ 50; omega, by show 6 * cc + 18 ≤ 300; omega⟩) (fun H locs hP hD hS => ?_)
      have hP : va_P G vwCl (oW cy b_0 bk_0 r_25.2 ++ oW cy b_1 bk_1 c_o_1) H := hP
      have hD : va_D A (oW cy b_0 bk_0 r_25.2 ++ oW cy b_1 bk_1 c_o_1) := hD
      refine lv_aload_n hx hb dL_nights_314 rfl (lv_at hl 2 rfl) ?_
      refine lv_bipush (v := 12) hx hb dL_nights_315 (by decide) ?_
      refine lv_iconst (v := 1) hx hb dL_nights_317 (by decide) ?_
      refine lv_iconst (v := 0) hx hb dL_nights_318 (by decide) ?_
      refine lv_iconst (v := 0) hx hb dL_nights_319 (by decide) ?_
      obtain ⟨r_26, hh_r_26, hf⟩ := obd_some hf
      refine kb_i6 (V := r_26.1) (w1 := oW cy b_1 bk_1 r_26.2) hS (Nat.le_of_ble_eq_true rfl) (Jn_r hP hD hS hA) (va_runS (As := [.ref (b_1 0), .int 12, .int 1, .int 0, .int 0]) (rest := [.int r_25.1]) ⟨hx, hb, hml, hown, hts⟩ (c_L_call (l := l) hfl G cy b_1 bk_1 H.size c_o_1 12 1 0 0 n r_26 hh_r_26) (va_cwS 5 hts gB_nights_L_call rfl rfl rfl ddN_L_call ⟨(Nat.le_of_ble_eq_true rfl), (Nat.le_of_ble_eq_true rfl)⟩) (preSN hXN (hE.kept hS.2.1) (Jn_r hP hD hS hA).1 (P_r hP) hK (D_r hD) hN) rfl rfl hl.1 rfl (lv_room (Nat.le_of_ble_eq_true rfl)) dL_nights_320 ⟨by show cc + 3 + 3 ≤ 50; omega, by show 6 * (cc + 3) + 18 ≤ 300; omega⟩) (fun H locs hP hD hS => ?_)
      have hP : va_P G vwCl (oW cy b_0 bk_0 r_25.2 ++ oW cy b_1 bk_1 r_26.2) H := hP
      have hD : va_D A (oW cy b_0 bk_0 r_25.2 ++ oW cy b_1 bk_1 r_26.2) := hD
      refine lv_icmp_ne (tgt := 340) hx hb dL_nights_323 (by decide) (fun h_27 => ?_) (fun h_27 => ?_)
      · have hf := in_ h_27 hf
        exact bl_340  r_25.2 r_26.2 y3 y6 y10 _ _ _ (by omega) hf hP hD hS ls (lv_sub hl [1, 2, 3, 4, 5] rfl)
      · have hf := ip_ h_27 hf
        refine lv_aload_n hx hb dL_nights_326 rfl (lv_at hl 1 rfl) ?_
        refine kb_l (V := (w_frozen (o_w r_25.2))) (w1 := oW cy b_0 bk_0 r_25.2) hS (Jn_l hP hD hS hA) (va_runV (As := []) (rest := []) ⟨hx, hb, hml, hown, hts⟩ (c_X5_frozen (l := l) G cy (b_0 0) (b_0 1) (b_0 2) (b_0 3) (b_0 4) (b_0 5) (b_0 6) (b_0 7) (b_0 8) (b_0 9) (b_0 10) (b_0 11) (b_0 12) (b_0 13) bk_0 H.size (o_tx r_25.2) (o_sg r_25.2) (o_w r_25.2) (o_tr r_25.2) (o_p r_25.2) (o_sk r_25.2) (o_b0 r_25.2) (o_k0 r_25.2) (o_b1 r_25.2) (o_k1 r_25.2) (o_e r_25.2) (o_g r_25.2) (o_l r_25.2) _ rfl) (cwV 0 hts gB_nights_X5_frozen rfl rfl rfl ddV_X5_frozen ⟨(Nat.le_of_ble_eq_true rfl), (Nat.le_of_ble_eq_true rfl)⟩) (preV_ (ci := 5) (q0 := 0) rfl rfl (P_l hP) hK (D_l hD) hN) rfl rfl hl.1 rfl (lv_room (Nat.le_of_ble_eq_true rfl)) dL_nights_327 ⟨by show cc + 6 + 0 ≤ 50; omega, by show 6 * (cc + 6) + 0 ≤ 300; omega⟩) (fun H locs hP hD hS => ?_)
        have hP : va_P G vwCl (oW cy b_0 bk_0 r_25.2 ++ oW cy b_1 bk_1 r_26.2) H := hP
        have hD : va_D A (oW cy b_0 bk_0 r_25.2 ++ oW cy b_1 bk_1 r_26.2) := hD
        refine lv_lload hx hb dL_nights_330 (lv_at hl 5 rfl) ?_
        refine W.lcmp hx hb dL_nights_332 ?_
        refine lv_if_ne (tgt := 340) hx hb dL_nights_333 (by decide) (fun h_28 => ?_) (fun h_28 => ?_)
        · have hf := in_ (fun q => h_28 (lgc_eq.mpr q)) hf
          exact bl_340  r_25.2 r_26.2 y3 y6 y10 _ _ _ (by omega) hf hP hD hS ls (lv_sub hl [1, 2, 3, 4, 5] rfl)
        · have hf := ip_ (lgc_eq.mp h_28) hf
          refine lv_iconst (v := 1) hx hb dL_nights_336 (by decide) ?_
          refine lv_goto (tgt := 341) hx hb dL_nights_337 (by decide) ?_
          refine lv_istore (lv' := [(15, .int 1), (0, .ref (b_0 0)), (1, .ref (b_1 0)), (3, .int y3), (6, .long y6), (10, .long y10)]) hx hb dL_nights_341 hl (by decide) rfl (fun ls hl => ?_)
          refine lv_aload_n hx hb dL_nights_343 rfl (lv_at hl 1 rfl) ?_
          refine lv_bipush (v := 15) hx hb dL_nights_344 (by decide) ?_
          refine lv_iconst (v := 0) hx hb dL_nights_346 (by decide) ?_
          refine lv_iconst (v := 0) hx hb dL_nights_347 (by decide) ?_
          refine lv_iconst (v := 0) hx hb dL_nights_348 (by decide) ?_
          obtain ⟨r_29, hh_r_29, hf⟩ := obd_some hf
          refine kb_i6 (V := r_29.1) (w1 := oW cy b_0 bk_0 r_29.2) hS (Nat.le_of_ble_eq_true rfl) (Jn_l hP hD hS hA) (va_runS (As := [.ref (b_0 0), .int 15, .int 0, .int 0, .int 0]) (rest := []) ⟨hx, hb, hml, hown, hts⟩ (c_L_call (l := l) hfl G cy b_0 bk_0 H.size r_25.2 15 0 0 0 n r_29 hh_r_29) (va_cwS 5 hts gB_nights_L_call rfl rfl rfl ddN_L_call ⟨(Nat.le_of_ble_eq_true rfl), (Nat.le_of_ble_eq_true rfl)⟩) (preSN hXN (hE.kept hS.2.1) (Jn_l hP hD hS hA).1 (P_l hP) hK (D_l hD) hN) rfl rfl hl.1 rfl (lv_room (Nat.le_of_ble_eq_true rfl)) dL_nights_349 ⟨by show cc + 6 + 3 ≤ 50; omega, by show 6 * (cc + 6) + 18 ≤ 300; omega⟩) (fun H locs hP hD hS => ?_)
          have hP : va_P G vwCl (oW cy b_0 bk_0 r_29.2 ++ oW cy b_1 bk_1 r_26.2) H := hP
          have hD : va_D A (oW cy b_0 bk_0 r_29.2 ++ oW cy b_1 bk_1 r_26.2) := hD
          refine lv_istore (lv' := [(16, .int r_29.1), (15, .int 1), (0, .ref (b_0 0)), (1, .ref (b_1 0)), (3, .int y3), (6, .long y6), (10, .long y10)]) hx hb dL_nights_352 hl (by decide) rfl (fun ls hl => ?_)
          refine lv_aload_n hx hb dL_nights_354 rfl (lv_at hl 2 rfl) ?_
          obtain ⟨r_30, hh_r_30, hf⟩ := obd_some hf
          refine kbx_l (R0 := r_30) (w1 := fun (u : Int64 × ET × (Nat → Int64)) => oW cy b_0 bk_0 (oEq r_29.2 u.2.1 u.2.2)) (V := fun (u : Int64 × ET × (Nat → Int64)) => u.1) hS (Nat.le_of_ble_eq_true rfl) (Jn_l hP hD hS hA) (vx_runSX (As := [.ref (b_0 0)]) (rest := []) ⟨hx, hb, hml, hown, hts⟩ (c_L_was (l := l) hfl G cy (b_0 0) (b_0 1) (b_0 2) (b_0 3) (b_0 4) (b_0 5) (b_0 6) (b_0 7) (b_0 8) (b_0 9) (b_0 10) (b_0 11) (b_0 12) (b_0 13) bk_0 H.size r_29.2.1 r_29.2.2.1 r_29.2.2.2.1 r_29.2.2.2.2.1 r_29.2.2.2.2.2.1 r_29.2.2.2.2.2.2.1 r_29.2.2.2.2.2.2.2.1 r_29.2.2.2.2.2.2.2.2.1 r_29.2.2.2.2.2.2.2.2.2.1 r_29.2.2.2.2.2.2.2.2.2.2.1 r_29.2.2.2.2.2.2.2.2.2.2.2.1 r_29.2.2.2.2.2.2.2.2.2.2.2.2.1 r_29.2.2.2.2.2.2.2.2.2.2.2.2.2 n r_30 hh_r_30) (vx_cwSW 1 hts gB_nights_L_was rfl rfl rfl ddN_L_was ⟨(Nat.le_of_ble_eq_true rfl), (Nat.le_of_ble_eq_true rfl)⟩) (preSN hXN (hE.kept hS.2.1) (Jn_l hP hD hS hA).1 (P_l hP) hK (D_l hD) hN) rfl rfl hl.1 rfl (lv_room (Nat.le_of_ble_eq_true rfl)) dL_nights_355 ⟨by show cc + 9 + 1 ≤ 50; omega, by show 6 * (cc + 9) + 6 ≤ 300; omega⟩) (fun H locs hP hD hS => ?_)
          have hP : va_P G vwCl (oW cy b_0 bk_0 (oEq r_29.2 r_30.2.1 r_30.2.2) ++ oW cy b_1 bk_1 r_26.2) H := hP
          have hD : va_D A (oW cy b_0 bk_0 (oEq r_29.2 r_30.2.1 r_30.2.2) ++ oW cy b_1 bk_1 r_26.2) := hD
          refine lv_lstore (lv' := [(17, .long r_30.1), (16, .int r_29.1), (15, .int 1), (0, .ref (b_0 0)), (1, .ref (b_1 0)), (3, .int y3), (6, .long y6), (10, .long y10)]) hx hb dL_nights_358 hl (by decide) rfl (fun ls hl => ?_)
          refine lv_aload_n hx hb dL_nights_360 rfl (lv_at hl 3 rfl) ?_
          refine lv_iconst (v := 2) hx hb dL_nights_361 (by decide) ?_
          refine lv_iconst (v := 4) hx hb dL_nights_362 (by decide) ?_
          refine lv_iconst (v := 0) hx hb dL_nights_363 (by decide) ?_
          refine lv_iconst (v := 0) hx hb dL_nights_364 (by decide) ?_
          obtain ⟨r_31, hh_r_31, hf⟩ := obd_some hf
          refine kb_i6 (V := r_31.1) (w1 := oW cy b_0 bk_0 r_31.2) hS (Nat.le_of_ble_eq_true rfl) (Jn_l hP hD hS hA) (va_runS (As := [.ref (b_0 0), .int 2, .int 4, .int 0, .int 0]) (rest := []) ⟨hx, hb, hml, hown, hts⟩ (c_L_call (l := l) hfl G cy b_0 bk_0 H.size (oEq r_29.2 r_30.2.1 r_30.2.2) 2 4 0 0 n r_31 hh_r_31) (va_cwS 5 hts gB_nights_L_call rfl rfl rfl ddN_L_call ⟨(Nat.le_of_ble_eq_true rfl), (Nat.le_of_ble_eq_true rfl)⟩) (preSN hXN (hE.kept hS.2.1) (Jn_l hP hD hS hA).1 (P_l hP) hK (D_l hD) hN) rfl rfl hl.1 rfl (lv_room (Nat.le_of_ble_eq_true rfl)) dL_nights_365 ⟨by show cc + 10 + 3 ≤ 50; omega, by show 6 * (cc + 10) + 18 ≤ 300; omega⟩) (fun H locs hP hD hS => ?_)
          have hP : va_P G vwCl (oW cy b_0 bk_0 r_31.2 ++ oW cy b_1 bk_1 r_26.2) H := hP
          have hD : va_D A (oW cy b_0 bk_0 r_31.2 ++ oW cy b_1 bk_1 r_26.2) := hD
          refine lv_if_ne (tgt := 375) hx hb dL_nights_368 (by decide) (fun h_32 => ?_) (fun h_32 => ?_)
          · have hf := in_ h_32 hf
            refine lv_iconst (v := 0) hx hb dL_nights_375 (by decide) ?_
            exact bl_376  r_31.2 r_26.2 y3 y6 y10 1 r_29.1 r_30.1 0 _ _ _ (by omega) hf hP hD hS ls (lv_sub hl [3, 4, 5, 6, 7, 2, 1, 0] rfl)
          · have hf := ip_ h_32 hf
            refine lv_iconst (v := 1) hx hb dL_nights_371 (by decide) ?_
            refine lv_goto (tgt := 376) hx hb dL_nights_372 (by decide) ?_
            exact bl_376  r_31.2 r_26.2 y3 y6 y10 1 r_29.1 r_30.1 1 _ _ _ (by omega) hf hP hD hS ls (lv_sub hl [3, 4, 5, 6, 7, 2, 1, 0] rfl)
  have bl_253 : ∀ (c_o_0 : OT) (c_o_1 : OT) (y3 : Int32) (y6 : Int64) (y10 : Int64) (H : Heap) (locs : List Loc) (cc : Nat), cc + (25) ≤ 50 → f_L_nights_b253 n c_o_0 c_o_1 y3 y6 y10 = some R → va_P G vwCl (oW cy b_0 bk_0 c_o_0 ++ oW cy b_1 bk_1 c_o_1) H → va_D A (oW cy b_0 bk_0 c_o_0 ++ oW cy b_1 bk_1 c_o_1) → va_S A s.heap H locs → ∀ (ls : Array Slot), lv_has ls 21 [(0, .ref (b_0 0)), (1, .ref (b_1 0)), (3, .int y3), (6, .long y6), (10, .long y10)] → W p l e ({ frames := 11, cells := 50, slots := 300, locals := 218 } : Room) s m [.ref (b_0 0), .ref (b_1 0), .int x2].toArray below meth c H locs cc (6 * cc) (MQ below (va_Qi (fun r (_ : Unit) => r = bI R.1) (fun _ t => Wd G cy A (oW cy b_0 bk_0 R.2.1 ++ oW cy b_1 bk_1 R.2.2) t) A) [.ref (b_0 0), .ref (b_1 0), .int x2].toArray s 50 300 A) (F0 m 253 ls []) := by
    intro c_o_0 c_o_1 y3 y6 y10 H locs cc hcc hf hP hD hS ls hl
    unfold f_L_nights_b253 at hf
    refine lv_aload_n hx hb dL_nights_253 rfl (lv_at hl 0 rfl) ?_
    refine lv_bipush (v := 13) hx hb dL_nights_254 (by decide) ?_
    refine lv_iconst (v := 0) hx hb dL_nights_256 (by decide) ?_
    refine lv_iconst (v := 0) hx hb dL_nights_257 (by decide) ?_
    refine lv_iconst (v := 0) hx hb dL_nights_258 (by decide) ?_
    obtain ⟨r_33, hh_r_33, hf⟩ := obd_some hf
    refine kb_i6 (V := r_33.1) (w1 := oW cy b_0 bk_0 r_33.2) hS (Nat.le_of_ble_eq_true rfl) (Jn_l hP hD hS hA) (va_runS (As := [.ref (b_0 0), .int 13, .int 0, .int 0, .int 0]) (rest := []) ⟨hx, hb, hml, hown, hts⟩ (c_L_call (l := l) hfl G cy b_0 bk_0 H.size c_o_0 13 0 0 0 n r_33 hh_r_33) (va_cwS 5 hts gB_nights_L_call rfl rfl rfl ddN_L_call ⟨(Nat.le_of_ble_eq_true rfl), (Nat.le_of_ble_eq_true rfl)⟩) (preSN hXN (hE.kept hS.2.1) (Jn_l hP hD hS hA).1 (P_l hP) hK (D_l hD) hN) rfl rfl hl.1 rfl (lv_room (Nat.le_of_ble_eq_true rfl)) dL_nights_259 ⟨by show cc + 3 ≤ 50; omega, by show 6 * cc + 18 ≤ 300; omega⟩) (fun H locs hP hD hS => ?_)
    have hP : va_P G vwCl (oW cy b_0 bk_0 r_33.2 ++ oW cy b_1 bk_1 c_o_1) H := hP
    have hD : va_D A (oW cy b_0 bk_0 r_33.2 ++ oW cy b_1 bk_1 c_o_1) := hD
    refine kb_i (V := bI (f_L_thrown r_33.1)) (w1 := []) hS (Jn_0 hP hD hS hA) (va_runS (As := [.int r_33.1]) (rest := []) ⟨hx, hb, hml, hown, hts⟩ (c_L_thrown (l := l) G cy H.size r_33.1 _ rfl) (va_cwS 1 hts gB_nights_L_thrown rfl rfl rfl ddN_L_thrown ⟨(Nat.le_of_ble_eq_true rfl), (Nat.le_of_ble_eq_true rfl)⟩) (preS_ P_0 hK (D_0 (A := A)) hN) rfl rfl hl.1 rfl (lv_room (Nat.le_of_ble_eq_true rfl)) dL_nights_262 ⟨by show cc + 3 + 0 ≤ 50; omega, by show 6 * (cc + 3) + 0 ≤ 300; omega⟩) (fun H locs hP hD hS => ?_)
    have hP : va_P G vwCl (oW cy b_0 bk_0 r_33.2 ++ oW cy b_1 bk_1 c_o_1) H := hP
    have hD : va_D A (oW cy b_0 bk_0 r_33.2 ++ oW cy b_1 bk_1 c_o_1) := hD
    refine lv_if_ne (tgt := 297) hx hb dL_nights_265 (by decide) (fun h_34 => ?_) (fun h_34 => ?_)
    · have hf := ip_ (bI_n0 h_34) hf
      refine lv_iconst (v := 0) hx hb dL_nights_297 (by decide) ?_
      exact bl_298  r_33.2 c_o_1 y3 y6 y10 0 _ _ _ (by omega) hf hP hD hS ls (lv_sub hl [0, 1, 2, 3, 4] rfl)
    · have hf := in_ (bI_0 h_34) hf
      refine lv_aload_n hx hb dL_nights_268 rfl (lv_at hl 1 rfl) ?_
      refine lv_bipush (v := 13) hx hb dL_nights_269 (by decide) ?_
      refine lv_iconst (v := 0) hx hb dL_nights_271 (by decide) ?_
      refine lv_iconst (v := 0) hx hb dL_nights_272 (by decide) ?_
      refine lv_iconst (v := 0) hx hb dL_nights_273 (by decide) ?_
      obtain ⟨r_35, hh_r_35, hf⟩ := obd_some hf
      refine kb_i6 (V := r_35.1) (w1 := oW cy b_1 bk_1 r_35.2) hS (Nat.le_of_ble_eq_true rfl) (Jn_r hP hD hS hA) (va_runS (As := [.ref (b_1 0), .int 13, .int 0, .int 0, .int 0]) (rest := []) ⟨hx, hb, hml, hown, hts⟩ (c_L_call (l := l) hfl G cy b_1 bk_1 H.size c_o_1 13 0 0 0 n r_35 hh_r_35) (va_cwS 5 hts gB_nights_L_call rfl rfl rfl ddN_L_call ⟨(Nat.le_of_ble_eq_true rfl), (Nat.le_of_ble_eq_true rfl)⟩) (preSN hXN (hE.kept hS.2.1) (Jn_r hP hD hS hA).1 (P_r hP) hK (D_r hD) hN) rfl rfl hl.1 rfl (lv_room (Nat.le_of_ble_eq_true rfl)) dL_nights_274 ⟨by show cc + 3 + 3 ≤ 50; omega, by show 6 * (cc + 3) + 18 ≤ 300; omega⟩) (fun H locs hP hD hS => ?_)
      have hP : va_P G vwCl (oW cy b_0 bk_0 r_33.2 ++ oW cy b_1 bk_1 r_35.2) H := hP
      have hD : va_D A (oW cy b_0 bk_0 r_33.2 ++ oW cy b_1 bk_1 r_35.2) := hD
      refine kb_i (V := bI (f_L_thrown r_35.1)) (w1 := []) hS (Jn_0 hP hD hS hA) (va_runS (As := [.int r_35.1]) (rest := []) ⟨hx, hb, hml, hown, hts⟩ (c_L_thrown (l := l) G cy H.size r_35.1 _ rfl) (va_cwS 1 hts gB_nights_L_thrown rfl rfl rfl ddN_L_thrown ⟨(Nat.le_of_ble_eq_true rfl), (Nat.le_of_ble_eq_true rfl)⟩) (preS_ P_0 hK (D_0 (A := A)) hN) rfl rfl hl.1 rfl (lv_room (Nat.le_of_ble_eq_true rfl)) dL_nights_277 ⟨by show cc + 6 + 0 ≤ 50; omega, by show 6 * (cc + 6) + 0 ≤ 300; omega⟩) (fun H locs hP hD hS => ?_)
      have hP : va_P G vwCl (oW cy b_0 bk_0 r_33.2 ++ oW cy b_1 bk_1 r_35.2) H := hP
      have hD : va_D A (oW cy b_0 bk_0 r_33.2 ++ oW cy b_1 bk_1 r_35.2) := hD
      refine lv_if_ne (tgt := 297) hx hb dL_nights_280 (by decide) (fun h_36 => ?_) (fun h_36 => ?_)
      · have hf := ip_ (bI_n0 h_36) hf
        refine lv_iconst (v := 0) hx hb dL_nights_297 (by decide) ?_
        exact bl_298  r_33.2 r_35.2 y3 y6 y10 0 _ _ _ (by omega) hf hP hD hS ls (lv_sub hl [0, 1, 2, 3, 4] rfl)
      · have hf := in_ (bI_0 h_36) hf
        refine lv_aload_n hx hb dL_nights_283 rfl (lv_at hl 0 rfl) ?_
        refine kb_l (V := (w_frozen (o_w r_33.2))) (w1 := oW cy b_0 bk_0 r_33.2) hS (Jn_l hP hD hS hA) (va_runV (As := []) (rest := []) ⟨hx, hb, hml, hown, hts⟩ (c_X5_frozen (l := l) G cy (b_0 0) (b_0 1) (b_0 2) (b_0 3) (b_0 4) (b_0 5) (b_0 6) (b_0 7) (b_0 8) (b_0 9) (b_0 10) (b_0 11) (b_0 12) (b_0 13) bk_0 H.size (o_tx r_33.2) (o_sg r_33.2) (o_w r_33.2) (o_tr r_33.2) (o_p r_33.2) (o_sk r_33.2) (o_b0 r_33.2) (o_k0 r_33.2) (o_b1 r_33.2) (o_k1 r_33.2) (o_e r_33.2) (o_g r_33.2) (o_l r_33.2) _ rfl) (cwV 0 hts gB_nights_X5_frozen rfl rfl rfl ddV_X5_frozen ⟨(Nat.le_of_ble_eq_true rfl), (Nat.le_of_ble_eq_true rfl)⟩) (preV_ (ci := 5) (q0 := 0) rfl rfl (P_l hP) hK (D_l hD) hN) rfl rfl hl.1 rfl (lv_room (Nat.le_of_ble_eq_true rfl)) dL_nights_284 ⟨by show cc + 6 + 0 ≤ 50; omega, by show 6 * (cc + 6) + 0 ≤ 300; omega⟩) (fun H locs hP hD hS => ?_)
        have hP : va_P G vwCl (oW cy b_0 bk_0 r_33.2 ++ oW cy b_1 bk_1 r_35.2) H := hP
        have hD : va_D A (oW cy b_0 bk_0 r_33.2 ++ oW cy b_1 bk_1 r_35.2) := hD
        refine lv_lload hx hb dL_nights_287 (lv_at hl 3 rfl) ?_
        refine W.lcmp hx hb dL_nights_289 ?_
        refine lv_if_ne (tgt := 297) hx hb dL_nights_290 (by decide) (fun h_37 => ?_) (fun h_37 => ?_)
        · have hf := in_ (fun q => h_37 (lgc_eq.mpr q)) hf
          refine lv_iconst (v := 0) hx hb dL_nights_297 (by decide) ?_
          exact bl_298  r_33.2 r_35.2 y3 y6 y10 0 _ _ _ (by omega) hf hP hD hS ls (lv_sub hl [0, 1, 2, 3, 4] rfl)
        · have hf := ip_ (lgc_eq.mp h_37) hf
          refine lv_iconst (v := 1) hx hb dL_nights_293 (by decide) ?_
          refine lv_goto (tgt := 298) hx hb dL_nights_294 (by decide) ?_
          exact bl_298  r_33.2 r_35.2 y3 y6 y10 1 _ _ _ (by omega) hf hP hD hS ls (lv_sub hl [0, 1, 2, 3, 4] rfl)
  have bl_229 : ∀ (c_o_0 : OT) (c_o_1 : OT) (y3 : Int32) (y4 : Int32) (y5 : Int32) (y6 : Int64) (y8 : Int64) (y10 : Int64) (y12 : Int32) (H : Heap) (locs : List Loc) (cc : Nat), cc + (25) ≤ 50 → f_L_nights_b229 n c_o_0 c_o_1 y3 y4 y5 y6 y8 y10 y12 = some R → va_P G vwCl (oW cy b_0 bk_0 c_o_0 ++ oW cy b_1 bk_1 c_o_1) H → va_D A (oW cy b_0 bk_0 c_o_0 ++ oW cy b_1 bk_1 c_o_1) → va_S A s.heap H locs → ∀ (ls : Array Slot), lv_has ls 21 [(0, .ref (b_0 0)), (1, .ref (b_1 0)), (3, .int y3), (4, .int y4), (5, .int y5), (6, .long y6), (8, .long y8), (10, .long y10), (12, .int y12)] → W p l e ({ frames := 11, cells := 50, slots := 300, locals := 218 } : Room) s m [.ref (b_0 0), .ref (b_1 0), .int x2].toArray below meth c H locs cc (6 * cc) (MQ below (va_Qi (fun r (_ : Unit) => r = bI R.1) (fun _ t => Wd G cy A (oW cy b_0 bk_0 R.2.1 ++ oW cy b_1 bk_1 R.2.2) t) A) [.ref (b_0 0), .ref (b_1 0), .int x2].toArray s 50 300 A) (F0 m 229 ls []) := by
    intro c_o_0 c_o_1 y3 y4 y5 y6 y8 y10 y12 H locs cc hcc hf hP hD hS ls hl
    unfold f_L_nights_b229 at hf
    refine lv_iload hx hb dL_nights_229 (lv_at hl 8 rfl) ?_
    refine lv_if_lt (tgt := 241) hx hb dL_nights_231 (by decide) (fun h_38 => ?_) (fun h_38 => ?_)
    · have hf := ip_ h_38 hf
      refine lv_lload hx hb dL_nights_241 (lv_at hl 6 rfl) ?_
      refine lv_iload hx hb dL_nights_243 (lv_at hl 4 rfl) ?_
      refine lv_lshr (v := (jsr y8 y5)) hx hb dL_nights_245 rfl ?_
      refine lv_lconst (v := 1) hx hb dL_nights_246 rfl ?_
      refine lv_land hx hb dL_nights_247 ?_
      refine lv_lconst (v := 0) hx hb dL_nights_248 rfl ?_
      refine W.lcmp hx hb dL_nights_249 ?_
      refine lv_if_ne (tgt := 297) hx hb dL_nights_250 (by decide) (fun h_39 => ?_) (fun h_39 => ?_)
      · have hf := in_ (fun q => h_39 (lgc_eq.mpr q)) hf
        refine lv_iconst (v := 0) hx hb dL_nights_297 (by decide) ?_
        exact bl_298  c_o_0 c_o_1 y3 y6 y10 0 _ _ _ (by omega) hf hP hD hS ls (lv_sub hl [0, 1, 2, 5, 7] rfl)
      · have hf := ip_ (lgc_eq.mp h_39) hf
        exact bl_253  c_o_0 c_o_1 y3 y6 y10 _ _ _ (by omega) hf hP hD hS ls (lv_sub hl [0, 1, 2, 5, 7] rfl)
    · have hf := in_ h_38 hf
      refine lv_iload hx hb dL_nights_234 (lv_at hl 8 rfl) ?_
      refine lv_iload hx hb dL_nights_236 (lv_at hl 3 rfl) ?_
      refine lv_icmp_le (tgt := 253) hx hb dL_nights_238 (by decide) (fun h_40 => ?_) (fun h_40 => ?_)
      · have hf := ip_ h_40 hf
        exact bl_253  c_o_0 c_o_1 y3 y6 y10 _ _ _ (by omega) hf hP hD hS ls (lv_sub hl [0, 1, 2, 5, 7] rfl)
      · have hf := in_ h_40 hf
        refine lv_lload hx hb dL_nights_241 (lv_at hl 6 rfl) ?_
        refine lv_iload hx hb dL_nights_243 (lv_at hl 4 rfl) ?_
        refine lv_lshr (v := (jsr y8 y5)) hx hb dL_nights_245 rfl ?_
        refine lv_lconst (v := 1) hx hb dL_nights_246 rfl ?_
        refine lv_land hx hb dL_nights_247 ?_
        refine lv_lconst (v := 0) hx hb dL_nights_248 rfl ?_
        refine W.lcmp hx hb dL_nights_249 ?_
        refine lv_if_ne (tgt := 297) hx hb dL_nights_250 (by decide) (fun h_41 => ?_) (fun h_41 => ?_)
        · have hf := in_ (fun q => h_41 (lgc_eq.mpr q)) hf
          refine lv_iconst (v := 0) hx hb dL_nights_297 (by decide) ?_
          exact bl_298  c_o_0 c_o_1 y3 y6 y10 0 _ _ _ (by omega) hf hP hD hS ls (lv_sub hl [0, 1, 2, 5, 7] rfl)
        · have hf := ip_ (lgc_eq.mp h_41) hf
          exact bl_253  c_o_0 c_o_1 y3 y6 y10 _ _ _ (by omega) hf hP hD hS ls (lv_sub hl [0, 1, 2, 5, 7] rfl)
  have bl_170 : ∀ (c_o_0 : OT) (c_o_1 : OT) (y3 : Int32) (y4 : Int32) (y5 : Int32) (y6 : Int64) (y8 : Int64) (y10 : Int64) (y12 : Int32) (z0 : Int32) (H : Heap) (locs : List Loc) (cc : Nat), cc + (31) ≤ 50 → f_L_nights_b170 n c_o_0 c_o_1 y3 y4 y5 y6 y8 y10 y12 z0 = some R → va_P G vwCl (oW cy b_0 bk_0 c_o_0 ++ oW cy b_1 bk_1 c_o_1) H → va_D A (oW cy b_0 bk_0 c_o_0 ++ oW cy b_1 bk_1 c_o_1) → va_S A s.heap H locs → ∀ (ls : Array Slot), lv_has ls 21 [(0, .ref (b_0 0)), (1, .ref (b_1 0)), (3, .int y3), (4, .int y4), (5, .int y5), (6, .long y6), (8, .long y8), (10, .long y10), (12, .int y12)] → W p l e ({ frames := 11, cells := 50, slots := 300, locals := 218 } : Room) s m [.ref (b_0 0), .ref (b_1 0), .int x2].toArray below meth c H locs cc (6 * cc) (MQ below (va_Qi (fun r (_ : Unit) => r = bI R.1) (fun _ t => Wd G cy A (oW cy b_0 bk_0 R.2.1 ++ oW cy b_1 bk_1 R.2.2) t) A) [.ref (b_0 0), .ref (b_1 0), .int x2].toArray s 50 300 A) (F0 m 170 ls [.int z0]) := by
    intro c_o_0 c_o_1 y3 y4 y5 y6 y8 y10 y12 z0 H locs cc hcc hf hP hD hS ls hl
    unfold f_L_nights_b170 at hf
    refine lv_istore (lv' := [(15, .int z0), (0, .ref (b_0 0)), (1, .ref (b_1 0)), (3, .int y3), (4, .int y4), (5, .int y5), (6, .long y6), (8, .long y8), (10, .long y10), (12, .int y12)]) hx hb dL_nights_170 hl (by decide) rfl (fun ls hl => ?_)
    refine lv_iload hx hb dL_nights_172 (lv_at hl 0 rfl) ?_
    refine lv_if_eq (tgt := 297) hx hb dL_nights_174 (by decide) (fun h_42 => ?_) (fun h_42 => ?_)
    · have hf := ip_ h_42 hf
      refine lv_iconst (v := 0) hx hb dL_nights_297 (by decide) ?_
      exact bl_298  c_o_0 c_o_1 y3 y6 y10 0 _ _ _ (by omega) hf hP hD hS ls (lv_sub hl [1, 2, 3, 6, 8] rfl)
    · have hf := in_ h_42 hf
      refine lv_aload_n hx hb dL_nights_177 rfl (lv_at hl 1 rfl) ?_
      refine lv_bipush (v := 12) hx hb dL_nights_178 (by decide) ?_
      refine lv_iload hx hb dL_nights_180 (lv_at hl 4 rfl) ?_
      refine lv_iconst (v := 0) hx hb dL_nights_182 (by decide) ?_
      refine lv_iconst (v := 0) hx hb dL_nights_183 (by decide) ?_
      obtain ⟨r_43, hh_r_43, hf⟩ := obd_some hf
      refine kb_i6 (V := r_43.1) (w1 := oW cy b_0 bk_0 r_43.2) hS (Nat.le_of_ble_eq_true rfl) (Jn_l hP hD hS hA) (va_runS (As := [.ref (b_0 0), .int 12, .int y4, .int 0, .int 0]) (rest := []) ⟨hx, hb, hml, hown, hts⟩ (c_L_call (l := l) hfl G cy b_0 bk_0 H.size c_o_0 12 y4 0 0 n r_43 hh_r_43) (va_cwS 5 hts gB_nights_L_call rfl rfl rfl ddN_L_call ⟨(Nat.le_of_ble_eq_true rfl), (Nat.le_of_ble_eq_true rfl)⟩) (preSN hXN (hE.kept hS.2.1) (Jn_l hP hD hS hA).1 (P_l hP) hK (D_l hD) hN) rfl rfl hl.1 rfl (lv_room (Nat.le_of_ble_eq_true rfl)) dL_nights_184 ⟨by show cc + 3 ≤ 50; omega, by show 6 * cc + 18 ≤ 300; omega⟩) (fun H locs hP hD hS => ?_)
      have hP : va_P G vwCl (oW cy b_0 bk_0 r_43.2 ++ oW cy b_1 bk_1 c_o_1) H := hP
      have hD : va_D A (oW cy b_0 bk_0 r_43.2 ++ oW cy b_1 bk_1 c_o_1) := hD
      refine lv_aload_n hx hb dL_nights_187 rfl (lv_at hl 2 rfl) ?_
      refine lv_bipush (v := 12) hx hb dL_nights_188 (by decide) ?_
      refine lv_iload hx hb dL_nights_190 (lv_at hl 4 rfl) ?_
      refine lv_iconst (v := 0) hx hb dL_nights_192 (by decide) ?_
      refine lv_iconst (v := 0) hx hb dL_nights_193 (by decide) ?_
      obtain ⟨r_44, hh_r_44, hf⟩ := obd_some hf
      refine kb_i6 (V := r_44.1) (w1 := oW cy b_1 bk_1 r_44.2) hS (Nat.le_of_ble_eq_true rfl) (Jn_r hP hD hS hA) (va_runS (As := [.ref (b_1 0), .int 12, .int y4, .int 0, .int 0]) (rest := [.int r_43.1]) ⟨hx, hb, hml, hown, hts⟩ (c_L_call (l := l) hfl G cy b_1 bk_1 H.size c_o_1 12 y4 0 0 n r_44 hh_r_44) (va_cwS 5 hts gB_nights_L_call rfl rfl rfl ddN_L_call ⟨(Nat.le_of_ble_eq_true rfl), (Nat.le_of_ble_eq_true rfl)⟩) (preSN hXN (hE.kept hS.2.1) (Jn_r hP hD hS hA).1 (P_r hP) hK (D_r hD) hN) rfl rfl hl.1 rfl (lv_room (Nat.le_of_ble_eq_true rfl)) dL_nights_194 ⟨by show cc + 3 + 3 ≤ 50; omega, by show 6 * (cc + 3) + 18 ≤ 300; omega⟩) (fun H locs hP hD hS => ?_)
      have hP : va_P G vwCl (oW cy b_0 bk_0 r_43.2 ++ oW cy b_1 bk_1 r_44.2) H := hP
      have hD : va_D A (oW cy b_0 bk_0 r_43.2 ++ oW cy b_1 bk_1 r_44.2) := hD
      refine lv_icmp_ne (tgt := 297) hx hb dL_nights_197 (by decide) (fun h_45 => ?_) (fun h_45 => ?_)
      · have hf := in_ h_45 hf
        refine lv_iconst (v := 0) hx hb dL_nights_297 (by decide) ?_
        exact bl_298  r_43.2 r_44.2 y3 y6 y10 0 _ _ _ (by omega) hf hP hD hS ls (lv_sub hl [1, 2, 3, 6, 8] rfl)
      · have hf := ip_ h_45 hf
        refine lv_aload_n hx hb dL_nights_200 rfl (lv_at hl 1 rfl) ?_
        refine kb_l (V := (w_frozen (o_w r_43.2))) (w1 := oW cy b_0 bk_0 r_43.2) hS (Jn_l hP hD hS hA) (va_runV (As := []) (rest := []) ⟨hx, hb, hml, hown, hts⟩ (c_X5_frozen (l := l) G cy (b_0 0) (b_0 1) (b_0 2) (b_0 3) (b_0 4) (b_0 5) (b_0 6) (b_0 7) (b_0 8) (b_0 9) (b_0 10) (b_0 11) (b_0 12) (b_0 13) bk_0 H.size (o_tx r_43.2) (o_sg r_43.2) (o_w r_43.2) (o_tr r_43.2) (o_p r_43.2) (o_sk r_43.2) (o_b0 r_43.2) (o_k0 r_43.2) (o_b1 r_43.2) (o_k1 r_43.2) (o_e r_43.2) (o_g r_43.2) (o_l r_43.2) _ rfl) (cwV 0 hts gB_nights_X5_frozen rfl rfl rfl ddV_X5_frozen ⟨(Nat.le_of_ble_eq_true rfl), (Nat.le_of_ble_eq_true rfl)⟩) (preV_ (ci := 5) (q0 := 0) rfl rfl (P_l hP) hK (D_l hD) hN) rfl rfl hl.1 rfl (lv_room (Nat.le_of_ble_eq_true rfl)) dL_nights_201 ⟨by show cc + 6 + 0 ≤ 50; omega, by show 6 * (cc + 6) + 0 ≤ 300; omega⟩) (fun H locs hP hD hS => ?_)
        have hP : va_P G vwCl (oW cy b_0 bk_0 r_43.2 ++ oW cy b_1 bk_1 r_44.2) H := hP
        have hD : va_D A (oW cy b_0 bk_0 r_43.2 ++ oW cy b_1 bk_1 r_44.2) := hD
        refine lv_lload hx hb dL_nights_204 (lv_at hl 7 rfl) ?_
        refine W.lcmp hx hb dL_nights_206 ?_
        refine lv_if_ne (tgt := 297) hx hb dL_nights_207 (by decide) (fun h_46 => ?_) (fun h_46 => ?_)
        · have hf := in_ (fun q => h_46 (lgc_eq.mpr q)) hf
          refine lv_iconst (v := 0) hx hb dL_nights_297 (by decide) ?_
          exact bl_298  r_43.2 r_44.2 y3 y6 y10 0 _ _ _ (by omega) hf hP hD hS ls (lv_sub hl [1, 2, 3, 6, 8] rfl)
        · have hf := ip_ (lgc_eq.mp h_46) hf
          refine lv_iload hx hb dL_nights_210 (lv_at hl 9 rfl) ?_
          refine lv_iload hx hb dL_nights_212 (lv_at hl 4 rfl) ?_
          refine lv_icmp_ne (tgt := 229) hx hb dL_nights_214 (by decide) (fun h_47 => ?_) (fun h_47 => ?_)
          · have hf := in_ h_47 hf
            exact bl_229  r_43.2 r_44.2 y3 y4 y5 y6 y8 y10 y12 _ _ _ (by omega) hf hP hD hS ls (lv_sub hl [1, 2, 3, 4, 5, 6, 7, 8, 9] rfl)
          · have hf := ip_ h_47 hf
            refine lv_lload hx hb dL_nights_217 (lv_at hl 7 rfl) ?_
            refine lv_iload hx hb dL_nights_219 (lv_at hl 5 rfl) ?_
            refine lv_lshr (v := (jsr y8 y5)) hx hb dL_nights_221 rfl ?_
            refine lv_lconst (v := 1) hx hb dL_nights_222 rfl ?_
            refine lv_land hx hb dL_nights_223 ?_
            refine lv_lconst (v := 1) hx hb dL_nights_224 rfl ?_
            refine W.lcmp hx hb dL_nights_225 ?_
            refine lv_if_ne (tgt := 297) hx hb dL_nights_226 (by decide) (fun h_48 => ?_) (fun h_48 => ?_)
            · have hf := in_ (fun q => h_48 (lgc_eq.mpr q)) hf
              refine lv_iconst (v := 0) hx hb dL_nights_297 (by decide) ?_
              exact bl_298  r_43.2 r_44.2 y3 y6 y10 0 _ _ _ (by omega) hf hP hD hS ls (lv_sub hl [1, 2, 3, 6, 8] rfl)
            · have hf := ip_ (lgc_eq.mp h_48) hf
              exact bl_229  r_43.2 r_44.2 y3 y4 y5 y6 y8 y10 y12 _ _ _ (by omega) hf hP hD hS ls (lv_sub hl [1, 2, 3, 4, 5, 6, 7, 8, 9] rfl)
  have bl_111 : ∀ (c_o_0 : OT) (c_o_1 : OT) (y3 : Int32) (y4 : Int32) (y5 : Int32) (y6 : Int64) (y8 : Int64) (y10 : Int64) (y12 : Int32) (y13 : Int32) (y14 : Int32) (z0 : Int32) (z1 : Int32) (H : Heap) (locs : List Loc) (cc : Nat), cc + (33) ≤ 50 → f_L_nights_b111 n c_o_0 c_o_1 y3 y4 y5 y6 y8 y10 y12 y13 y14 z0 z1 = some R → va_P G vwCl (oW cy b_0 bk_0 c_o_0 ++ oW cy b_1 bk_1 c_o_1) H → va_D A (oW cy b_0 bk_0 c_o_0 ++ oW cy b_1 bk_1 c_o_1) → va_S A s.heap H locs → ∀ (ls : Array Slot), lv_has ls 21 [(0, .ref (b_0 0)), (1, .ref (b_1 0)), (3, .int y3), (4, .int y4), (5, .int y5), (6, .long y6), (8, .long y8), (10, .long y10), (12, .int y12), (13, .int y13), (14, .int y14)] → W p l e ({ frames := 11, cells := 50, slots := 300, locals := 218 } : Room) s m [.ref (b_0 0), .ref (b_1 0), .int x2].toArray below meth c H locs cc (6 * cc) (MQ below (va_Qi (fun r (_ : Unit) => r = bI R.1) (fun _ t => Wd G cy A (oW cy b_0 bk_0 R.2.1 ++ oW cy b_1 bk_1 R.2.2) t) A) [.ref (b_0 0), .ref (b_1 0), .int x2].toArray s 50 300 A) (F0 m 111 ls [.int z1, .int z0]) := by
    intro c_o_0 c_o_1 y3 y4 y5 y6 y8 y10 y12 y13 y14 z0 z1 H locs cc hcc hf hP hD hS ls hl
    unfold f_L_nights_b111 at hf
    refine lv_icmp_ne (tgt := 169) hx hb dL_nights_111 (by decide) (fun h_49 => ?_) (fun h_49 => ?_)
    · have hf := in_ h_49 hf
      refine lv_iconst (v := 0) hx hb dL_nights_169 (by decide) ?_
      exact bl_170  c_o_0 c_o_1 y3 y4 y5 y6 y8 y10 y12 0 _ _ _ (by omega) hf hP hD hS ls (lv_sub hl [0, 1, 2, 3, 4, 5, 6, 7, 8] rfl)
    · have hf := ip_ h_49 hf
      refine lv_iload hx hb dL_nights_114 (lv_at hl 9 rfl) ?_
      refine lv_iconst (v := (-1)) hx hb dL_nights_116 (by decide) ?_
      refine lv_icmp_eq (tgt := 165) hx hb dL_nights_117 (by decide) (fun h_50 => ?_) (fun h_50 => ?_)
      · have hf := ip_ h_50 hf
        refine lv_iconst (v := 1) hx hb dL_nights_165 (by decide) ?_
        refine lv_goto (tgt := 170) hx hb dL_nights_166 (by decide) ?_
        exact bl_170  c_o_0 c_o_1 y3 y4 y5 y6 y8 y10 y12 1 _ _ _ (by omega) hf hP hD hS ls (lv_sub hl [0, 1, 2, 3, 4, 5, 6, 7, 8] rfl)
      · have hf := in_ h_50 hf
        refine lv_iload hx hb dL_nights_120 (lv_at hl 10 rfl) ?_
        refine lv_if_le (tgt := 169) hx hb dL_nights_122 (by decide) (fun h_51 => ?_) (fun h_51 => ?_)
        · have hf := ip_ h_51 hf
          refine lv_iconst (v := 0) hx hb dL_nights_169 (by decide) ?_
          exact bl_170  c_o_0 c_o_1 y3 y4 y5 y6 y8 y10 y12 0 _ _ _ (by omega) hf hP hD hS ls (lv_sub hl [0, 1, 2, 3, 4, 5, 6, 7, 8] rfl)
        · have hf := in_ h_51 hf
          refine lv_iload hx hb dL_nights_125 (lv_at hl 9 rfl) ?_
          refine lv_iload hx hb dL_nights_127 (lv_at hl 10 rfl) ?_
          refine lv_iadd hx hb dL_nights_129 ?_
          refine lv_sipush (v := 200) hx hb dL_nights_130 (by decide) ?_
          refine lv_icmp_gt (tgt := 165) hx hb dL_nights_133 (by decide) (fun h_52 => ?_) (fun h_52 => ?_)
          · have hf := ip_ h_52 hf
            refine lv_iconst (v := 1) hx hb dL_nights_165 (by decide) ?_
            refine lv_goto (tgt := 170) hx hb dL_nights_166 (by decide) ?_
            exact bl_170  c_o_0 c_o_1 y3 y4 y5 y6 y8 y10 y12 1 _ _ _ (by omega) hf hP hD hS ls (lv_sub hl [0, 1, 2, 3, 4, 5, 6, 7, 8] rfl)
          · have hf := in_ h_52 hf
            refine lv_aload_n hx hb dL_nights_136 rfl (lv_at hl 0 rfl) ?_
            refine lv_iload hx hb dL_nights_137 (lv_at hl 9 rfl) ?_
            refine lv_iload hx hb dL_nights_139 (lv_at hl 10 rfl) ?_
            refine lv_iadd hx hb dL_nights_141 ?_
            obtain ⟨r_53, hh_r_53, hf⟩ := obd_some hf
            refine kbx_l (R0 := r_53) (w1 := fun (u : Int64) => oW cy b_0 bk_0 c_o_0) (V := fun (u : Int64) => u) hS (Nat.le_of_ble_eq_true rfl) (Jn_l hP hD hS hA) (vx_runSX (As := [.ref (b_0 0), .int (y13 + y14)]) (rest := []) ⟨hx, hb, hml, hown, hts⟩ (c_L_looks (l := l) hfl G cy (b_0 0) (b_0 1) (b_0 2) (b_0 3) (b_0 4) (b_0 5) (b_0 6) (b_0 7) (b_0 8) (b_0 9) (b_0 10) (b_0 11) (b_0 12) (b_0 13) bk_0 H.size c_o_0.1 c_o_0.2.1 c_o_0.2.2.1 c_o_0.2.2.2.1 c_o_0.2.2.2.2.1 c_o_0.2.2.2.2.2.1 c_o_0.2.2.2.2.2.2.1 c_o_0.2.2.2.2.2.2.2.1 c_o_0.2.2.2.2.2.2.2.2.1 c_o_0.2.2.2.2.2.2.2.2.2.1 c_o_0.2.2.2.2.2.2.2.2.2.2.1 c_o_0.2.2.2.2.2.2.2.2.2.2.2.1 c_o_0.2.2.2.2.2.2.2.2.2.2.2.2 (y13 + y14) n r_53 hh_r_53) (vx_cwSW 2 hts gB_nights_L_looks rfl rfl rfl ddN_L_looks ⟨(Nat.le_of_ble_eq_true rfl), (Nat.le_of_ble_eq_true rfl)⟩) (preSN hXN (hE.kept hS.2.1) (Jn_l hP hD hS hA).1 (P_l hP) hK (D_l hD) hN) rfl rfl hl.1 rfl (lv_room (Nat.le_of_ble_eq_true rfl)) dL_nights_142 ⟨by show cc + 1 ≤ 50; omega, by show 6 * cc + 6 ≤ 300; omega⟩) (fun H locs hP hD hS => ?_)
            have hP : va_P G vwCl (oW cy b_0 bk_0 c_o_0 ++ oW cy b_1 bk_1 c_o_1) H := hP
            have hD : va_D A (oW cy b_0 bk_0 c_o_0 ++ oW cy b_1 bk_1 c_o_1) := hD
            refine lv_iload hx hb dL_nights_145 (lv_at hl 9 rfl) ?_
            refine lv_if_ne (tgt := 155) hx hb dL_nights_147 (by decide) (fun h_54 => ?_) (fun h_54 => ?_)
            · have hf := in_ h_54 hf
              refine lv_aload_n hx hb dL_nights_155 rfl (lv_at hl 0 rfl) ?_
              refine lv_iload hx hb dL_nights_156 (lv_at hl 9 rfl) ?_
              obtain ⟨r_55, hh_r_55, hf⟩ := obd_some hf
              refine kbx_l (R0 := r_55) (w1 := fun (u : Int64) => oW cy b_0 bk_0 c_o_0) (V := fun (u : Int64) => u) hS (Nat.le_of_ble_eq_true rfl) (Jn_l hP hD hS hA) (vx_runSX (As := [.ref (b_0 0), .int y13]) (rest := [.long r_53]) ⟨hx, hb, hml, hown, hts⟩ (c_L_looks (l := l) hfl G cy (b_0 0) (b_0 1) (b_0 2) (b_0 3) (b_0 4) (b_0 5) (b_0 6) (b_0 7) (b_0 8) (b_0 9) (b_0 10) (b_0 11) (b_0 12) (b_0 13) bk_0 H.size c_o_0.1 c_o_0.2.1 c_o_0.2.2.1 c_o_0.2.2.2.1 c_o_0.2.2.2.2.1 c_o_0.2.2.2.2.2.1 c_o_0.2.2.2.2.2.2.1 c_o_0.2.2.2.2.2.2.2.1 c_o_0.2.2.2.2.2.2.2.2.1 c_o_0.2.2.2.2.2.2.2.2.2.1 c_o_0.2.2.2.2.2.2.2.2.2.2.1 c_o_0.2.2.2.2.2.2.2.2.2.2.2.1 c_o_0.2.2.2.2.2.2.2.2.2.2.2.2 y13 n r_55 hh_r_55) (vx_cwSW 2 hts gB_nights_L_looks rfl rfl rfl ddN_L_looks ⟨(Nat.le_of_ble_eq_true rfl), (Nat.le_of_ble_eq_true rfl)⟩) (preSN hXN (hE.kept hS.2.1) (Jn_l hP hD hS hA).1 (P_l hP) hK (D_l hD) hN) rfl rfl hl.1 rfl (lv_room (Nat.le_of_ble_eq_true rfl)) dL_nights_158 ⟨by show cc + 1 + 1 ≤ 50; omega, by show 6 * (cc + 1) + 6 ≤ 300; omega⟩) (fun H locs hP hD hS => ?_)
              have hP : va_P G vwCl (oW cy b_0 bk_0 c_o_0 ++ oW cy b_1 bk_1 c_o_1) H := hP
              have hD : va_D A (oW cy b_0 bk_0 c_o_0 ++ oW cy b_1 bk_1 c_o_1) := hD
              refine W.lcmp hx hb dL_nights_161 ?_
              refine lv_if_ne (tgt := 169) hx hb dL_nights_162 (by decide) (fun h_56 => ?_) (fun h_56 => ?_)
              · have hf := in_ (fun q => h_56 (lgc_eq.mpr q)) hf
                refine lv_iconst (v := 0) hx hb dL_nights_169 (by decide) ?_
                exact bl_170  c_o_0 c_o_1 y3 y4 y5 y6 y8 y10 y12 0 _ _ _ (by omega) hf hP hD hS ls (lv_sub hl [0, 1, 2, 3, 4, 5, 6, 7, 8] rfl)
              · have hf := ip_ (lgc_eq.mp h_56) hf
                refine lv_iconst (v := 1) hx hb dL_nights_165 (by decide) ?_
                refine lv_goto (tgt := 170) hx hb dL_nights_166 (by decide) ?_
                exact bl_170  c_o_0 c_o_1 y3 y4 y5 y6 y8 y10 y12 1 _ _ _ (by omega) hf hP hD hS ls (lv_sub hl [0, 1, 2, 3, 4, 5, 6, 7, 8] rfl)
            · have hf := ip_ h_54 hf
              refine lv_lload hx hb dL_nights_150 (lv_at hl 5 rfl) ?_
              refine lv_goto (tgt := 161) hx hb dL_nights_152 (by decide) ?_
              refine W.lcmp hx hb dL_nights_161 ?_
              refine lv_if_ne (tgt := 169) hx hb dL_nights_162 (by decide) (fun h_57 => ?_) (fun h_57 => ?_)
              · have hf := in_ (fun q => h_57 (lgc_eq.mpr q)) hf
                refine lv_iconst (v := 0) hx hb dL_nights_169 (by decide) ?_
                exact bl_170  c_o_0 c_o_1 y3 y4 y5 y6 y8 y10 y12 0 _ _ _ (by omega) hf hP hD hS ls (lv_sub hl [0, 1, 2, 3, 4, 5, 6, 7, 8] rfl)
              · have hf := ip_ (lgc_eq.mp h_57) hf
                refine lv_iconst (v := 1) hx hb dL_nights_165 (by decide) ?_
                refine lv_goto (tgt := 170) hx hb dL_nights_166 (by decide) ?_
                exact bl_170  c_o_0 c_o_1 y3 y4 y5 y6 y8 y10 y12 1 _ _ _ (by omega) hf hP hD hS ls (lv_sub hl [0, 1, 2, 3, 4, 5, 6, 7, 8] rfl)
  have hl := lv_entry [.ref (b_0 0), .ref (b_1 0), .int x2] (n := 21) (Nat.le_of_ble_eq_true rfl)
  rw [lg_entry_eq]
  generalize (lg_sl [.ref (b_0 0), .ref (b_1 0), .int x2] ++ List.replicate (21 - (lg_sl [.ref (b_0 0), .ref (b_1 0), .int x2]).length) Slot.unset).toArray = ls at hl ⊢
  have hl : lv_has ls 21 [(0, .ref (b_0 0)), (1, .ref (b_1 0)), (2, .int x2)] := hl
  unfold f_L_nights at hf
  refine W.widen (k := 0) (n := 6 * 0) (Nat.le_refl _) (Nat.le_refl _) ?_
  refine lv_aload_n hx hb dL_nights_0 rfl (lv_at hl 0 rfl) ?_
  refine lv_iconst (v := 2) hx hb dL_nights_1 (by decide) ?_
  refine lv_iconst (v := 0) hx hb dL_nights_2 (by decide) ?_
  refine lv_iconst (v := 0) hx hb dL_nights_3 (by decide) ?_
  refine lv_iconst (v := 0) hx hb dL_nights_4 (by decide) ?_
  obtain ⟨r_58, hh_r_58, hf⟩ := obd_some hf
  refine kb_i6 (V := r_58.1) (w1 := oW cy b_0 bk_0 r_58.2) hS (Nat.le_of_ble_eq_true rfl) (Jn_l hP hD hS hA) (va_runS (As := [.ref (b_0 0), .int 2, .int 0, .int 0, .int 0]) (rest := []) ⟨hx, hb, hml, hown, hts⟩ (c_L_call (l := l) hfl G cy b_0 bk_0 s.heap.size o_0 2 0 0 0 n r_58 hh_r_58) (va_cwS 5 hts gB_nights_L_call rfl rfl rfl ddN_L_call ⟨(Nat.le_of_ble_eq_true rfl), (Nat.le_of_ble_eq_true rfl)⟩) (preSN hXN (hE.kept hS.2.1) (Jn_l hP hD hS hA).1 (P_l hP) hK (D_l hD) hN) rfl rfl hl.1 rfl (lv_room (Nat.le_of_ble_eq_true rfl)) dL_nights_5 ⟨by show 0 + 3 ≤ 50; omega, by show 6 * 0 + 18 ≤ 300; omega⟩) (fun H locs hP hD hS => ?_)
  have hP : va_P G vwCl (oW cy b_0 bk_0 r_58.2 ++ oW cy b_1 bk_1 o_1) H := hP
  have hD : va_D A (oW cy b_0 bk_0 r_58.2 ++ oW cy b_1 bk_1 o_1) := hD
  refine lv_aload_n hx hb dL_nights_8 rfl (lv_at hl 0 rfl) ?_
  refine lv_iconst (v := 2) hx hb dL_nights_9 (by decide) ?_
  refine lv_iconst (v := 1) hx hb dL_nights_10 (by decide) ?_
  refine lv_iconst (v := 0) hx hb dL_nights_11 (by decide) ?_
  refine lv_iconst (v := 0) hx hb dL_nights_12 (by decide) ?_
  obtain ⟨r_59, hh_r_59, hf⟩ := obd_some hf
  refine kb_i6 (V := r_59.1) (w1 := oW cy b_0 bk_0 r_59.2) hS (Nat.le_of_ble_eq_true rfl) (Jn_l hP hD hS hA) (va_runS (As := [.ref (b_0 0), .int 2, .int 1, .int 0, .int 0]) (rest := [.int r_58.1]) ⟨hx, hb, hml, hown, hts⟩ (c_L_call (l := l) hfl G cy b_0 bk_0 H.size r_58.2 2 1 0 0 n r_59 hh_r_59) (va_cwS 5 hts gB_nights_L_call rfl rfl rfl ddN_L_call ⟨(Nat.le_of_ble_eq_true rfl), (Nat.le_of_ble_eq_true rfl)⟩) (preSN hXN (hE.kept hS.2.1) (Jn_l hP hD hS hA).1 (P_l hP) hK (D_l hD) hN) rfl rfl hl.1 rfl (lv_room (Nat.le_of_ble_eq_true rfl)) dL_nights_13 ⟨by show 0 + 3 + 3 ≤ 50; omega, by show 6 * (0 + 3) + 18 ≤ 300; omega⟩) (fun H locs hP hD hS => ?_)
  have hP : va_P G vwCl (oW cy b_0 bk_0 r_59.2 ++ oW cy b_1 bk_1 o_1) H := hP
  have hD : va_D A (oW cy b_0 bk_0 r_59.2 ++ oW cy b_1 bk_1 o_1) := hD
  refine lv_imul hx hb dL_nights_16 ?_
  refine lv_istore_n (lv' := [(3, .int (r_58.1 * r_59.1)), (0, .ref (b_0 0)), (1, .ref (b_1 0)), (2, .int x2)]) hx hb dL_nights_17 rfl hl (by decide) rfl (fun ls hl => ?_)
  refine lv_iconst (v := 1) hx hb dL_nights_18 (by decide) ?_
  refine lv_iload_n hx hb dL_nights_19 rfl (lv_at hl 3 rfl) ?_
  refine lv_bipush (v := 20) hx hb dL_nights_20 (by decide) ?_
  refine lv_irem hx hb dL_nights_22 (by decide) ?_
  refine lv_iadd hx hb dL_nights_23 ?_
  refine lv_istore (lv' := [(4, .int (1 + (irm x2 20))), (3, .int (r_58.1 * r_59.1)), (0, .ref (b_0 0)), (1, .ref (b_1 0)), (2, .int x2)]) hx hb dL_nights_24 hl (by decide) rfl (fun ls hl => ?_)
  refine lv_iload_n hx hb dL_nights_26 rfl (lv_at hl 4 rfl) ?_
  refine lv_bipush (v := 20) hx hb dL_nights_27 (by decide) ?_
  refine lv_idiv hx hb dL_nights_29 (by decide) ?_
  refine lv_iload_n hx hb dL_nights_30 rfl (lv_at hl 1 rfl) ?_
  by_cases q_60 : (r_58.1 * r_59.1) = 0
  · have hf := ip_ q_60 hf; cases hf
  have hf := in_ q_60 hf
  refine lv_irem hx hb dL_nights_31 q_60 ?_
  refine lv_istore (lv' := [(5, .int (irm (x2 / 20) (r_58.1 * r_59.1))), (4, .int (1 + (irm x2 20))), (3, .int (r_58.1 * r_59.1)), (0, .ref (b_0 0)), (1, .ref (b_1 0)), (2, .int x2)]) hx hb dL_nights_32 hl (by decide) rfl (fun ls hl => ?_)
  refine lv_aload_n hx hb dL_nights_34 rfl (lv_at hl 3 rfl) ?_
  refine kb_l (V := (w_frozen (o_w r_59.2))) (w1 := oW cy b_0 bk_0 r_59.2) hS (Jn_l hP hD hS hA) (va_runV (As := []) (rest := []) ⟨hx, hb, hml, hown, hts⟩ (c_X5_frozen (l := l) G cy (b_0 0) (b_0 1) (b_0 2) (b_0 3) (b_0 4) (b_0 5) (b_0 6) (b_0 7) (b_0 8) (b_0 9) (b_0 10) (b_0 11) (b_0 12) (b_0 13) bk_0 H.size (o_tx r_59.2) (o_sg r_59.2) (o_w r_59.2) (o_tr r_59.2) (o_p r_59.2) (o_sk r_59.2) (o_b0 r_59.2) (o_k0 r_59.2) (o_b1 r_59.2) (o_k1 r_59.2) (o_e r_59.2) (o_g r_59.2) (o_l r_59.2) _ rfl) (cwV 0 hts gB_nights_X5_frozen rfl rfl rfl ddV_X5_frozen ⟨(Nat.le_of_ble_eq_true rfl), (Nat.le_of_ble_eq_true rfl)⟩) (preV_ (ci := 5) (q0 := 0) rfl rfl (P_l hP) hK (D_l hD) hN) rfl rfl hl.1 rfl (lv_room (Nat.le_of_ble_eq_true rfl)) dL_nights_35 ⟨by show 0 + 6 + 0 ≤ 50; omega, by show 6 * (0 + 6) + 0 ≤ 300; omega⟩) (fun H locs hP hD hS => ?_)
  have hP : va_P G vwCl (oW cy b_0 bk_0 r_59.2 ++ oW cy b_1 bk_1 o_1) H := hP
  have hD : va_D A (oW cy b_0 bk_0 r_59.2 ++ oW cy b_1 bk_1 o_1) := hD
  refine lv_lstore (lv' := [(6, .long (w_frozen (o_w r_59.2))), (5, .int (irm (x2 / 20) (r_58.1 * r_59.1))), (4, .int (1 + (irm x2 20))), (3, .int (r_58.1 * r_59.1)), (0, .ref (b_0 0)), (1, .ref (b_1 0)), (2, .int x2)]) hx hb dL_nights_38 hl (by decide) rfl (fun ls hl => ?_)
  refine lv_aload_n hx hb dL_nights_40 rfl (lv_at hl 4 rfl) ?_
  refine lv_iload hx hb dL_nights_41 (lv_at hl 2 rfl) ?_
  obtain ⟨r_61, hh_r_61, hf⟩ := obd_some hf
  refine kbx_l (R0 := r_61) (w1 := fun (u : Int64) => oW cy b_0 bk_0 r_59.2) (V := fun (u : Int64) => u) hS (Nat.le_of_ble_eq_true rfl) (Jn_l hP hD hS hA) (vx_runSX (As := [.ref (b_0 0), .int (1 + (irm x2 20))]) (rest := []) ⟨hx, hb, hml, hown, hts⟩ (c_L_looks (l := l) hfl G cy (b_0 0) (b_0 1) (b_0 2) (b_0 3) (b_0 4) (b_0 5) (b_0 6) (b_0 7) (b_0 8) (b_0 9) (b_0 10) (b_0 11) (b_0 12) (b_0 13) bk_0 H.size r_59.2.1 r_59.2.2.1 r_59.2.2.2.1 r_59.2.2.2.2.1 r_59.2.2.2.2.2.1 r_59.2.2.2.2.2.2.1 r_59.2.2.2.2.2.2.2.1 r_59.2.2.2.2.2.2.2.2.1 r_59.2.2.2.2.2.2.2.2.2.1 r_59.2.2.2.2.2.2.2.2.2.2.1 r_59.2.2.2.2.2.2.2.2.2.2.2.1 r_59.2.2.2.2.2.2.2.2.2.2.2.2.1 r_59.2.2.2.2.2.2.2.2.2.2.2.2.2 (1 + (irm x2 20)) n r_61 hh_r_61) (vx_cwSW 2 hts gB_nights_L_looks rfl rfl rfl ddN_L_looks ⟨(Nat.le_of_ble_eq_true rfl), (Nat.le_of_ble_eq_true rfl)⟩) (preSN hXN (hE.kept hS.2.1) (Jn_l hP hD hS hA).1 (P_l hP) hK (D_l hD) hN) rfl rfl hl.1 rfl (lv_room (Nat.le_of_ble_eq_true rfl)) dL_nights_43 ⟨by show 0 + 6 + 1 ≤ 50; omega, by show 6 * (0 + 6) + 6 ≤ 300; omega⟩) (fun H locs hP hD hS => ?_)
  have hP : va_P G vwCl (oW cy b_0 bk_0 r_59.2 ++ oW cy b_1 bk_1 o_1) H := hP
  have hD : va_D A (oW cy b_0 bk_0 r_59.2 ++ oW cy b_1 bk_1 o_1) := hD
  refine lv_lstore (lv' := [(8, .long r_61), (6, .long (w_frozen (o_w r_59.2))), (5, .int (irm (x2 / 20) (r_58.1 * r_59.1))), (4, .int (1 + (irm x2 20))), (3, .int (r_58.1 * r_59.1)), (0, .ref (b_0 0)), (1, .ref (b_1 0)), (2, .int x2)]) hx hb dL_nights_46 hl (by decide) rfl (fun ls hl => ?_)
  refine lv_aload_n hx hb dL_nights_48 rfl (lv_at hl 5 rfl) ?_
  refine lv_iconst (v := 1) hx hb dL_nights_49 (by decide) ?_
  obtain ⟨r_62, hh_r_62, hf⟩ := obd_some hf
  refine kbx_l (R0 := r_62) (w1 := fun (u : Int64) => oW cy b_0 bk_0 r_59.2) (V := fun (u : Int64) => u) hS (Nat.le_of_ble_eq_true rfl) (Jn_l hP hD hS hA) (vx_runSX (As := [.ref (b_0 0), .int 1]) (rest := []) ⟨hx, hb, hml, hown, hts⟩ (c_L_looks (l := l) hfl G cy (b_0 0) (b_0 1) (b_0 2) (b_0 3) (b_0 4) (b_0 5) (b_0 6) (b_0 7) (b_0 8) (b_0 9) (b_0 10) (b_0 11) (b_0 12) (b_0 13) bk_0 H.size r_59.2.1 r_59.2.2.1 r_59.2.2.2.1 r_59.2.2.2.2.1 r_59.2.2.2.2.2.1 r_59.2.2.2.2.2.2.1 r_59.2.2.2.2.2.2.2.1 r_59.2.2.2.2.2.2.2.2.1 r_59.2.2.2.2.2.2.2.2.2.1 r_59.2.2.2.2.2.2.2.2.2.2.1 r_59.2.2.2.2.2.2.2.2.2.2.2.1 r_59.2.2.2.2.2.2.2.2.2.2.2.2.1 r_59.2.2.2.2.2.2.2.2.2.2.2.2.2 1 n r_62 hh_r_62) (vx_cwSW 2 hts gB_nights_L_looks rfl rfl rfl ddN_L_looks ⟨(Nat.le_of_ble_eq_true rfl), (Nat.le_of_ble_eq_true rfl)⟩) (preSN hXN (hE.kept hS.2.1) (Jn_l hP hD hS hA).1 (P_l hP) hK (D_l hD) hN) rfl rfl hl.1 rfl (lv_room (Nat.le_of_ble_eq_true rfl)) dL_nights_50 ⟨by show 0 + 7 + 1 ≤ 50; omega, by show 6 * (0 + 7) + 6 ≤ 300; omega⟩) (fun H locs hP hD hS => ?_)
  have hP : va_P G vwCl (oW cy b_0 bk_0 r_59.2 ++ oW cy b_1 bk_1 o_1) H := hP
  have hD : va_D A (oW cy b_0 bk_0 r_59.2 ++ oW cy b_1 bk_1 o_1) := hD
  refine lv_lstore (lv' := [(10, .long r_62), (8, .long r_61), (6, .long (w_frozen (o_w r_59.2))), (5, .int (irm (x2 / 20) (r_58.1 * r_59.1))), (4, .int (1 + (irm x2 20))), (3, .int (r_58.1 * r_59.1)), (0, .ref (b_0 0)), (1, .ref (b_1 0)), (2, .int x2)]) hx hb dL_nights_53 hl (by decide) rfl (fun ls hl => ?_)
  refine lv_aload_n hx hb dL_nights_55 rfl (lv_at hl 6 rfl) ?_
  refine lv_bipush (v := 16) hx hb dL_nights_56 (by decide) ?_
  refine lv_iload hx hb dL_nights_58 (lv_at hl 3 rfl) ?_
  refine lv_iconst (v := 0) hx hb dL_nights_60 (by decide) ?_
  refine lv_iconst (v := 0) hx hb dL_nights_61 (by decide) ?_
  obtain ⟨r_63, hh_r_63, hf⟩ := obd_some hf
  refine kb_i6 (V := r_63.1) (w1 := oW cy b_0 bk_0 r_63.2) hS (Nat.le_of_ble_eq_true rfl) (Jn_l hP hD hS hA) (va_runS (As := [.ref (b_0 0), .int 16, .int (irm (x2 / 20) (r_58.1 * r_59.1)), .int 0, .int 0]) (rest := []) ⟨hx, hb, hml, hown, hts⟩ (c_L_call (l := l) hfl G cy b_0 bk_0 H.size r_59.2 16 (irm (x2 / 20) (r_58.1 * r_59.1)) 0 0 n r_63 hh_r_63) (va_cwS 5 hts gB_nights_L_call rfl rfl rfl ddN_L_call ⟨(Nat.le_of_ble_eq_true rfl), (Nat.le_of_ble_eq_true rfl)⟩) (preSN hXN (hE.kept hS.2.1) (Jn_l hP hD hS hA).1 (P_l hP) hK (D_l hD) hN) rfl rfl hl.1 rfl (lv_room (Nat.le_of_ble_eq_true rfl)) dL_nights_62 ⟨by show 0 + 8 + 3 ≤ 50; omega, by show 6 * (0 + 8) + 18 ≤ 300; omega⟩) (fun H locs hP hD hS => ?_)
  have hP : va_P G vwCl (oW cy b_0 bk_0 r_63.2 ++ oW cy b_1 bk_1 o_1) H := hP
  have hD : va_D A (oW cy b_0 bk_0 r_63.2 ++ oW cy b_1 bk_1 o_1) := hD
  refine lv_istore (lv' := [(12, .int r_63.1), (10, .long r_62), (8, .long r_61), (6, .long (w_frozen (o_w r_59.2))), (5, .int (irm (x2 / 20) (r_58.1 * r_59.1))), (4, .int (1 + (irm x2 20))), (3, .int (r_58.1 * r_59.1)), (0, .ref (b_0 0)), (1, .ref (b_1 0)), (2, .int x2)]) hx hb dL_nights_65 hl (by decide) rfl (fun ls hl => ?_)
  refine lv_aload_n hx hb dL_nights_67 rfl (lv_at hl 7 rfl) ?_
  refine lv_bipush (v := 14) hx hb dL_nights_68 (by decide) ?_
  refine lv_iconst (v := 0) hx hb dL_nights_70 (by decide) ?_
  refine lv_iconst (v := 0) hx hb dL_nights_71 (by decide) ?_
  refine lv_iconst (v := 0) hx hb dL_nights_72 (by decide) ?_
  obtain ⟨r_64, hh_r_64, hf⟩ := obd_some hf
  refine kb_i6 (V := r_64.1) (w1 := oW cy b_0 bk_0 r_64.2) hS (Nat.le_of_ble_eq_true rfl) (Jn_l hP hD hS hA) (va_runS (As := [.ref (b_0 0), .int 14, .int 0, .int 0, .int 0]) (rest := []) ⟨hx, hb, hml, hown, hts⟩ (c_L_call (l := l) hfl G cy b_0 bk_0 H.size r_63.2 14 0 0 0 n r_64 hh_r_64) (va_cwS 5 hts gB_nights_L_call rfl rfl rfl ddN_L_call ⟨(Nat.le_of_ble_eq_true rfl), (Nat.le_of_ble_eq_true rfl)⟩) (preSN hXN (hE.kept hS.2.1) (Jn_l hP hD hS hA).1 (P_l hP) hK (D_l hD) hN) rfl rfl hl.1 rfl (lv_room (Nat.le_of_ble_eq_true rfl)) dL_nights_73 ⟨by show 0 + 11 + 3 ≤ 50; omega, by show 6 * (0 + 11) + 18 ≤ 300; omega⟩) (fun H locs hP hD hS => ?_)
  have hP : va_P G vwCl (oW cy b_0 bk_0 r_64.2 ++ oW cy b_1 bk_1 o_1) H := hP
  have hD : va_D A (oW cy b_0 bk_0 r_64.2 ++ oW cy b_1 bk_1 o_1) := hD
  refine lv_istore (lv' := [(13, .int r_64.1), (12, .int r_63.1), (10, .long r_62), (8, .long r_61), (6, .long (w_frozen (o_w r_59.2))), (5, .int (irm (x2 / 20) (r_58.1 * r_59.1))), (4, .int (1 + (irm x2 20))), (3, .int (r_58.1 * r_59.1)), (0, .ref (b_0 0)), (1, .ref (b_1 0)), (2, .int x2)]) hx hb dL_nights_76 hl (by decide) rfl (fun ls hl => ?_)
  refine lv_aload_n hx hb dL_nights_78 rfl (lv_at hl 8 rfl) ?_
  refine lv_bipush (v := 14) hx hb dL_nights_79 (by decide) ?_
  refine lv_iconst (v := 1) hx hb dL_nights_81 (by decide) ?_
  refine lv_iconst (v := 0) hx hb dL_nights_82 (by decide) ?_
  refine lv_iconst (v := 0) hx hb dL_nights_83 (by decide) ?_
  obtain ⟨r_65, hh_r_65, hf⟩ := obd_some hf
  refine kb_i6 (V := r_65.1) (w1 := oW cy b_0 bk_0 r_65.2) hS (Nat.le_of_ble_eq_true rfl) (Jn_l hP hD hS hA) (va_runS (As := [.ref (b_0 0), .int 14, .int 1, .int 0, .int 0]) (rest := []) ⟨hx, hb, hml, hown, hts⟩ (c_L_call (l := l) hfl G cy b_0 bk_0 H.size r_64.2 14 1 0 0 n r_65 hh_r_65) (va_cwS 5 hts gB_nights_L_call rfl rfl rfl ddN_L_call ⟨(Nat.le_of_ble_eq_true rfl), (Nat.le_of_ble_eq_true rfl)⟩) (preSN hXN (hE.kept hS.2.1) (Jn_l hP hD hS hA).1 (P_l hP) hK (D_l hD) hN) rfl rfl hl.1 rfl (lv_room (Nat.le_of_ble_eq_true rfl)) dL_nights_84 ⟨by show 0 + 14 + 3 ≤ 50; omega, by show 6 * (0 + 14) + 18 ≤ 300; omega⟩) (fun H locs hP hD hS => ?_)
  have hP : va_P G vwCl (oW cy b_0 bk_0 r_65.2 ++ oW cy b_1 bk_1 o_1) H := hP
  have hD : va_D A (oW cy b_0 bk_0 r_65.2 ++ oW cy b_1 bk_1 o_1) := hD
  refine lv_istore (lv' := [(14, .int r_65.1), (13, .int r_64.1), (12, .int r_63.1), (10, .long r_62), (8, .long r_61), (6, .long (w_frozen (o_w r_59.2))), (5, .int (irm (x2 / 20) (r_58.1 * r_59.1))), (4, .int (1 + (irm x2 20))), (3, .int (r_58.1 * r_59.1)), (0, .ref (b_0 0)), (1, .ref (b_1 0)), (2, .int x2)]) hx hb dL_nights_87 hl (by decide) rfl (fun ls hl => ?_)
  refine lv_iload hx hb dL_nights_89 (lv_at hl 1 rfl) ?_
  refine lv_iconst (v := (-1)) hx hb dL_nights_91 (by decide) ?_
  refine lv_icmp_ne (tgt := 99) hx hb dL_nights_92 (by decide) (fun h_66 => ?_) (fun h_66 => ?_)
  · have hf := in_ h_66 hf
    refine lv_iconst (v := 0) hx hb dL_nights_99 (by decide) ?_
    refine lv_iload hx hb dL_nights_100 (lv_at hl 0 rfl) ?_
    refine lv_iconst (v := (-1)) hx hb dL_nights_102 (by decide) ?_
    refine lv_icmp_ne (tgt := 110) hx hb dL_nights_103 (by decide) (fun h_67 => ?_) (fun h_67 => ?_)
    · have hf := in_ h_67 hf
      refine lv_iconst (v := 0) hx hb dL_nights_110 (by decide) ?_
      exact bl_111  r_65.2 o_1 (r_58.1 * r_59.1) (1 + (irm x2 20)) (irm (x2 / 20) (r_58.1 * r_59.1)) (w_frozen (o_w r_59.2)) r_61 r_62 r_63.1 r_64.1 r_65.1 0 0 _ _ _ (by omega) hf hP hD hS ls (lv_sub hl [9, 10, 8, 7, 6, 5, 4, 3, 2, 1, 0] rfl)
    · have hf := ip_ h_67 hf
      refine lv_iconst (v := 1) hx hb dL_nights_106 (by decide) ?_
      refine lv_goto (tgt := 111) hx hb dL_nights_107 (by decide) ?_
      exact bl_111  r_65.2 o_1 (r_58.1 * r_59.1) (1 + (irm x2 20)) (irm (x2 / 20) (r_58.1 * r_59.1)) (w_frozen (o_w r_59.2)) r_61 r_62 r_63.1 r_64.1 r_65.1 0 1 _ _ _ (by omega) hf hP hD hS ls (lv_sub hl [9, 10, 8, 7, 6, 5, 4, 3, 2, 1, 0] rfl)
  · have hf := ip_ h_66 hf
    refine lv_iconst (v := 1) hx hb dL_nights_95 (by decide) ?_
    refine lv_goto (tgt := 100) hx hb dL_nights_96 (by decide) ?_
    refine lv_iload hx hb dL_nights_100 (lv_at hl 0 rfl) ?_
    refine lv_iconst (v := (-1)) hx hb dL_nights_102 (by decide) ?_
    refine lv_icmp_ne (tgt := 110) hx hb dL_nights_103 (by decide) (fun h_68 => ?_) (fun h_68 => ?_)
    · have hf := in_ h_68 hf
      refine lv_iconst (v := 0) hx hb dL_nights_110 (by decide) ?_
      exact bl_111  r_65.2 o_1 (r_58.1 * r_59.1) (1 + (irm x2 20)) (irm (x2 / 20) (r_58.1 * r_59.1)) (w_frozen (o_w r_59.2)) r_61 r_62 r_63.1 r_64.1 r_65.1 1 0 _ _ _ (by omega) hf hP hD hS ls (lv_sub hl [9, 10, 8, 7, 6, 5, 4, 3, 2, 1, 0] rfl)
    · have hf := ip_ h_68 hf
      refine lv_iconst (v := 1) hx hb dL_nights_106 (by decide) ?_
      refine lv_goto (tgt := 111) hx hb dL_nights_107 (by decide) ?_
      exact bl_111  r_65.2 o_1 (r_58.1 * r_59.1) (1 + (irm x2 20)) (irm (x2 / 20) (r_58.1 * r_59.1)) (w_frozen (o_w r_59.2)) r_61 r_62 r_63.1 r_64.1 r_65.1 1 1 _ _ _ (by omega) hf hP hD hS ls (lv_sub hl [9, 10, 8, 7, 6, 5, 4, 3, 2, 1, 0] rfl)
