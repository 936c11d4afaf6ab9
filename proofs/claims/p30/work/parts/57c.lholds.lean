set_option maxHeartbeats 4000000 in
set_option maxRecDepth 100000 in
theorem c_L_holds {l : Launch} (hfl : l.stackTraces = false) (G : va_G) (cy : Nat → ClassId) (b_0 bk_0 : Nat → Nat) (sz : Nat) (o_0 : OT) (n : Nat) (R : Bool × OT) (hf : f_L_holds n o_0 = some R) : Met l yL_holds wB_holds ({ frames := 11, cells := 6966, slots := 41796, locals := 218 } : Room) (va_Pc [.ref (b_0 0)] (pcN G cy (oW cy b_0 bk_0 o_0) sz)) (va_Qi (fun r (_ : Unit) => r = bI R.1) (fun _ t => Wd G cy (va_A (oW cy b_0 bk_0 o_0) sz) (oW cy b_0 bk_0 R.2) t) (va_A (oW cy b_0 bk_0 o_0) sz)) 6966 41796 (va_A (oW cy b_0 bk_0 o_0) sz) := by
  refine Met.ofW (cc := cL_holds) (maxL := 20) (ret := (some .boolean)) (by decide) rfl ?_
  intro p e s m args below meth c s₁ B hml hv
  obtain ⟨rfl, ⟨⟨hsz, hP, hK, hD0, hN⟩, hE⟩, hXN⟩ := hv
  have hx := B.exec
  have hb := B.bytes
  have hr := B.returns
  have hts := atoms_spec (ws := wB_holds) B.pre
  have hown : s.vm.findClass RL = some m.cls := findClass_of_methodNamed B.named
  have hlocks := B.notSynchronized
  subst hsz
  have hD := hD0.self (sz := s.heap.size)
  generalize hAe : va_A (oW cy b_0 bk_0 o_0) s.heap.size = A at hD hE ⊢
  have hA : ∀ q : Nat, s.heap.size ≤ q → A q := fun q h => by rw [← hAe]; exact Or.inr h
  have hS : va_S A s.heap s.heap [] := va_S.rf
  have hP : va_P G vwCl (oW cy b_0 bk_0 o_0) s.heap := hP
  have bl_732 : ∀ (c_o_0 : OT) (y1 : Int32) (y2 : Int32) (y6 : Int32) (y8 : Int32) (y10 : Int32) (z0 : Int32) (z1 : Int32) (H : Heap) (locs : List Loc) (cc : Nat), cc + (3) ≤ 6966 → f_L_holds_b732 n c_o_0 y1 y2 y6 y8 y10 z0 z1 = some R → va_P G vwCl (oW cy b_0 bk_0 c_o_0) H → va_D A (oW cy b_0 bk_0 c_o_0) → va_S A s.heap H locs → ∀ (ls : Array Slot), lv_has ls 20 [(0, .ref (b_0 0)), (1, .int y1), (2, .int y2), (6, .int y6), (8, .int y8), (10, .int y10)] → W p l e ({ frames := 11, cells := 6966, slots := 41796, locals := 218 } : Room) s m [.ref (b_0 0)].toArray below meth c H locs cc (6 * cc) (MQ below (va_Qi (fun r (_ : Unit) => r = bI R.1) (fun _ t => Wd G cy A (oW cy b_0 bk_0 R.2) t) A) [.ref (b_0 0)].toArray s 6966 41796 A) (F0 m 732 ls [.int z1, .int z0]) := by
    intro c_o_0 y1 y2 y6 y8 y10 z0 z1 H locs cc hcc hf hP hD hS ls hl
    unfold f_L_holds_b732 at hf
    refine lv_icmp_ne (tgt := 770) hx hb dL_holds_732 (by decide) (fun h_1 => ?_) (fun h_1 => ?_)
    · have hf := in_ h_1 hf
      refine lv_iconst (v := 0) hx hb dL_holds_770 (by decide) ?_
      refine W.widen (k := 6966) (n := 41796) (by omega) (by omega) ?_
      obtain rfl := Option.some.inj hf
      exact kr_z (V := bI false) hx hb hr hlocks (bI_nar _) rfl hP hK hD hN hS hS.2.2 dL_holds_771
    · have hf := ip_ h_1 hf
      refine lv_iload hx hb dL_holds_735 (lv_at hl 5 rfl) ?_
      refine lv_iload hx hb dL_holds_737 (lv_at hl 3 rfl) ?_
      refine lv_icmp_gt (tgt := 770) hx hb dL_holds_739 (by decide) (fun h_2 => ?_) (fun h_2 => ?_)
      · have hf := ip_ h_2 hf
        refine lv_iconst (v := 0) hx hb dL_holds_770 (by decide) ?_
        refine W.widen (k := 6966) (n := 41796) (by omega) (by omega) ?_
        obtain rfl := Option.some.inj hf
        exact kr_z (V := bI false) hx hb hr hlocks (bI_nar _) rfl hP hK hD hN hS hS.2.2 dL_holds_771
      · have hf := in_ h_2 hf
        refine lv_aload_n hx hb dL_holds_742 rfl (lv_at hl 0 rfl) ?_
        refine lv_iconst (v := 2) hx hb dL_holds_743 (by decide) ?_
        refine lv_bipush (v := 7) hx hb dL_holds_744 (by decide) ?_
        refine lv_iconst (v := 0) hx hb dL_holds_746 (by decide) ?_
        refine lv_iconst (v := 0) hx hb dL_holds_747 (by decide) ?_
        obtain ⟨r_3, hh_r_3, hf⟩ := obd_some hf
        refine kb_i6 (V := r_3.1) (w1 := oW cy b_0 bk_0 r_3.2) hS (Nat.le_of_ble_eq_true rfl) (Jn_1 hP hD hS hA) (va_runS (As := [.ref (b_0 0), .int 2, .int 7, .int 0, .int 0]) (rest := []) ⟨hx, hb, hml, hown, hts⟩ (c_L_call (l := l) hfl G cy b_0 bk_0 H.size c_o_0 2 7 0 0 n r_3 hh_r_3) (va_cwS 5 hts gB_holds_L_call rfl rfl rfl ddN_L_call ⟨(Nat.le_of_ble_eq_true rfl), (Nat.le_of_ble_eq_true rfl)⟩) (preSN hXN (hE.kept hS.2.1) (Jn_1 hP hD hS hA).1 hP hK hD hN) rfl rfl hl.1 rfl (lv_room (Nat.le_of_ble_eq_true rfl)) dL_holds_748 ⟨by show cc + 3 ≤ 6966; omega, by show 6 * cc + 18 ≤ 41796; omega⟩) (fun H locs hP hD hS => ?_)
        have hP : va_P G vwCl (oW cy b_0 bk_0 r_3.2) H := hP
        have hD : va_D A (oW cy b_0 bk_0 r_3.2) := hD
        refine lv_iload hx hb dL_holds_751 (lv_at hl 3 rfl) ?_
        refine lv_icmp_gt (tgt := 770) hx hb dL_holds_753 (by decide) (fun h_4 => ?_) (fun h_4 => ?_)
        · have hf := ip_ h_4 hf
          refine lv_iconst (v := 0) hx hb dL_holds_770 (by decide) ?_
          refine W.widen (k := 6966) (n := 41796) (by omega) (by omega) ?_
          obtain rfl := Option.some.inj hf
          exact kr_z (V := bI false) hx hb hr hlocks (bI_nar _) rfl hP hK hD hN hS hS.2.2 dL_holds_771
        · have hf := in_ h_4 hf
          refine lv_iload hx hb dL_holds_756 (lv_at hl 4 rfl) ?_
          refine lv_iconst (v := 2) hx hb dL_holds_758 (by decide) ?_
          refine lv_iload_n hx hb dL_holds_759 rfl (lv_at hl 1 rfl) ?_
          refine lv_iload_n hx hb dL_holds_760 rfl (lv_at hl 2 rfl) ?_
          refine lv_iadd hx hb dL_holds_761 ?_
          refine lv_imul hx hb dL_holds_762 ?_
          refine lv_icmp_gt (tgt := 770) hx hb dL_holds_763 (by decide) (fun h_5 => ?_) (fun h_5 => ?_)
          · have hf := ip_ h_5 hf
            refine lv_iconst (v := 0) hx hb dL_holds_770 (by decide) ?_
            refine W.widen (k := 6966) (n := 41796) (by omega) (by omega) ?_
            obtain rfl := Option.some.inj hf
            exact kr_z (V := bI false) hx hb hr hlocks (bI_nar _) rfl hP hK hD hN hS hS.2.2 dL_holds_771
          · have hf := in_ h_5 hf
            refine lv_iconst (v := 1) hx hb dL_holds_766 (by decide) ?_
            refine lv_goto (tgt := 771) hx hb dL_holds_767 (by decide) ?_
            refine W.widen (k := 6966) (n := 41796) (by omega) (by omega) ?_
            obtain rfl := Option.some.inj hf
            exact kr_z (V := bI true) hx hb hr hlocks (bI_nar _) rfl hP hK hD hN hS hS.2.2 dL_holds_771
  have bl_661 : ∀ (c_o_0 : OT) (y1 : Int32) (y2 : Int32) (y6 : Int32) (y7 : Int32) (y8 : Int32) (y9 : Int32) (H : Heap) (locs : List Loc) (cc : Nat), cc + (12) ≤ 6966 → f_L_holds_b661 n c_o_0 y1 y2 y6 y7 y8 y9 = some R → va_P G vwCl (oW cy b_0 bk_0 c_o_0) H → va_D A (oW cy b_0 bk_0 c_o_0) → va_S A s.heap H locs → ∀ (ls : Array Slot), lv_has ls 20 [(0, .ref (b_0 0)), (1, .int y1), (2, .int y2), (6, .int y6), (7, .int y7), (8, .int y8), (9, .int y9)] → W p l e ({ frames := 11, cells := 6966, slots := 41796, locals := 218 } : Room) s m [.ref (b_0 0)].toArray below meth c H locs cc (6 * cc) (MQ below (va_Qi (fun r (_ : Unit) => r = bI R.1) (fun _ t => Wd G cy A (oW cy b_0 bk_0 R.2) t) A) [.ref (b_0 0)].toArray s 6966 41796 A) (F0 m 661 ls []) := by
    intro c_o_0 y1 y2 y6 y7 y8 y9 H locs cc hcc hf hP hD hS ls hl
    unfold f_L_holds_b661 at hf
    refine lv_aload_n hx hb dL_holds_661 rfl (lv_at hl 0 rfl) ?_
    refine lv_iconst (v := 2) hx hb dL_holds_662 (by decide) ?_
    refine lv_bipush (v := 6) hx hb dL_holds_663 (by decide) ?_
    refine lv_iconst (v := 0) hx hb dL_holds_665 (by decide) ?_
    refine lv_iconst (v := 0) hx hb dL_holds_666 (by decide) ?_
    obtain ⟨r_6, hh_r_6, hf⟩ := obd_some hf
    refine kb_i6 (V := r_6.1) (w1 := oW cy b_0 bk_0 r_6.2) hS (Nat.le_of_ble_eq_true rfl) (Jn_1 hP hD hS hA) (va_runS (As := [.ref (b_0 0), .int 2, .int 6, .int 0, .int 0]) (rest := []) ⟨hx, hb, hml, hown, hts⟩ (c_L_call (l := l) hfl G cy b_0 bk_0 H.size c_o_0 2 6 0 0 n r_6 hh_r_6) (va_cwS 5 hts gB_holds_L_call rfl rfl rfl ddN_L_call ⟨(Nat.le_of_ble_eq_true rfl), (Nat.le_of_ble_eq_true rfl)⟩) (preSN hXN (hE.kept hS.2.1) (Jn_1 hP hD hS hA).1 hP hK hD hN) rfl rfl hl.1 rfl (lv_room (Nat.le_of_ble_eq_true rfl)) dL_holds_667 ⟨by show cc + 3 ≤ 6966; omega, by show 6 * cc + 18 ≤ 41796; omega⟩) (fun H locs hP hD hS => ?_)
    have hP : va_P G vwCl (oW cy b_0 bk_0 r_6.2) H := hP
    have hD : va_D A (oW cy b_0 bk_0 r_6.2) := hD
    refine lv_istore (lv' := [(10, .int r_6.1), (0, .ref (b_0 0)), (1, .int y1), (2, .int y2), (6, .int y6), (7, .int y7), (8, .int y8), (9, .int y9)]) hx hb dL_holds_670 hl (by decide) rfl (fun ls hl => ?_)
    refine lv_iload hx hb dL_holds_672 (lv_at hl 7 rfl) ?_
    refine lv_if_eq (tgt := 770) hx hb dL_holds_674 (by decide) (fun h_7 => ?_) (fun h_7 => ?_)
    · have hf := ip_ h_7 hf
      refine lv_iconst (v := 0) hx hb dL_holds_770 (by decide) ?_
      refine W.widen (k := 6966) (n := 41796) (by omega) (by omega) ?_
      obtain rfl := Option.some.inj hf
      exact kr_z (V := bI false) hx hb hr hlocks (bI_nar _) rfl hP hK hD hN hS hS.2.2 dL_holds_771
    · have hf := in_ h_7 hf
      refine lv_aload_n hx hb dL_holds_677 rfl (lv_at hl 1 rfl) ?_
      refine lv_iconst (v := 2) hx hb dL_holds_678 (by decide) ?_
      refine lv_iconst (v := 2) hx hb dL_holds_679 (by decide) ?_
      refine lv_iconst (v := 0) hx hb dL_holds_680 (by decide) ?_
      refine lv_iconst (v := 0) hx hb dL_holds_681 (by decide) ?_
      obtain ⟨r_8, hh_r_8, hf⟩ := obd_some hf
      refine kb_i6 (V := r_8.1) (w1 := oW cy b_0 bk_0 r_8.2) hS (Nat.le_of_ble_eq_true rfl) (Jn_1 hP hD hS hA) (va_runS (As := [.ref (b_0 0), .int 2, .int 2, .int 0, .int 0]) (rest := []) ⟨hx, hb, hml, hown, hts⟩ (c_L_call (l := l) hfl G cy b_0 bk_0 H.size r_6.2 2 2 0 0 n r_8 hh_r_8) (va_cwS 5 hts gB_holds_L_call rfl rfl rfl ddN_L_call ⟨(Nat.le_of_ble_eq_true rfl), (Nat.le_of_ble_eq_true rfl)⟩) (preSN hXN (hE.kept hS.2.1) (Jn_1 hP hD hS hA).1 hP hK hD hN) rfl rfl hl.1 rfl (lv_room (Nat.le_of_ble_eq_true rfl)) dL_holds_682 ⟨by show cc + 3 + 3 ≤ 6966; omega, by show 6 * (cc + 3) + 18 ≤ 41796; omega⟩) (fun H locs hP hD hS => ?_)
      have hP : va_P G vwCl (oW cy b_0 bk_0 r_8.2) H := hP
      have hD : va_D A (oW cy b_0 bk_0 r_8.2) := hD
      refine lv_iload hx hb dL_holds_685 (lv_at hl 4 rfl) ?_
      refine lv_icmp_ne (tgt := 770) hx hb dL_holds_687 (by decide) (fun h_9 => ?_) (fun h_9 => ?_)
      · have hf := in_ h_9 hf
        refine lv_iconst (v := 0) hx hb dL_holds_770 (by decide) ?_
        refine W.widen (k := 6966) (n := 41796) (by omega) (by omega) ?_
        obtain rfl := Option.some.inj hf
        exact kr_z (V := bI false) hx hb hr hlocks (bI_nar _) rfl hP hK hD hN hS hS.2.2 dL_holds_771
      · have hf := ip_ h_9 hf
        refine lv_aload_n hx hb dL_holds_690 rfl (lv_at hl 1 rfl) ?_
        refine lv_iconst (v := 2) hx hb dL_holds_691 (by decide) ?_
        refine lv_iconst (v := 3) hx hb dL_holds_692 (by decide) ?_
        refine lv_iconst (v := 0) hx hb dL_holds_693 (by decide) ?_
        refine lv_iconst (v := 0) hx hb dL_holds_694 (by decide) ?_
        obtain ⟨r_10, hh_r_10, hf⟩ := obd_some hf
        refine kb_i6 (V := r_10.1) (w1 := oW cy b_0 bk_0 r_10.2) hS (Nat.le_of_ble_eq_true rfl) (Jn_1 hP hD hS hA) (va_runS (As := [.ref (b_0 0), .int 2, .int 3, .int 0, .int 0]) (rest := []) ⟨hx, hb, hml, hown, hts⟩ (c_L_call (l := l) hfl G cy b_0 bk_0 H.size r_8.2 2 3 0 0 n r_10 hh_r_10) (va_cwS 5 hts gB_holds_L_call rfl rfl rfl ddN_L_call ⟨(Nat.le_of_ble_eq_true rfl), (Nat.le_of_ble_eq_true rfl)⟩) (preSN hXN (hE.kept hS.2.1) (Jn_1 hP hD hS hA).1 hP hK hD hN) rfl rfl hl.1 rfl (lv_room (Nat.le_of_ble_eq_true rfl)) dL_holds_695 ⟨by show cc + 6 + 3 ≤ 6966; omega, by show 6 * (cc + 6) + 18 ≤ 41796; omega⟩) (fun H locs hP hD hS => ?_)
        have hP : va_P G vwCl (oW cy b_0 bk_0 r_10.2) H := hP
        have hD : va_D A (oW cy b_0 bk_0 r_10.2) := hD
        refine lv_iload hx hb dL_holds_698 (lv_at hl 5 rfl) ?_
        refine lv_iconst (v := 2) hx hb dL_holds_700 (by decide) ?_
        refine lv_idiv hx hb dL_holds_701 (by decide) ?_
        refine lv_icmp_ne (tgt := 770) hx hb dL_holds_702 (by decide) (fun h_11 => ?_) (fun h_11 => ?_)
        · have hf := in_ h_11 hf
          refine lv_iconst (v := 0) hx hb dL_holds_770 (by decide) ?_
          refine W.widen (k := 6966) (n := 41796) (by omega) (by omega) ?_
          obtain rfl := Option.some.inj hf
          exact kr_z (V := bI false) hx hb hr hlocks (bI_nar _) rfl hP hK hD hN hS hS.2.2 dL_holds_771
        · have hf := ip_ h_11 hf
          refine lv_iload hx hb dL_holds_705 (lv_at hl 5 rfl) ?_
          refine lv_iconst (v := 2) hx hb dL_holds_707 (by decide) ?_
          refine lv_irem hx hb dL_holds_708 (by decide) ?_
          refine lv_if_ne (tgt := 770) hx hb dL_holds_709 (by decide) (fun h_12 => ?_) (fun h_12 => ?_)
          · have hf := in_ h_12 hf
            refine lv_iconst (v := 0) hx hb dL_holds_770 (by decide) ?_
            refine W.widen (k := 6966) (n := 41796) (by omega) (by omega) ?_
            obtain rfl := Option.some.inj hf
            exact kr_z (V := bI false) hx hb hr hlocks (bI_nar _) rfl hP hK hD hN hS hS.2.2 dL_holds_771
          · have hf := ip_ h_12 hf
            refine lv_iload hx hb dL_holds_712 (lv_at hl 0 rfl) ?_
            refine lv_if_ne (tgt := 721) hx hb dL_holds_714 (by decide) (fun h_13 => ?_) (fun h_13 => ?_)
            · have hf := in_ h_13 hf
              refine lv_iconst (v := 0) hx hb dL_holds_721 (by decide) ?_
              refine lv_iload hx hb dL_holds_722 (lv_at hl 4 rfl) ?_
              refine lv_if_ne (tgt := 731) hx hb dL_holds_724 (by decide) (fun h_14 => ?_) (fun h_14 => ?_)
              · have hf := in_ h_14 hf
                refine lv_iconst (v := 0) hx hb dL_holds_731 (by decide) ?_
                exact bl_732  r_10.2 y1 y2 y6 y8 r_6.1 0 0 _ _ _ (by omega) hf hP hD hS ls (lv_sub hl [1, 2, 3, 4, 6, 0] rfl)
              · have hf := ip_ h_14 hf
                refine lv_iconst (v := 1) hx hb dL_holds_727 (by decide) ?_
                refine lv_goto (tgt := 732) hx hb dL_holds_728 (by decide) ?_
                exact bl_732  r_10.2 y1 y2 y6 y8 r_6.1 0 1 _ _ _ (by omega) hf hP hD hS ls (lv_sub hl [1, 2, 3, 4, 6, 0] rfl)
            · have hf := ip_ h_13 hf
              refine lv_iconst (v := 1) hx hb dL_holds_717 (by decide) ?_
              refine lv_goto (tgt := 722) hx hb dL_holds_718 (by decide) ?_
              refine lv_iload hx hb dL_holds_722 (lv_at hl 4 rfl) ?_
              refine lv_if_ne (tgt := 731) hx hb dL_holds_724 (by decide) (fun h_15 => ?_) (fun h_15 => ?_)
              · have hf := in_ h_15 hf
                refine lv_iconst (v := 0) hx hb dL_holds_731 (by decide) ?_
                exact bl_732  r_10.2 y1 y2 y6 y8 r_6.1 1 0 _ _ _ (by omega) hf hP hD hS ls (lv_sub hl [1, 2, 3, 4, 6, 0] rfl)
              · have hf := ip_ h_15 hf
                refine lv_iconst (v := 1) hx hb dL_holds_727 (by decide) ?_
                refine lv_goto (tgt := 732) hx hb dL_holds_728 (by decide) ?_
                exact bl_732  r_10.2 y1 y2 y6 y8 r_6.1 1 1 _ _ _ (by omega) hf hP hD hS ls (lv_sub hl [1, 2, 3, 4, 6, 0] rfl)
  have bl_620 : ∀ (y1 : Int32), ∀ (y2 : Int32), ∀ (y3 : Int32), ∀ (y4 : Int64), ∀ (K154 : OT → Int32 → Int32 → Int32 → Int32 → Int32 → Option (Bool × OT)) (e_154 : Nat), (∀ (c_o_0 : OT) (y6 : Int32) (y7 : Int32) (y8 : Int32) (y9 : Int32) (y10 : Int32) (H : Heap) (locs : List Loc) (cc : Nat), cc + e_154 ≤ 6966 → K154 c_o_0 y6 y7 y8 y9 y10 = some R → va_P G vwCl (oW cy b_0 bk_0 c_o_0) H → va_D A (oW cy b_0 bk_0 c_o_0) → va_S A s.heap H locs → ∀ (ls : Array Slot), lv_has ls 20 [(0, .ref (b_0 0)), (1, .int y1), (2, .int y2), (3, .int y3), (4, .long y4), (6, .int y6), (7, .int y7), (8, .int y8), (9, .int y9), (10, .int y10)] → W p l e ({ frames := 11, cells := 6966, slots := 41796, locals := 218 } : Room) s m [.ref (b_0 0)].toArray below meth c H locs cc (6 * cc) (MQ below (va_Qi (fun r (_ : Unit) => r = bI R.1) (fun _ t => Wd G cy A (oW cy b_0 bk_0 R.2) t) A) [.ref (b_0 0)].toArray s 6966 41796 A) (F0 m 154 ls [])) → ∀ (c_o_0 : OT) (y6 : Int32) (y7 : Int32) (y8 : Int32) (y10 : Int32) (y11 : Int32) (y14 : Int32) (z0 : Int32) (H : Heap) (locs : List Loc) (cc : Nat), cc + (3 + e_154) ≤ 6966 → f_L_holds_b620 n y1 y2 y3 y4 K154 c_o_0 y6 y7 y8 y10 y11 y14 z0 = some R → va_P G vwCl (oW cy b_0 bk_0 c_o_0) H → va_D A (oW cy b_0 bk_0 c_o_0) → va_S A s.heap H locs → ∀ (ls : Array Slot), lv_has ls 20 [(0, .ref (b_0 0)), (1, .int y1), (2, .int y2), (3, .int y3), (4, .long y4), (6, .int y6), (7, .int y7), (8, .int y8), (10, .int y10), (11, .int y11), (14, .int y14)] → W p l e ({ frames := 11, cells := 6966, slots := 41796, locals := 218 } : Room) s m [.ref (b_0 0)].toArray below meth c H locs cc (6 * cc) (MQ below (va_Qi (fun r (_ : Unit) => r = bI R.1) (fun _ t => Wd G cy A (oW cy b_0 bk_0 R.2) t) A) [.ref (b_0 0)].toArray s 6966 41796 A) (F0 m 620 ls [.int z0]) := by
    intro y1
    intro y2
    intro y3
    intro y4
    intro K154 e_154 hK154
    intro c_o_0 y6 y7 y8 y10 y11 y14 z0 H locs cc hcc hf hP hD hS ls hl
    unfold f_L_holds_b620 at hf
    refine lv_iload hx hb dL_holds_620 (lv_at hl 9 rfl) ?_
    refine lv_iconst (v := 1) hx hb dL_holds_622 (by decide) ?_
    refine lv_icmp_ne (tgt := 630) hx hb dL_holds_623 (by decide) (fun h_16 => ?_) (fun h_16 => ?_)
    · have hf := in_ h_16 hf
      refine lv_iconst (v := 0) hx hb dL_holds_630 (by decide) ?_
      refine lv_icmp_ne (tgt := 652) hx hb dL_holds_631 (by decide) (fun h_17 => ?_) (fun h_17 => ?_)
      · have hf := in_ h_17 hf
        refine lv_iconst (v := 0) hx hb dL_holds_652 (by decide) ?_
        refine lv_istore (lv' := [(9, .int 0), (0, .ref (b_0 0)), (1, .int y1), (2, .int y2), (3, .int y3), (4, .long y4), (6, .int y6), (7, .int y7), (8, .int y8), (10, .int y10), (11, .int y11), (14, .int y14)]) hx hb dL_holds_653 hl (by decide) rfl (fun ls hl => ?_)
        refine lv_iinc (v := (y10 + 1)) (lv' := [(10, .int (y10 + 1)), (9, .int 0), (0, .ref (b_0 0)), (1, .int y1), (2, .int y2), (3, .int y3), (4, .long y4), (6, .int y6), (7, .int y7), (8, .int y8), (11, .int y11), (14, .int y14)]) hx hb dL_holds_655 hl (k := 9) rfl rfl (by decide) rfl (fun ls hl => ?_)
        refine lv_goto (tgt := 154) hx hb dL_holds_658 (by decide) ?_
        exact hK154 c_o_0 y6 y7 y8 0 (y10 + 1) _ _ _ (by omega) hf hP hD hS ls (lv_sub hl [2, 3, 4, 5, 6, 7, 8, 9, 1, 0] rfl)
      · have hf := ip_ h_17 hf
        refine lv_iload hx hb dL_holds_634 (lv_at hl 10 rfl) ?_
        refine lv_aload_n hx hb dL_holds_636 rfl (lv_at hl 0 rfl) ?_
        refine lv_iconst (v := 2) hx hb dL_holds_637 (by decide) ?_
        refine lv_bipush (v := 7) hx hb dL_holds_638 (by decide) ?_
        refine lv_iconst (v := 0) hx hb dL_holds_640 (by decide) ?_
        refine lv_iconst (v := 0) hx hb dL_holds_641 (by decide) ?_
        obtain ⟨r_18, hh_r_18, hf⟩ := obd_some hf
        refine kb_i6 (V := r_18.1) (w1 := oW cy b_0 bk_0 r_18.2) hS (Nat.le_of_ble_eq_true rfl) (Jn_1 hP hD hS hA) (va_runS (As := [.ref (b_0 0), .int 2, .int 7, .int 0, .int 0]) (rest := [.int y14]) ⟨hx, hb, hml, hown, hts⟩ (c_L_call (l := l) hfl G cy b_0 bk_0 H.size c_o_0 2 7 0 0 n r_18 hh_r_18) (va_cwS 5 hts gB_holds_L_call rfl rfl rfl ddN_L_call ⟨(Nat.le_of_ble_eq_true rfl), (Nat.le_of_ble_eq_true rfl)⟩) (preSN hXN (hE.kept hS.2.1) (Jn_1 hP hD hS hA).1 hP hK hD hN) rfl rfl hl.1 rfl (lv_room (Nat.le_of_ble_eq_true rfl)) dL_holds_642 ⟨by show cc + 3 ≤ 6966; omega, by show 6 * cc + 18 ≤ 41796; omega⟩) (fun H locs hP hD hS => ?_)
        have hP : va_P G vwCl (oW cy b_0 bk_0 r_18.2) H := hP
        have hD : va_D A (oW cy b_0 bk_0 r_18.2) := hD
        refine lv_icmp_gt (tgt := 652) hx hb dL_holds_645 (by decide) (fun h_19 => ?_) (fun h_19 => ?_)
        · have hf := ip_ h_19 hf
          refine lv_iconst (v := 0) hx hb dL_holds_652 (by decide) ?_
          refine lv_istore (lv' := [(9, .int 0), (0, .ref (b_0 0)), (1, .int y1), (2, .int y2), (3, .int y3), (4, .long y4), (6, .int y6), (7, .int y7), (8, .int y8), (10, .int y10), (11, .int y11), (14, .int y14)]) hx hb dL_holds_653 hl (by decide) rfl (fun ls hl => ?_)
          refine lv_iinc (v := (y10 + 1)) (lv' := [(10, .int (y10 + 1)), (9, .int 0), (0, .ref (b_0 0)), (1, .int y1), (2, .int y2), (3, .int y3), (4, .long y4), (6, .int y6), (7, .int y7), (8, .int y8), (11, .int y11), (14, .int y14)]) hx hb dL_holds_655 hl (k := 9) rfl rfl (by decide) rfl (fun ls hl => ?_)
          refine lv_goto (tgt := 154) hx hb dL_holds_658 (by decide) ?_
          exact hK154 r_18.2 y6 y7 y8 0 (y10 + 1) _ _ _ (by omega) hf hP hD hS ls (lv_sub hl [2, 3, 4, 5, 6, 7, 8, 9, 1, 0] rfl)
        · have hf := in_ h_19 hf
          refine lv_iconst (v := 1) hx hb dL_holds_648 (by decide) ?_
          refine lv_goto (tgt := 653) hx hb dL_holds_649 (by decide) ?_
          refine lv_istore (lv' := [(9, .int 1), (0, .ref (b_0 0)), (1, .int y1), (2, .int y2), (3, .int y3), (4, .long y4), (6, .int y6), (7, .int y7), (8, .int y8), (10, .int y10), (11, .int y11), (14, .int y14)]) hx hb dL_holds_653 hl (by decide) rfl (fun ls hl => ?_)
          refine lv_iinc (v := (y10 + 1)) (lv' := [(10, .int (y10 + 1)), (9, .int 1), (0, .ref (b_0 0)), (1, .int y1), (2, .int y2), (3, .int y3), (4, .long y4), (6, .int y6), (7, .int y7), (8, .int y8), (11, .int y11), (14, .int y14)]) hx hb dL_holds_655 hl (k := 9) rfl rfl (by decide) rfl (fun ls hl => ?_)
          refine lv_goto (tgt := 154) hx hb dL_holds_658 (by decide) ?_
          exact hK154 r_18.2 y6 y7 y8 1 (y10 + 1) _ _ _ (by omega) hf hP hD hS ls (lv_sub hl [2, 3, 4, 5, 6, 7, 8, 9, 1, 0] rfl)
    · have hf := ip_ h_16 hf
      refine lv_iconst (v := 1) hx hb dL_holds_626 (by decide) ?_
      refine lv_goto (tgt := 631) hx hb dL_holds_627 (by decide) ?_
      refine lv_icmp_ne (tgt := 652) hx hb dL_holds_631 (by decide) (fun h_20 => ?_) (fun h_20 => ?_)
      · have hf := in_ h_20 hf
        refine lv_iconst (v := 0) hx hb dL_holds_652 (by decide) ?_
        refine lv_istore (lv' := [(9, .int 0), (0, .ref (b_0 0)), (1, .int y1), (2, .int y2), (3, .int y3), (4, .long y4), (6, .int y6), (7, .int y7), (8, .int y8), (10, .int y10), (11, .int y11), (14, .int y14)]) hx hb dL_holds_653 hl (by decide) rfl (fun ls hl => ?_)
        refine lv_iinc (v := (y10 + 1)) (lv' := [(10, .int (y10 + 1)), (9, .int 0), (0, .ref (b_0 0)), (1, .int y1), (2, .int y2), (3, .int y3), (4, .long y4), (6, .int y6), (7, .int y7), (8, .int y8), (11, .int y11), (14, .int y14)]) hx hb dL_holds_655 hl (k := 9) rfl rfl (by decide) rfl (fun ls hl => ?_)
        refine lv_goto (tgt := 154) hx hb dL_holds_658 (by decide) ?_
        exact hK154 c_o_0 y6 y7 y8 0 (y10 + 1) _ _ _ (by omega) hf hP hD hS ls (lv_sub hl [2, 3, 4, 5, 6, 7, 8, 9, 1, 0] rfl)
      · have hf := ip_ h_20 hf
        refine lv_iload hx hb dL_holds_634 (lv_at hl 10 rfl) ?_
        refine lv_aload_n hx hb dL_holds_636 rfl (lv_at hl 0 rfl) ?_
        refine lv_iconst (v := 2) hx hb dL_holds_637 (by decide) ?_
        refine lv_bipush (v := 7) hx hb dL_holds_638 (by decide) ?_
        refine lv_iconst (v := 0) hx hb dL_holds_640 (by decide) ?_
        refine lv_iconst (v := 0) hx hb dL_holds_641 (by decide) ?_
        obtain ⟨r_21, hh_r_21, hf⟩ := obd_some hf
        refine kb_i6 (V := r_21.1) (w1 := oW cy b_0 bk_0 r_21.2) hS (Nat.le_of_ble_eq_true rfl) (Jn_1 hP hD hS hA) (va_runS (As := [.ref (b_0 0), .int 2, .int 7, .int 0, .int 0]) (rest := [.int y14]) ⟨hx, hb, hml, hown, hts⟩ (c_L_call (l := l) hfl G cy b_0 bk_0 H.size c_o_0 2 7 0 0 n r_21 hh_r_21) (va_cwS 5 hts gB_holds_L_call rfl rfl rfl ddN_L_call ⟨(Nat.le_of_ble_eq_true rfl), (Nat.le_of_ble_eq_true rfl)⟩) (preSN hXN (hE.kept hS.2.1) (Jn_1 hP hD hS hA).1 hP hK hD hN) rfl rfl hl.1 rfl (lv_room (Nat.le_of_ble_eq_true rfl)) dL_holds_642 ⟨by show cc + 3 ≤ 6966; omega, by show 6 * cc + 18 ≤ 41796; omega⟩) (fun H locs hP hD hS => ?_)
        have hP : va_P G vwCl (oW cy b_0 bk_0 r_21.2) H := hP
        have hD : va_D A (oW cy b_0 bk_0 r_21.2) := hD
        refine lv_icmp_gt (tgt := 652) hx hb dL_holds_645 (by decide) (fun h_22 => ?_) (fun h_22 => ?_)
        · have hf := ip_ h_22 hf
          refine lv_iconst (v := 0) hx hb dL_holds_652 (by decide) ?_
          refine lv_istore (lv' := [(9, .int 0), (0, .ref (b_0 0)), (1, .int y1), (2, .int y2), (3, .int y3), (4, .long y4), (6, .int y6), (7, .int y7), (8, .int y8), (10, .int y10), (11, .int y11), (14, .int y14)]) hx hb dL_holds_653 hl (by decide) rfl (fun ls hl => ?_)
          refine lv_iinc (v := (y10 + 1)) (lv' := [(10, .int (y10 + 1)), (9, .int 0), (0, .ref (b_0 0)), (1, .int y1), (2, .int y2), (3, .int y3), (4, .long y4), (6, .int y6), (7, .int y7), (8, .int y8), (11, .int y11), (14, .int y14)]) hx hb dL_holds_655 hl (k := 9) rfl rfl (by decide) rfl (fun ls hl => ?_)
          refine lv_goto (tgt := 154) hx hb dL_holds_658 (by decide) ?_
          exact hK154 r_21.2 y6 y7 y8 0 (y10 + 1) _ _ _ (by omega) hf hP hD hS ls (lv_sub hl [2, 3, 4, 5, 6, 7, 8, 9, 1, 0] rfl)
        · have hf := in_ h_22 hf
          refine lv_iconst (v := 1) hx hb dL_holds_648 (by decide) ?_
          refine lv_goto (tgt := 653) hx hb dL_holds_649 (by decide) ?_
          refine lv_istore (lv' := [(9, .int 1), (0, .ref (b_0 0)), (1, .int y1), (2, .int y2), (3, .int y3), (4, .long y4), (6, .int y6), (7, .int y7), (8, .int y8), (10, .int y10), (11, .int y11), (14, .int y14)]) hx hb dL_holds_653 hl (by decide) rfl (fun ls hl => ?_)
          refine lv_iinc (v := (y10 + 1)) (lv' := [(10, .int (y10 + 1)), (9, .int 1), (0, .ref (b_0 0)), (1, .int y1), (2, .int y2), (3, .int y3), (4, .long y4), (6, .int y6), (7, .int y7), (8, .int y8), (11, .int y11), (14, .int y14)]) hx hb dL_holds_655 hl (k := 9) rfl rfl (by decide) rfl (fun ls hl => ?_)
          refine lv_goto (tgt := 154) hx hb dL_holds_658 (by decide) ?_
          exact hK154 r_21.2 y6 y7 y8 1 (y10 + 1) _ _ _ (by omega) hf hP hD hS ls (lv_sub hl [2, 3, 4, 5, 6, 7, 8, 9, 1, 0] rfl)
  have bl_577 : ∀ (y1 : Int32), ∀ (y2 : Int32), ∀ (y3 : Int32), ∀ (y4 : Int64), ∀ (K154 : OT → Int32 → Int32 → Int32 → Int32 → Int32 → Option (Bool × OT)) (e_154 : Nat), (∀ (c_o_0 : OT) (y6 : Int32) (y7 : Int32) (y8 : Int32) (y9 : Int32) (y10 : Int32) (H : Heap) (locs : List Loc) (cc : Nat), cc + e_154 ≤ 6966 → K154 c_o_0 y6 y7 y8 y9 y10 = some R → va_P G vwCl (oW cy b_0 bk_0 c_o_0) H → va_D A (oW cy b_0 bk_0 c_o_0) → va_S A s.heap H locs → ∀ (ls : Array Slot), lv_has ls 20 [(0, .ref (b_0 0)), (1, .int y1), (2, .int y2), (3, .int y3), (4, .long y4), (6, .int y6), (7, .int y7), (8, .int y8), (9, .int y9), (10, .int y10)] → W p l e ({ frames := 11, cells := 6966, slots := 41796, locals := 218 } : Room) s m [.ref (b_0 0)].toArray below meth c H locs cc (6 * cc) (MQ below (va_Qi (fun r (_ : Unit) => r = bI R.1) (fun _ t => Wd G cy A (oW cy b_0 bk_0 R.2) t) A) [.ref (b_0 0)].toArray s 6966 41796 A) (F0 m 154 ls [])) → ∀ (c_o_0 : OT) (y6 : Int32) (y7 : Int32) (y8 : Int32) (y9 : Int32) (y10 : Int32) (y11 : Int32) (y12 : Int32) (y14 : Int32) (H : Heap) (locs : List Loc) (cc : Nat), cc + (9 + e_154) ≤ 6966 → f_L_holds_b577 n y1 y2 y3 y4 K154 c_o_0 y6 y7 y8 y9 y10 y11 y12 y14 = some R → va_P G vwCl (oW cy b_0 bk_0 c_o_0) H → va_D A (oW cy b_0 bk_0 c_o_0) → va_S A s.heap H locs → ∀ (ls : Array Slot), lv_has ls 20 [(0, .ref (b_0 0)), (1, .int y1), (2, .int y2), (3, .int y3), (4, .long y4), (6, .int y6), (7, .int y7), (8, .int y8), (9, .int y9), (10, .int y10), (11, .int y11), (12, .int y12), (14, .int y14)] → W p l e ({ frames := 11, cells := 6966, slots := 41796, locals := 218 } : Room) s m [.ref (b_0 0)].toArray below meth c H locs cc (6 * cc) (MQ below (va_Qi (fun r (_ : Unit) => r = bI R.1) (fun _ t => Wd G cy A (oW cy b_0 bk_0 R.2) t) A) [.ref (b_0 0)].toArray s 6966 41796 A) (F0 m 577 ls []) := by
    intro y1
    intro y2
    intro y3
    intro y4
    intro K154 e_154 hK154
    intro c_o_0 y6 y7 y8 y9 y10 y11 y12 y14 H locs cc hcc hf hP hD hS ls hl
    unfold f_L_holds_b577 at hf
    refine lv_iload hx hb dL_holds_577 (lv_at hl 8 rfl) ?_
    refine lv_if_eq (tgt := 652) hx hb dL_holds_579 (by decide) (fun h_23 => ?_) (fun h_23 => ?_)
    · have hf := ip_ h_23 hf
      refine lv_iconst (v := 0) hx hb dL_holds_652 (by decide) ?_
      refine lv_istore (lv' := [(9, .int 0), (0, .ref (b_0 0)), (1, .int y1), (2, .int y2), (3, .int y3), (4, .long y4), (6, .int y6), (7, .int y7), (8, .int y8), (10, .int y10), (11, .int y11), (12, .int y12), (14, .int y14)]) hx hb dL_holds_653 hl (by decide) rfl (fun ls hl => ?_)
      refine lv_iinc (v := (y10 + 1)) (lv' := [(10, .int (y10 + 1)), (9, .int 0), (0, .ref (b_0 0)), (1, .int y1), (2, .int y2), (3, .int y3), (4, .long y4), (6, .int y6), (7, .int y7), (8, .int y8), (11, .int y11), (12, .int y12), (14, .int y14)]) hx hb dL_holds_655 hl (k := 9) rfl rfl (by decide) rfl (fun ls hl => ?_)
      refine lv_goto (tgt := 154) hx hb dL_holds_658 (by decide) ?_
      exact hK154 c_o_0 y6 y7 y8 0 (y10 + 1) _ _ _ (by omega) hf hP hD hS ls (lv_sub hl [2, 3, 4, 5, 6, 7, 8, 9, 1, 0] rfl)
    · have hf := in_ h_23 hf
      refine lv_aload_n hx hb dL_holds_582 rfl (lv_at hl 0 rfl) ?_
      refine lv_iconst (v := 3) hx hb dL_holds_583 (by decide) ?_
      refine lv_iload hx hb dL_holds_584 (lv_at hl 9 rfl) ?_
      refine lv_iconst (v := 0) hx hb dL_holds_586 (by decide) ?_
      refine lv_iconst (v := 0) hx hb dL_holds_587 (by decide) ?_
      obtain ⟨r_24, hh_r_24, hf⟩ := obd_some hf
      refine kb_i6 (V := r_24.1) (w1 := oW cy b_0 bk_0 r_24.2) hS (Nat.le_of_ble_eq_true rfl) (Jn_1 hP hD hS hA) (va_runS (As := [.ref (b_0 0), .int 3, .int y10, .int 0, .int 0]) (rest := []) ⟨hx, hb, hml, hown, hts⟩ (c_L_call (l := l) hfl G cy b_0 bk_0 H.size c_o_0 3 y10 0 0 n r_24 hh_r_24) (va_cwS 5 hts gB_holds_L_call rfl rfl rfl ddN_L_call ⟨(Nat.le_of_ble_eq_true rfl), (Nat.le_of_ble_eq_true rfl)⟩) (preSN hXN (hE.kept hS.2.1) (Jn_1 hP hD hS hA).1 hP hK hD hN) rfl rfl hl.1 rfl (lv_room (Nat.le_of_ble_eq_true rfl)) dL_holds_588 ⟨by show cc + 3 ≤ 6966; omega, by show 6 * cc + 18 ≤ 41796; omega⟩) (fun H locs hP hD hS => ?_)
      have hP : va_P G vwCl (oW cy b_0 bk_0 r_24.2) H := hP
      have hD : va_D A (oW cy b_0 bk_0 r_24.2) := hD
      refine lv_iload hx hb dL_holds_591 (lv_at hl 10 rfl) ?_
      refine lv_icmp_ne (tgt := 652) hx hb dL_holds_593 (by decide) (fun h_25 => ?_) (fun h_25 => ?_)
      · have hf := in_ h_25 hf
        refine lv_iconst (v := 0) hx hb dL_holds_652 (by decide) ?_
        refine lv_istore (lv' := [(9, .int 0), (0, .ref (b_0 0)), (1, .int y1), (2, .int y2), (3, .int y3), (4, .long y4), (6, .int y6), (7, .int y7), (8, .int y8), (10, .int y10), (11, .int y11), (12, .int y12), (14, .int y14)]) hx hb dL_holds_653 hl (by decide) rfl (fun ls hl => ?_)
        refine lv_iinc (v := (y10 + 1)) (lv' := [(10, .int (y10 + 1)), (9, .int 0), (0, .ref (b_0 0)), (1, .int y1), (2, .int y2), (3, .int y3), (4, .long y4), (6, .int y6), (7, .int y7), (8, .int y8), (11, .int y11), (12, .int y12), (14, .int y14)]) hx hb dL_holds_655 hl (k := 9) rfl rfl (by decide) rfl (fun ls hl => ?_)
        refine lv_goto (tgt := 154) hx hb dL_holds_658 (by decide) ?_
        exact hK154 r_24.2 y6 y7 y8 0 (y10 + 1) _ _ _ (by omega) hf hP hD hS ls (lv_sub hl [2, 3, 4, 5, 6, 7, 8, 9, 1, 0] rfl)
      · have hf := ip_ h_25 hf
        refine lv_aload_n hx hb dL_holds_596 rfl (lv_at hl 0 rfl) ?_
        refine lv_iconst (v := 3) hx hb dL_holds_597 (by decide) ?_
        refine lv_iload hx hb dL_holds_598 (lv_at hl 9 rfl) ?_
        refine lv_iconst (v := 1) hx hb dL_holds_600 (by decide) ?_
        refine lv_iconst (v := 0) hx hb dL_holds_601 (by decide) ?_
        obtain ⟨r_26, hh_r_26, hf⟩ := obd_some hf
        refine kb_i6 (V := r_26.1) (w1 := oW cy b_0 bk_0 r_26.2) hS (Nat.le_of_ble_eq_true rfl) (Jn_1 hP hD hS hA) (va_runS (As := [.ref (b_0 0), .int 3, .int y10, .int 1, .int 0]) (rest := []) ⟨hx, hb, hml, hown, hts⟩ (c_L_call (l := l) hfl G cy b_0 bk_0 H.size r_24.2 3 y10 1 0 n r_26 hh_r_26) (va_cwS 5 hts gB_holds_L_call rfl rfl rfl ddN_L_call ⟨(Nat.le_of_ble_eq_true rfl), (Nat.le_of_ble_eq_true rfl)⟩) (preSN hXN (hE.kept hS.2.1) (Jn_1 hP hD hS hA).1 hP hK hD hN) rfl rfl hl.1 rfl (lv_room (Nat.le_of_ble_eq_true rfl)) dL_holds_602 ⟨by show cc + 3 + 3 ≤ 6966; omega, by show 6 * (cc + 3) + 18 ≤ 41796; omega⟩) (fun H locs hP hD hS => ?_)
        have hP : va_P G vwCl (oW cy b_0 bk_0 r_26.2) H := hP
        have hD : va_D A (oW cy b_0 bk_0 r_26.2) := hD
        refine lv_iload hx hb dL_holds_605 (lv_at hl 11 rfl) ?_
        refine lv_icmp_ne (tgt := 652) hx hb dL_holds_607 (by decide) (fun h_27 => ?_) (fun h_27 => ?_)
        · have hf := in_ h_27 hf
          refine lv_iconst (v := 0) hx hb dL_holds_652 (by decide) ?_
          refine lv_istore (lv' := [(9, .int 0), (0, .ref (b_0 0)), (1, .int y1), (2, .int y2), (3, .int y3), (4, .long y4), (6, .int y6), (7, .int y7), (8, .int y8), (10, .int y10), (11, .int y11), (12, .int y12), (14, .int y14)]) hx hb dL_holds_653 hl (by decide) rfl (fun ls hl => ?_)
          refine lv_iinc (v := (y10 + 1)) (lv' := [(10, .int (y10 + 1)), (9, .int 0), (0, .ref (b_0 0)), (1, .int y1), (2, .int y2), (3, .int y3), (4, .long y4), (6, .int y6), (7, .int y7), (8, .int y8), (11, .int y11), (12, .int y12), (14, .int y14)]) hx hb dL_holds_655 hl (k := 9) rfl rfl (by decide) rfl (fun ls hl => ?_)
          refine lv_goto (tgt := 154) hx hb dL_holds_658 (by decide) ?_
          exact hK154 r_26.2 y6 y7 y8 0 (y10 + 1) _ _ _ (by omega) hf hP hD hS ls (lv_sub hl [2, 3, 4, 5, 6, 7, 8, 9, 1, 0] rfl)
        · have hf := ip_ h_27 hf
          refine lv_iload hx hb dL_holds_610 (lv_at hl 12 rfl) ?_
          refine lv_if_le (tgt := 619) hx hb dL_holds_612 (by decide) (fun h_28 => ?_) (fun h_28 => ?_)
          · have hf := ip_ h_28 hf
            refine lv_iconst (v := 0) hx hb dL_holds_619 (by decide) ?_
            exact bl_620 y1 y2 y3 y4 K154 e_154 hK154 r_26.2 y6 y7 y8 y10 y11 y14 0 _ _ _ (by omega) hf hP hD hS ls (lv_sub hl [0, 1, 2, 3, 4, 5, 6, 7, 9, 10, 12] rfl)
          · have hf := in_ h_28 hf
            refine lv_iconst (v := 1) hx hb dL_holds_615 (by decide) ?_
            refine lv_goto (tgt := 620) hx hb dL_holds_616 (by decide) ?_
            exact bl_620 y1 y2 y3 y4 K154 e_154 hK154 r_26.2 y6 y7 y8 y10 y11 y14 1 _ _ _ (by omega) hf hP hD hS ls (lv_sub hl [0, 1, 2, 3, 4, 5, 6, 7, 9, 10, 12] rfl)
  have bl_535 : ∀ (y1 : Int32), ∀ (y2 : Int32), ∀ (y3 : Int32), ∀ (y4 : Int64), ∀ (y6 : Int32), ∀ (y10 : Int32), ∀ (y11 : Int32), ∀ (y13 : Int32), ∀ (y14 : Int32), ∀ (K154 : OT → Int32 → Int32 → Int32 → Int32 → Int32 → Option (Bool × OT)) (e_154 : Nat), (∀ (c_o_0 : OT) (y6 : Int32) (y7 : Int32) (y8 : Int32) (y9 : Int32) (y10 : Int32) (H : Heap) (locs : List Loc) (cc : Nat), cc + e_154 ≤ 6966 → K154 c_o_0 y6 y7 y8 y9 y10 = some R → va_P G vwCl (oW cy b_0 bk_0 c_o_0) H → va_D A (oW cy b_0 bk_0 c_o_0) → va_S A s.heap H locs → ∀ (ls : Array Slot), lv_has ls 20 [(0, .ref (b_0 0)), (1, .int y1), (2, .int y2), (3, .int y3), (4, .long y4), (6, .int y6), (7, .int y7), (8, .int y8), (9, .int y9), (10, .int y10)] → W p l e ({ frames := 11, cells := 6966, slots := 41796, locals := 218 } : Room) s m [.ref (b_0 0)].toArray below meth c H locs cc (6 * cc) (MQ below (va_Qi (fun r (_ : Unit) => r = bI R.1) (fun _ t => Wd G cy A (oW cy b_0 bk_0 R.2) t) A) [.ref (b_0 0)].toArray s 6966 41796 A) (F0 m 154 ls [])) → ∀ (K210 : OT → Int32 → Int32 → Int32 → Int32 → Int32 → Option (Bool × OT)) (e_210 : Nat), (∀ (c_o_0 : OT) (y7 : Int32) (y8 : Int32) (y9 : Int32) (y12 : Int32) (y15 : Int32) (H : Heap) (locs : List Loc) (cc : Nat), cc + e_210 ≤ 6966 → K210 c_o_0 y7 y8 y9 y12 y15 = some R → va_P G vwCl (oW cy b_0 bk_0 c_o_0) H → va_D A (oW cy b_0 bk_0 c_o_0) → va_S A s.heap H locs → ∀ (ls : Array Slot), lv_has ls 20 [(0, .ref (b_0 0)), (1, .int y1), (2, .int y2), (3, .int y3), (4, .long y4), (6, .int y6), (7, .int y7), (8, .int y8), (9, .int y9), (10, .int y10), (11, .int y11), (12, .int y12), (13, .int y13), (14, .int y14), (15, .int y15)] → W p l e ({ frames := 11, cells := 6966, slots := 41796, locals := 218 } : Room) s m [.ref (b_0 0)].toArray below meth c H locs cc (6 * cc) (MQ below (va_Qi (fun r (_ : Unit) => r = bI R.1) (fun _ t => Wd G cy A (oW cy b_0 bk_0 R.2) t) A) [.ref (b_0 0)].toArray s 6966 41796 A) (F0 m 210 ls [])) → ∀ (c_o_0 : OT) (y7 : Int32) (y8 : Int32) (y12 : Int32) (y15 : Int32) (y16 : Int32) (y18 : Int32) (y19 : Int32) (H : Heap) (locs : List Loc) (cc : Nat), cc + (3 + e_210) ≤ 6966 → f_L_holds_b535 n y1 y2 y3 y4 y6 y10 y11 y13 y14 K154 K210 c_o_0 y7 y8 y12 y15 y16 y18 y19 = some R → va_P G vwCl (oW cy b_0 bk_0 c_o_0) H → va_D A (oW cy b_0 bk_0 c_o_0) → va_S A s.heap H locs → ∀ (ls : Array Slot), lv_has ls 20 [(0, .ref (b_0 0)), (1, .int y1), (2, .int y2), (3, .int y3), (4, .long y4), (6, .int y6), (7, .int y7), (8, .int y8), (10, .int y10), (11, .int y11), (12, .int y12), (13, .int y13), (14, .int y14), (15, .int y15), (16, .int y16), (18, .int y18), (19, .int y19)] → W p l e ({ frames := 11, cells := 6966, slots := 41796, locals := 218 } : Room) s m [.ref (b_0 0)].toArray below meth c H locs cc (6 * cc) (MQ below (va_Qi (fun r (_ : Unit) => r = bI R.1) (fun _ t => Wd G cy A (oW cy b_0 bk_0 R.2) t) A) [.ref (b_0 0)].toArray s 6966 41796 A) (F0 m 535 ls []) := by
    intro y1
    intro y2
    intro y3
    intro y4
    intro y6
    intro y10
    intro y11
    intro y13
    intro y14
    intro K154 e_154 hK154
    intro K210 e_210 hK210
    intro c_o_0 y7 y8 y12 y15 y16 y18 y19 H locs cc hcc hf hP hD hS ls hl
    unfold f_L_holds_b535 at hf
    refine lv_iload hx hb dL_holds_535 (lv_at hl 16 rfl) ?_
    refine lv_if_eq (tgt := 564) hx hb dL_holds_537 (by decide) (fun h_29 => ?_) (fun h_29 => ?_)
    · have hf := ip_ h_29 hf
      refine lv_iconst (v := 1) hx hb dL_holds_564 (by decide) ?_
      refine lv_goto (tgt := 569) hx hb dL_holds_565 (by decide) ?_
      refine lv_istore (lv' := [(9, .int 1), (0, .ref (b_0 0)), (1, .int y1), (2, .int y2), (3, .int y3), (4, .long y4), (6, .int y6), (7, .int y7), (8, .int y8), (10, .int y10), (11, .int y11), (12, .int y12), (13, .int y13), (14, .int y14), (15, .int y15), (16, .int y16), (18, .int y18), (19, .int y19)]) hx hb dL_holds_569 hl (by decide) rfl (fun ls hl => ?_)
      refine lv_iinc (v := (y15 + 1)) (lv' := [(15, .int (y15 + 1)), (9, .int 1), (0, .ref (b_0 0)), (1, .int y1), (2, .int y2), (3, .int y3), (4, .long y4), (6, .int y6), (7, .int y7), (8, .int y8), (10, .int y10), (11, .int y11), (12, .int y12), (13, .int y13), (14, .int y14), (16, .int y16), (18, .int y18), (19, .int y19)]) hx hb dL_holds_571 hl (k := 14) rfl rfl (by decide) rfl (fun ls hl => ?_)
      refine lv_goto (tgt := 210) hx hb dL_holds_574 (by decide) ?_
      exact hK210 c_o_0 y7 y8 1 y12 (y15 + 1) _ _ _ (by omega) hf hP hD hS ls (lv_sub hl [2, 3, 4, 5, 6, 7, 8, 9, 1, 10, 11, 12, 13, 14, 0] rfl)
    · have hf := in_ h_29 hf
      refine lv_iload hx hb dL_holds_540 (lv_at hl 15 rfl) ?_
      refine lv_if_ne (tgt := 564) hx hb dL_holds_542 (by decide) (fun h_30 => ?_) (fun h_30 => ?_)
      · have hf := in_ h_30 hf
        refine lv_iconst (v := 1) hx hb dL_holds_564 (by decide) ?_
        refine lv_goto (tgt := 569) hx hb dL_holds_565 (by decide) ?_
        refine lv_istore (lv' := [(9, .int 1), (0, .ref (b_0 0)), (1, .int y1), (2, .int y2), (3, .int y3), (4, .long y4), (6, .int y6), (7, .int y7), (8, .int y8), (10, .int y10), (11, .int y11), (12, .int y12), (13, .int y13), (14, .int y14), (15, .int y15), (16, .int y16), (18, .int y18), (19, .int y19)]) hx hb dL_holds_569 hl (by decide) rfl (fun ls hl => ?_)
        refine lv_iinc (v := (y15 + 1)) (lv' := [(15, .int (y15 + 1)), (9, .int 1), (0, .ref (b_0 0)), (1, .int y1), (2, .int y2), (3, .int y3), (4, .long y4), (6, .int y6), (7, .int y7), (8, .int y8), (10, .int y10), (11, .int y11), (12, .int y12), (13, .int y13), (14, .int y14), (16, .int y16), (18, .int y18), (19, .int y19)]) hx hb dL_holds_571 hl (k := 14) rfl rfl (by decide) rfl (fun ls hl => ?_)
        refine lv_goto (tgt := 210) hx hb dL_holds_574 (by decide) ?_
        exact hK210 c_o_0 y7 y8 1 y12 (y15 + 1) _ _ _ (by omega) hf hP hD hS ls (lv_sub hl [2, 3, 4, 5, 6, 7, 8, 9, 1, 10, 11, 12, 13, 14, 0] rfl)
      · have hf := ip_ h_30 hf
        refine lv_iload hx hb dL_holds_545 (lv_at hl 9 rfl) ?_
        refine lv_if_eq (tgt := 564) hx hb dL_holds_547 (by decide) (fun h_31 => ?_) (fun h_31 => ?_)
        · have hf := ip_ h_31 hf
          refine lv_iconst (v := 1) hx hb dL_holds_564 (by decide) ?_
          refine lv_goto (tgt := 569) hx hb dL_holds_565 (by decide) ?_
          refine lv_istore (lv' := [(9, .int 1), (0, .ref (b_0 0)), (1, .int y1), (2, .int y2), (3, .int y3), (4, .long y4), (6, .int y6), (7, .int y7), (8, .int y8), (10, .int y10), (11, .int y11), (12, .int y12), (13, .int y13), (14, .int y14), (15, .int y15), (16, .int y16), (18, .int y18), (19, .int y19)]) hx hb dL_holds_569 hl (by decide) rfl (fun ls hl => ?_)
          refine lv_iinc (v := (y15 + 1)) (lv' := [(15, .int (y15 + 1)), (9, .int 1), (0, .ref (b_0 0)), (1, .int y1), (2, .int y2), (3, .int y3), (4, .long y4), (6, .int y6), (7, .int y7), (8, .int y8), (10, .int y10), (11, .int y11), (12, .int y12), (13, .int y13), (14, .int y14), (16, .int y16), (18, .int y18), (19, .int y19)]) hx hb dL_holds_571 hl (k := 14) rfl rfl (by decide) rfl (fun ls hl => ?_)
          refine lv_goto (tgt := 210) hx hb dL_holds_574 (by decide) ?_
          exact hK210 c_o_0 y7 y8 1 y12 (y15 + 1) _ _ _ (by omega) hf hP hD hS ls (lv_sub hl [2, 3, 4, 5, 6, 7, 8, 9, 1, 10, 11, 12, 13, 14, 0] rfl)
        · have hf := in_ h_31 hf
          refine lv_aload_n hx hb dL_holds_550 rfl (lv_at hl 0 rfl) ?_
          refine lv_iconst (v := 3) hx hb dL_holds_551 (by decide) ?_
          refine lv_iload hx hb dL_holds_552 (lv_at hl 14 rfl) ?_
          refine lv_iconst (v := 2) hx hb dL_holds_554 (by decide) ?_
          refine lv_iconst (v := 0) hx hb dL_holds_555 (by decide) ?_
          obtain ⟨r_32, hh_r_32, hf⟩ := obd_some hf
          refine kb_i6 (V := r_32.1) (w1 := oW cy b_0 bk_0 r_32.2) hS (Nat.le_of_ble_eq_true rfl) (Jn_1 hP hD hS hA) (va_runS (As := [.ref (b_0 0), .int 3, .int y16, .int 2, .int 0]) (rest := []) ⟨hx, hb, hml, hown, hts⟩ (c_L_call (l := l) hfl G cy b_0 bk_0 H.size c_o_0 3 y16 2 0 n r_32 hh_r_32) (va_cwS 5 hts gB_holds_L_call rfl rfl rfl ddN_L_call ⟨(Nat.le_of_ble_eq_true rfl), (Nat.le_of_ble_eq_true rfl)⟩) (preSN hXN (hE.kept hS.2.1) (Jn_1 hP hD hS hA).1 hP hK hD hN) rfl rfl hl.1 rfl (lv_room (Nat.le_of_ble_eq_true rfl)) dL_holds_556 ⟨by show cc + 3 ≤ 6966; omega, by show 6 * cc + 18 ≤ 41796; omega⟩) (fun H locs hP hD hS => ?_)
          have hP : va_P G vwCl (oW cy b_0 bk_0 r_32.2) H := hP
          have hD : va_D A (oW cy b_0 bk_0 r_32.2) := hD
          refine lv_iload hx hb dL_holds_559 (lv_at hl 12 rfl) ?_
          refine lv_icmp_ne (tgt := 568) hx hb dL_holds_561 (by decide) (fun h_33 => ?_) (fun h_33 => ?_)
          · have hf := in_ h_33 hf
            refine lv_iconst (v := 0) hx hb dL_holds_568 (by decide) ?_
            refine lv_istore (lv' := [(9, .int 0), (0, .ref (b_0 0)), (1, .int y1), (2, .int y2), (3, .int y3), (4, .long y4), (6, .int y6), (7, .int y7), (8, .int y8), (10, .int y10), (11, .int y11), (12, .int y12), (13, .int y13), (14, .int y14), (15, .int y15), (16, .int y16), (18, .int y18), (19, .int y19)]) hx hb dL_holds_569 hl (by decide) rfl (fun ls hl => ?_)
            refine lv_iinc (v := (y15 + 1)) (lv' := [(15, .int (y15 + 1)), (9, .int 0), (0, .ref (b_0 0)), (1, .int y1), (2, .int y2), (3, .int y3), (4, .long y4), (6, .int y6), (7, .int y7), (8, .int y8), (10, .int y10), (11, .int y11), (12, .int y12), (13, .int y13), (14, .int y14), (16, .int y16), (18, .int y18), (19, .int y19)]) hx hb dL_holds_571 hl (k := 14) rfl rfl (by decide) rfl (fun ls hl => ?_)
            refine lv_goto (tgt := 210) hx hb dL_holds_574 (by decide) ?_
            exact hK210 r_32.2 y7 y8 0 y12 (y15 + 1) _ _ _ (by omega) hf hP hD hS ls (lv_sub hl [2, 3, 4, 5, 6, 7, 8, 9, 1, 10, 11, 12, 13, 14, 0] rfl)
          · have hf := ip_ h_33 hf
            refine lv_iconst (v := 1) hx hb dL_holds_564 (by decide) ?_
            refine lv_goto (tgt := 569) hx hb dL_holds_565 (by decide) ?_
            refine lv_istore (lv' := [(9, .int 1), (0, .ref (b_0 0)), (1, .int y1), (2, .int y2), (3, .int y3), (4, .long y4), (6, .int y6), (7, .int y7), (8, .int y8), (10, .int y10), (11, .int y11), (12, .int y12), (13, .int y13), (14, .int y14), (15, .int y15), (16, .int y16), (18, .int y18), (19, .int y19)]) hx hb dL_holds_569 hl (by decide) rfl (fun ls hl => ?_)
            refine lv_iinc (v := (y15 + 1)) (lv' := [(15, .int (y15 + 1)), (9, .int 1), (0, .ref (b_0 0)), (1, .int y1), (2, .int y2), (3, .int y3), (4, .long y4), (6, .int y6), (7, .int y7), (8, .int y8), (10, .int y10), (11, .int y11), (12, .int y12), (13, .int y13), (14, .int y14), (16, .int y16), (18, .int y18), (19, .int y19)]) hx hb dL_holds_571 hl (k := 14) rfl rfl (by decide) rfl (fun ls hl => ?_)
            refine lv_goto (tgt := 210) hx hb dL_holds_574 (by decide) ?_
            exact hK210 r_32.2 y7 y8 1 y12 (y15 + 1) _ _ _ (by omega) hf hP hD hS ls (lv_sub hl [2, 3, 4, 5, 6, 7, 8, 9, 1, 10, 11, 12, 13, 14, 0] rfl)
  have bl_467 : ∀ (y1 : Int32), ∀ (y2 : Int32), ∀ (y3 : Int32), ∀ (y4 : Int64), ∀ (y6 : Int32), ∀ (y10 : Int32), ∀ (y11 : Int32), ∀ (y13 : Int32), ∀ (y14 : Int32), ∀ (K154 : OT → Int32 → Int32 → Int32 → Int32 → Int32 → Option (Bool × OT)) (e_154 : Nat), (∀ (c_o_0 : OT) (y6 : Int32) (y7 : Int32) (y8 : Int32) (y9 : Int32) (y10 : Int32) (H : Heap) (locs : List Loc) (cc : Nat), cc + e_154 ≤ 6966 → K154 c_o_0 y6 y7 y8 y9 y10 = some R → va_P G vwCl (oW cy b_0 bk_0 c_o_0) H → va_D A (oW cy b_0 bk_0 c_o_0) → va_S A s.heap H locs → ∀ (ls : Array Slot), lv_has ls 20 [(0, .ref (b_0 0)), (1, .int y1), (2, .int y2), (3, .int y3), (4, .long y4), (6, .int y6), (7, .int y7), (8, .int y8), (9, .int y9), (10, .int y10)] → W p l e ({ frames := 11, cells := 6966, slots := 41796, locals := 218 } : Room) s m [.ref (b_0 0)].toArray below meth c H locs cc (6 * cc) (MQ below (va_Qi (fun r (_ : Unit) => r = bI R.1) (fun _ t => Wd G cy A (oW cy b_0 bk_0 R.2) t) A) [.ref (b_0 0)].toArray s 6966 41796 A) (F0 m 154 ls [])) → ∀ (K210 : OT → Int32 → Int32 → Int32 → Int32 → Int32 → Option (Bool × OT)) (e_210 : Nat), (∀ (c_o_0 : OT) (y7 : Int32) (y8 : Int32) (y9 : Int32) (y12 : Int32) (y15 : Int32) (H : Heap) (locs : List Loc) (cc : Nat), cc + e_210 ≤ 6966 → K210 c_o_0 y7 y8 y9 y12 y15 = some R → va_P G vwCl (oW cy b_0 bk_0 c_o_0) H → va_D A (oW cy b_0 bk_0 c_o_0) → va_S A s.heap H locs → ∀ (ls : Array Slot), lv_has ls 20 [(0, .ref (b_0 0)), (1, .int y1), (2, .int y2), (3, .int y3), (4, .long y4), (6, .int y6), (7, .int y7), (8, .int y8), (9, .int y9), (10, .int y10), (11, .int y11), (12, .int y12), (13, .int y13), (14, .int y14), (15, .int y15)] → W p l e ({ frames := 11, cells := 6966, slots := 41796, locals := 218 } : Room) s m [.ref (b_0 0)].toArray below meth c H locs cc (6 * cc) (MQ below (va_Qi (fun r (_ : Unit) => r = bI R.1) (fun _ t => Wd G cy A (oW cy b_0 bk_0 R.2) t) A) [.ref (b_0 0)].toArray s 6966 41796 A) (F0 m 210 ls [])) → ∀ (c_o_0 : OT) (y7 : Int32) (y8 : Int32) (y12 : Int32) (y15 : Int32) (y16 : Int32) (y18 : Int32) (y19 : Int32) (z0 : Int32) (z1 : Int32) (H : Heap) (locs : List Loc) (cc : Nat), cc + (9 + e_210) ≤ 6966 → f_L_holds_b467 n y1 y2 y3 y4 y6 y10 y11 y13 y14 K154 K210 c_o_0 y7 y8 y12 y15 y16 y18 y19 z0 z1 = some R → va_P G vwCl (oW cy b_0 bk_0 c_o_0) H → va_D A (oW cy b_0 bk_0 c_o_0) → va_S A s.heap H locs → ∀ (ls : Array Slot), lv_has ls 20 [(0, .ref (b_0 0)), (1, .int y1), (2, .int y2), (3, .int y3), (4, .long y4), (6, .int y6), (7, .int y7), (8, .int y8), (10, .int y10), (11, .int y11), (12, .int y12), (13, .int y13), (14, .int y14), (15, .int y15), (16, .int y16), (18, .int y18), (19, .int y19)] → W p l e ({ frames := 11, cells := 6966, slots := 41796, locals := 218 } : Room) s m [.ref (b_0 0)].toArray below meth c H locs cc (6 * cc) (MQ below (va_Qi (fun r (_ : Unit) => r = bI R.1) (fun _ t => Wd G cy A (oW cy b_0 bk_0 R.2) t) A) [.ref (b_0 0)].toArray s 6966 41796 A) (F0 m 467 ls [.int z1, .int z0]) := by
    intro y1
    intro y2
    intro y3
    intro y4
    intro y6
    intro y10
    intro y11
    intro y13
    intro y14
    intro K154 e_154 hK154
    intro K210 e_210 hK210
    intro c_o_0 y7 y8 y12 y15 y16 y18 y19 z0 z1 H locs cc hcc hf hP hD hS ls hl
    unfold f_L_holds_b467 at hf
    refine lv_icmp_ne (tgt := 568) hx hb dL_holds_467 (by decide) (fun h_34 => ?_) (fun h_34 => ?_)
    · have hf := in_ h_34 hf
      refine lv_iconst (v := 0) hx hb dL_holds_568 (by decide) ?_
      refine lv_istore (lv' := [(9, .int 0), (0, .ref (b_0 0)), (1, .int y1), (2, .int y2), (3, .int y3), (4, .long y4), (6, .int y6), (7, .int y7), (8, .int y8), (10, .int y10), (11, .int y11), (12, .int y12), (13, .int y13), (14, .int y14), (15, .int y15), (16, .int y16), (18, .int y18), (19, .int y19)]) hx hb dL_holds_569 hl (by decide) rfl (fun ls hl => ?_)
      refine lv_iinc (v := (y15 + 1)) (lv' := [(15, .int (y15 + 1)), (9, .int 0), (0, .ref (b_0 0)), (1, .int y1), (2, .int y2), (3, .int y3), (4, .long y4), (6, .int y6), (7, .int y7), (8, .int y8), (10, .int y10), (11, .int y11), (12, .int y12), (13, .int y13), (14, .int y14), (16, .int y16), (18, .int y18), (19, .int y19)]) hx hb dL_holds_571 hl (k := 14) rfl rfl (by decide) rfl (fun ls hl => ?_)
      refine lv_goto (tgt := 210) hx hb dL_holds_574 (by decide) ?_
      exact hK210 c_o_0 y7 y8 0 y12 (y15 + 1) _ _ _ (by omega) hf hP hD hS ls (lv_sub hl [2, 3, 4, 5, 6, 7, 8, 9, 1, 10, 11, 12, 13, 14, 0] rfl)
    · have hf := ip_ h_34 hf
      refine lv_iload hx hb dL_holds_470 (lv_at hl 14 rfl) ?_
      refine lv_iconst (v := (-1)) hx hb dL_holds_472 (by decide) ?_
      refine lv_icmp_ne (tgt := 484) hx hb dL_holds_473 (by decide) (fun h_35 => ?_) (fun h_35 => ?_)
      · have hf := in_ h_35 hf
        refine lv_aload_n hx hb dL_holds_484 rfl (lv_at hl 0 rfl) ?_
        refine lv_iconst (v := 4) hx hb dL_holds_485 (by decide) ?_
        refine lv_iload hx hb dL_holds_486 (lv_at hl 14 rfl) ?_
        refine lv_iload hx hb dL_holds_488 (lv_at hl 13 rfl) ?_
        refine lv_iconst (v := 2) hx hb dL_holds_490 (by decide) ?_
        refine lv_iadd hx hb dL_holds_491 ?_
        refine lv_iconst (v := 4) hx hb dL_holds_492 (by decide) ?_
        refine lv_irem hx hb dL_holds_493 (by decide) ?_
        refine lv_iconst (v := 0) hx hb dL_holds_494 (by decide) ?_
        obtain ⟨r_36, hh_r_36, hf⟩ := obd_some hf
        refine kb_i6 (V := r_36.1) (w1 := oW cy b_0 bk_0 r_36.2) hS (Nat.le_of_ble_eq_true rfl) (Jn_1 hP hD hS hA) (va_runS (As := [.ref (b_0 0), .int 4, .int y16, .int (irm (y15 + 2) 4), .int 0]) (rest := []) ⟨hx, hb, hml, hown, hts⟩ (c_L_call (l := l) hfl G cy b_0 bk_0 H.size c_o_0 4 y16 (irm (y15 + 2) 4) 0 n r_36 hh_r_36) (va_cwS 5 hts gB_holds_L_call rfl rfl rfl ddN_L_call ⟨(Nat.le_of_ble_eq_true rfl), (Nat.le_of_ble_eq_true rfl)⟩) (preSN hXN (hE.kept hS.2.1) (Jn_1 hP hD hS hA).1 hP hK hD hN) rfl rfl hl.1 rfl (lv_room (Nat.le_of_ble_eq_true rfl)) dL_holds_495 ⟨by show cc + 3 ≤ 6966; omega, by show 6 * cc + 18 ≤ 41796; omega⟩) (fun H locs hP hD hS => ?_)
        have hP : va_P G vwCl (oW cy b_0 bk_0 r_36.2) H := hP
        have hD : va_D A (oW cy b_0 bk_0 r_36.2) := hD
        refine lv_iload hx hb dL_holds_498 (lv_at hl 8 rfl) ?_
        refine lv_icmp_ne (tgt := 568) hx hb dL_holds_500 (by decide) (fun h_37 => ?_) (fun h_37 => ?_)
        · have hf := in_ h_37 hf
          refine lv_iconst (v := 0) hx hb dL_holds_568 (by decide) ?_
          refine lv_istore (lv' := [(9, .int 0), (0, .ref (b_0 0)), (1, .int y1), (2, .int y2), (3, .int y3), (4, .long y4), (6, .int y6), (7, .int y7), (8, .int y8), (10, .int y10), (11, .int y11), (12, .int y12), (13, .int y13), (14, .int y14), (15, .int y15), (16, .int y16), (18, .int y18), (19, .int y19)]) hx hb dL_holds_569 hl (by decide) rfl (fun ls hl => ?_)
          refine lv_iinc (v := (y15 + 1)) (lv' := [(15, .int (y15 + 1)), (9, .int 0), (0, .ref (b_0 0)), (1, .int y1), (2, .int y2), (3, .int y3), (4, .long y4), (6, .int y6), (7, .int y7), (8, .int y8), (10, .int y10), (11, .int y11), (12, .int y12), (13, .int y13), (14, .int y14), (16, .int y16), (18, .int y18), (19, .int y19)]) hx hb dL_holds_571 hl (k := 14) rfl rfl (by decide) rfl (fun ls hl => ?_)
          refine lv_goto (tgt := 210) hx hb dL_holds_574 (by decide) ?_
          exact hK210 r_36.2 y7 y8 0 y12 (y15 + 1) _ _ _ (by omega) hf hP hD hS ls (lv_sub hl [2, 3, 4, 5, 6, 7, 8, 9, 1, 10, 11, 12, 13, 14, 0] rfl)
        · have hf := ip_ h_37 hf
          refine lv_aload_n hx hb dL_holds_503 rfl (lv_at hl 0 rfl) ?_
          refine lv_iconst (v := 3) hx hb dL_holds_504 (by decide) ?_
          refine lv_iload hx hb dL_holds_505 (lv_at hl 14 rfl) ?_
          refine lv_iconst (v := 3) hx hb dL_holds_507 (by decide) ?_
          refine lv_iconst (v := 0) hx hb dL_holds_508 (by decide) ?_
          obtain ⟨r_38, hh_r_38, hf⟩ := obd_some hf
          refine kb_i6 (V := r_38.1) (w1 := oW cy b_0 bk_0 r_38.2) hS (Nat.le_of_ble_eq_true rfl) (Jn_1 hP hD hS hA) (va_runS (As := [.ref (b_0 0), .int 3, .int y16, .int 3, .int 0]) (rest := []) ⟨hx, hb, hml, hown, hts⟩ (c_L_call (l := l) hfl G cy b_0 bk_0 H.size r_36.2 3 y16 3 0 n r_38 hh_r_38) (va_cwS 5 hts gB_holds_L_call rfl rfl rfl ddN_L_call ⟨(Nat.le_of_ble_eq_true rfl), (Nat.le_of_ble_eq_true rfl)⟩) (preSN hXN (hE.kept hS.2.1) (Jn_1 hP hD hS hA).1 hP hK hD hN) rfl rfl hl.1 rfl (lv_room (Nat.le_of_ble_eq_true rfl)) dL_holds_509 ⟨by show cc + 3 + 3 ≤ 6966; omega, by show 6 * (cc + 3) + 18 ≤ 41796; omega⟩) (fun H locs hP hD hS => ?_)
          have hP : va_P G vwCl (oW cy b_0 bk_0 r_38.2) H := hP
          have hD : va_D A (oW cy b_0 bk_0 r_38.2) := hD
          refine lv_iload hx hb dL_holds_512 (lv_at hl 13 rfl) ?_
          refine lv_iconst (v := 2) hx hb dL_holds_514 (by decide) ?_
          refine lv_iadd hx hb dL_holds_515 ?_
          refine lv_iconst (v := 4) hx hb dL_holds_516 (by decide) ?_
          refine lv_irem hx hb dL_holds_517 (by decide) ?_
          refine lv_ishr hx hb dL_holds_518 ?_
          refine lv_iconst (v := 1) hx hb dL_holds_519 (by decide) ?_
          refine lv_iand hx hb dL_holds_520 ?_
          refine lv_iconst (v := 1) hx hb dL_holds_521 (by decide) ?_
          refine lv_icmp_ne (tgt := 529) hx hb dL_holds_522 (by decide) (fun h_39 => ?_) (fun h_39 => ?_)
          · have hf := in_ h_39 hf
            refine lv_iconst (v := 0) hx hb dL_holds_529 (by decide) ?_
            refine lv_iload hx hb dL_holds_530 (lv_at hl 15 rfl) ?_
            refine lv_icmp_ne (tgt := 568) hx hb dL_holds_532 (by decide) (fun h_40 => ?_) (fun h_40 => ?_)
            · have hf := in_ h_40 hf
              refine lv_iconst (v := 0) hx hb dL_holds_568 (by decide) ?_
              refine lv_istore (lv' := [(9, .int 0), (0, .ref (b_0 0)), (1, .int y1), (2, .int y2), (3, .int y3), (4, .long y4), (6, .int y6), (7, .int y7), (8, .int y8), (10, .int y10), (11, .int y11), (12, .int y12), (13, .int y13), (14, .int y14), (15, .int y15), (16, .int y16), (18, .int y18), (19, .int y19)]) hx hb dL_holds_569 hl (by decide) rfl (fun ls hl => ?_)
              refine lv_iinc (v := (y15 + 1)) (lv' := [(15, .int (y15 + 1)), (9, .int 0), (0, .ref (b_0 0)), (1, .int y1), (2, .int y2), (3, .int y3), (4, .long y4), (6, .int y6), (7, .int y7), (8, .int y8), (10, .int y10), (11, .int y11), (12, .int y12), (13, .int y13), (14, .int y14), (16, .int y16), (18, .int y18), (19, .int y19)]) hx hb dL_holds_571 hl (k := 14) rfl rfl (by decide) rfl (fun ls hl => ?_)
              refine lv_goto (tgt := 210) hx hb dL_holds_574 (by decide) ?_
              exact hK210 r_38.2 y7 y8 0 y12 (y15 + 1) _ _ _ (by omega) hf hP hD hS ls (lv_sub hl [2, 3, 4, 5, 6, 7, 8, 9, 1, 10, 11, 12, 13, 14, 0] rfl)
            · have hf := ip_ h_40 hf
              exact bl_535 y1 y2 y3 y4 y6 y10 y11 y13 y14 K154 e_154 hK154 K210 e_210 hK210 r_38.2 y7 y8 y12 y15 y16 y18 y19 _ _ _ (by omega) hf hP hD hS ls (lv_sub hl [0, 1, 2, 3, 4, 5, 6, 7, 8, 9, 10, 11, 12, 13, 14, 15, 16] rfl)
          · have hf := ip_ h_39 hf
            refine lv_iconst (v := 1) hx hb dL_holds_525 (by decide) ?_
            refine lv_goto (tgt := 530) hx hb dL_holds_526 (by decide) ?_
            refine lv_iload hx hb dL_holds_530 (lv_at hl 15 rfl) ?_
            refine lv_icmp_ne (tgt := 568) hx hb dL_holds_532 (by decide) (fun h_41 => ?_) (fun h_41 => ?_)
            · have hf := in_ h_41 hf
              refine lv_iconst (v := 0) hx hb dL_holds_568 (by decide) ?_
              refine lv_istore (lv' := [(9, .int 0), (0, .ref (b_0 0)), (1, .int y1), (2, .int y2), (3, .int y3), (4, .long y4), (6, .int y6), (7, .int y7), (8, .int y8), (10, .int y10), (11, .int y11), (12, .int y12), (13, .int y13), (14, .int y14), (15, .int y15), (16, .int y16), (18, .int y18), (19, .int y19)]) hx hb dL_holds_569 hl (by decide) rfl (fun ls hl => ?_)
              refine lv_iinc (v := (y15 + 1)) (lv' := [(15, .int (y15 + 1)), (9, .int 0), (0, .ref (b_0 0)), (1, .int y1), (2, .int y2), (3, .int y3), (4, .long y4), (6, .int y6), (7, .int y7), (8, .int y8), (10, .int y10), (11, .int y11), (12, .int y12), (13, .int y13), (14, .int y14), (16, .int y16), (18, .int y18), (19, .int y19)]) hx hb dL_holds_571 hl (k := 14) rfl rfl (by decide) rfl (fun ls hl => ?_)
              refine lv_goto (tgt := 210) hx hb dL_holds_574 (by decide) ?_
              exact hK210 r_38.2 y7 y8 0 y12 (y15 + 1) _ _ _ (by omega) hf hP hD hS ls (lv_sub hl [2, 3, 4, 5, 6, 7, 8, 9, 1, 10, 11, 12, 13, 14, 0] rfl)
            · have hf := ip_ h_41 hf
              exact bl_535 y1 y2 y3 y4 y6 y10 y11 y13 y14 K154 e_154 hK154 K210 e_210 hK210 r_38.2 y7 y8 y12 y15 y16 y18 y19 _ _ _ (by omega) hf hP hD hS ls (lv_sub hl [0, 1, 2, 3, 4, 5, 6, 7, 8, 9, 10, 11, 12, 13, 14, 15, 16] rfl)
      · have hf := ip_ h_35 hf
        refine lv_iload hx hb dL_holds_476 (lv_at hl 15 rfl) ?_
        refine lv_if_ne (tgt := 568) hx hb dL_holds_478 (by decide) (fun h_42 => ?_) (fun h_42 => ?_)
        · have hf := in_ h_42 hf
          refine lv_iconst (v := 0) hx hb dL_holds_568 (by decide) ?_
          refine lv_istore (lv' := [(9, .int 0), (0, .ref (b_0 0)), (1, .int y1), (2, .int y2), (3, .int y3), (4, .long y4), (6, .int y6), (7, .int y7), (8, .int y8), (10, .int y10), (11, .int y11), (12, .int y12), (13, .int y13), (14, .int y14), (15, .int y15), (16, .int y16), (18, .int y18), (19, .int y19)]) hx hb dL_holds_569 hl (by decide) rfl (fun ls hl => ?_)
          refine lv_iinc (v := (y15 + 1)) (lv' := [(15, .int (y15 + 1)), (9, .int 0), (0, .ref (b_0 0)), (1, .int y1), (2, .int y2), (3, .int y3), (4, .long y4), (6, .int y6), (7, .int y7), (8, .int y8), (10, .int y10), (11, .int y11), (12, .int y12), (13, .int y13), (14, .int y14), (16, .int y16), (18, .int y18), (19, .int y19)]) hx hb dL_holds_571 hl (k := 14) rfl rfl (by decide) rfl (fun ls hl => ?_)
          refine lv_goto (tgt := 210) hx hb dL_holds_574 (by decide) ?_
          exact hK210 c_o_0 y7 y8 0 y12 (y15 + 1) _ _ _ (by omega) hf hP hD hS ls (lv_sub hl [2, 3, 4, 5, 6, 7, 8, 9, 1, 10, 11, 12, 13, 14, 0] rfl)
        · have hf := ip_ h_42 hf
          refine lv_goto (tgt := 535) hx hb dL_holds_481 (by decide) ?_
          exact bl_535 y1 y2 y3 y4 y6 y10 y11 y13 y14 K154 e_154 hK154 K210 e_210 hK210 c_o_0 y7 y8 y12 y15 y16 y18 y19 _ _ _ (by omega) hf hP hD hS ls (lv_sub hl [0, 1, 2, 3, 4, 5, 6, 7, 8, 9, 10, 11, 12, 13, 14, 15, 16] rfl)
  have bl_430 : ∀ (y1 : Int32), ∀ (y2 : Int32), ∀ (y3 : Int32), ∀ (y4 : Int64), ∀ (y6 : Int32), ∀ (y10 : Int32), ∀ (y11 : Int32), ∀ (y13 : Int32), ∀ (y14 : Int32), ∀ (K154 : OT → Int32 → Int32 → Int32 → Int32 → Int32 → Option (Bool × OT)) (e_154 : Nat), (∀ (c_o_0 : OT) (y6 : Int32) (y7 : Int32) (y8 : Int32) (y9 : Int32) (y10 : Int32) (H : Heap) (locs : List Loc) (cc : Nat), cc + e_154 ≤ 6966 → K154 c_o_0 y6 y7 y8 y9 y10 = some R → va_P G vwCl (oW cy b_0 bk_0 c_o_0) H → va_D A (oW cy b_0 bk_0 c_o_0) → va_S A s.heap H locs → ∀ (ls : Array Slot), lv_has ls 20 [(0, .ref (b_0 0)), (1, .int y1), (2, .int y2), (3, .int y3), (4, .long y4), (6, .int y6), (7, .int y7), (8, .int y8), (9, .int y9), (10, .int y10)] → W p l e ({ frames := 11, cells := 6966, slots := 41796, locals := 218 } : Room) s m [.ref (b_0 0)].toArray below meth c H locs cc (6 * cc) (MQ below (va_Qi (fun r (_ : Unit) => r = bI R.1) (fun _ t => Wd G cy A (oW cy b_0 bk_0 R.2) t) A) [.ref (b_0 0)].toArray s 6966 41796 A) (F0 m 154 ls [])) → ∀ (K210 : OT → Int32 → Int32 → Int32 → Int32 → Int32 → Option (Bool × OT)) (e_210 : Nat), (∀ (c_o_0 : OT) (y7 : Int32) (y8 : Int32) (y9 : Int32) (y12 : Int32) (y15 : Int32) (H : Heap) (locs : List Loc) (cc : Nat), cc + e_210 ≤ 6966 → K210 c_o_0 y7 y8 y9 y12 y15 = some R → va_P G vwCl (oW cy b_0 bk_0 c_o_0) H → va_D A (oW cy b_0 bk_0 c_o_0) → va_S A s.heap H locs → ∀ (ls : Array Slot), lv_has ls 20 [(0, .ref (b_0 0)), (1, .int y1), (2, .int y2), (3, .int y3), (4, .long y4), (6, .int y6), (7, .int y7), (8, .int y8), (9, .int y9), (10, .int y10), (11, .int y11), (12, .int y12), (13, .int y13), (14, .int y14), (15, .int y15)] → W p l e ({ frames := 11, cells := 6966, slots := 41796, locals := 218 } : Room) s m [.ref (b_0 0)].toArray below meth c H locs cc (6 * cc) (MQ below (va_Qi (fun r (_ : Unit) => r = bI R.1) (fun _ t => Wd G cy A (oW cy b_0 bk_0 R.2) t) A) [.ref (b_0 0)].toArray s 6966 41796 A) (F0 m 210 ls [])) → ∀ (c_o_0 : OT) (y7 : Int32) (y8 : Int32) (y15 : Int32) (y16 : Int32) (y17 : Int32) (y18 : Int32) (y19 : Int32) (z0 : Int32) (z1 : Int32) (H : Heap) (locs : List Loc) (cc : Nat), cc + (12 + e_210) ≤ 6966 → f_L_holds_b430 n y1 y2 y3 y4 y6 y10 y11 y13 y14 K154 K210 c_o_0 y7 y8 y15 y16 y17 y18 y19 z0 z1 = some R → va_P G vwCl (oW cy b_0 bk_0 c_o_0) H → va_D A (oW cy b_0 bk_0 c_o_0) → va_S A s.heap H locs → ∀ (ls : Array Slot), lv_has ls 20 [(0, .ref (b_0 0)), (1, .int y1), (2, .int y2), (3, .int y3), (4, .long y4), (6, .int y6), (7, .int y7), (8, .int y8), (10, .int y10), (11, .int y11), (13, .int y13), (14, .int y14), (15, .int y15), (16, .int y16), (17, .int y17), (18, .int y18), (19, .int y19)] → W p l e ({ frames := 11, cells := 6966, slots := 41796, locals := 218 } : Room) s m [.ref (b_0 0)].toArray below meth c H locs cc (6 * cc) (MQ below (va_Qi (fun r (_ : Unit) => r = bI R.1) (fun _ t => Wd G cy A (oW cy b_0 bk_0 R.2) t) A) [.ref (b_0 0)].toArray s 6966 41796 A) (F0 m 430 ls [.int z1, .int z0]) := by
    intro y1
    intro y2
    intro y3
    intro y4
    intro y6
    intro y10
    intro y11
    intro y13
    intro y14
    intro K154 e_154 hK154
    intro K210 e_210 hK210
    intro c_o_0 y7 y8 y15 y16 y17 y18 y19 z0 z1 H locs cc hcc hf hP hD hS ls hl
    unfold f_L_holds_b430 at hf
    refine lv_iadd hx hb dL_holds_430 ?_
    refine lv_istore (lv' := [(12, .int (z0 + z1)), (0, .ref (b_0 0)), (1, .int y1), (2, .int y2), (3, .int y3), (4, .long y4), (6, .int y6), (7, .int y7), (8, .int y8), (10, .int y10), (11, .int y11), (13, .int y13), (14, .int y14), (15, .int y15), (16, .int y16), (17, .int y17), (18, .int y18), (19, .int y19)]) hx hb dL_holds_431 hl (by decide) rfl (fun ls hl => ?_)
    refine lv_iload hx hb dL_holds_433 (lv_at hl 14 rfl) ?_
    refine lv_iconst (v := (-1)) hx hb dL_holds_435 (by decide) ?_
    refine lv_icmp_ne (tgt := 443) hx hb dL_holds_436 (by decide) (fun h_43 => ?_) (fun h_43 => ?_)
    · have hf := in_ h_43 hf
      refine lv_iconst (v := 0) hx hb dL_holds_443 (by decide) ?_
      refine lv_iload hx hb dL_holds_444 (lv_at hl 15 rfl) ?_
      refine lv_if_eq (tgt := 466) hx hb dL_holds_446 (by decide) (fun h_44 => ?_) (fun h_44 => ?_)
      · have hf := ip_ h_44 hf
        refine lv_iconst (v := 0) hx hb dL_holds_466 (by decide) ?_
        exact bl_467 y1 y2 y3 y4 y6 y10 y11 y13 y14 K154 e_154 hK154 K210 e_210 hK210 c_o_0 y7 y8 (z0 + z1) y15 y16 y18 y19 0 0 _ _ _ (by omega) hf hP hD hS ls (lv_sub hl [1, 2, 3, 4, 5, 6, 7, 8, 9, 10, 0, 11, 12, 13, 14, 16, 17] rfl)
      · have hf := in_ h_44 hf
        refine lv_aload_n hx hb dL_holds_449 rfl (lv_at hl 1 rfl) ?_
        refine lv_iconst (v := 5) hx hb dL_holds_450 (by decide) ?_
        refine lv_iload hx hb dL_holds_451 (lv_at hl 13 rfl) ?_
        refine lv_iconst (v := 0) hx hb dL_holds_453 (by decide) ?_
        refine lv_iconst (v := 0) hx hb dL_holds_454 (by decide) ?_
        obtain ⟨r_45, hh_r_45, hf⟩ := obd_some hf
        refine kb_i6 (V := r_45.1) (w1 := oW cy b_0 bk_0 r_45.2) hS (Nat.le_of_ble_eq_true rfl) (Jn_1 hP hD hS hA) (va_runS (As := [.ref (b_0 0), .int 5, .int y15, .int 0, .int 0]) (rest := [.int 0]) ⟨hx, hb, hml, hown, hts⟩ (c_L_call (l := l) hfl G cy b_0 bk_0 H.size c_o_0 5 y15 0 0 n r_45 hh_r_45) (va_cwS 5 hts gB_holds_L_call rfl rfl rfl ddN_L_call ⟨(Nat.le_of_ble_eq_true rfl), (Nat.le_of_ble_eq_true rfl)⟩) (preSN hXN (hE.kept hS.2.1) (Jn_1 hP hD hS hA).1 hP hK hD hN) rfl rfl hl.1 rfl (lv_room (Nat.le_of_ble_eq_true rfl)) dL_holds_455 ⟨by show cc + 3 ≤ 6966; omega, by show 6 * cc + 18 ≤ 41796; omega⟩) (fun H locs hP hD hS => ?_)
        have hP : va_P G vwCl (oW cy b_0 bk_0 r_45.2) H := hP
        have hD : va_D A (oW cy b_0 bk_0 r_45.2) := hD
        refine lv_iconst (v := 2) hx hb dL_holds_458 (by decide) ?_
        refine lv_icmp_ge (tgt := 466) hx hb dL_holds_459 (by decide) (fun h_46 => ?_) (fun h_46 => ?_)
        · have hf := ip_ h_46 hf
          refine lv_iconst (v := 0) hx hb dL_holds_466 (by decide) ?_
          exact bl_467 y1 y2 y3 y4 y6 y10 y11 y13 y14 K154 e_154 hK154 K210 e_210 hK210 r_45.2 y7 y8 (z0 + z1) y15 y16 y18 y19 0 0 _ _ _ (by omega) hf hP hD hS ls (lv_sub hl [1, 2, 3, 4, 5, 6, 7, 8, 9, 10, 0, 11, 12, 13, 14, 16, 17] rfl)
        · have hf := in_ h_46 hf
          refine lv_iconst (v := 1) hx hb dL_holds_462 (by decide) ?_
          refine lv_goto (tgt := 467) hx hb dL_holds_463 (by decide) ?_
          exact bl_467 y1 y2 y3 y4 y6 y10 y11 y13 y14 K154 e_154 hK154 K210 e_210 hK210 r_45.2 y7 y8 (z0 + z1) y15 y16 y18 y19 0 1 _ _ _ (by omega) hf hP hD hS ls (lv_sub hl [1, 2, 3, 4, 5, 6, 7, 8, 9, 10, 0, 11, 12, 13, 14, 16, 17] rfl)
    · have hf := ip_ h_43 hf
      refine lv_iconst (v := 1) hx hb dL_holds_439 (by decide) ?_
      refine lv_goto (tgt := 444) hx hb dL_holds_440 (by decide) ?_
      refine lv_iload hx hb dL_holds_444 (lv_at hl 15 rfl) ?_
      refine lv_if_eq (tgt := 466) hx hb dL_holds_446 (by decide) (fun h_47 => ?_) (fun h_47 => ?_)
      · have hf := ip_ h_47 hf
        refine lv_iconst (v := 0) hx hb dL_holds_466 (by decide) ?_
        exact bl_467 y1 y2 y3 y4 y6 y10 y11 y13 y14 K154 e_154 hK154 K210 e_210 hK210 c_o_0 y7 y8 (z0 + z1) y15 y16 y18 y19 1 0 _ _ _ (by omega) hf hP hD hS ls (lv_sub hl [1, 2, 3, 4, 5, 6, 7, 8, 9, 10, 0, 11, 12, 13, 14, 16, 17] rfl)
      · have hf := in_ h_47 hf
        refine lv_aload_n hx hb dL_holds_449 rfl (lv_at hl 1 rfl) ?_
        refine lv_iconst (v := 5) hx hb dL_holds_450 (by decide) ?_
        refine lv_iload hx hb dL_holds_451 (lv_at hl 13 rfl) ?_
        refine lv_iconst (v := 0) hx hb dL_holds_453 (by decide) ?_
        refine lv_iconst (v := 0) hx hb dL_holds_454 (by decide) ?_
        obtain ⟨r_48, hh_r_48, hf⟩ := obd_some hf
        refine kb_i6 (V := r_48.1) (w1 := oW cy b_0 bk_0 r_48.2) hS (Nat.le_of_ble_eq_true rfl) (Jn_1 hP hD hS hA) (va_runS (As := [.ref (b_0 0), .int 5, .int y15, .int 0, .int 0]) (rest := [.int 1]) ⟨hx, hb, hml, hown, hts⟩ (c_L_call (l := l) hfl G cy b_0 bk_0 H.size c_o_0 5 y15 0 0 n r_48 hh_r_48) (va_cwS 5 hts gB_holds_L_call rfl rfl rfl ddN_L_call ⟨(Nat.le_of_ble_eq_true rfl), (Nat.le_of_ble_eq_true rfl)⟩) (preSN hXN (hE.kept hS.2.1) (Jn_1 hP hD hS hA).1 hP hK hD hN) rfl rfl hl.1 rfl (lv_room (Nat.le_of_ble_eq_true rfl)) dL_holds_455 ⟨by show cc + 3 ≤ 6966; omega, by show 6 * cc + 18 ≤ 41796; omega⟩) (fun H locs hP hD hS => ?_)
        have hP : va_P G vwCl (oW cy b_0 bk_0 r_48.2) H := hP
        have hD : va_D A (oW cy b_0 bk_0 r_48.2) := hD
        refine lv_iconst (v := 2) hx hb dL_holds_458 (by decide) ?_
        refine lv_icmp_ge (tgt := 466) hx hb dL_holds_459 (by decide) (fun h_49 => ?_) (fun h_49 => ?_)
        · have hf := ip_ h_49 hf
          refine lv_iconst (v := 0) hx hb dL_holds_466 (by decide) ?_
          exact bl_467 y1 y2 y3 y4 y6 y10 y11 y13 y14 K154 e_154 hK154 K210 e_210 hK210 r_48.2 y7 y8 (z0 + z1) y15 y16 y18 y19 1 0 _ _ _ (by omega) hf hP hD hS ls (lv_sub hl [1, 2, 3, 4, 5, 6, 7, 8, 9, 10, 0, 11, 12, 13, 14, 16, 17] rfl)
        · have hf := in_ h_49 hf
          refine lv_iconst (v := 1) hx hb dL_holds_462 (by decide) ?_
          refine lv_goto (tgt := 467) hx hb dL_holds_463 (by decide) ?_
          exact bl_467 y1 y2 y3 y4 y6 y10 y11 y13 y14 K154 e_154 hK154 K210 e_210 hK210 r_48.2 y7 y8 (z0 + z1) y15 y16 y18 y19 1 1 _ _ _ (by omega) hf hP hD hS ls (lv_sub hl [1, 2, 3, 4, 5, 6, 7, 8, 9, 10, 0, 11, 12, 13, 14, 16, 17] rfl)
  have bl_384 : ∀ (y1 : Int32), ∀ (y2 : Int32), ∀ (y3 : Int32), ∀ (y4 : Int64), ∀ (y6 : Int32), ∀ (y10 : Int32), ∀ (y11 : Int32), ∀ (y13 : Int32), ∀ (y14 : Int32), ∀ (K154 : OT → Int32 → Int32 → Int32 → Int32 → Int32 → Option (Bool × OT)) (e_154 : Nat), (∀ (c_o_0 : OT) (y6 : Int32) (y7 : Int32) (y8 : Int32) (y9 : Int32) (y10 : Int32) (H : Heap) (locs : List Loc) (cc : Nat), cc + e_154 ≤ 6966 → K154 c_o_0 y6 y7 y8 y9 y10 = some R → va_P G vwCl (oW cy b_0 bk_0 c_o_0) H → va_D A (oW cy b_0 bk_0 c_o_0) → va_S A s.heap H locs → ∀ (ls : Array Slot), lv_has ls 20 [(0, .ref (b_0 0)), (1, .int y1), (2, .int y2), (3, .int y3), (4, .long y4), (6, .int y6), (7, .int y7), (8, .int y8), (9, .int y9), (10, .int y10)] → W p l e ({ frames := 11, cells := 6966, slots := 41796, locals := 218 } : Room) s m [.ref (b_0 0)].toArray below meth c H locs cc (6 * cc) (MQ below (va_Qi (fun r (_ : Unit) => r = bI R.1) (fun _ t => Wd G cy A (oW cy b_0 bk_0 R.2) t) A) [.ref (b_0 0)].toArray s 6966 41796 A) (F0 m 154 ls [])) → ∀ (K210 : OT → Int32 → Int32 → Int32 → Int32 → Int32 → Option (Bool × OT)) (e_210 : Nat), (∀ (c_o_0 : OT) (y7 : Int32) (y8 : Int32) (y9 : Int32) (y12 : Int32) (y15 : Int32) (H : Heap) (locs : List Loc) (cc : Nat), cc + e_210 ≤ 6966 → K210 c_o_0 y7 y8 y9 y12 y15 = some R → va_P G vwCl (oW cy b_0 bk_0 c_o_0) H → va_D A (oW cy b_0 bk_0 c_o_0) → va_S A s.heap H locs → ∀ (ls : Array Slot), lv_has ls 20 [(0, .ref (b_0 0)), (1, .int y1), (2, .int y2), (3, .int y3), (4, .long y4), (6, .int y6), (7, .int y7), (8, .int y8), (9, .int y9), (10, .int y10), (11, .int y11), (12, .int y12), (13, .int y13), (14, .int y14), (15, .int y15)] → W p l e ({ frames := 11, cells := 6966, slots := 41796, locals := 218 } : Room) s m [.ref (b_0 0)].toArray below meth c H locs cc (6 * cc) (MQ below (va_Qi (fun r (_ : Unit) => r = bI R.1) (fun _ t => Wd G cy A (oW cy b_0 bk_0 R.2) t) A) [.ref (b_0 0)].toArray s 6966 41796 A) (F0 m 210 ls [])) → ∀ (c_o_0 : OT) (y7 : Int32) (y8 : Int32) (y12 : Int32) (y15 : Int32) (y16 : Int32) (y17 : Int32) (y18 : Int32) (z0 : Int32) (H : Heap) (locs : List Loc) (cc : Nat), cc + (15 + e_210) ≤ 6966 → f_L_holds_b384 n y1 y2 y3 y4 y6 y10 y11 y13 y14 K154 K210 c_o_0 y7 y8 y12 y15 y16 y17 y18 z0 = some R → va_P G vwCl (oW cy b_0 bk_0 c_o_0) H → va_D A (oW cy b_0 bk_0 c_o_0) → va_S A s.heap H locs → ∀ (ls : Array Slot), lv_has ls 20 [(0, .ref (b_0 0)), (1, .int y1), (2, .int y2), (3, .int y3), (4, .long y4), (6, .int y6), (7, .int y7), (8, .int y8), (10, .int y10), (11, .int y11), (12, .int y12), (13, .int y13), (14, .int y14), (15, .int y15), (16, .int y16), (17, .int y17), (18, .int y18)] → W p l e ({ frames := 11, cells := 6966, slots := 41796, locals := 218 } : Room) s m [.ref (b_0 0)].toArray below meth c H locs cc (6 * cc) (MQ below (va_Qi (fun r (_ : Unit) => r = bI R.1) (fun _ t => Wd G cy A (oW cy b_0 bk_0 R.2) t) A) [.ref (b_0 0)].toArray s 6966 41796 A) (F0 m 384 ls [.int z0]) := by
    intro y1
    intro y2
    intro y3
    intro y4
    intro y6
    intro y10
    intro y11
    intro y13
    intro y14
    intro K154 e_154 hK154
    intro K210 e_210 hK210
    intro c_o_0 y7 y8 y12 y15 y16 y17 y18 z0 H locs cc hcc hf hP hD hS ls hl
    unfold f_L_holds_b384 at hf
    refine lv_istore (lv' := [(19, .int z0), (0, .ref (b_0 0)), (1, .int y1), (2, .int y2), (3, .int y3), (4, .long y4), (6, .int y6), (7, .int y7), (8, .int y8), (10, .int y10), (11, .int y11), (12, .int y12), (13, .int y13), (14, .int y14), (15, .int y15), (16, .int y16), (17, .int y17), (18, .int y18)]) hx hb dL_holds_384 hl (by decide) rfl (fun ls hl => ?_)
    refine lv_iload hx hb dL_holds_386 (lv_at hl 11 rfl) ?_
    refine lv_iload hx hb dL_holds_388 (lv_at hl 15 rfl) ?_
    refine lv_iconst (v := (-1)) hx hb dL_holds_390 (by decide) ?_
    refine lv_icmp_ne (tgt := 415) hx hb dL_holds_391 (by decide) (fun h_50 => ?_) (fun h_50 => ?_)
    · have hf := in_ h_50 hf
      refine lv_iload hx hb dL_holds_415 (lv_at hl 0 rfl) ?_
      refine lv_if_eq (tgt := 429) hx hb dL_holds_417 (by decide) (fun h_51 => ?_) (fun h_51 => ?_)
      · have hf := ip_ h_51 hf
        refine lv_iconst (v := 0) hx hb dL_holds_429 (by decide) ?_
        exact bl_430 y1 y2 y3 y4 y6 y10 y11 y13 y14 K154 e_154 hK154 K210 e_210 hK210 c_o_0 y7 y8 y15 y16 y17 y18 z0 y12 0 _ _ _ (by omega) hf hP hD hS ls (lv_sub hl [1, 2, 3, 4, 5, 6, 7, 8, 9, 10, 12, 13, 14, 15, 16, 17, 0] rfl)
      · have hf := in_ h_51 hf
        refine lv_iload hx hb dL_holds_420 (lv_at hl 17 rfl) ?_
        refine lv_if_ne (tgt := 429) hx hb dL_holds_422 (by decide) (fun h_52 => ?_) (fun h_52 => ?_)
        · have hf := in_ h_52 hf
          refine lv_iconst (v := 0) hx hb dL_holds_429 (by decide) ?_
          exact bl_430 y1 y2 y3 y4 y6 y10 y11 y13 y14 K154 e_154 hK154 K210 e_210 hK210 c_o_0 y7 y8 y15 y16 y17 y18 z0 y12 0 _ _ _ (by omega) hf hP hD hS ls (lv_sub hl [1, 2, 3, 4, 5, 6, 7, 8, 9, 10, 12, 13, 14, 15, 16, 17, 0] rfl)
        · have hf := ip_ h_52 hf
          refine lv_iconst (v := 1) hx hb dL_holds_425 (by decide) ?_
          refine lv_goto (tgt := 430) hx hb dL_holds_426 (by decide) ?_
          exact bl_430 y1 y2 y3 y4 y6 y10 y11 y13 y14 K154 e_154 hK154 K210 e_210 hK210 c_o_0 y7 y8 y15 y16 y17 y18 z0 y12 1 _ _ _ (by omega) hf hP hD hS ls (lv_sub hl [1, 2, 3, 4, 5, 6, 7, 8, 9, 10, 12, 13, 14, 15, 16, 17, 0] rfl)
    · have hf := ip_ h_50 hf
      refine lv_aload_n hx hb dL_holds_394 rfl (lv_at hl 1 rfl) ?_
      refine lv_iconst (v := 5) hx hb dL_holds_395 (by decide) ?_
      refine lv_iload hx hb dL_holds_396 (lv_at hl 14 rfl) ?_
      refine lv_iconst (v := 0) hx hb dL_holds_398 (by decide) ?_
      refine lv_iconst (v := 0) hx hb dL_holds_399 (by decide) ?_
      obtain ⟨r_53, hh_r_53, hf⟩ := obd_some hf
      refine kb_i6 (V := r_53.1) (w1 := oW cy b_0 bk_0 r_53.2) hS (Nat.le_of_ble_eq_true rfl) (Jn_1 hP hD hS hA) (va_runS (As := [.ref (b_0 0), .int 5, .int y15, .int 0, .int 0]) (rest := [.int y12]) ⟨hx, hb, hml, hown, hts⟩ (c_L_call (l := l) hfl G cy b_0 bk_0 H.size c_o_0 5 y15 0 0 n r_53 hh_r_53) (va_cwS 5 hts gB_holds_L_call rfl rfl rfl ddN_L_call ⟨(Nat.le_of_ble_eq_true rfl), (Nat.le_of_ble_eq_true rfl)⟩) (preSN hXN (hE.kept hS.2.1) (Jn_1 hP hD hS hA).1 hP hK hD hN) rfl rfl hl.1 rfl (lv_room (Nat.le_of_ble_eq_true rfl)) dL_holds_400 ⟨by show cc + 3 ≤ 6966; omega, by show 6 * cc + 18 ≤ 41796; omega⟩) (fun H locs hP hD hS => ?_)
      have hP : va_P G vwCl (oW cy b_0 bk_0 r_53.2) H := hP
      have hD : va_D A (oW cy b_0 bk_0 r_53.2) := hD
      refine lv_iconst (v := 1) hx hb dL_holds_403 (by decide) ?_
      refine lv_icmp_ne (tgt := 411) hx hb dL_holds_404 (by decide) (fun h_54 => ?_) (fun h_54 => ?_)
      · have hf := in_ h_54 hf
        refine lv_iconst (v := 0) hx hb dL_holds_411 (by decide) ?_
        refine lv_goto (tgt := 430) hx hb dL_holds_412 (by decide) ?_
        exact bl_430 y1 y2 y3 y4 y6 y10 y11 y13 y14 K154 e_154 hK154 K210 e_210 hK210 r_53.2 y7 y8 y15 y16 y17 y18 z0 y12 0 _ _ _ (by omega) hf hP hD hS ls (lv_sub hl [1, 2, 3, 4, 5, 6, 7, 8, 9, 10, 12, 13, 14, 15, 16, 17, 0] rfl)
      · have hf := ip_ h_54 hf
        refine lv_iconst (v := 1) hx hb dL_holds_407 (by decide) ?_
        refine lv_goto (tgt := 430) hx hb dL_holds_408 (by decide) ?_
        exact bl_430 y1 y2 y3 y4 y6 y10 y11 y13 y14 K154 e_154 hK154 K210 e_210 hK210 r_53.2 y7 y8 y15 y16 y17 y18 z0 y12 1 _ _ _ (by omega) hf hP hD hS ls (lv_sub hl [1, 2, 3, 4, 5, 6, 7, 8, 9, 10, 12, 13, 14, 15, 16, 17, 0] rfl)
  have bl_342 : ∀ (y1 : Int32), ∀ (y2 : Int32), ∀ (y3 : Int32), ∀ (y4 : Int64), ∀ (y6 : Int32), ∀ (y10 : Int32), ∀ (y11 : Int32), ∀ (y13 : Int32), ∀ (y14 : Int32), ∀ (K154 : OT → Int32 → Int32 → Int32 → Int32 → Int32 → Option (Bool × OT)) (e_154 : Nat), (∀ (c_o_0 : OT) (y6 : Int32) (y7 : Int32) (y8 : Int32) (y9 : Int32) (y10 : Int32) (H : Heap) (locs : List Loc) (cc : Nat), cc + e_154 ≤ 6966 → K154 c_o_0 y6 y7 y8 y9 y10 = some R → va_P G vwCl (oW cy b_0 bk_0 c_o_0) H → va_D A (oW cy b_0 bk_0 c_o_0) → va_S A s.heap H locs → ∀ (ls : Array Slot), lv_has ls 20 [(0, .ref (b_0 0)), (1, .int y1), (2, .int y2), (3, .int y3), (4, .long y4), (6, .int y6), (7, .int y7), (8, .int y8), (9, .int y9), (10, .int y10)] → W p l e ({ frames := 11, cells := 6966, slots := 41796, locals := 218 } : Room) s m [.ref (b_0 0)].toArray below meth c H locs cc (6 * cc) (MQ below (va_Qi (fun r (_ : Unit) => r = bI R.1) (fun _ t => Wd G cy A (oW cy b_0 bk_0 R.2) t) A) [.ref (b_0 0)].toArray s 6966 41796 A) (F0 m 154 ls [])) → ∀ (K210 : OT → Int32 → Int32 → Int32 → Int32 → Int32 → Option (Bool × OT)) (e_210 : Nat), (∀ (c_o_0 : OT) (y7 : Int32) (y8 : Int32) (y9 : Int32) (y12 : Int32) (y15 : Int32) (H : Heap) (locs : List Loc) (cc : Nat), cc + e_210 ≤ 6966 → K210 c_o_0 y7 y8 y9 y12 y15 = some R → va_P G vwCl (oW cy b_0 bk_0 c_o_0) H → va_D A (oW cy b_0 bk_0 c_o_0) → va_S A s.heap H locs → ∀ (ls : Array Slot), lv_has ls 20 [(0, .ref (b_0 0)), (1, .int y1), (2, .int y2), (3, .int y3), (4, .long y4), (6, .int y6), (7, .int y7), (8, .int y8), (9, .int y9), (10, .int y10), (11, .int y11), (12, .int y12), (13, .int y13), (14, .int y14), (15, .int y15)] → W p l e ({ frames := 11, cells := 6966, slots := 41796, locals := 218 } : Room) s m [.ref (b_0 0)].toArray below meth c H locs cc (6 * cc) (MQ below (va_Qi (fun r (_ : Unit) => r = bI R.1) (fun _ t => Wd G cy A (oW cy b_0 bk_0 R.2) t) A) [.ref (b_0 0)].toArray s 6966 41796 A) (F0 m 210 ls [])) → ∀ (c_o_0 : OT) (y8 : Int32) (y12 : Int32) (y15 : Int32) (y16 : Int32) (y17 : Int32) (y18 : Int32) (z0 : Int32) (z1 : Int32) (H : Heap) (locs : List Loc) (cc : Nat), cc + (15 + e_210) ≤ 6966 → f_L_holds_b342 n y1 y2 y3 y4 y6 y10 y11 y13 y14 K154 K210 c_o_0 y8 y12 y15 y16 y17 y18 z0 z1 = some R → va_P G vwCl (oW cy b_0 bk_0 c_o_0) H → va_D A (oW cy b_0 bk_0 c_o_0) → va_S A s.heap H locs → ∀ (ls : Array Slot), lv_has ls 20 [(0, .ref (b_0 0)), (1, .int y1), (2, .int y2), (3, .int y3), (4, .long y4), (6, .int y6), (8, .int y8), (10, .int y10), (11, .int y11), (12, .int y12), (13, .int y13), (14, .int y14), (15, .int y15), (16, .int y16), (17, .int y17), (18, .int y18)] → W p l e ({ frames := 11, cells := 6966, slots := 41796, locals := 218 } : Room) s m [.ref (b_0 0)].toArray below meth c H locs cc (6 * cc) (MQ below (va_Qi (fun r (_ : Unit) => r = bI R.1) (fun _ t => Wd G cy A (oW cy b_0 bk_0 R.2) t) A) [.ref (b_0 0)].toArray s 6966 41796 A) (F0 m 342 ls [.int z1, .int z0]) := by
    intro y1
    intro y2
    intro y3
    intro y4
    intro y6
    intro y10
    intro y11
    intro y13
    intro y14
    intro K154 e_154 hK154
    intro K210 e_210 hK210
    intro c_o_0 y8 y12 y15 y16 y17 y18 z0 z1 H locs cc hcc hf hP hD hS ls hl
    unfold f_L_holds_b342 at hf
    refine lv_iadd hx hb dL_holds_342 ?_
    refine lv_istore (lv' := [(7, .int (z0 + z1)), (0, .ref (b_0 0)), (1, .int y1), (2, .int y2), (3, .int y3), (4, .long y4), (6, .int y6), (8, .int y8), (10, .int y10), (11, .int y11), (12, .int y12), (13, .int y13), (14, .int y14), (15, .int y15), (16, .int y16), (17, .int y17), (18, .int y18)]) hx hb dL_holds_343 hl (by decide) rfl (fun ls hl => ?_)
    refine lv_iload hx hb dL_holds_345 (lv_at hl 7 rfl) ?_
    refine lv_iload hx hb dL_holds_347 (lv_at hl 14 rfl) ?_
    refine lv_iconst (v := (-1)) hx hb dL_holds_349 (by decide) ?_
    refine lv_icmp_ne (tgt := 357) hx hb dL_holds_350 (by decide) (fun h_55 => ?_) (fun h_55 => ?_)
    · have hf := in_ h_55 hf
      refine lv_iconst (v := 0) hx hb dL_holds_357 (by decide) ?_
      refine lv_iadd hx hb dL_holds_358 ?_
      refine lv_istore (lv' := [(8, .int (y8 + 0)), (7, .int (z0 + z1)), (0, .ref (b_0 0)), (1, .int y1), (2, .int y2), (3, .int y3), (4, .long y4), (6, .int y6), (10, .int y10), (11, .int y11), (12, .int y12), (13, .int y13), (14, .int y14), (15, .int y15), (16, .int y16), (17, .int y17), (18, .int y18)]) hx hb dL_holds_359 hl (by decide) rfl (fun ls hl => ?_)
      refine lv_iload hx hb dL_holds_361 (lv_at hl 14 rfl) ?_
      refine lv_iconst (v := (-1)) hx hb dL_holds_363 (by decide) ?_
      refine lv_icmp_eq (tgt := 383) hx hb dL_holds_364 (by decide) (fun h_56 => ?_) (fun h_56 => ?_)
      · have hf := ip_ h_56 hf
        refine lv_iconst (v := 0) hx hb dL_holds_383 (by decide) ?_
        exact bl_384 y1 y2 y3 y4 y6 y10 y11 y13 y14 K154 e_154 hK154 K210 e_210 hK210 c_o_0 (z0 + z1) (y8 + 0) y12 y15 y16 y17 y18 0 _ _ _ (by omega) hf hP hD hS ls (lv_sub hl [2, 3, 4, 5, 6, 7, 1, 0, 8, 9, 10, 11, 12, 13, 14, 15, 16] rfl)
      · have hf := in_ h_56 hf
        refine lv_lload hx hb dL_holds_367 (lv_at hl 6 rfl) ?_
        refine lv_iload hx hb dL_holds_369 (lv_at hl 14 rfl) ?_
        refine lv_lshr (v := (jsr y4 y16)) hx hb dL_holds_371 rfl ?_
        refine lv_lconst (v := 1) hx hb dL_holds_372 rfl ?_
        refine lv_land hx hb dL_holds_373 ?_
        refine lv_lconst (v := 1) hx hb dL_holds_374 rfl ?_
        refine W.lcmp hx hb dL_holds_375 ?_
        refine lv_if_ne (tgt := 383) hx hb dL_holds_376 (by decide) (fun h_57 => ?_) (fun h_57 => ?_)
        · have hf := in_ (fun q => h_57 (lgc_eq.mpr q)) hf
          refine lv_iconst (v := 0) hx hb dL_holds_383 (by decide) ?_
          exact bl_384 y1 y2 y3 y4 y6 y10 y11 y13 y14 K154 e_154 hK154 K210 e_210 hK210 c_o_0 (z0 + z1) (y8 + 0) y12 y15 y16 y17 y18 0 _ _ _ (by omega) hf hP hD hS ls (lv_sub hl [2, 3, 4, 5, 6, 7, 1, 0, 8, 9, 10, 11, 12, 13, 14, 15, 16] rfl)
        · have hf := ip_ (lgc_eq.mp h_57) hf
          refine lv_iconst (v := 1) hx hb dL_holds_379 (by decide) ?_
          refine lv_goto (tgt := 384) hx hb dL_holds_380 (by decide) ?_
          exact bl_384 y1 y2 y3 y4 y6 y10 y11 y13 y14 K154 e_154 hK154 K210 e_210 hK210 c_o_0 (z0 + z1) (y8 + 0) y12 y15 y16 y17 y18 1 _ _ _ (by omega) hf hP hD hS ls (lv_sub hl [2, 3, 4, 5, 6, 7, 1, 0, 8, 9, 10, 11, 12, 13, 14, 15, 16] rfl)
    · have hf := ip_ h_55 hf
      refine lv_iconst (v := 1) hx hb dL_holds_353 (by decide) ?_
      refine lv_goto (tgt := 358) hx hb dL_holds_354 (by decide) ?_
      refine lv_iadd hx hb dL_holds_358 ?_
      refine lv_istore (lv' := [(8, .int (y8 + 1)), (7, .int (z0 + z1)), (0, .ref (b_0 0)), (1, .int y1), (2, .int y2), (3, .int y3), (4, .long y4), (6, .int y6), (10, .int y10), (11, .int y11), (12, .int y12), (13, .int y13), (14, .int y14), (15, .int y15), (16, .int y16), (17, .int y17), (18, .int y18)]) hx hb dL_holds_359 hl (by decide) rfl (fun ls hl => ?_)
      refine lv_iload hx hb dL_holds_361 (lv_at hl 14 rfl) ?_
      refine lv_iconst (v := (-1)) hx hb dL_holds_363 (by decide) ?_
      refine lv_icmp_eq (tgt := 383) hx hb dL_holds_364 (by decide) (fun h_58 => ?_) (fun h_58 => ?_)
      · have hf := ip_ h_58 hf
        refine lv_iconst (v := 0) hx hb dL_holds_383 (by decide) ?_
        exact bl_384 y1 y2 y3 y4 y6 y10 y11 y13 y14 K154 e_154 hK154 K210 e_210 hK210 c_o_0 (z0 + z1) (y8 + 1) y12 y15 y16 y17 y18 0 _ _ _ (by omega) hf hP hD hS ls (lv_sub hl [2, 3, 4, 5, 6, 7, 1, 0, 8, 9, 10, 11, 12, 13, 14, 15, 16] rfl)
      · have hf := in_ h_58 hf
        refine lv_lload hx hb dL_holds_367 (lv_at hl 6 rfl) ?_
        refine lv_iload hx hb dL_holds_369 (lv_at hl 14 rfl) ?_
        refine lv_lshr (v := (jsr y4 y16)) hx hb dL_holds_371 rfl ?_
        refine lv_lconst (v := 1) hx hb dL_holds_372 rfl ?_
        refine lv_land hx hb dL_holds_373 ?_
        refine lv_lconst (v := 1) hx hb dL_holds_374 rfl ?_
        refine W.lcmp hx hb dL_holds_375 ?_
        refine lv_if_ne (tgt := 383) hx hb dL_holds_376 (by decide) (fun h_59 => ?_) (fun h_59 => ?_)
        · have hf := in_ (fun q => h_59 (lgc_eq.mpr q)) hf
          refine lv_iconst (v := 0) hx hb dL_holds_383 (by decide) ?_
          exact bl_384 y1 y2 y3 y4 y6 y10 y11 y13 y14 K154 e_154 hK154 K210 e_210 hK210 c_o_0 (z0 + z1) (y8 + 1) y12 y15 y16 y17 y18 0 _ _ _ (by omega) hf hP hD hS ls (lv_sub hl [2, 3, 4, 5, 6, 7, 1, 0, 8, 9, 10, 11, 12, 13, 14, 15, 16] rfl)
        · have hf := ip_ (lgc_eq.mp h_59) hf
          refine lv_iconst (v := 1) hx hb dL_holds_379 (by decide) ?_
          refine lv_goto (tgt := 384) hx hb dL_holds_380 (by decide) ?_
          exact bl_384 y1 y2 y3 y4 y6 y10 y11 y13 y14 K154 e_154 hK154 K210 e_210 hK210 c_o_0 (z0 + z1) (y8 + 1) y12 y15 y16 y17 y18 1 _ _ _ (by omega) hf hP hD hS ls (lv_sub hl [2, 3, 4, 5, 6, 7, 1, 0, 8, 9, 10, 11, 12, 13, 14, 15, 16] rfl)
  have bl_310 : ∀ (y1 : Int32), ∀ (y2 : Int32), ∀ (y3 : Int32), ∀ (y4 : Int64), ∀ (y6 : Int32), ∀ (y10 : Int32), ∀ (y11 : Int32), ∀ (y13 : Int32), ∀ (y14 : Int32), ∀ (K154 : OT → Int32 → Int32 → Int32 → Int32 → Int32 → Option (Bool × OT)) (e_154 : Nat), (∀ (c_o_0 : OT) (y6 : Int32) (y7 : Int32) (y8 : Int32) (y9 : Int32) (y10 : Int32) (H : Heap) (locs : List Loc) (cc : Nat), cc + e_154 ≤ 6966 → K154 c_o_0 y6 y7 y8 y9 y10 = some R → va_P G vwCl (oW cy b_0 bk_0 c_o_0) H → va_D A (oW cy b_0 bk_0 c_o_0) → va_S A s.heap H locs → ∀ (ls : Array Slot), lv_has ls 20 [(0, .ref (b_0 0)), (1, .int y1), (2, .int y2), (3, .int y3), (4, .long y4), (6, .int y6), (7, .int y7), (8, .int y8), (9, .int y9), (10, .int y10)] → W p l e ({ frames := 11, cells := 6966, slots := 41796, locals := 218 } : Room) s m [.ref (b_0 0)].toArray below meth c H locs cc (6 * cc) (MQ below (va_Qi (fun r (_ : Unit) => r = bI R.1) (fun _ t => Wd G cy A (oW cy b_0 bk_0 R.2) t) A) [.ref (b_0 0)].toArray s 6966 41796 A) (F0 m 154 ls [])) → ∀ (K210 : OT → Int32 → Int32 → Int32 → Int32 → Int32 → Option (Bool × OT)) (e_210 : Nat), (∀ (c_o_0 : OT) (y7 : Int32) (y8 : Int32) (y9 : Int32) (y12 : Int32) (y15 : Int32) (H : Heap) (locs : List Loc) (cc : Nat), cc + e_210 ≤ 6966 → K210 c_o_0 y7 y8 y9 y12 y15 = some R → va_P G vwCl (oW cy b_0 bk_0 c_o_0) H → va_D A (oW cy b_0 bk_0 c_o_0) → va_S A s.heap H locs → ∀ (ls : Array Slot), lv_has ls 20 [(0, .ref (b_0 0)), (1, .int y1), (2, .int y2), (3, .int y3), (4, .long y4), (6, .int y6), (7, .int y7), (8, .int y8), (9, .int y9), (10, .int y10), (11, .int y11), (12, .int y12), (13, .int y13), (14, .int y14), (15, .int y15)] → W p l e ({ frames := 11, cells := 6966, slots := 41796, locals := 218 } : Room) s m [.ref (b_0 0)].toArray below meth c H locs cc (6 * cc) (MQ below (va_Qi (fun r (_ : Unit) => r = bI R.1) (fun _ t => Wd G cy A (oW cy b_0 bk_0 R.2) t) A) [.ref (b_0 0)].toArray s 6966 41796 A) (F0 m 210 ls [])) → ∀ (c_o_0 : OT) (y7 : Int32) (y8 : Int32) (y12 : Int32) (y15 : Int32) (y16 : Int32) (z0 : Int32) (H : Heap) (locs : List Loc) (cc : Nat), cc + (15 + e_210) ≤ 6966 → f_L_holds_b310 n y1 y2 y3 y4 y6 y10 y11 y13 y14 K154 K210 c_o_0 y7 y8 y12 y15 y16 z0 = some R → va_P G vwCl (oW cy b_0 bk_0 c_o_0) H → va_D A (oW cy b_0 bk_0 c_o_0) → va_S A s.heap H locs → ∀ (ls : Array Slot), lv_has ls 20 [(0, .ref (b_0 0)), (1, .int y1), (2, .int y2), (3, .int y3), (4, .long y4), (6, .int y6), (7, .int y7), (8, .int y8), (10, .int y10), (11, .int y11), (12, .int y12), (13, .int y13), (14, .int y14), (15, .int y15), (16, .int y16)] → W p l e ({ frames := 11, cells := 6966, slots := 41796, locals := 218 } : Room) s m [.ref (b_0 0)].toArray below meth c H locs cc (6 * cc) (MQ below (va_Qi (fun r (_ : Unit) => r = bI R.1) (fun _ t => Wd G cy A (oW cy b_0 bk_0 R.2) t) A) [.ref (b_0 0)].toArray s 6966 41796 A) (F0 m 310 ls [.int z0]) := by
    intro y1
    intro y2
    intro y3
    intro y4
    intro y6
    intro y10
    intro y11
    intro y13
    intro y14
    intro K154 e_154 hK154
    intro K210 e_210 hK210
    intro c_o_0 y7 y8 y12 y15 y16 z0 H locs cc hcc hf hP hD hS ls hl
    unfold f_L_holds_b310 at hf
    refine lv_istore (lv' := [(17, .int z0), (0, .ref (b_0 0)), (1, .int y1), (2, .int y2), (3, .int y3), (4, .long y4), (6, .int y6), (7, .int y7), (8, .int y8), (10, .int y10), (11, .int y11), (12, .int y12), (13, .int y13), (14, .int y14), (15, .int y15), (16, .int y16)]) hx hb dL_holds_310 hl (by decide) rfl (fun ls hl => ?_)
    refine lv_iload hx hb dL_holds_312 (lv_at hl 12 rfl) ?_
    refine lv_iload hx hb dL_holds_314 (lv_at hl 14 rfl) ?_
    refine lv_ishr hx hb dL_holds_316 ?_
    refine lv_iconst (v := 1) hx hb dL_holds_317 (by decide) ?_
    refine lv_iand hx hb dL_holds_318 ?_
    refine lv_iconst (v := 1) hx hb dL_holds_319 (by decide) ?_
    refine lv_icmp_ne (tgt := 327) hx hb dL_holds_320 (by decide) (fun h_60 => ?_) (fun h_60 => ?_)
    · have hf := in_ h_60 hf
      refine lv_iconst (v := 0) hx hb dL_holds_327 (by decide) ?_
      refine lv_istore (lv' := [(18, .int 0), (17, .int z0), (0, .ref (b_0 0)), (1, .int y1), (2, .int y2), (3, .int y3), (4, .long y4), (6, .int y6), (7, .int y7), (8, .int y8), (10, .int y10), (11, .int y11), (12, .int y12), (13, .int y13), (14, .int y14), (15, .int y15), (16, .int y16)]) hx hb dL_holds_328 hl (by decide) rfl (fun ls hl => ?_)
      refine lv_iload hx hb dL_holds_330 (lv_at hl 8 rfl) ?_
      refine lv_iload hx hb dL_holds_332 (lv_at hl 0 rfl) ?_
      refine lv_if_eq (tgt := 341) hx hb dL_holds_334 (by decide) (fun h_61 => ?_) (fun h_61 => ?_)
      rotate_left
      · exact absurd rfl h_61
      refine lv_iconst (v := 0) hx hb dL_holds_341 (by decide) ?_
      exact bl_342 y1 y2 y3 y4 y6 y10 y11 y13 y14 K154 e_154 hK154 K210 e_210 hK210 c_o_0 y8 y12 y15 y16 z0 0 y7 0 _ _ _ (by omega) hf hP hD hS ls (lv_sub hl [2, 3, 4, 5, 6, 7, 9, 10, 11, 12, 13, 14, 15, 16, 1, 0] rfl)
    · have hf := ip_ h_60 hf
      refine lv_iconst (v := 1) hx hb dL_holds_323 (by decide) ?_
      refine lv_goto (tgt := 328) hx hb dL_holds_324 (by decide) ?_
      refine lv_istore (lv' := [(18, .int 1), (17, .int z0), (0, .ref (b_0 0)), (1, .int y1), (2, .int y2), (3, .int y3), (4, .long y4), (6, .int y6), (7, .int y7), (8, .int y8), (10, .int y10), (11, .int y11), (12, .int y12), (13, .int y13), (14, .int y14), (15, .int y15), (16, .int y16)]) hx hb dL_holds_328 hl (by decide) rfl (fun ls hl => ?_)
      refine lv_iload hx hb dL_holds_330 (lv_at hl 8 rfl) ?_
      refine lv_iload hx hb dL_holds_332 (lv_at hl 0 rfl) ?_
      refine lv_if_eq (tgt := 341) hx hb dL_holds_334 (by decide) (fun h_62 => ?_) (fun h_62 => ?_)
      · exact absurd h_62 (by decide)
      refine lv_iconst (v := 1) hx hb dL_holds_337 (by decide) ?_
      refine lv_goto (tgt := 342) hx hb dL_holds_338 (by decide) ?_
      exact bl_342 y1 y2 y3 y4 y6 y10 y11 y13 y14 K154 e_154 hK154 K210 e_210 hK210 c_o_0 y8 y12 y15 y16 z0 1 y7 1 _ _ _ (by omega) hf hP hD hS ls (lv_sub hl [2, 3, 4, 5, 6, 7, 9, 10, 11, 12, 13, 14, 15, 16, 1, 0] rfl)
  have bl_210 : ∀ (y1 : Int32), ∀ (y2 : Int32), ∀ (y3 : Int32), ∀ (y4 : Int64), ∀ (y6 : Int32), ∀ (y10 : Int32), ∀ (y11 : Int32), ∀ (y13 : Int32), ∀ (y14 : Int32), ∀ (K154 : OT → Int32 → Int32 → Int32 → Int32 → Int32 → Option (Bool × OT)) (e_154 : Nat), (∀ (c_o_0 : OT) (y6 : Int32) (y7 : Int32) (y8 : Int32) (y9 : Int32) (y10 : Int32) (H : Heap) (locs : List Loc) (cc : Nat), cc + e_154 ≤ 6966 → K154 c_o_0 y6 y7 y8 y9 y10 = some R → va_P G vwCl (oW cy b_0 bk_0 c_o_0) H → va_D A (oW cy b_0 bk_0 c_o_0) → va_S A s.heap H locs → ∀ (ls : Array Slot), lv_has ls 20 [(0, .ref (b_0 0)), (1, .int y1), (2, .int y2), (3, .int y3), (4, .long y4), (6, .int y6), (7, .int y7), (8, .int y8), (9, .int y9), (10, .int y10)] → W p l e ({ frames := 11, cells := 6966, slots := 41796, locals := 218 } : Room) s m [.ref (b_0 0)].toArray below meth c H locs cc (6 * cc) (MQ below (va_Qi (fun r (_ : Unit) => r = bI R.1) (fun _ t => Wd G cy A (oW cy b_0 bk_0 R.2) t) A) [.ref (b_0 0)].toArray s 6966 41796 A) (F0 m 154 ls [])) → ∀ (k : Nat), ∀ (c_o_0 : OT) (y7 : Int32) (y8 : Int32) (y9 : Int32) (y12 : Int32) (y15 : Int32) (H : Heap) (locs : List Loc) (cc : Nat), cc + (k * 18 + (9 + e_154)) ≤ 6966 → f_L_holds_b210 n y1 y2 y3 y4 y6 y10 y11 y13 y14 K154 k c_o_0 y7 y8 y9 y12 y15 = some R → va_P G vwCl (oW cy b_0 bk_0 c_o_0) H → va_D A (oW cy b_0 bk_0 c_o_0) → va_S A s.heap H locs → ∀ (ls : Array Slot), lv_has ls 20 [(0, .ref (b_0 0)), (1, .int y1), (2, .int y2), (3, .int y3), (4, .long y4), (6, .int y6), (7, .int y7), (8, .int y8), (9, .int y9), (10, .int y10), (11, .int y11), (12, .int y12), (13, .int y13), (14, .int y14), (15, .int y15)] → W p l e ({ frames := 11, cells := 6966, slots := 41796, locals := 218 } : Room) s m [.ref (b_0 0)].toArray below meth c H locs cc (6 * cc) (MQ below (va_Qi (fun r (_ : Unit) => r = bI R.1) (fun _ t => Wd G cy A (oW cy b_0 bk_0 R.2) t) A) [.ref (b_0 0)].toArray s 6966 41796 A) (F0 m 210 ls []) := by
    intro y1
    intro y2
    intro y3
    intro y4
    intro y6
    intro y10
    intro y11
    intro y13
    intro y14
    intro K154 e_154 hK154
    intro k
    induction k with
    | zero =>
      intro c_o_0 y7 y8 y9 y12 y15 H locs cc hcc hf; cases hf
    | succ k ih =>
      intro c_o_0 y7 y8 y9 y12 y15 H locs cc hcc hf hP hD hS ls hl
      have hf := (f_L_holds_b210_s n y1 y2 y3 y4 y6 y10 y11 y13 y14 K154 k c_o_0 y7 y8 y9 y12 y15).symm.trans hf
      refine lv_iload hx hb dL_holds_210 (lv_at hl 14 rfl) ?_
      refine lv_iconst (v := 4) hx hb dL_holds_212 (by decide) ?_
      refine lv_icmp_ge (tgt := 577) hx hb dL_holds_213 (by decide) (fun h_63 => ?_) (fun h_63 => ?_)
      · have hf := ip_ h_63 hf
        exact bl_577 y1 y2 y3 y4 K154 e_154 hK154 c_o_0 y6 y7 y8 y9 y10 y11 y12 y14 _ _ _ (by omega) hf hP hD hS ls (lv_sub hl [0, 1, 2, 3, 4, 5, 6, 7, 8, 9, 10, 11, 13] rfl)
      · have hf := in_ h_63 hf
        refine lv_iload hx hb dL_holds_216 (lv_at hl 8 rfl) ?_
        refine lv_if_eq (tgt := 577) hx hb dL_holds_218 (by decide) (fun h_64 => ?_) (fun h_64 => ?_)
        · have hf := ip_ h_64 hf
          exact bl_577 y1 y2 y3 y4 K154 e_154 hK154 c_o_0 y6 y7 y8 y9 y10 y11 y12 y14 _ _ _ (by omega) hf hP hD hS ls (lv_sub hl [0, 1, 2, 3, 4, 5, 6, 7, 8, 9, 10, 11, 13] rfl)
        · have hf := in_ h_64 hf
          refine lv_aload_n hx hb dL_holds_221 rfl (lv_at hl 0 rfl) ?_
          refine lv_iconst (v := 4) hx hb dL_holds_222 (by decide) ?_
          refine lv_iload hx hb dL_holds_223 (lv_at hl 9 rfl) ?_
          refine lv_iload hx hb dL_holds_225 (lv_at hl 14 rfl) ?_
          refine lv_iconst (v := 0) hx hb dL_holds_227 (by decide) ?_
          obtain ⟨r_65, hh_r_65, hf⟩ := obd_some hf
          refine kb_i6 (V := r_65.1) (w1 := oW cy b_0 bk_0 r_65.2) hS (Nat.le_of_ble_eq_true rfl) (Jn_1 hP hD hS hA) (va_runS (As := [.ref (b_0 0), .int 4, .int y10, .int y15, .int 0]) (rest := []) ⟨hx, hb, hml, hown, hts⟩ (c_L_call (l := l) hfl G cy b_0 bk_0 H.size c_o_0 4 y10 y15 0 n r_65 hh_r_65) (va_cwS 5 hts gB_holds_L_call rfl rfl rfl ddN_L_call ⟨(Nat.le_of_ble_eq_true rfl), (Nat.le_of_ble_eq_true rfl)⟩) (preSN hXN (hE.kept hS.2.1) (Jn_1 hP hD hS hA).1 hP hK hD hN) rfl rfl hl.1 rfl (lv_room (Nat.le_of_ble_eq_true rfl)) dL_holds_228 ⟨by show cc + 3 ≤ 6966; omega, by show 6 * cc + 18 ≤ 41796; omega⟩) (fun H locs hP hD hS => ?_)
          have hP : va_P G vwCl (oW cy b_0 bk_0 r_65.2) H := hP
          have hD : va_D A (oW cy b_0 bk_0 r_65.2) := hD
          refine lv_istore (lv' := [(16, .int r_65.1), (0, .ref (b_0 0)), (1, .int y1), (2, .int y2), (3, .int y3), (4, .long y4), (6, .int y6), (7, .int y7), (8, .int y8), (9, .int y9), (10, .int y10), (11, .int y11), (12, .int y12), (13, .int y13), (14, .int y14), (15, .int y15)]) hx hb dL_holds_231 hl (by decide) rfl (fun ls hl => ?_)
          refine lv_iload hx hb dL_holds_233 (lv_at hl 15 rfl) ?_
          refine lv_if_ne (tgt := 252) hx hb dL_holds_235 (by decide) (fun h_66 => ?_) (fun h_66 => ?_)
          · have hf := in_ h_66 hf
            refine lv_iload hx hb dL_holds_252 (lv_at hl 15 rfl) ?_
            refine lv_iconst (v := 1) hx hb dL_holds_254 (by decide) ?_
            refine lv_icmp_ne (tgt := 276) hx hb dL_holds_255 (by decide) (fun h_67 => ?_) (fun h_67 => ?_)
            · have hf := in_ h_67 hf
              refine lv_iload hx hb dL_holds_276 (lv_at hl 15 rfl) ?_
              refine lv_iconst (v := 2) hx hb dL_holds_278 (by decide) ?_
              refine lv_icmp_ne (tgt := 298) hx hb dL_holds_279 (by decide) (fun h_68 => ?_) (fun h_68 => ?_)
              · have hf := in_ h_68 hf
                refine lv_iload hx hb dL_holds_298 (lv_at hl 10 rfl) ?_
                refine lv_iload_n hx hb dL_holds_300 rfl (lv_at hl 3 rfl) ?_
                by_cases q_69 : y2 = 0
                · have hf := ip_ q_69 hf; cases hf
                have hf := in_ q_69 hf
                refine lv_irem hx hb dL_holds_301 q_69 ?_
                refine lv_if_ne (tgt := 309) hx hb dL_holds_302 (by decide) (fun h_70 => ?_) (fun h_70 => ?_)
                · have hf := in_ h_70 hf
                  refine lv_iconst (v := 0) hx hb dL_holds_309 (by decide) ?_
                  exact bl_310 y1 y2 y3 y4 y6 y10 y11 y13 y14 K154 e_154 hK154 (f_L_holds_b210 n y1 y2 y3 y4 y6 y10 y11 y13 y14 K154 k) (k * 18 + (9 + e_154)) ih r_65.2 y7 y8 y12 y15 r_65.1 0 _ _ _ (by omega) hf hP hD hS ls (lv_sub hl [1, 2, 3, 4, 5, 6, 7, 8, 10, 11, 12, 13, 14, 15, 0] rfl)
                · have hf := ip_ h_70 hf
                  refine lv_iconst (v := 1) hx hb dL_holds_305 (by decide) ?_
                  refine lv_goto (tgt := 310) hx hb dL_holds_306 (by decide) ?_
                  exact bl_310 y1 y2 y3 y4 y6 y10 y11 y13 y14 K154 e_154 hK154 (f_L_holds_b210 n y1 y2 y3 y4 y6 y10 y11 y13 y14 K154 k) (k * 18 + (9 + e_154)) ih r_65.2 y7 y8 y12 y15 r_65.1 1 _ _ _ (by omega) hf hP hD hS ls (lv_sub hl [1, 2, 3, 4, 5, 6, 7, 8, 10, 11, 12, 13, 14, 15, 0] rfl)
              · have hf := ip_ h_68 hf
                refine lv_iload hx hb dL_holds_282 (lv_at hl 10 rfl) ?_
                refine lv_iload_n hx hb dL_holds_284 rfl (lv_at hl 4 rfl) ?_
                refine lv_iload_n hx hb dL_holds_285 rfl (lv_at hl 3 rfl) ?_
                refine lv_isub hx hb dL_holds_286 ?_
                refine lv_icmp_lt (tgt := 294) hx hb dL_holds_287 (by decide) (fun h_71 => ?_) (fun h_71 => ?_)
                · have hf := ip_ h_71 hf
                  refine lv_iconst (v := 0) hx hb dL_holds_294 (by decide) ?_
                  refine lv_goto (tgt := 310) hx hb dL_holds_295 (by decide) ?_
                  exact bl_310 y1 y2 y3 y4 y6 y10 y11 y13 y14 K154 e_154 hK154 (f_L_holds_b210 n y1 y2 y3 y4 y6 y10 y11 y13 y14 K154 k) (k * 18 + (9 + e_154)) ih r_65.2 y7 y8 y12 y15 r_65.1 0 _ _ _ (by omega) hf hP hD hS ls (lv_sub hl [1, 2, 3, 4, 5, 6, 7, 8, 10, 11, 12, 13, 14, 15, 0] rfl)
                · have hf := in_ h_71 hf
                  refine lv_iconst (v := 1) hx hb dL_holds_290 (by decide) ?_
                  refine lv_goto (tgt := 310) hx hb dL_holds_291 (by decide) ?_
                  exact bl_310 y1 y2 y3 y4 y6 y10 y11 y13 y14 K154 e_154 hK154 (f_L_holds_b210 n y1 y2 y3 y4 y6 y10 y11 y13 y14 K154 k) (k * 18 + (9 + e_154)) ih r_65.2 y7 y8 y12 y15 r_65.1 1 _ _ _ (by omega) hf hP hD hS ls (lv_sub hl [1, 2, 3, 4, 5, 6, 7, 8, 10, 11, 12, 13, 14, 15, 0] rfl)
            · have hf := ip_ h_67 hf
              refine lv_iload hx hb dL_holds_258 (lv_at hl 10 rfl) ?_
              refine lv_iload_n hx hb dL_holds_260 rfl (lv_at hl 3 rfl) ?_
              by_cases q_72 : y2 = 0
              · have hf := ip_ q_72 hf; cases hf
              have hf := in_ q_72 hf
              refine lv_irem hx hb dL_holds_261 q_72 ?_
              refine lv_iload_n hx hb dL_holds_262 rfl (lv_at hl 3 rfl) ?_
              refine lv_iconst (v := 1) hx hb dL_holds_263 (by decide) ?_
              refine lv_isub hx hb dL_holds_264 ?_
              refine lv_icmp_ne (tgt := 272) hx hb dL_holds_265 (by decide) (fun h_73 => ?_) (fun h_73 => ?_)
              · have hf := in_ h_73 hf
                refine lv_iconst (v := 0) hx hb dL_holds_272 (by decide) ?_
                refine lv_goto (tgt := 310) hx hb dL_holds_273 (by decide) ?_
                exact bl_310 y1 y2 y3 y4 y6 y10 y11 y13 y14 K154 e_154 hK154 (f_L_holds_b210 n y1 y2 y3 y4 y6 y10 y11 y13 y14 K154 k) (k * 18 + (9 + e_154)) ih r_65.2 y7 y8 y12 y15 r_65.1 0 _ _ _ (by omega) hf hP hD hS ls (lv_sub hl [1, 2, 3, 4, 5, 6, 7, 8, 10, 11, 12, 13, 14, 15, 0] rfl)
              · have hf := ip_ h_73 hf
                refine lv_iconst (v := 1) hx hb dL_holds_268 (by decide) ?_
                refine lv_goto (tgt := 310) hx hb dL_holds_269 (by decide) ?_
                exact bl_310 y1 y2 y3 y4 y6 y10 y11 y13 y14 K154 e_154 hK154 (f_L_holds_b210 n y1 y2 y3 y4 y6 y10 y11 y13 y14 K154 k) (k * 18 + (9 + e_154)) ih r_65.2 y7 y8 y12 y15 r_65.1 1 _ _ _ (by omega) hf hP hD hS ls (lv_sub hl [1, 2, 3, 4, 5, 6, 7, 8, 10, 11, 12, 13, 14, 15, 0] rfl)
          · have hf := ip_ h_66 hf
            refine lv_iload hx hb dL_holds_238 (lv_at hl 10 rfl) ?_
            refine lv_iload_n hx hb dL_holds_240 rfl (lv_at hl 3 rfl) ?_
            refine lv_icmp_ge (tgt := 248) hx hb dL_holds_241 (by decide) (fun h_74 => ?_) (fun h_74 => ?_)
            · have hf := ip_ h_74 hf
              refine lv_iconst (v := 0) hx hb dL_holds_248 (by decide) ?_
              refine lv_goto (tgt := 310) hx hb dL_holds_249 (by decide) ?_
              exact bl_310 y1 y2 y3 y4 y6 y10 y11 y13 y14 K154 e_154 hK154 (f_L_holds_b210 n y1 y2 y3 y4 y6 y10 y11 y13 y14 K154 k) (k * 18 + (9 + e_154)) ih r_65.2 y7 y8 y12 y15 r_65.1 0 _ _ _ (by omega) hf hP hD hS ls (lv_sub hl [1, 2, 3, 4, 5, 6, 7, 8, 10, 11, 12, 13, 14, 15, 0] rfl)
            · have hf := in_ h_74 hf
              refine lv_iconst (v := 1) hx hb dL_holds_244 (by decide) ?_
              refine lv_goto (tgt := 310) hx hb dL_holds_245 (by decide) ?_
              exact bl_310 y1 y2 y3 y4 y6 y10 y11 y13 y14 K154 e_154 hK154 (f_L_holds_b210 n y1 y2 y3 y4 y6 y10 y11 y13 y14 K154 k) (k * 18 + (9 + e_154)) ih r_65.2 y7 y8 y12 y15 r_65.1 1 _ _ _ (by omega) hf hP hD hS ls (lv_sub hl [1, 2, 3, 4, 5, 6, 7, 8, 10, 11, 12, 13, 14, 15, 0] rfl)
  have bl_154 : ∀ (y1 : Int32), ∀ (y2 : Int32), ∀ (y3 : Int32), ∀ (y4 : Int64), ∀ (k : Nat), ∀ (c_o_0 : OT) (y6 : Int32) (y7 : Int32) (y8 : Int32) (y9 : Int32) (y10 : Int32) (H : Heap) (locs : List Loc) (cc : Nat), cc + (k * 105 + (105)) ≤ 6966 → f_L_holds_b154 n y1 y2 y3 y4 k c_o_0 y6 y7 y8 y9 y10 = some R → va_P G vwCl (oW cy b_0 bk_0 c_o_0) H → va_D A (oW cy b_0 bk_0 c_o_0) → va_S A s.heap H locs → ∀ (ls : Array Slot), lv_has ls 20 [(0, .ref (b_0 0)), (1, .int y1), (2, .int y2), (3, .int y3), (4, .long y4), (6, .int y6), (7, .int y7), (8, .int y8), (9, .int y9), (10, .int y10)] → W p l e ({ frames := 11, cells := 6966, slots := 41796, locals := 218 } : Room) s m [.ref (b_0 0)].toArray below meth c H locs cc (6 * cc) (MQ below (va_Qi (fun r (_ : Unit) => r = bI R.1) (fun _ t => Wd G cy A (oW cy b_0 bk_0 R.2) t) A) [.ref (b_0 0)].toArray s 6966 41796 A) (F0 m 154 ls []) := by
    intro y1
    intro y2
    intro y3
    intro y4
    intro k
    induction k with
    | zero =>
      intro c_o_0 y6 y7 y8 y9 y10 H locs cc hcc hf; cases hf
    | succ k ih =>
      intro c_o_0 y6 y7 y8 y9 y10 H locs cc hcc hf hP hD hS ls hl
      have hf := (f_L_holds_b154_s n y1 y2 y3 y4 k c_o_0 y6 y7 y8 y9 y10).symm.trans hf
      refine lv_iload hx hb dL_holds_154 (lv_at hl 9 rfl) ?_
      refine lv_iload_n hx hb dL_holds_156 rfl (lv_at hl 3 rfl) ?_
      refine lv_icmp_ge (tgt := 661) hx hb dL_holds_157 (by decide) (fun h_75 => ?_) (fun h_75 => ?_)
      · have hf := ip_ h_75 hf
        exact bl_661  c_o_0 y1 y2 y6 y7 y8 y9 _ _ _ (by omega) hf hP hD hS ls (lv_sub hl [0, 1, 2, 5, 6, 7, 8] rfl)
      · have hf := in_ h_75 hf
        refine lv_iload hx hb dL_holds_160 (lv_at hl 8 rfl) ?_
        refine lv_if_eq (tgt := 661) hx hb dL_holds_162 (by decide) (fun h_76 => ?_) (fun h_76 => ?_)
        · have hf := ip_ h_76 hf
          exact bl_661  c_o_0 y1 y2 y6 y7 y8 y9 _ _ _ (by omega) hf hP hD hS ls (lv_sub hl [0, 1, 2, 5, 6, 7, 8] rfl)
        · have hf := in_ h_76 hf
          refine lv_lload hx hb dL_holds_165 (lv_at hl 4 rfl) ?_
          refine lv_iload hx hb dL_holds_167 (lv_at hl 9 rfl) ?_
          refine lv_lshr (v := (jsr y4 y10)) hx hb dL_holds_169 rfl ?_
          refine lv_lconst (v := 1) hx hb dL_holds_170 rfl ?_
          refine lv_land hx hb dL_holds_171 ?_
          refine lv_l2i (v := ((jsr y4 y10) &&& 1).toInt32) hx hb dL_holds_172 rfl ?_
          refine lv_istore (lv' := [(11, .int (((jsr y4 y10) &&& 1).toInt32)), (0, .ref (b_0 0)), (1, .int y1), (2, .int y2), (3, .int y3), (4, .long y4), (6, .int y6), (7, .int y7), (8, .int y8), (9, .int y9), (10, .int y10)]) hx hb dL_holds_173 hl (by decide) rfl (fun ls hl => ?_)
          refine lv_iconst (v := 0) hx hb dL_holds_175 (by decide) ?_
          refine lv_istore (lv' := [(12, .int 0), (11, .int (((jsr y4 y10) &&& 1).toInt32)), (0, .ref (b_0 0)), (1, .int y1), (2, .int y2), (3, .int y3), (4, .long y4), (6, .int y6), (7, .int y7), (8, .int y8), (9, .int y9), (10, .int y10)]) hx hb dL_holds_176 hl (by decide) rfl (fun ls hl => ?_)
          refine lv_aload_n hx hb dL_holds_178 rfl (lv_at hl 2 rfl) ?_
          refine lv_iconst (v := 3) hx hb dL_holds_179 (by decide) ?_
          refine lv_iload hx hb dL_holds_180 (lv_at hl 11 rfl) ?_
          refine lv_iconst (v := 3) hx hb dL_holds_182 (by decide) ?_
          refine lv_iconst (v := 0) hx hb dL_holds_183 (by decide) ?_
          obtain ⟨r_77, hh_r_77, hf⟩ := obd_some hf
          refine kb_i6 (V := r_77.1) (w1 := oW cy b_0 bk_0 r_77.2) hS (Nat.le_of_ble_eq_true rfl) (Jn_1 hP hD hS hA) (va_runS (As := [.ref (b_0 0), .int 3, .int y10, .int 3, .int 0]) (rest := []) ⟨hx, hb, hml, hown, hts⟩ (c_L_call (l := l) hfl G cy b_0 bk_0 H.size c_o_0 3 y10 3 0 n r_77 hh_r_77) (va_cwS 5 hts gB_holds_L_call rfl rfl rfl ddN_L_call ⟨(Nat.le_of_ble_eq_true rfl), (Nat.le_of_ble_eq_true rfl)⟩) (preSN hXN (hE.kept hS.2.1) (Jn_1 hP hD hS hA).1 hP hK hD hN) rfl rfl hl.1 rfl (lv_room (Nat.le_of_ble_eq_true rfl)) dL_holds_184 ⟨by show cc + 3 ≤ 6966; omega, by show 6 * cc + 18 ≤ 41796; omega⟩) (fun H locs hP hD hS => ?_)
          have hP : va_P G vwCl (oW cy b_0 bk_0 r_77.2) H := hP
          have hD : va_D A (oW cy b_0 bk_0 r_77.2) := hD
          refine lv_istore (lv' := [(13, .int r_77.1), (12, .int 0), (11, .int (((jsr y4 y10) &&& 1).toInt32)), (0, .ref (b_0 0)), (1, .int y1), (2, .int y2), (3, .int y3), (4, .long y4), (6, .int y6), (7, .int y7), (8, .int y8), (9, .int y9), (10, .int y10)]) hx hb dL_holds_187 hl (by decide) rfl (fun ls hl => ?_)
          refine lv_aload_n hx hb dL_holds_189 rfl (lv_at hl 3 rfl) ?_
          refine lv_iconst (v := 3) hx hb dL_holds_190 (by decide) ?_
          refine lv_iload hx hb dL_holds_191 (lv_at hl 12 rfl) ?_
          refine lv_iconst (v := 2) hx hb dL_holds_193 (by decide) ?_
          refine lv_iconst (v := 0) hx hb dL_holds_194 (by decide) ?_
          obtain ⟨r_78, hh_r_78, hf⟩ := obd_some hf
          refine kb_i6 (V := r_78.1) (w1 := oW cy b_0 bk_0 r_78.2) hS (Nat.le_of_ble_eq_true rfl) (Jn_1 hP hD hS hA) (va_runS (As := [.ref (b_0 0), .int 3, .int y10, .int 2, .int 0]) (rest := []) ⟨hx, hb, hml, hown, hts⟩ (c_L_call (l := l) hfl G cy b_0 bk_0 H.size r_77.2 3 y10 2 0 n r_78 hh_r_78) (va_cwS 5 hts gB_holds_L_call rfl rfl rfl ddN_L_call ⟨(Nat.le_of_ble_eq_true rfl), (Nat.le_of_ble_eq_true rfl)⟩) (preSN hXN (hE.kept hS.2.1) (Jn_1 hP hD hS hA).1 hP hK hD hN) rfl rfl hl.1 rfl (lv_room (Nat.le_of_ble_eq_true rfl)) dL_holds_195 ⟨by show cc + 3 + 3 ≤ 6966; omega, by show 6 * (cc + 3) + 18 ≤ 41796; omega⟩) (fun H locs hP hD hS => ?_)
          have hP : va_P G vwCl (oW cy b_0 bk_0 r_78.2) H := hP
          have hD : va_D A (oW cy b_0 bk_0 r_78.2) := hD
          refine lv_istore (lv' := [(14, .int r_78.1), (13, .int r_77.1), (12, .int 0), (11, .int (((jsr y4 y10) &&& 1).toInt32)), (0, .ref (b_0 0)), (1, .int y1), (2, .int y2), (3, .int y3), (4, .long y4), (6, .int y6), (7, .int y7), (8, .int y8), (9, .int y9), (10, .int y10)]) hx hb dL_holds_198 hl (by decide) rfl (fun ls hl => ?_)
          refine lv_iload hx hb dL_holds_200 (lv_at hl 9 rfl) ?_
          refine lv_iload hx hb dL_holds_202 (lv_at hl 3 rfl) ?_
          refine lv_iadd hx hb dL_holds_204 ?_
          refine lv_istore (lv' := [(6, .int (y6 + ((jsr y4 y10) &&& 1).toInt32)), (14, .int r_78.1), (13, .int r_77.1), (12, .int 0), (11, .int (((jsr y4 y10) &&& 1).toInt32)), (0, .ref (b_0 0)), (1, .int y1), (2, .int y2), (3, .int y3), (4, .long y4), (7, .int y7), (8, .int y8), (9, .int y9), (10, .int y10)]) hx hb dL_holds_205 hl (by decide) rfl (fun ls hl => ?_)
          refine lv_iconst (v := 0) hx hb dL_holds_207 (by decide) ?_
          refine lv_istore (lv' := [(15, .int 0), (6, .int (y6 + ((jsr y4 y10) &&& 1).toInt32)), (14, .int r_78.1), (13, .int r_77.1), (12, .int 0), (11, .int (((jsr y4 y10) &&& 1).toInt32)), (0, .ref (b_0 0)), (1, .int y1), (2, .int y2), (3, .int y3), (4, .long y4), (7, .int y7), (8, .int y8), (9, .int y9), (10, .int y10)]) hx hb dL_holds_208 hl (by decide) rfl (fun ls hl => ?_)
          exact bl_210 y1 y2 y3 y4 (y6 + ((jsr y4 y10) &&& 1).toInt32) y10 (((jsr y4 y10) &&& 1).toInt32) r_77.1 r_78.1 (f_L_holds_b154 n y1 y2 y3 y4 k) (k * 105 + (105)) ih 5 r_78.2 y7 y8 y9 0 0 _ _ _ (by omega) hf hP hD hS ls (lv_sub hl [6, 7, 8, 9, 10, 1, 11, 12, 13, 14, 5, 4, 3, 2, 0] rfl)
  have bl_113 : ∀ (y1 : Int32), ∀ (y2 : Int32), ∀ (y3 : Int32), ∀ (y4 : Int64), ∀ (y6 : Int32), ∀ (y7 : Int32), ∀ (y8 : Int32), ∀ (K84 : OT → Int32 → Int32 → Option (Bool × OT)) (e_84 : Nat), (∀ (c_o_0 : OT) (y9 : Int32) (y10 : Int32) (H : Heap) (locs : List Loc) (cc : Nat), cc + e_84 ≤ 6966 → K84 c_o_0 y9 y10 = some R → va_P G vwCl (oW cy b_0 bk_0 c_o_0) H → va_D A (oW cy b_0 bk_0 c_o_0) → va_S A s.heap H locs → ∀ (ls : Array Slot), lv_has ls 20 [(0, .ref (b_0 0)), (1, .int y1), (2, .int y2), (3, .int y3), (4, .long y4), (6, .int y6), (7, .int y7), (8, .int y8), (9, .int y9), (10, .int y10)] → W p l e ({ frames := 11, cells := 6966, slots := 41796, locals := 218 } : Room) s m [.ref (b_0 0)].toArray below meth c H locs cc (6 * cc) (MQ below (va_Qi (fun r (_ : Unit) => r = bI R.1) (fun _ t => Wd G cy A (oW cy b_0 bk_0 R.2) t) A) [.ref (b_0 0)].toArray s 6966 41796 A) (F0 m 84 ls [])) → ∀ (c_o_0 : OT) (y10 : Int32) (z0 : Int32) (H : Heap) (locs : List Loc) (cc : Nat), cc + (3 + e_84) ≤ 6966 → f_L_holds_b113 n y1 y2 y3 y4 y6 y7 y8 K84 c_o_0 y10 z0 = some R → va_P G vwCl (oW cy b_0 bk_0 c_o_0) H → va_D A (oW cy b_0 bk_0 c_o_0) → va_S A s.heap H locs → ∀ (ls : Array Slot), lv_has ls 20 [(0, .ref (b_0 0)), (1, .int y1), (2, .int y2), (3, .int y3), (4, .long y4), (6, .int y6), (7, .int y7), (8, .int y8), (10, .int y10)] → W p l e ({ frames := 11, cells := 6966, slots := 41796, locals := 218 } : Room) s m [.ref (b_0 0)].toArray below meth c H locs cc (6 * cc) (MQ below (va_Qi (fun r (_ : Unit) => r = bI R.1) (fun _ t => Wd G cy A (oW cy b_0 bk_0 R.2) t) A) [.ref (b_0 0)].toArray s 6966 41796 A) (F0 m 113 ls [.int z0]) := by
    intro y1
    intro y2
    intro y3
    intro y4
    intro y6
    intro y7
    intro y8
    intro K84 e_84 hK84
    intro c_o_0 y10 z0 H locs cc hcc hf hP hD hS ls hl
    unfold f_L_holds_b113 at hf
    refine lv_aload_n hx hb dL_holds_113 rfl (lv_at hl 0 rfl) ?_
    refine lv_iconst (v := 5) hx hb dL_holds_114 (by decide) ?_
    refine lv_iload hx hb dL_holds_115 (lv_at hl 8 rfl) ?_
    refine lv_iconst (v := 2) hx hb dL_holds_117 (by decide) ?_
    refine lv_iadd hx hb dL_holds_118 ?_
    refine lv_iconst (v := 4) hx hb dL_holds_119 (by decide) ?_
    refine lv_irem hx hb dL_holds_120 (by decide) ?_
    refine lv_iconst (v := 0) hx hb dL_holds_121 (by decide) ?_
    refine lv_iconst (v := 0) hx hb dL_holds_122 (by decide) ?_
    obtain ⟨r_79, hh_r_79, hf⟩ := obd_some hf
    refine kb_i6 (V := r_79.1) (w1 := oW cy b_0 bk_0 r_79.2) hS (Nat.le_of_ble_eq_true rfl) (Jn_1 hP hD hS hA) (va_runS (As := [.ref (b_0 0), .int 5, .int (irm (y10 + 2) 4), .int 0, .int 0]) (rest := [.int z0]) ⟨hx, hb, hml, hown, hts⟩ (c_L_call (l := l) hfl G cy b_0 bk_0 H.size c_o_0 5 (irm (y10 + 2) 4) 0 0 n r_79 hh_r_79) (va_cwS 5 hts gB_holds_L_call rfl rfl rfl ddN_L_call ⟨(Nat.le_of_ble_eq_true rfl), (Nat.le_of_ble_eq_true rfl)⟩) (preSN hXN (hE.kept hS.2.1) (Jn_1 hP hD hS hA).1 hP hK hD hN) rfl rfl hl.1 rfl (lv_room (Nat.le_of_ble_eq_true rfl)) dL_holds_123 ⟨by show cc + 3 ≤ 6966; omega, by show 6 * cc + 18 ≤ 41796; omega⟩) (fun H locs hP hD hS => ?_)
    have hP : va_P G vwCl (oW cy b_0 bk_0 r_79.2) H := hP
    have hD : va_D A (oW cy b_0 bk_0 r_79.2) := hD
    refine lv_iconst (v := 2) hx hb dL_holds_126 (by decide) ?_
    refine lv_icmp_ne (tgt := 134) hx hb dL_holds_127 (by decide) (fun h_80 => ?_) (fun h_80 => ?_)
    · have hf := in_ h_80 hf
      refine lv_iconst (v := 0) hx hb dL_holds_134 (by decide) ?_
      refine lv_icmp_ne (tgt := 142) hx hb dL_holds_135 (by decide) (fun h_81 => ?_) (fun h_81 => ?_)
      · have hf := in_ h_81 hf
        refine lv_iconst (v := 0) hx hb dL_holds_142 (by decide) ?_
        refine lv_istore (lv' := [(9, .int 0), (0, .ref (b_0 0)), (1, .int y1), (2, .int y2), (3, .int y3), (4, .long y4), (6, .int y6), (7, .int y7), (8, .int y8), (10, .int y10)]) hx hb dL_holds_143 hl (by decide) rfl (fun ls hl => ?_)
        refine lv_iinc (v := (y10 + 1)) (lv' := [(10, .int (y10 + 1)), (9, .int 0), (0, .ref (b_0 0)), (1, .int y1), (2, .int y2), (3, .int y3), (4, .long y4), (6, .int y6), (7, .int y7), (8, .int y8)]) hx hb dL_holds_145 hl (k := 9) rfl rfl (by decide) rfl (fun ls hl => ?_)
        refine lv_goto (tgt := 84) hx hb dL_holds_148 (by decide) ?_
        exact hK84 r_79.2 0 (y10 + 1) _ _ _ (by omega) hf hP hD hS ls (lv_sub hl [2, 3, 4, 5, 6, 7, 8, 9, 1, 0] rfl)
      · have hf := ip_ h_81 hf
        refine lv_iconst (v := 1) hx hb dL_holds_138 (by decide) ?_
        refine lv_goto (tgt := 143) hx hb dL_holds_139 (by decide) ?_
        refine lv_istore (lv' := [(9, .int 1), (0, .ref (b_0 0)), (1, .int y1), (2, .int y2), (3, .int y3), (4, .long y4), (6, .int y6), (7, .int y7), (8, .int y8), (10, .int y10)]) hx hb dL_holds_143 hl (by decide) rfl (fun ls hl => ?_)
        refine lv_iinc (v := (y10 + 1)) (lv' := [(10, .int (y10 + 1)), (9, .int 1), (0, .ref (b_0 0)), (1, .int y1), (2, .int y2), (3, .int y3), (4, .long y4), (6, .int y6), (7, .int y7), (8, .int y8)]) hx hb dL_holds_145 hl (k := 9) rfl rfl (by decide) rfl (fun ls hl => ?_)
        refine lv_goto (tgt := 84) hx hb dL_holds_148 (by decide) ?_
        exact hK84 r_79.2 1 (y10 + 1) _ _ _ (by omega) hf hP hD hS ls (lv_sub hl [2, 3, 4, 5, 6, 7, 8, 9, 1, 0] rfl)
    · have hf := ip_ h_80 hf
      refine lv_iconst (v := 1) hx hb dL_holds_130 (by decide) ?_
      refine lv_goto (tgt := 135) hx hb dL_holds_131 (by decide) ?_
      refine lv_icmp_ne (tgt := 142) hx hb dL_holds_135 (by decide) (fun h_82 => ?_) (fun h_82 => ?_)
      · have hf := in_ h_82 hf
        refine lv_iconst (v := 0) hx hb dL_holds_142 (by decide) ?_
        refine lv_istore (lv' := [(9, .int 0), (0, .ref (b_0 0)), (1, .int y1), (2, .int y2), (3, .int y3), (4, .long y4), (6, .int y6), (7, .int y7), (8, .int y8), (10, .int y10)]) hx hb dL_holds_143 hl (by decide) rfl (fun ls hl => ?_)
        refine lv_iinc (v := (y10 + 1)) (lv' := [(10, .int (y10 + 1)), (9, .int 0), (0, .ref (b_0 0)), (1, .int y1), (2, .int y2), (3, .int y3), (4, .long y4), (6, .int y6), (7, .int y7), (8, .int y8)]) hx hb dL_holds_145 hl (k := 9) rfl rfl (by decide) rfl (fun ls hl => ?_)
        refine lv_goto (tgt := 84) hx hb dL_holds_148 (by decide) ?_
        exact hK84 r_79.2 0 (y10 + 1) _ _ _ (by omega) hf hP hD hS ls (lv_sub hl [2, 3, 4, 5, 6, 7, 8, 9, 1, 0] rfl)
      · have hf := ip_ h_82 hf
        refine lv_iconst (v := 1) hx hb dL_holds_138 (by decide) ?_
        refine lv_goto (tgt := 143) hx hb dL_holds_139 (by decide) ?_
        refine lv_istore (lv' := [(9, .int 1), (0, .ref (b_0 0)), (1, .int y1), (2, .int y2), (3, .int y3), (4, .long y4), (6, .int y6), (7, .int y7), (8, .int y8), (10, .int y10)]) hx hb dL_holds_143 hl (by decide) rfl (fun ls hl => ?_)
        refine lv_iinc (v := (y10 + 1)) (lv' := [(10, .int (y10 + 1)), (9, .int 1), (0, .ref (b_0 0)), (1, .int y1), (2, .int y2), (3, .int y3), (4, .long y4), (6, .int y6), (7, .int y7), (8, .int y8)]) hx hb dL_holds_145 hl (k := 9) rfl rfl (by decide) rfl (fun ls hl => ?_)
        refine lv_goto (tgt := 84) hx hb dL_holds_148 (by decide) ?_
        exact hK84 r_79.2 1 (y10 + 1) _ _ _ (by omega) hf hP hD hS ls (lv_sub hl [2, 3, 4, 5, 6, 7, 8, 9, 1, 0] rfl)
  have bl_84 : ∀ (y1 : Int32), ∀ (y2 : Int32), ∀ (y3 : Int32), ∀ (y4 : Int64), ∀ (y6 : Int32), ∀ (y7 : Int32), ∀ (y8 : Int32), ∀ (k : Nat), ∀ (c_o_0 : OT) (y9 : Int32) (y10 : Int32) (H : Heap) (locs : List Loc) (cc : Nat), cc + (k * 6 + (6930)) ≤ 6966 → f_L_holds_b84 n y1 y2 y3 y4 y6 y7 y8 k c_o_0 y9 y10 = some R → va_P G vwCl (oW cy b_0 bk_0 c_o_0) H → va_D A (oW cy b_0 bk_0 c_o_0) → va_S A s.heap H locs → ∀ (ls : Array Slot), lv_has ls 20 [(0, .ref (b_0 0)), (1, .int y1), (2, .int y2), (3, .int y3), (4, .long y4), (6, .int y6), (7, .int y7), (8, .int y8), (9, .int y9), (10, .int y10)] → W p l e ({ frames := 11, cells := 6966, slots := 41796, locals := 218 } : Room) s m [.ref (b_0 0)].toArray below meth c H locs cc (6 * cc) (MQ below (va_Qi (fun r (_ : Unit) => r = bI R.1) (fun _ t => Wd G cy A (oW cy b_0 bk_0 R.2) t) A) [.ref (b_0 0)].toArray s 6966 41796 A) (F0 m 84 ls []) := by
    intro y1
    intro y2
    intro y3
    intro y4
    intro y6
    intro y7
    intro y8
    intro k
    induction k with
    | zero =>
      intro c_o_0 y9 y10 H locs cc hcc hf; cases hf
    | succ k ih =>
      intro c_o_0 y9 y10 H locs cc hcc hf hP hD hS ls hl
      have hf := (f_L_holds_b84_s n y1 y2 y3 y4 y6 y7 y8 k c_o_0 y9 y10).symm.trans hf
      refine lv_iload hx hb dL_holds_84 (lv_at hl 9 rfl) ?_
      refine lv_iconst (v := 4) hx hb dL_holds_86 (by decide) ?_
      refine lv_icmp_ge (tgt := 151) hx hb dL_holds_87 (by decide) (fun h_83 => ?_) (fun h_83 => ?_)
      · have hf := ip_ h_83 hf
        refine lv_iconst (v := 0) hx hb dL_holds_151 (by decide) ?_
        refine lv_istore (lv' := [(10, .int 0), (0, .ref (b_0 0)), (1, .int y1), (2, .int y2), (3, .int y3), (4, .long y4), (6, .int y6), (7, .int y7), (8, .int y8), (9, .int y9)]) hx hb dL_holds_152 hl (by decide) rfl (fun ls hl => ?_)
        exact bl_154 y1 y2 y3 y4 65 c_o_0 y6 y7 y8 y9 0 _ _ _ (by omega) hf hP hD hS ls (lv_sub hl [1, 2, 3, 4, 5, 6, 7, 8, 9, 0] rfl)
      · have hf := in_ h_83 hf
        refine lv_iload hx hb dL_holds_90 (lv_at hl 8 rfl) ?_
        refine lv_if_eq (tgt := 142) hx hb dL_holds_92 (by decide) (fun h_84 => ?_) (fun h_84 => ?_)
        · have hf := ip_ h_84 hf
          refine lv_iconst (v := 0) hx hb dL_holds_142 (by decide) ?_
          refine lv_istore (lv' := [(9, .int 0), (0, .ref (b_0 0)), (1, .int y1), (2, .int y2), (3, .int y3), (4, .long y4), (6, .int y6), (7, .int y7), (8, .int y8), (10, .int y10)]) hx hb dL_holds_143 hl (by decide) rfl (fun ls hl => ?_)
          refine lv_iinc (v := (y10 + 1)) (lv' := [(10, .int (y10 + 1)), (9, .int 0), (0, .ref (b_0 0)), (1, .int y1), (2, .int y2), (3, .int y3), (4, .long y4), (6, .int y6), (7, .int y7), (8, .int y8)]) hx hb dL_holds_145 hl (k := 9) rfl rfl (by decide) rfl (fun ls hl => ?_)
          refine lv_goto (tgt := 84) hx hb dL_holds_148 (by decide) ?_
          exact ih c_o_0 0 (y10 + 1) _ _ _ (by omega) hf hP hD hS ls (lv_sub hl [2, 3, 4, 5, 6, 7, 8, 9, 1, 0] rfl)
        · have hf := in_ h_84 hf
          refine lv_aload_n hx hb dL_holds_95 rfl (lv_at hl 0 rfl) ?_
          refine lv_iconst (v := 5) hx hb dL_holds_96 (by decide) ?_
          refine lv_iload hx hb dL_holds_97 (lv_at hl 9 rfl) ?_
          refine lv_iconst (v := 0) hx hb dL_holds_99 (by decide) ?_
          refine lv_iconst (v := 0) hx hb dL_holds_100 (by decide) ?_
          obtain ⟨r_85, hh_r_85, hf⟩ := obd_some hf
          refine kb_i6 (V := r_85.1) (w1 := oW cy b_0 bk_0 r_85.2) hS (Nat.le_of_ble_eq_true rfl) (Jn_1 hP hD hS hA) (va_runS (As := [.ref (b_0 0), .int 5, .int y10, .int 0, .int 0]) (rest := []) ⟨hx, hb, hml, hown, hts⟩ (c_L_call (l := l) hfl G cy b_0 bk_0 H.size c_o_0 5 y10 0 0 n r_85 hh_r_85) (va_cwS 5 hts gB_holds_L_call rfl rfl rfl ddN_L_call ⟨(Nat.le_of_ble_eq_true rfl), (Nat.le_of_ble_eq_true rfl)⟩) (preSN hXN (hE.kept hS.2.1) (Jn_1 hP hD hS hA).1 hP hK hD hN) rfl rfl hl.1 rfl (lv_room (Nat.le_of_ble_eq_true rfl)) dL_holds_101 ⟨by show cc + 3 ≤ 6966; omega, by show 6 * cc + 18 ≤ 41796; omega⟩) (fun H locs hP hD hS => ?_)
          have hP : va_P G vwCl (oW cy b_0 bk_0 r_85.2) H := hP
          have hD : va_D A (oW cy b_0 bk_0 r_85.2) := hD
          refine lv_iconst (v := 2) hx hb dL_holds_104 (by decide) ?_
          refine lv_icmp_ne (tgt := 112) hx hb dL_holds_105 (by decide) (fun h_86 => ?_) (fun h_86 => ?_)
          · have hf := in_ h_86 hf
            refine lv_iconst (v := 0) hx hb dL_holds_112 (by decide) ?_
            exact bl_113 y1 y2 y3 y4 y6 y7 y8 (f_L_holds_b84 n y1 y2 y3 y4 y6 y7 y8 k) (k * 6 + (6930)) ih r_85.2 y10 0 _ _ _ (by omega) hf hP hD hS ls (lv_sub hl [0, 1, 2, 3, 4, 5, 6, 7, 9] rfl)
          · have hf := ip_ h_86 hf
            refine lv_iconst (v := 1) hx hb dL_holds_108 (by decide) ?_
            refine lv_goto (tgt := 113) hx hb dL_holds_109 (by decide) ?_
            exact bl_113 y1 y2 y3 y4 y6 y7 y8 (f_L_holds_b84 n y1 y2 y3 y4 y6 y7 y8 k) (k * 6 + (6930)) ih r_85.2 y10 1 _ _ _ (by omega) hf hP hD hS ls (lv_sub hl [0, 1, 2, 3, 4, 5, 6, 7, 9] rfl)
  have hl := lv_entry [.ref (b_0 0)] (n := 20) (Nat.le_of_ble_eq_true rfl)
  rw [lg_entry_eq]
  generalize (lg_sl [.ref (b_0 0)] ++ List.replicate (20 - (lg_sl [.ref (b_0 0)]).length) Slot.unset).toArray = ls at hl ⊢
  have hl : lv_has ls 20 [(0, .ref (b_0 0))] := hl
  unfold f_L_holds at hf
  refine W.widen (k := 0) (n := 6 * 0) (Nat.le_refl _) (Nat.le_refl _) ?_
  refine lv_aload_n hx hb dL_holds_0 rfl (lv_at hl 0 rfl) ?_
  refine lv_iconst (v := 2) hx hb dL_holds_1 (by decide) ?_
  refine lv_iconst (v := 0) hx hb dL_holds_2 (by decide) ?_
  refine lv_iconst (v := 0) hx hb dL_holds_3 (by decide) ?_
  refine lv_iconst (v := 0) hx hb dL_holds_4 (by decide) ?_
  obtain ⟨r_87, hh_r_87, hf⟩ := obd_some hf
  refine kb_i6 (V := r_87.1) (w1 := oW cy b_0 bk_0 r_87.2) hS (Nat.le_of_ble_eq_true rfl) (Jn_1 hP hD hS hA) (va_runS (As := [.ref (b_0 0), .int 2, .int 0, .int 0, .int 0]) (rest := []) ⟨hx, hb, hml, hown, hts⟩ (c_L_call (l := l) hfl G cy b_0 bk_0 s.heap.size o_0 2 0 0 0 n r_87 hh_r_87) (va_cwS 5 hts gB_holds_L_call rfl rfl rfl ddN_L_call ⟨(Nat.le_of_ble_eq_true rfl), (Nat.le_of_ble_eq_true rfl)⟩) (preSN hXN (hE.kept hS.2.1) (Jn_1 hP hD hS hA).1 hP hK hD hN) rfl rfl hl.1 rfl (lv_room (Nat.le_of_ble_eq_true rfl)) dL_holds_5 ⟨by show 0 + 3 ≤ 6966; omega, by show 6 * 0 + 18 ≤ 41796; omega⟩) (fun H locs hP hD hS => ?_)
  have hP : va_P G vwCl (oW cy b_0 bk_0 r_87.2) H := hP
  have hD : va_D A (oW cy b_0 bk_0 r_87.2) := hD
  refine lv_istore_n (lv' := [(1, .int r_87.1), (0, .ref (b_0 0))]) hx hb dL_holds_8 rfl hl (by decide) rfl (fun ls hl => ?_)
  refine lv_aload_n hx hb dL_holds_9 rfl (lv_at hl 1 rfl) ?_
  refine lv_iconst (v := 2) hx hb dL_holds_10 (by decide) ?_
  refine lv_iconst (v := 1) hx hb dL_holds_11 (by decide) ?_
  refine lv_iconst (v := 0) hx hb dL_holds_12 (by decide) ?_
  refine lv_iconst (v := 0) hx hb dL_holds_13 (by decide) ?_
  obtain ⟨r_88, hh_r_88, hf⟩ := obd_some hf
  refine kb_i6 (V := r_88.1) (w1 := oW cy b_0 bk_0 r_88.2) hS (Nat.le_of_ble_eq_true rfl) (Jn_1 hP hD hS hA) (va_runS (As := [.ref (b_0 0), .int 2, .int 1, .int 0, .int 0]) (rest := []) ⟨hx, hb, hml, hown, hts⟩ (c_L_call (l := l) hfl G cy b_0 bk_0 H.size r_87.2 2 1 0 0 n r_88 hh_r_88) (va_cwS 5 hts gB_holds_L_call rfl rfl rfl ddN_L_call ⟨(Nat.le_of_ble_eq_true rfl), (Nat.le_of_ble_eq_true rfl)⟩) (preSN hXN (hE.kept hS.2.1) (Jn_1 hP hD hS hA).1 hP hK hD hN) rfl rfl hl.1 rfl (lv_room (Nat.le_of_ble_eq_true rfl)) dL_holds_14 ⟨by show 0 + 3 + 3 ≤ 6966; omega, by show 6 * (0 + 3) + 18 ≤ 41796; omega⟩) (fun H locs hP hD hS => ?_)
  have hP : va_P G vwCl (oW cy b_0 bk_0 r_88.2) H := hP
  have hD : va_D A (oW cy b_0 bk_0 r_88.2) := hD
  refine lv_istore_n (lv' := [(2, .int r_88.1), (1, .int r_87.1), (0, .ref (b_0 0))]) hx hb dL_holds_17 rfl hl (by decide) rfl (fun ls hl => ?_)
  refine lv_iload_n hx hb dL_holds_18 rfl (lv_at hl 1 rfl) ?_
  refine lv_iload_n hx hb dL_holds_19 rfl (lv_at hl 0 rfl) ?_
  refine lv_imul hx hb dL_holds_20 ?_
  refine lv_istore_n (lv' := [(3, .int (r_87.1 * r_88.1)), (2, .int r_88.1), (1, .int r_87.1), (0, .ref (b_0 0))]) hx hb dL_holds_21 rfl hl (by decide) rfl (fun ls hl => ?_)
  refine lv_aload_n hx hb dL_holds_22 rfl (lv_at hl 3 rfl) ?_
  refine kb_l (V := (w_frozen (o_w r_88.2))) (w1 := oW cy b_0 bk_0 r_88.2) hS (Jn_1 hP hD hS hA) (va_runV (As := []) (rest := []) ⟨hx, hb, hml, hown, hts⟩ (c_X5_frozen (l := l) G cy (b_0 0) (b_0 1) (b_0 2) (b_0 3) (b_0 4) (b_0 5) (b_0 6) (b_0 7) (b_0 8) (b_0 9) (b_0 10) (b_0 11) (b_0 12) (b_0 13) bk_0 H.size (o_tx r_88.2) (o_sg r_88.2) (o_w r_88.2) (o_tr r_88.2) (o_p r_88.2) (o_sk r_88.2) (o_b0 r_88.2) (o_k0 r_88.2) (o_b1 r_88.2) (o_k1 r_88.2) (o_e r_88.2) (o_g r_88.2) (o_l r_88.2) _ rfl) (cwV 0 hts gB_holds_X5_frozen rfl rfl rfl ddV_X5_frozen ⟨(Nat.le_of_ble_eq_true rfl), (Nat.le_of_ble_eq_true rfl)⟩) (preV_ (ci := 5) (q0 := 0) rfl rfl hP hK hD hN) rfl rfl hl.1 rfl (lv_room (Nat.le_of_ble_eq_true rfl)) dL_holds_23 ⟨by show 0 + 6 + 0 ≤ 6966; omega, by show 6 * (0 + 6) + 0 ≤ 41796; omega⟩) (fun H locs hP hD hS => ?_)
  have hP : va_P G vwCl (oW cy b_0 bk_0 r_88.2) H := hP
  have hD : va_D A (oW cy b_0 bk_0 r_88.2) := hD
  refine lv_lstore (lv' := [(4, .long (w_frozen (o_w r_88.2))), (3, .int (r_87.1 * r_88.1)), (2, .int r_88.1), (1, .int r_87.1), (0, .ref (b_0 0))]) hx hb dL_holds_26 hl (by decide) rfl (fun ls hl => ?_)
  refine lv_iconst (v := 0) hx hb dL_holds_28 (by decide) ?_
  refine lv_istore (lv' := [(6, .int 0), (4, .long (w_frozen (o_w r_88.2))), (3, .int (r_87.1 * r_88.1)), (2, .int r_88.1), (1, .int r_87.1), (0, .ref (b_0 0))]) hx hb dL_holds_29 hl (by decide) rfl (fun ls hl => ?_)
  refine lv_iconst (v := 0) hx hb dL_holds_31 (by decide) ?_
  refine lv_istore (lv' := [(7, .int 0), (6, .int 0), (4, .long (w_frozen (o_w r_88.2))), (3, .int (r_87.1 * r_88.1)), (2, .int r_88.1), (1, .int r_87.1), (0, .ref (b_0 0))]) hx hb dL_holds_32 hl (by decide) rfl (fun ls hl => ?_)
  refine lv_iconst (v := 0) hx hb dL_holds_34 (by decide) ?_
  refine lv_istore (lv' := [(8, .int 0), (7, .int 0), (6, .int 0), (4, .long (w_frozen (o_w r_88.2))), (3, .int (r_87.1 * r_88.1)), (2, .int r_88.1), (1, .int r_87.1), (0, .ref (b_0 0))]) hx hb dL_holds_35 hl (by decide) rfl (fun ls hl => ?_)
  refine lv_iload_n hx hb dL_holds_37 rfl (lv_at hl 6 rfl) ?_
  refine lv_iconst (v := 2) hx hb dL_holds_38 (by decide) ?_
  refine lv_icmp_lt (tgt := 78) hx hb dL_holds_39 (by decide) (fun h_89 => ?_) (fun h_89 => ?_)
  · have hf := ip_ h_89 hf
    refine lv_iconst (v := 0) hx hb dL_holds_78 (by decide) ?_
    refine lv_istore (lv' := [(9, .int 0), (8, .int 0), (7, .int 0), (6, .int 0), (4, .long (w_frozen (o_w r_88.2))), (3, .int (r_87.1 * r_88.1)), (2, .int r_88.1), (1, .int r_87.1), (0, .ref (b_0 0))]) hx hb dL_holds_79 hl (by decide) rfl (fun ls hl => ?_)
    refine lv_iconst (v := 0) hx hb dL_holds_81 (by decide) ?_
    refine lv_istore (lv' := [(10, .int 0), (9, .int 0), (8, .int 0), (7, .int 0), (6, .int 0), (4, .long (w_frozen (o_w r_88.2))), (3, .int (r_87.1 * r_88.1)), (2, .int r_88.1), (1, .int r_87.1), (0, .ref (b_0 0))]) hx hb dL_holds_82 hl (by decide) rfl (fun ls hl => ?_)
    exact bl_84 r_87.1 r_88.1 (r_87.1 * r_88.1) (w_frozen (o_w r_88.2)) 0 0 0 5 r_88.2 0 0 _ _ _ (by omega) hf hP hD hS ls (lv_sub hl [9, 8, 7, 6, 5, 4, 3, 2, 1, 0] rfl)
  · have hf := in_ h_89 hf
    refine lv_iload_n hx hb dL_holds_42 rfl (lv_at hl 6 rfl) ?_
    refine lv_bipush (v := 8) hx hb dL_holds_43 (by decide) ?_
    refine lv_icmp_gt (tgt := 78) hx hb dL_holds_45 (by decide) (fun h_90 => ?_) (fun h_90 => ?_)
    · have hf := ip_ h_90 hf
      refine lv_iconst (v := 0) hx hb dL_holds_78 (by decide) ?_
      refine lv_istore (lv' := [(9, .int 0), (8, .int 0), (7, .int 0), (6, .int 0), (4, .long (w_frozen (o_w r_88.2))), (3, .int (r_87.1 * r_88.1)), (2, .int r_88.1), (1, .int r_87.1), (0, .ref (b_0 0))]) hx hb dL_holds_79 hl (by decide) rfl (fun ls hl => ?_)
      refine lv_iconst (v := 0) hx hb dL_holds_81 (by decide) ?_
      refine lv_istore (lv' := [(10, .int 0), (9, .int 0), (8, .int 0), (7, .int 0), (6, .int 0), (4, .long (w_frozen (o_w r_88.2))), (3, .int (r_87.1 * r_88.1)), (2, .int r_88.1), (1, .int r_87.1), (0, .ref (b_0 0))]) hx hb dL_holds_82 hl (by decide) rfl (fun ls hl => ?_)
      exact bl_84 r_87.1 r_88.1 (r_87.1 * r_88.1) (w_frozen (o_w r_88.2)) 0 0 0 5 r_88.2 0 0 _ _ _ (by omega) hf hP hD hS ls (lv_sub hl [9, 8, 7, 6, 5, 4, 3, 2, 1, 0] rfl)
    · have hf := in_ h_90 hf
      refine lv_iload_n hx hb dL_holds_48 rfl (lv_at hl 5 rfl) ?_
      refine lv_iconst (v := 2) hx hb dL_holds_49 (by decide) ?_
      refine lv_icmp_lt (tgt := 78) hx hb dL_holds_50 (by decide) (fun h_91 => ?_) (fun h_91 => ?_)
      · have hf := ip_ h_91 hf
        refine lv_iconst (v := 0) hx hb dL_holds_78 (by decide) ?_
        refine lv_istore (lv' := [(9, .int 0), (8, .int 0), (7, .int 0), (6, .int 0), (4, .long (w_frozen (o_w r_88.2))), (3, .int (r_87.1 * r_88.1)), (2, .int r_88.1), (1, .int r_87.1), (0, .ref (b_0 0))]) hx hb dL_holds_79 hl (by decide) rfl (fun ls hl => ?_)
        refine lv_iconst (v := 0) hx hb dL_holds_81 (by decide) ?_
        refine lv_istore (lv' := [(10, .int 0), (9, .int 0), (8, .int 0), (7, .int 0), (6, .int 0), (4, .long (w_frozen (o_w r_88.2))), (3, .int (r_87.1 * r_88.1)), (2, .int r_88.1), (1, .int r_87.1), (0, .ref (b_0 0))]) hx hb dL_holds_82 hl (by decide) rfl (fun ls hl => ?_)
        exact bl_84 r_87.1 r_88.1 (r_87.1 * r_88.1) (w_frozen (o_w r_88.2)) 0 0 0 5 r_88.2 0 0 _ _ _ (by omega) hf hP hD hS ls (lv_sub hl [9, 8, 7, 6, 5, 4, 3, 2, 1, 0] rfl)
      · have hf := in_ h_91 hf
        refine lv_iload_n hx hb dL_holds_53 rfl (lv_at hl 5 rfl) ?_
        refine lv_bipush (v := 8) hx hb dL_holds_54 (by decide) ?_
        refine lv_icmp_gt (tgt := 78) hx hb dL_holds_56 (by decide) (fun h_92 => ?_) (fun h_92 => ?_)
        · have hf := ip_ h_92 hf
          refine lv_iconst (v := 0) hx hb dL_holds_78 (by decide) ?_
          refine lv_istore (lv' := [(9, .int 0), (8, .int 0), (7, .int 0), (6, .int 0), (4, .long (w_frozen (o_w r_88.2))), (3, .int (r_87.1 * r_88.1)), (2, .int r_88.1), (1, .int r_87.1), (0, .ref (b_0 0))]) hx hb dL_holds_79 hl (by decide) rfl (fun ls hl => ?_)
          refine lv_iconst (v := 0) hx hb dL_holds_81 (by decide) ?_
          refine lv_istore (lv' := [(10, .int 0), (9, .int 0), (8, .int 0), (7, .int 0), (6, .int 0), (4, .long (w_frozen (o_w r_88.2))), (3, .int (r_87.1 * r_88.1)), (2, .int r_88.1), (1, .int r_87.1), (0, .ref (b_0 0))]) hx hb dL_holds_82 hl (by decide) rfl (fun ls hl => ?_)
          exact bl_84 r_87.1 r_88.1 (r_87.1 * r_88.1) (w_frozen (o_w r_88.2)) 0 0 0 5 r_88.2 0 0 _ _ _ (by omega) hf hP hD hS ls (lv_sub hl [9, 8, 7, 6, 5, 4, 3, 2, 1, 0] rfl)
        · have hf := in_ h_92 hf
          refine lv_iload_n hx hb dL_holds_59 rfl (lv_at hl 4 rfl) ?_
          refine lv_bipush (v := 64) hx hb dL_holds_60 (by decide) ?_
          refine lv_icmp_eq (tgt := 74) hx hb dL_holds_62 (by decide) (fun h_93 => ?_) (fun h_93 => ?_)
          · have hf := ip_ h_93 hf
            refine lv_iconst (v := 1) hx hb dL_holds_74 (by decide) ?_
            refine lv_goto (tgt := 79) hx hb dL_holds_75 (by decide) ?_
            refine lv_istore (lv' := [(9, .int 1), (8, .int 0), (7, .int 0), (6, .int 0), (4, .long (w_frozen (o_w r_88.2))), (3, .int (r_87.1 * r_88.1)), (2, .int r_88.1), (1, .int r_87.1), (0, .ref (b_0 0))]) hx hb dL_holds_79 hl (by decide) rfl (fun ls hl => ?_)
            refine lv_iconst (v := 0) hx hb dL_holds_81 (by decide) ?_
            refine lv_istore (lv' := [(10, .int 0), (9, .int 1), (8, .int 0), (7, .int 0), (6, .int 0), (4, .long (w_frozen (o_w r_88.2))), (3, .int (r_87.1 * r_88.1)), (2, .int r_88.1), (1, .int r_87.1), (0, .ref (b_0 0))]) hx hb dL_holds_82 hl (by decide) rfl (fun ls hl => ?_)
            exact bl_84 r_87.1 r_88.1 (r_87.1 * r_88.1) (w_frozen (o_w r_88.2)) 0 0 0 5 r_88.2 1 0 _ _ _ (by omega) hf hP hD hS ls (lv_sub hl [9, 8, 7, 6, 5, 4, 3, 2, 1, 0] rfl)
          · have hf := in_ h_93 hf
            refine lv_lload hx hb dL_holds_65 (lv_at hl 3 rfl) ?_
            refine lv_iload_n hx hb dL_holds_67 rfl (lv_at hl 4 rfl) ?_
            refine lv_lshr (v := (jsr (w_frozen (o_w r_88.2)) (r_87.1 * r_88.1))) hx hb dL_holds_68 rfl ?_
            refine lv_lconst (v := 0) hx hb dL_holds_69 rfl ?_
            refine W.lcmp hx hb dL_holds_70 ?_
            refine lv_if_ne (tgt := 78) hx hb dL_holds_71 (by decide) (fun h_94 => ?_) (fun h_94 => ?_)
            · have hf := in_ (fun q => h_94 (lgc_eq.mpr q)) hf
              refine lv_iconst (v := 0) hx hb dL_holds_78 (by decide) ?_
              refine lv_istore (lv' := [(9, .int 0), (8, .int 0), (7, .int 0), (6, .int 0), (4, .long (w_frozen (o_w r_88.2))), (3, .int (r_87.1 * r_88.1)), (2, .int r_88.1), (1, .int r_87.1), (0, .ref (b_0 0))]) hx hb dL_holds_79 hl (by decide) rfl (fun ls hl => ?_)
              refine lv_iconst (v := 0) hx hb dL_holds_81 (by decide) ?_
              refine lv_istore (lv' := [(10, .int 0), (9, .int 0), (8, .int 0), (7, .int 0), (6, .int 0), (4, .long (w_frozen (o_w r_88.2))), (3, .int (r_87.1 * r_88.1)), (2, .int r_88.1), (1, .int r_87.1), (0, .ref (b_0 0))]) hx hb dL_holds_82 hl (by decide) rfl (fun ls hl => ?_)
              exact bl_84 r_87.1 r_88.1 (r_87.1 * r_88.1) (w_frozen (o_w r_88.2)) 0 0 0 5 r_88.2 0 0 _ _ _ (by omega) hf hP hD hS ls (lv_sub hl [9, 8, 7, 6, 5, 4, 3, 2, 1, 0] rfl)
            · have hf := ip_ (lgc_eq.mp h_94) hf
              refine lv_iconst (v := 1) hx hb dL_holds_74 (by decide) ?_
              refine lv_goto (tgt := 79) hx hb dL_holds_75 (by decide) ?_
              refine lv_istore (lv' := [(9, .int 1), (8, .int 0), (7, .int 0), (6, .int 0), (4, .long (w_frozen (o_w r_88.2))), (3, .int (r_87.1 * r_88.1)), (2, .int r_88.1), (1, .int r_87.1), (0, .ref (b_0 0))]) hx hb dL_holds_79 hl (by decide) rfl (fun ls hl => ?_)
              refine lv_iconst (v := 0) hx hb dL_holds_81 (by decide) ?_
              refine lv_istore (lv' := [(10, .int 0), (9, .int 1), (8, .int 0), (7, .int 0), (6, .int 0), (4, .long (w_frozen (o_w r_88.2))), (3, .int (r_87.1 * r_88.1)), (2, .int r_88.1), (1, .int r_87.1), (0, .ref (b_0 0))]) hx hb dL_holds_82 hl (by decide) rfl (fun ls hl => ?_)
              exact bl_84 r_87.1 r_88.1 (r_87.1 * r_88.1) (w_frozen (o_w r_88.2)) 0 0 0 5 r_88.2 1 0 _ _ _ (by omega) hf hP hD hS ls (lv_sub hl [9, 8, 7, 6, 5, 4, 3, 2, 1, 0] rfl)
