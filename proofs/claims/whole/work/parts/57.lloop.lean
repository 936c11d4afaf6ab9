theorem law_loop {p : Program} {l : Launch} {e : Env} {s : State} {m : MethodId} {below : List Frame} {meth : Method} {c : Code} {G : va_G} {cy : Nat → ClassId} {b L : Nat} {xs : Nat → Int32} (hfl : l.stackTraces = false) (C0 : lw_At p s m meth c b L xs) (hK : va_K G vwCl (tyL cy) s) (hN : NW s) (hE : EN (fun q : Nat => s.heap.size ≤ q) s s.heap) (hXN : XN s) (a_x a_x_text a_x_text_signs a_x_window a_x_trial a_x_past a_x_past_kept a_x_firstSlot a_x_firstSlot_kept a_x_secondSlot a_x_secondSlot_kept a_x_equations a_x_equations_terms a_x_looks a_m a_m_text a_m_now a_m_trial a_m_diary a_m_kept a_m_isKept a_m_seen a_m_equations a_m_wanted a_o : Nat) (ak : Nat → Nat) {n : Nat} (hn : 1000 ≤ n) (hL : L ≤ 2048) : ∀ (q t : Nat), L < 4 * (t + q) → t ≤ 512 → ∀ (s_x_text : TT) (g_x_text_signs : Nat → Int32) (s_x_window : WT) (s_x_trial : WT) (s_x_past : PT) (sk : Nat → WT) (s_x_firstSlot : Bool) (s_x_firstSlot_kept : WT) (s_x_secondSlot : Bool) (s_x_secondSlot_kept : WT) (s_x_equations : ET) (g_x_equations_terms : Nat → Int64) (g_x_looks : Nat → Int64) (s_m : MT) (g_m_text : Nat → Int32) (g_m_now : Nat → Int64) (g_m_trial : Nat → Int64) (g_m_diary : Nat → Int64) (g_m_kept : Nat → Int64) (g_m_isKept : Nat → Int32) (g_m_seen : Nat → Int64) (g_m_equations : Nat → Int64) (g_m_wanted : Nat → Int32) (g_o : Nat → Int64), RelA s_x_text g_x_text_signs s_x_window s_x_past sk s_x_firstSlot s_x_firstSlot_kept s_x_secondSlot s_x_secondSlot_kept s_m g_m_text g_m_now g_m_diary g_m_kept g_m_isKept → ∀ (H : Heap) (locs : List Loc), va_P G vwCl (LW cy a_x a_x_text a_x_text_signs a_x_window a_x_trial a_x_past a_x_past_kept a_x_firstSlot a_x_firstSlot_kept a_x_secondSlot a_x_secondSlot_kept a_x_equations a_x_equations_terms a_x_looks a_m a_m_text a_m_now a_m_trial a_m_diary a_m_kept a_m_isKept a_m_seen a_m_equations a_m_wanted a_o ak s_x_text g_x_text_signs s_x_window s_x_trial s_x_past sk s_x_firstSlot s_x_firstSlot_kept s_x_secondSlot s_x_secondSlot_kept s_x_equations g_x_equations_terms g_x_looks s_m g_m_text g_m_now g_m_trial g_m_diary g_m_kept g_m_isKept g_m_seen g_m_equations g_m_wanted g_o) H → va_D (fun q : Nat => s.heap.size ≤ q) (LW cy a_x a_x_text a_x_text_signs a_x_window a_x_trial a_x_past a_x_past_kept a_x_firstSlot a_x_firstSlot_kept a_x_secondSlot a_x_secondSlot_kept a_x_equations a_x_equations_terms a_x_looks a_m a_m_text a_m_now a_m_trial a_m_diary a_m_kept a_m_isKept a_m_seen a_m_equations a_m_wanted a_o ak s_x_text g_x_text_signs s_x_window s_x_trial s_x_past sk s_x_firstSlot s_x_firstSlot_kept s_x_secondSlot s_x_secondSlot_kept s_x_equations g_x_equations_terms g_x_looks s_m g_m_text g_m_now g_m_trial g_m_diary g_m_kept g_m_isKept g_m_seen g_m_equations g_m_wanted g_o) → va_S (fun q : Nat => s.heap.size ≤ q) s.heap H locs → ∀ (ls : Array Slot), lv_has ls 8 [(4, .int (nI (4 * t))), (3, .ref a_o), (2, .ref a_m), (1, .ref a_x), (0, .ref b)] → W p l e room_1 s m #[Value.ref b] below meth c H locs (39 + 3 * t) (1505 + 18 * t) (lw_Z below #[Value.ref b] s) (F0 m 23 ls []) := by
  obtain ⟨hx, hb, hr, hml, hown, hts, hX, hbl, hlocks, hgv⟩ := id C0
  have hb : c.code = cL_law := hb
  have hbA : ¬ (fun q : Nat => s.heap.size ≤ q) b := Nat.not_le.mpr hbl
  intro q
  induction q with
  | zero =>
    intro t hq ht s_x_text g_x_text_signs s_x_window s_x_trial s_x_past sk s_x_firstSlot s_x_firstSlot_kept s_x_secondSlot s_x_secondSlot_kept s_x_equations g_x_equations_terms g_x_looks s_m g_m_text g_m_now g_m_trial g_m_diary g_m_kept g_m_isKept g_m_seen g_m_equations g_m_wanted g_o R H locs hP hD hS ls hl
    refine lv_iload hx hb dL_law_23 (lv_at hl 0 rfl) ?_
    refine lv_aload_n hx hb dL_law_25 rfl (lv_at hl 4 rfl) ?_
    refine va_slen hx hb hX hbl hbA hS dL_law_26 ?_
    refine lv_iconst (v := 4) hx hb dL_law_27 (by decide) ?_
    refine lv_isub hx hb dL_law_28 ?_
    refine lv_icmp_gt (tgt := 1672) hx hb dL_law_29 (by decide) (fun c10 => ?_) (fun c10 => ?_)
    · refine lv_iconst (v := 1) hx hb dL_law_1672 (by decide) ?_
      refine va_forget (fun q hq => hS.2.2 q hq) ?_
      refine W.widen (k := 601024) (n := 7293034) (by omega) (by omega) ?_
      exact lw_ret hx hb hr hlocks dL_law_1673
    · refine absurd (Int32.lt_iff_toInt_lt.mpr ?_) c10
      rw [show (Int32.ofNat L - 4).toInt = (L : Int) - 4 from pk_sub_toInt (a := L) (b := 4) (by omega) (by omega), nI_toInt (by omega)]
      omega
  | succ q ih =>
    intro t hq ht s_x_text g_x_text_signs s_x_window s_x_trial s_x_past sk s_x_firstSlot s_x_firstSlot_kept s_x_secondSlot s_x_secondSlot_kept s_x_equations g_x_equations_terms g_x_looks s_m g_m_text g_m_now g_m_trial g_m_diary g_m_kept g_m_isKept g_m_seen g_m_equations g_m_wanted g_o R H locs hP hD hS ls hl
    refine lv_iload hx hb dL_law_23 (lv_at hl 0 rfl) ?_
    refine lv_aload_n hx hb dL_law_25 rfl (lv_at hl 4 rfl) ?_
    refine va_slen hx hb hX hbl hbA hS dL_law_26 ?_
    refine lv_iconst (v := 4) hx hb dL_law_27 (by decide) ?_
    refine lv_isub hx hb dL_law_28 ?_
    refine lv_icmp_gt (tgt := 1672) hx hb dL_law_29 (by decide) (fun c10 => ?_) (fun c10 => ?_)
    · refine lv_iconst (v := 1) hx hb dL_law_1672 (by decide) ?_
      refine va_forget (fun q hq => hS.2.2 q hq) ?_
      refine W.widen (k := 601024) (n := 7293034) (by omega) (by omega) ?_
      exact lw_ret hx hb hr hlocks dL_law_1673
    · have hlt : 4 * t + 4 ≤ L := by
        rcases Nat.lt_or_ge L (4 * t + 4) with z | z
        · refine absurd (Int32.lt_iff_toInt_lt.mpr ?_) c10
          rw [show (Int32.ofNat L - 4).toInt = (L : Int) - 4 from pk_sub_toInt (a := L) (b := 4) (by omega) (by omega), nI_toInt (by omega)]
          omega
        · exact z
      have i0 : vp_in (nI (4 * t)) L := vp_in_nI (by omega) (by omega)
      have i1 : vp_in (nI (4 * t) + 1) L := by rw [nI_1]; exact vp_in_nI (by omega) (by omega)
      have i2 : vp_in (nI (4 * t) + 2) L := by
        show vp_in (nI (4 * t) + nI 2) L
        rw [nI_add]; exact vp_in_nI (by omega) (by omega)
      have i3 : vp_in (nI (4 * t) + 3) L := by
        show vp_in (nI (4 * t) + nI 3) L
        rw [nI_add]; exact vp_in_nI (by omega) (by omega)
      refine lv_aload_n hx hb dL_law_32 rfl (lv_at hl 4 rfl) ?_
      refine lv_iload hx hb dL_law_33 (lv_at hl 0 rfl) ?_
      refine va_sld hx hb hX hbl hbA hS i0 dL_law_35 ?_
      refine lv_bipush (v := 31) hx hb dL_law_36 (by decide) ?_
      refine lv_iand hx hb dL_law_38 ?_
      obtain ⟨j, hj, ej⟩ := pk_andE (xs (nI (4 * t)).toNatClampNeg) (m := 31) 5 (by decide)
      rw [ej]
      refine turn_all hfl C0 hK hN hE hXN a_x a_x_text a_x_text_signs a_x_window a_x_trial a_x_past a_x_past_kept a_x_firstSlot a_x_firstSlot_kept a_x_secondSlot a_x_secondSlot_kept a_x_equations a_x_equations_terms a_x_looks a_m a_m_text a_m_now a_m_trial a_m_diary a_m_kept a_m_isKept a_m_seen a_m_equations a_m_wanted a_o ak hn (39 + 3 * t) (1505 + 18 * t) (by omega) (by omega) (nI (4 * t)) i0 i1 i2 i3 (fun s_x_text g_x_text_signs s_x_window s_x_trial s_x_past sk s_x_firstSlot s_x_firstSlot_kept s_x_secondSlot s_x_secondSlot_kept s_x_equations g_x_equations_terms g_x_looks s_m g_m_text g_m_now g_m_trial g_m_diary g_m_kept g_m_isKept g_m_seen g_m_equations g_m_wanted g_o R H locs hP hD hS ls hl => ?_) s_x_text g_x_text_signs s_x_window s_x_trial s_x_past sk s_x_firstSlot s_x_firstSlot_kept s_x_secondSlot s_x_secondSlot_kept s_x_equations g_x_equations_terms g_x_looks s_m g_m_text g_m_now g_m_trial g_m_diary g_m_kept g_m_isKept g_m_seen g_m_equations g_m_wanted g_o R H locs hP hD hS ls hl hj
      refine lv_iinc (k := 0) (v := nI (4 * (t + 1))) (lv' := [(4, .int (nI (4 * (t + 1)))), (3, .ref a_o), (2, .ref a_m), (1, .ref a_x), (0, .ref b)]) hx hb dL_law_1666 hl rfl (show nI (4 * t) + nI 4 = nI (4 * (t + 1)) from nI_add _ 4) (by decide) rfl (fun ls hl => ?_)
      refine lv_goto (tgt := 23) hx hb dL_law_1669 (by decide) ?_
      refine W.widen (k := 39 + 3 * (t + 1)) (n := 1505 + 18 * (t + 1)) (by omega) (by omega) ?_
      exact ih (t + 1) (by omega) (by omega) s_x_text g_x_text_signs s_x_window s_x_trial s_x_past sk s_x_firstSlot s_x_firstSlot_kept s_x_secondSlot s_x_secondSlot_kept s_x_equations g_x_equations_terms g_x_looks s_m g_m_text g_m_now g_m_trial g_m_diary g_m_kept g_m_isKept g_m_seen g_m_equations g_m_wanted g_o R H locs hP hD hS ls hl
