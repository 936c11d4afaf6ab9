/-! a cell of the script, made not negative -/
def cF (L : Nat) (xs : Nat → Int32) (k : Nat) : Int32 := (if nI L ≤ nI k then ((15519229 * (nI k + 3)) + 11369) else xs (nI k).toNatClampNeg) &&& 2147483647
theorem cF_ex (L : Nat) (xs : Nat → Int32) (k : Nat) : ∃ X, X < 2 ^ 31 ∧ cF L xs k = nI X := pk_andE _ (m := 2147483647) 31 (by decide)
def pcC (G : va_G) (cy : Nat → ClassId) (b L : Nat) (xs : Nat → Int32) (sz : Nat) (U : State) : Prop := pcW G cy [] sz U ∧ va_X b L xs U U.heap
theorem pcC_blind {G : va_G} {cy : Nat → ClassId} {b L : Nat} {xs : Nat → Int32} {sz : Nat} {av : List Value} : FrameBlind (va_Pc av (pcC G cy b L xs sz)) := by
  intro a U g mk q
  obtain ⟨q0, q1, q2⟩ := q
  obtain ⟨-, z⟩ := pcW_blind a U g mk ⟨q0, q1⟩
  exact ⟨q0, z, va_X.moved (u := U) (U := U.calling g mk a) (Vm.Alike.refl U.vm) q2⟩
theorem preSC {G : va_G} {cy : Nat → ClassId} {b L : Nat} {xs : Nat → Int32} {s : State} {H : Heap} {av : List Value} (hX : va_X b L xs s H) (hK : va_K G vwCl (tyL cy) s) (hN : NW s) : PreS s H (va_Pc av (pcC G cy b L xs H.size)) av :=
  ⟨pcC_blind, fun U hU hW => ⟨rfl, ⟨by rw [hU], P_0, va_K.moved hW.alike hK, D_0, NW.warm hW hN⟩, by rw [hU]; exact va_X.moved hW.alike hX⟩⟩
set_option maxHeartbeats 4000000 in
set_option maxRecDepth 100000 in
theorem c_L_cell {l : Launch} (G : va_G) (cy : Nat → ClassId) {b L : Nat} {xs : Nat → Int32} (hL : L ≤ 260) (sz : Nat) (k : Nat) (hk : k < 2 ^ 31) : Met l yL_cell wsL_cell ({ frames := 0, cells := 0, slots := 0, locals := 0 } : Room) (va_Pc [.ref b, .int (nI k)] (pcC G cy b L xs sz)) (va_Qi (fun r (_ : Unit) => r = cF L xs k) (fun _ t => Wd G cy (va_A [] sz) [] t) (va_A [] sz)) 0 0 (va_A [] sz) := by
  refine Met.ofW (cc := cL_cell) (maxL := 2) (ret := (some .int)) (by decide) rfl ?_
  intro p e s m args below meth c s₁ B hml hv
  obtain ⟨rfl, ⟨hsz, hP, hK, hD0, hN⟩, hX⟩ := hv
  have hx := B.exec
  have hb := B.bytes
  have hr := B.returns
  have hts := atoms_spec (ws := wsL_cell) B.pre
  have hown : s.vm.findClass RL = some m.cls := findClass_of_methodNamed B.named
  have hlocks := B.notSynchronized
  subst hsz
  have hbl : b < s.heap.size := by
    obtain ⟨scr, h1, -⟩ := hX
    exact (Array.getElem?_eq_some_iff.mp h1).1
  have hD : va_D (va_A [] s.heap.size) [] := D_0
  have hbA : ¬ va_A [] s.heap.size b := fun h => by
    rcases h with ⟨k, e, h⟩ | h
    · simp at h
    · omega
  generalize hAe : va_A [] s.heap.size = A at hD hbA ⊢
  have hS : va_S A s.heap s.heap [] := va_S.rf
  have hl := lv_entry [.ref b, .int (nI k)] (n := 2) (Nat.le_of_ble_eq_true rfl)
  rw [lg_entry_eq]
  generalize (lg_sl [.ref b, .int (nI k)] ++ List.replicate (2 - (lg_sl [.ref b, .int (nI k)]).length) Slot.unset).toArray = ls at hl ⊢
  have hl : lv_has ls 2 [(0, .ref b), (1, .int (nI k))] := hl
  have fin : W p l e ({ frames := 0, cells := 0, slots := 0, locals := 0 } : Room) s m [.ref b, .int (nI k)].toArray below meth c s.heap [] 0 0 (MQ below (va_Qi (fun r (_ : Unit) => r = cF L xs k) (fun _ t => Wd G cy A [] t) A) [.ref b, .int (nI k)].toArray s 0 0 A) (F0 m 22 ls [.int (if nI L ≤ nI k then ((15519229 * (nI k + 3)) + 11369) else xs (nI k).toNatClampNeg)]) := by
    refine lv_ldc (v := 2147483647) hx hb hown (hts (.constant RL 167 (2147483647)) (by decide +kernel)) dL_cell_22 ?_
    refine lv_iand hx hb dL_cell_24 ?_
    exact kr_i hx hb hr hlocks rfl hP hK hD hN hS hS.2.2 dL_cell_25
  refine lv_iload_n hx hb dL_cell_0 rfl (lv_at hl 1 rfl) ?_
  refine lv_aload_n hx hb dL_cell_1 rfl (lv_at hl 0 rfl) ?_
  refine va_slen hx hb hX hbl hbA hS dL_cell_2 ?_
  refine lv_icmp_ge (tgt := 12) hx hb dL_cell_3 (by decide) (fun h_1 => ?_) (fun h_1 => ?_)
  · refine lv_ldc (v := 15519229) hx hb hown (hts (.constant RL 166 (15519229)) (by decide +kernel)) dL_cell_12 ?_
    refine lv_iload_n hx hb dL_cell_14 rfl (lv_at hl 1 rfl) ?_
    refine lv_iconst (v := 3) hx hb dL_cell_15 (by decide) ?_
    refine lv_iadd hx hb dL_cell_16 ?_
    refine lv_imul hx hb dL_cell_17 ?_
    refine lv_sipush (v := 11369) hx hb dL_cell_18 (by decide) ?_
    refine lv_iadd hx hb dL_cell_21 ?_
    rw [if_pos (show nI L ≤ nI k from h_1)] at fin
    exact fin
  · refine lv_aload_n hx hb dL_cell_6 rfl (lv_at hl 0 rfl) ?_
    refine lv_iload_n hx hb dL_cell_7 rfl (lv_at hl 1 rfl) ?_
    have hin : vp_in (nI k) L := vp_in_nI (by
      rcases Nat.lt_or_ge k L with z | z
      · exact z
      · exact absurd (nI_le z hk) h_1) (by omega)
    refine va_sld hx hb hX hbl hbA hS hin dL_cell_8 ?_
    refine lv_goto (tgt := 22) hx hb dL_cell_9 (by decide) ?_
    rw [if_neg (show ¬ nI L ≤ nI k from h_1)] at fin
    exact fin
