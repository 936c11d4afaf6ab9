/-! methods that throw: what they take from the start, calls of them, their own throw -/
def exN (c : Nat) : String := if c = 1 then "java/lang/IndexOutOfBoundsException" else if c = 2 then "java/lang/IllegalArgumentException" else "java/lang/IllegalStateException"
def SR (k : Nat) (tx : String) (U : State) : Prop := ∃ a, vk_R RX5 k tx a U
theorem SR.warm {k : Nat} {tx : String} {s U : State} (hW : s.WarmedH U.vm) (h : SR k tx s) : SR k tx U := by obtain ⟨a, h⟩ := h; exact ⟨a, h.warm hW⟩
theorem SR.same {k : Nat} {tx : String} {u U : State} (e : u.vm = U.vm) (h : SR k tx u) : SR k tx U := by obtain ⟨a, h⟩ := h; exact ⟨a, h.same e.symm⟩
def XS (U : State) : Prop := SR 64 "the text is full" U ∧ SR 80 "the text is not a window" U ∧ SR 165 "what is not 0 to 7" U ∧ SR 186 "what is not 0 to 3" U ∧ SR 204 "no cell is the neighbour there" U ∧ SR 208 "no state is remembered" U ∧ SR 270 "script does not fit" U ∧ SR 301 "nothing has been saved there" U ∧ SR 308 "no such save slot" U ∧ SR 311 "no such cell" U ∧ SR 317 "an argument is out of its range" U ∧ SR 319 "the rule is 0" U
def XD (U : State) : Prop := va_Nw (.declares (Bundle.initS "java/lang/RuntimeException")) U ∧ va_Nw (.declares (Bundle.initS "java/lang/Exception")) U ∧ va_Nw (.declares (Bundle.initS "java/lang/Throwable")) U ∧ va_Nw (.castable "java/lang/IndexOutOfBoundsException" "java/lang/IndexOutOfBoundsException") U ∧ va_Nw (.castable "java/lang/IllegalArgumentException" "java/lang/IllegalArgumentException") U ∧ va_Nw (.castable "java/lang/IllegalStateException" "java/lang/IllegalStateException") U
def XW (U : State) : Prop := XD U ∧ XS U
theorem XW.warm {s U : State} (hW : s.WarmedH U.vm) (h : XW s) : XW U := by
  obtain ⟨⟨a1, a2, a3, a4, a5, a6⟩, b1, b2, b3, b4, b5, b6, b7, b8, b9, b10, b11, b12⟩ := h
  exact ⟨⟨a1.warmD hW, a2.warmD hW, a3.warmD hW, a4.warmC hW, a5.warmC hW, a6.warmC hW⟩, b1.warm hW, b2.warm hW, b3.warm hW, b4.warm hW, b5.warm hW, b6.warm hW, b7.warm hW, b8.warm hW, b9.warm hW, b10.warm hW, b11.warm hW, b12.warm hW⟩
theorem XW.same {u U : State} (e : u.vm = U.vm) (h : XW u) : XW U := by
  obtain ⟨⟨a1, a2, a3, a4, a5, a6⟩, b1, b2, b3, b4, b5, b6, b7, b8, b9, b10, b11, b12⟩ := h
  exact ⟨⟨a1.same rfl e, a2.same rfl e, a3.same rfl e, a4.same rfl e, a5.same rfl e, a6.same rfl e⟩, b1.same e, b2.same e, b3.same e, b4.same e, b5.same e, b6.same e, b7.same e, b8.same e, b9.same e, b10.same e, b11.same e, b12.same e⟩
def EN (A : Nat → Prop) (U : State) (H : Heap) : Prop := vx_Zq Bundle.tN "UNASSIGNED_STACK" Bundle.steD A U H ∧ vx_Zq Bundle.tN "SUPPRESSED_SENTINEL" Bundle.listD A U H ∧ XW U
theorem EN.kept {A : Nat → Prop} {U : State} {H H1 : Heap} (h : EN A U H) (hq : ∀ a : Nat, a < H.size → ¬ A a → H1[a]? = H[a]?) : EN A U H1 := ⟨h.1.kept hq, h.2.1.kept hq, h.2.2⟩
theorem EN.narrow {A B : Nat → Prop} {U : State} {H : Heap} (h : EN A U H) (hAB : ∀ q, B q → A q) : EN B U H := ⟨h.1.narrow hAB, h.2.1.narrow hAB, h.2.2⟩
theorem EN.warm {A : Nat → Prop} {s U : State} {H : Heap} (hW : s.WarmedH U.vm) (h : EN A s H) : EN A U H := ⟨h.1.moved hW.alike, h.2.1.moved hW.alike, h.2.2.warm hW⟩
def pcX (G : va_G) (cy : Nat → ClassId) (ws : va_W) (sz : Nat) (U : State) : Prop := pcW G cy ws sz U ∧ EN (va_A ws sz) U U.heap
theorem pcX_blind {G : va_G} {cy : Nat → ClassId} {ws : va_W} {sz : Nat} {av : List Value} : FrameBlind (va_Pc av (pcX G cy ws sz)) := by
  intro a U g mk q
  obtain ⟨q0, ⟨q1, qP, qK, qD, qN⟩, e1, e2, e3⟩ := q
  exact ⟨q0, ⟨q1, qP, va_K.moved (u := U) (U := U.calling g mk a) (Vm.Alike.refl U.vm) qK, qD, NW.same rfl qN⟩, vx_Zq.moved (u := U) (U := U.calling g mk a) (Vm.Alike.refl U.vm) e1, vx_Zq.moved (u := U) (U := U.calling g mk a) (Vm.Alike.refl U.vm) e2, XW.same rfl e3⟩
theorem preSX {G : va_G} {cy : Nat → ClassId} {wc : va_W} {s : State} {H : Heap} {A : Nat → Prop} {av : List Value} (hE : EN A s H) (hF : ∀ q, va_A wc H.size q → A q) (hP : va_P G vwCl wc H) (hK : va_K G vwCl (tyL cy) s) (hD : va_D A wc) (hN : NW s) : PreS s H (va_Pc av (pcX G cy wc H.size)) av :=
  ⟨pcX_blind, fun U hU hW => ⟨rfl, ⟨by rw [hU], by rw [hU]; exact hP, va_K.moved hW.alike hK, hD.weaken (fun _ _ _ _ => trivial), NW.warm hW hN⟩, by rw [hU]; exact (hE.narrow hF).warm hW⟩⟩
theorem preVX {G : va_G} {cy : Nat → ClassId} {wc : va_W} {s : State} {H : Heap} {A : Nat → Prop} {b : Nat} {As : List Value} {ci q0 : Nat} {q : vw_C} {fs : List Value} (hc : vwCl[ci]? = some q) (he : wc[q0]? = some (b, .inr (ci, fs))) (hE : EN A s H) (hF : ∀ q, va_A wc H.size q → A q) (hP : va_P G vwCl wc H) (hK : va_K G vwCl (tyL cy) s) (hD : va_D A wc) (hN : NW s) : PreV s H q.1 b (va_Pc (.ref b :: As) (pcX G cy wc H.size)) As :=
  ⟨pcX_blind, va_recv hK hP hc he, fun U hU hW => ⟨rfl, ⟨by rw [hU], by rw [hU]; exact hP, va_K.moved hW.alike hK, hD.weaken (fun _ _ _ _ => trivial), NW.warm hW hN⟩, by rw [hU]; exact (hE.narrow hF).warm hW⟩⟩
theorem preVX2 {G : va_G} {cy : Nat → ClassId} {wc ws : va_W} {s : State} {H : Heap} {A : Nat → Prop} {b : Nat} {As : List Value} {ci q0 : Nat} {q : vw_C} {fs : List Value} (hc : vwCl[ci]? = some q) (he : ws[q0]? = some (b, .inr (ci, fs))) (hP0 : va_P G vwCl ws H) (hE : EN A s H) (hF : ∀ q, va_A wc H.size q → A q) (hP : va_P G vwCl wc H) (hK : va_K G vwCl (tyL cy) s) (hD : va_D A wc) (hN : NW s) : PreV s H q.1 b (va_Pc (.ref b :: As) (pcX G cy wc H.size)) As :=
  ⟨pcX_blind, va_recv hK hP0 hc he, fun U hU hW => ⟨rfl, ⟨by rw [hU], by rw [hU]; exact hP, va_K.moved hW.alike hK, hD.weaken (fun _ _ _ _ => trivial), NW.warm hW hN⟩, by rw [hU]; exact (hE.narrow hF).warm hW⟩⟩
theorem preV2_ {G : va_G} {cy : Nat → ClassId} {wc ws : va_W} {s : State} {H : Heap} {A : Nat → Prop} {b : Nat} {As : List Value} {ci q0 : Nat} {q : vw_C} {fs : List Value} (hc : vwCl[ci]? = some q) (he : ws[q0]? = some (b, .inr (ci, fs))) (hP0 : va_P G vwCl ws H) (hP : va_P G vwCl wc H) (hK : va_K G vwCl (tyL cy) s) (hD : va_D A wc) (hN : NW s) : PreV s H q.1 b (va_Pc (.ref b :: As) (pcW G cy wc H.size)) As :=
  ⟨pcW_blind, va_recv hK hP0 hc he, fun U hU hW => ⟨rfl, by rw [hU], by rw [hU]; exact hP, va_K.moved hW.alike hK, hD.weaken (fun _ _ _ _ => trivial), NW.warm hW hN⟩⟩
theorem obx_l {α β : Type} {e : Nat} {k : α → Option (Nat ⊕ β)} {R : Nat ⊕ β} (h : obx (some (.inl e)) k = some R) : R = .inl e := (Option.some.inj h).symm
theorem obx_r {α β : Type} {v : α} {k : α → Option (Nat ⊕ β)} {R : Nat ⊕ β} (h : obx (some (.inr v)) k = some R) : k v = some R := h
theorem vin14 {i : Int32} (h1 : ¬ i < 0) (h2 : ¬ (14 : Int32) ≤ i) : vp_in i 14 := by
  rw [vp_in_iff]
  rw [Int32.lt_iff_toInt_lt] at h1
  rw [Int32.le_iff_toInt_le] at h2
  have a : (0 : Int32).toInt = 0 := rfl
  have b : (14 : Int32).toInt = 14 := by decide
  omega
section KQ
variable {p : Program} {l : Launch} {e : Env} {R : Room} {s : State} {m : MethodId} {args : Array Value} {below : List Frame} {meth : Method} {c : Code} {H : Heap} {locs : List Loc} {cells slots : Nat} {Q : State → Prop}
variable {pc : Nat} {ls : Array Slot} {rest st0 : List Value} {a : Array Value} {A : Nat → Prop} {H0 : Heap} {G : va_G} {cy : Nat → ClassId} {wc w1 wr ws : va_W}
theorem kc_q {V : Option Nat} {v : Value} (hv : va_rf V = v) (hP : va_P G vwCl ws H) (hD : va_D A ws) (hS : va_S A H0 H locs) (hA : ∀ q, H0.size ≤ q → A q) (isC isR : List Nat) (hC : isC.map (fun i => ws[i]?) = wc.map some) (hR : isR.map (fun i => ws[i]?) = wr.map some) (hn : va_nd isR = true) (hdis : ∀ i ∈ isR, i ∉ isC)
    (hr : va_Run p l e R s m args below meth c H locs cells slots 0 0 (F0 m pc ls st0) rest (va_Qq (fun r (_ : Unit) => r = V) (fun _ t => Wd G cy (va_A wc H.size) w1 t) (va_A wc H.size) a) (va_A wc H.size))
    (kk : ∀ (H1 : Heap) (locs1 : List Loc), va_P G vwCl (wr ++ w1) H1 → va_D A (wr ++ w1) → va_S A H0 H1 locs1 → W p l e R s m args below meth c H1 locs1 cells slots Q (F0 m (pc + 3) ls (v :: rest))) : W p l e R s m args below meth c H locs cells slots Q (F0 m pc ls st0) := by
  have hF := va_free hD hS hA isC hC
  refine va_callq hr hS (fun q _ h => hF q h) hF (fun r u t H1 locs1 ht hvm hw hB hz1 hk1 hS => ?_)
  obtain ⟨hP1, -, hD1, -⟩ := hB
  rw [ht] at hP1
  obtain ⟨hP, hD⟩ := va_join hP hD isC isR hC hR hn hdis hk1 hF hP1 hD1
  subst hw
  subst hv
  exact kk H1 locs1 hP hD hS
theorem kr_q {cc : ByteArray} {V V' : Option Nat} {rt : FieldType} {free : Addr → Prop} (hx : p.tables.exec = Jvm.exec) (hb : c.code = cc) (hr : meth.sig.returnType = some rt) (hlocks : meth.locks = false) (hrt : (∃ n, rt = .object n) ∨ ∃ t, rt = .array t) (hv : va_rf V = .null ∨ ∃ a, va_rf V = .ref a) (hV : V = V') (hP : va_P G vwCl ws H) (hK : va_K G vwCl (tyL cy) s) (hD : va_D A ws) (hN : NW s) (hS : va_S A s.heap H locs) (hfr : ∀ q ∈ locs, free q.base) (hdg : decode cc pc = .ok (.areturn, 1)) :
    W p l e R s m args below meth c H locs cells slots (MQ below (va_Qq (fun r (_ : Unit) => r = V') (fun _ t => Wd G cy A ws t) A) args s cells slots free) (F0 m pc ls [va_rf V]) :=
  W.aret hx hb hr hrt hv (fun t ht hW => ⟨⟨V, (), rfl, hV, by rw [ht]; exact hP, va_K.moved hW.alike hK, hD, NW.warm hW hN⟩, hS.F ht⟩) hfr hdg
end KQ
section KR
variable {p : Program} {l : Launch} {e : Env} {R : Room} {s : State} {m : MethodId} {args : Array Value} {below : List Frame} {meth : Method} {c : Code} {H : Heap} {locs : List Loc} {cells slots : Nat}
variable {pc : Nat} {ls : Array Slot} {A : Nat → Prop} {G : va_G} {cy : Nat → ClassId} {T : Type} {w1 : T → va_W} {Z : Nat ⊕ T} {XC : String → State → State → Prop} {cc : ByteArray} {free : Addr → Prop}
theorem kr_iX {V : T → Int32} {u : T} (hx : p.tables.exec = Jvm.exec) (hb : c.code = cc) (hr : meth.sig.returnType = some .int) (hlocks : meth.locks = false) (hZ : Z = .inr u) (hP : va_P G vwCl (w1 u) H) (hK : va_K G vwCl (tyL cy) s) (hD : va_D A (w1 u)) (hN : NW s) (hS : va_S A s.heap H locs) (hfr : ∀ q ∈ locs, free q.base) (hdg : decode cc pc = .ok (.ireturn, 1)) :
    W p l e R s m args below meth c H locs cells slots (vx_MQ below (va_Qi (fun r (u : T) => Z = .inr u ∧ r = V u) (fun u t => Wd G cy A (w1 u) t) A) XC args s cells slots free) (F0 m pc ls [.int (V u)]) :=
  vx_ret (W.iret hx hb hr (fun t ht hW => ⟨⟨V u, u, rfl, ⟨hZ, rfl⟩, by rw [ht]; exact hP, va_K.moved hW.alike hK, hD, NW.warm hW hN⟩, hS.F ht⟩) hfr hdg)
theorem kr_zX {V : T → Bool} {ty : FieldType} {u : T} (hx : p.tables.exec = Jvm.exec) (hb : c.code = cc) (hr : meth.sig.returnType = some ty) (hlocks : meth.locks = false) (hnr : narrow ty (.int (bI (V u))) = .int (bI (V u))) (hZ : Z = .inr u) (hP : va_P G vwCl (w1 u) H) (hK : va_K G vwCl (tyL cy) s) (hD : va_D A (w1 u)) (hN : NW s) (hS : va_S A s.heap H locs) (hfr : ∀ q ∈ locs, free q.base) (hdg : decode cc pc = .ok (.ireturn, 1)) :
    W p l e R s m args below meth c H locs cells slots (vx_MQ below (va_Qi (fun r (u : T) => Z = .inr u ∧ r = bI (V u)) (fun u t => Wd G cy A (w1 u) t) A) XC args s cells slots free) (F0 m pc ls [.int (bI (V u))]) :=
  vx_ret (W.zret hx hb hr hnr (fun t ht hW => ⟨⟨bI (V u), u, rfl, ⟨hZ, rfl⟩, by rw [ht]; exact hP, va_K.moved hW.alike hK, hD, NW.warm hW hN⟩, hS.F ht⟩) hfr hdg)
theorem kr_lX {V : T → Int64} {u : T} (hx : p.tables.exec = Jvm.exec) (hb : c.code = cc) (hr : meth.sig.returnType = some .long) (hlocks : meth.locks = false) (hZ : Z = .inr u) (hP : va_P G vwCl (w1 u) H) (hK : va_K G vwCl (tyL cy) s) (hD : va_D A (w1 u)) (hN : NW s) (hS : va_S A s.heap H locs) (hfr : ∀ q ∈ locs, free q.base) (hdg : decode cc pc = .ok (.lreturn, 1)) :
    W p l e R s m args below meth c H locs cells slots (vx_MQ below (va_Ql (fun r (u : T) => Z = .inr u ∧ r = V u) (fun u t => Wd G cy A (w1 u) t) A) XC args s cells slots free) (F0 m pc ls [.long (V u)]) :=
  vx_ret (W.lret hx hb hr (fun t ht hW => ⟨⟨V u, u, rfl, ⟨hZ, rfl⟩, by rw [ht]; exact hP, va_K.moved hW.alike hK, hD, NW.warm hW hN⟩, hS.F ht⟩) hfr hdg)
theorem kr_vX {u : T} (hx : p.tables.exec = Jvm.exec) (hb : c.code = cc) (hr : meth.sig.returnType = none) (hlocks : meth.locks = false) (hZ : Z = .inr u) (hP : va_P G vwCl (w1 u) H) (hK : va_K G vwCl (tyL cy) s) (hD : va_D A (w1 u)) (hN : NW s) (hS : va_S A s.heap H locs) (hfr : ∀ q ∈ locs, free q.base) (hdg : decode cc pc = .ok (.return_, 1)) :
    W p l e R s m args below meth c H locs cells slots (vx_MQ below (va_Qv (fun (u : T) => Z = .inr u) (fun u t => Wd G cy A (w1 u) t) A) XC args s cells slots free) (F0 m pc ls []) :=
  vx_ret (W.vret hx hb hr (fun t ht hW => ⟨⟨u, rfl, hZ, by rw [ht]; exact hP, va_K.moved hW.alike hK, hD, NW.warm hW hN⟩, hS.F ht⟩) hfr hdg)
end KR
section KX
variable {p : Program} {l : Launch} {e : Env} {R : Room} {s : State} {m : MethodId} {args : Array Value} {below : List Frame} {meth : Method} {c : Code} {H : Heap} {locs : List Loc} {cells slots : Nat} {Q : State → Prop}
variable {pc : Nat} {ls : Array Slot} {rest st0 : List Value} {a : Array Value} {A : Nat → Prop} {H0 : Heap} {G : va_G} {cy : Nat → ClassId} {wc wx wr ws : va_W} {mc ms : Nat} {T : Type} {w1 : T → va_W} {Z : Nat ⊕ T}
theorem kx_i {V : T → Int32} (hP : va_P G vwCl ws H) (hD : va_D A ws) (hS : va_S A H0 H locs) (hA : ∀ q, H0.size ≤ q → A q) (isC isR : List Nat) (hC : isC.map (fun i => ws[i]?) = wc.map some) (hR : isR.map (fun i => ws[i]?) = wr.map some) (hn : va_nd isR = true) (hdis : ∀ i ∈ isR, i ∉ isC)
    (hr : vx_Run p l e R s m args below meth c H locs cells slots mc ms (F0 m pc ls st0) rest (va_Qi (fun r (u : T) => Z = .inr u ∧ r = V u) (fun u t => Wd G cy (va_A wc H.size) (w1 u) t) (va_A wc H.size) a) (vx_X (fun u : Nat => Z = .inl u) (fun E u t => E = exN u ∧ va_P G vwCl wx t.heap ∧ va_D (va_A wc H.size) wx) (va_A wc H.size)) (va_A wc H.size))
    (kx : ∀ (u : Nat) (ce : Cell) (q9 : Addr) (H1 : Heap) (locs1 : List Loc), Z = .inl u → va_P G vwCl (wr ++ wx) H1 → va_D A (wr ++ wx) → va_S A H0 H1 locs1 → H1[q9]? = some ce → ce.vm = .none → s.vm.findClass (exN u) = some ce.cls → vx_W p l e R s m args below meth c H1 locs1 (cells + mc) (slots + ms) Q (F0 m pc ls rest) q9)
    (kk : ∀ (u : T) (H1 : Heap) (locs1 : List Loc), Z = .inr u → va_P G vwCl (wr ++ w1 u) H1 → va_D A (wr ++ w1 u) → va_S A H0 H1 locs1 → W p l e R s m args below meth c H1 locs1 (cells + mc) (slots + ms) Q (F0 m (pc + 3) ls (.int (V u) :: rest))) : W p l e R s m args below meth c H locs cells slots Q (F0 m pc ls st0) := by
  have hF := va_free hD hS hA isC hC
  refine vx_calli hr hS (fun q _ h => hF q h) hF (fun q _ h => hF q h) (fun E ce q9 u t H1 locs1 ht hvm hp hB hz1 hk1 hS hc1 hc2 hc3 => ?_) (fun r u t H1 locs1 ht hvm hw hB hz1 hk1 hS => ?_)
  · obtain ⟨rfl, hP1, hD1⟩ := hB
    rw [ht] at hP1
    obtain ⟨hP, hD⟩ := va_join hP hD isC isR hC hR hn hdis hk1 hF hP1 hD1
    exact kx u ce q9 H1 locs1 hp hP hD hS hc1 hc2 hc3
  · obtain ⟨hP1, -, hD1, -⟩ := hB
    rw [ht] at hP1
    obtain ⟨hP, hD⟩ := va_join hP hD isC isR hC hR hn hdis hk1 hF hP1 hD1
    obtain ⟨hz, rfl⟩ := hw
    exact kk u H1 locs1 hz hP hD hS
theorem kx_l {V : T → Int64} (hP : va_P G vwCl ws H) (hD : va_D A ws) (hS : va_S A H0 H locs) (hA : ∀ q, H0.size ≤ q → A q) (isC isR : List Nat) (hC : isC.map (fun i => ws[i]?) = wc.map some) (hR : isR.map (fun i => ws[i]?) = wr.map some) (hn : va_nd isR = true) (hdis : ∀ i ∈ isR, i ∉ isC)
    (hr : vx_Run p l e R s m args below meth c H locs cells slots mc ms (F0 m pc ls st0) rest (va_Ql (fun r (u : T) => Z = .inr u ∧ r = V u) (fun u t => Wd G cy (va_A wc H.size) (w1 u) t) (va_A wc H.size) a) (vx_X (fun u : Nat => Z = .inl u) (fun E u t => E = exN u ∧ va_P G vwCl wx t.heap ∧ va_D (va_A wc H.size) wx) (va_A wc H.size)) (va_A wc H.size))
    (kx : ∀ (u : Nat) (ce : Cell) (q9 : Addr) (H1 : Heap) (locs1 : List Loc), Z = .inl u → va_P G vwCl (wr ++ wx) H1 → va_D A (wr ++ wx) → va_S A H0 H1 locs1 → H1[q9]? = some ce → ce.vm = .none → s.vm.findClass (exN u) = some ce.cls → vx_W p l e R s m args below meth c H1 locs1 (cells + mc) (slots + ms) Q (F0 m pc ls rest) q9)
    (kk : ∀ (u : T) (H1 : Heap) (locs1 : List Loc), Z = .inr u → va_P G vwCl (wr ++ w1 u) H1 → va_D A (wr ++ w1 u) → va_S A H0 H1 locs1 → W p l e R s m args below meth c H1 locs1 (cells + mc) (slots + ms) Q (F0 m (pc + 3) ls (.long (V u) :: rest))) : W p l e R s m args below meth c H locs cells slots Q (F0 m pc ls st0) := by
  have hF := va_free hD hS hA isC hC
  refine vx_calll hr hS (fun q _ h => hF q h) hF (fun q _ h => hF q h) (fun E ce q9 u t H1 locs1 ht hvm hp hB hz1 hk1 hS hc1 hc2 hc3 => ?_) (fun r u t H1 locs1 ht hvm hw hB hz1 hk1 hS => ?_)
  · obtain ⟨rfl, hP1, hD1⟩ := hB
    rw [ht] at hP1
    obtain ⟨hP, hD⟩ := va_join hP hD isC isR hC hR hn hdis hk1 hF hP1 hD1
    exact kx u ce q9 H1 locs1 hp hP hD hS hc1 hc2 hc3
  · obtain ⟨hP1, -, hD1, -⟩ := hB
    rw [ht] at hP1
    obtain ⟨hP, hD⟩ := va_join hP hD isC isR hC hR hn hdis hk1 hF hP1 hD1
    obtain ⟨hz, rfl⟩ := hw
    exact kk u H1 locs1 hz hP hD hS
theorem kx_v (hP : va_P G vwCl ws H) (hD : va_D A ws) (hS : va_S A H0 H locs) (hA : ∀ q, H0.size ≤ q → A q) (isC isR : List Nat) (hC : isC.map (fun i => ws[i]?) = wc.map some) (hR : isR.map (fun i => ws[i]?) = wr.map some) (hn : va_nd isR = true) (hdis : ∀ i ∈ isR, i ∉ isC)
    (hr : vx_Run p l e R s m args below meth c H locs cells slots mc ms (F0 m pc ls st0) rest (va_Qv (fun (u : T) => Z = .inr u) (fun u t => Wd G cy (va_A wc H.size) (w1 u) t) (va_A wc H.size) a) (vx_X (fun u : Nat => Z = .inl u) (fun E u t => E = exN u ∧ va_P G vwCl wx t.heap ∧ va_D (va_A wc H.size) wx) (va_A wc H.size)) (va_A wc H.size))
    (kx : ∀ (u : Nat) (ce : Cell) (q9 : Addr) (H1 : Heap) (locs1 : List Loc), Z = .inl u → va_P G vwCl (wr ++ wx) H1 → va_D A (wr ++ wx) → va_S A H0 H1 locs1 → H1[q9]? = some ce → ce.vm = .none → s.vm.findClass (exN u) = some ce.cls → vx_W p l e R s m args below meth c H1 locs1 (cells + mc) (slots + ms) Q (F0 m pc ls rest) q9)
    (kk : ∀ (u : T) (H1 : Heap) (locs1 : List Loc), Z = .inr u → va_P G vwCl (wr ++ w1 u) H1 → va_D A (wr ++ w1 u) → va_S A H0 H1 locs1 → W p l e R s m args below meth c H1 locs1 (cells + mc) (slots + ms) Q (F0 m (pc + 3) ls rest)) : W p l e R s m args below meth c H locs cells slots Q (F0 m pc ls st0) := by
  have hF := va_free hD hS hA isC hC
  refine vx_callv hr hS (fun q _ h => hF q h) hF (fun q _ h => hF q h) (fun E ce q9 u t H1 locs1 ht hvm hp hB hz1 hk1 hS hc1 hc2 hc3 => ?_) (fun u t H1 locs1 ht hvm hw hB hz1 hk1 hS => ?_)
  · obtain ⟨rfl, hP1, hD1⟩ := hB
    rw [ht] at hP1
    obtain ⟨hP, hD⟩ := va_join hP hD isC isR hC hR hn hdis hk1 hF hP1 hD1
    exact kx u ce q9 H1 locs1 hp hP hD hS hc1 hc2 hc3
  · obtain ⟨hP1, -, hD1, -⟩ := hB
    rw [ht] at hP1
    obtain ⟨hP, hD⟩ := va_join hP hD isC isR hC hR hn hdis hk1 hF hP1 hD1
    exact kk u H1 locs1 hw hP hD hS
/-- a throw of a callee goes on -/
theorem kx_out {Qc : Array Value → State → Outcome → State → Prop} {ce : Cell} {q : Addr} (u : Nat) (hout : ∀ x ∈ c.exceptionTable.toList, False) (hlocks : meth.locks = false) (hZ : Z = .inl u) (hP : va_P G vwCl ws H) (hK : va_K G vwCl (tyL cy) s) (hD : va_D A ws) (hN : NW s) (hS : va_S A s.heap H locs) (hcell : H[q]? = some ce) (hv : ce.vm = .none) (hcl : s.vm.findClass (exN u) = some ce.cls) (hc : cells ≤ mc) (hs : slots ≤ ms) :
    vx_W p l e R s m args below meth c H locs cells slots (vx_MQ below Qc (vx_X (fun u : Nat => Z = .inl u) (fun E u t => E = exN u ∧ va_P G vwCl ws t.heap ∧ va_D A ws) A) args s mc ms A) (F0 m pc ls rest) q :=
  vx_out (fun x hx => (hout x hx).elim) hlocks hcell hv hcl (fun t ht hvm => ⟨u, hZ, ⟨rfl, by rw [ht]; exact hP, hD⟩, hS.F ht⟩) hS.2.2 hc hs
theorem kx_after {X : String} (u : Nat) (hu : X = exN u) (hZ : Z = .inl u) (hP : va_P G vwCl ws H) (hD : va_D A ws) (hS : va_S A s.heap H locs) : ∀ t : State, s.vm.Alike t.vm → H.size ≤ t.heap.size → (∀ q : Nat, q < H.size → t.heap[q]? = H[q]?) → vx_X (fun u : Nat => Z = .inl u) (fun E u t => E = exN u ∧ va_P G vwCl ws t.heap ∧ va_D A ws) A X s t := by
  intro t _ hz hq
  refine ⟨u, hZ, ⟨hu, fun k q hk => (hP k q hk).kept (hq _ (hP k q hk).lt), hD⟩, Nat.le_trans hS.1 hz, fun q h1 h2 => ?_⟩
  rw [hq q (Nat.lt_of_lt_of_le h1 hS.1)]
  exact hS.2.1 q h1 h2
/-- an own throw, its text by a short index or a wide one -/
theorem kt_S {Qc : Array Value → State → Outcome → State → Prop} {cc : ByteArray} (hexec : p.tables.exec = Jvm.exec) (hb : c.code = cc) (hl : l.stackTraces = false) {own X text : String} {names : List String} {ik is ic : Nat} (hown : s.vm.findClass own = some m.cls) (hcls : Bundle.fit X = true) (hnames : ∀ n ∈ names, Bundle.fit n = true)
    (hk : (Cond.classLink own ik X).before args s = true) (hini : (Cond.initialized X).before args s = true) (hstr : ∃ sa, vk_R own is text sa s) (hat : ∀ w ∈ vx_atS own ic X names, w.before args s = true) (hgood : ∀ w ∈ Cond.classLink own ik X :: Cond.initialized X :: vx_atS own ic X names, vx_ot w = true)
    (hE : EN A s s.heap) (hP : va_P G vwCl ws H) (hD : va_D A ws) (hS : va_S A s.heap H locs) (hsize : ls.size = c.maxLocals) (hout : ∀ x ∈ c.exceptionTable.toList, False) (hlocks : meth.locks = false)
    (d0 : decode cc pc = .ok (.new ik, 3)) (d3 : decode cc (pc + 3) = .ok (.dup, 1)) (d4 : decode cc (pc + 4) = .ok (.ldc is, 2)) (d6 : decode cc (pc + 6) = .ok (.invokespecial ic, 3)) (d9 : decode cc (pc + 9) = .ok (.athrow, 1))
    (hRframes : names.length + 3 < R.frames) (hRlocals : (rest.map fun v => v.category).sum + (13 * (names.length + 1) + 43) ≤ R.locals) (hRcells : cells + 1 ≤ R.cells) (hRslots : slots + 6 ≤ R.slots) (hc : cells + 1 ≤ mc) (hs : slots + 6 ≤ ms) (u : Nat) (hu : X = exN u) (hZ : Z = .inl u) :
    W p l e R s m args below meth c H locs cells slots (vx_MQ below Qc (vx_X (fun u : Nat => Z = .inl u) (fun E u t => E = exN u ∧ va_P G vwCl ws t.heap ∧ va_D A ws) A) args s mc ms A) (F0 m pc ls rest) := by
  obtain ⟨sa, hstr⟩ := hstr
  exact vx_throwS hexec hb hl hown hcls hnames hk hini hstr hat hgood hE.1 hE.2.1 hS hsize d0 d3 d4 d6 d9 (fun x hx => (hout x hx).elim) hRframes hRlocals hRcells hRslots hlocks (kx_after u hu hZ hP hD hS) hS.2.2 hc hs
theorem kt_SW {Qc : Array Value → State → Outcome → State → Prop} {cc : ByteArray} (hexec : p.tables.exec = Jvm.exec) (hb : c.code = cc) (hl : l.stackTraces = false) {own X text : String} {names : List String} {ik is ic : Nat} (hown : s.vm.findClass own = some m.cls) (hcls : Bundle.fit X = true) (hnames : ∀ n ∈ names, Bundle.fit n = true)
    (hk : (Cond.classLink own ik X).before args s = true) (hini : (Cond.initialized X).before args s = true) (hstr : ∃ sa, vk_R own is text sa s) (hat : ∀ w ∈ vx_atS own ic X names, w.before args s = true) (hgood : ∀ w ∈ Cond.classLink own ik X :: Cond.initialized X :: vx_atS own ic X names, vx_ot w = true)
    (hE : EN A s s.heap) (hP : va_P G vwCl ws H) (hD : va_D A ws) (hS : va_S A s.heap H locs) (hsize : ls.size = c.maxLocals) (hout : ∀ x ∈ c.exceptionTable.toList, False) (hlocks : meth.locks = false)
    (d0 : decode cc pc = .ok (.new ik, 3)) (d3 : decode cc (pc + 3) = .ok (.dup, 1)) (d4 : decode cc (pc + 4) = .ok (.ldc_w is, 3)) (d7 : decode cc (pc + 7) = .ok (.invokespecial ic, 3)) (d10 : decode cc (pc + 10) = .ok (.athrow, 1))
    (hRframes : names.length + 3 < R.frames) (hRlocals : (rest.map fun v => v.category).sum + (13 * (names.length + 1) + 43) ≤ R.locals) (hRcells : cells + 1 ≤ R.cells) (hRslots : slots + 6 ≤ R.slots) (hc : cells + 1 ≤ mc) (hs : slots + 6 ≤ ms) (u : Nat) (hu : X = exN u) (hZ : Z = .inl u) :
    W p l e R s m args below meth c H locs cells slots (vx_MQ below Qc (vx_X (fun u : Nat => Z = .inl u) (fun E u t => E = exN u ∧ va_P G vwCl ws t.heap ∧ va_D A ws) A) args s mc ms A) (F0 m pc ls rest) := by
  obtain ⟨sa, hstr⟩ := hstr
  exact vx_throwSW hexec hb hl hown hcls hnames hk hini hstr hat hgood hE.1 hE.2.1 hS hsize d0 d3 d4 d7 d10 (fun x hx => (hout x hx).elim) hRframes hRlocals hRcells hRslots hlocks (kx_after u hu hZ hP hD hS) hS.2.2 hc hs
end KX
abbrev xnm : List String := ["java/lang/RuntimeException", "java/lang/Exception"]
theorem xnm_fit : ∀ n ∈ xnm, Bundle.fit n = true := by decide +kernel
def xB (X : String) : List Cond := [.declares (Bundle.initS "java/lang/RuntimeException"), .declares (Bundle.initS "java/lang/Exception"), .declares (Bundle.initS "java/lang/Throwable"), .castable X X]
theorem xB_of {X : String} {args : Array Value} {s : State} (h : XD s) (hc : va_Nw (.castable X X) s) : ∀ w ∈ xB X, w.before args s = true := vx_c (h.1.use rfl) (vx_c (h.2.1.use rfl) (vx_c (h.2.2.1.use rfl) (vx_c (hc.use rfl) vx_n)))
theorem xh_1 : ∀ w ∈ (vx_atS RX5 310 "java/lang/IndexOutOfBoundsException" xnm).filter (fun w => !goodWord w), w ∈ xB "java/lang/IndexOutOfBoundsException" := by decide +kernel
theorem xh_2 : ∀ w ∈ (vx_atS RX5 167 "java/lang/IllegalArgumentException" xnm).filter (fun w => !goodWord w), w ∈ xB "java/lang/IllegalArgumentException" := by decide +kernel
theorem xh_3 : ∀ w ∈ (vx_atS RX5 66 "java/lang/IllegalStateException" xnm).filter (fun w => !goodWord w), w ∈ xB "java/lang/IllegalStateException" := by decide +kernel
theorem xg_1 : ∀ w ∈ Cond.classLink RX5 306 "java/lang/IndexOutOfBoundsException" :: Cond.initialized "java/lang/IndexOutOfBoundsException" :: vx_atS RX5 310 "java/lang/IndexOutOfBoundsException" xnm, vx_ot w = true := by decide +kernel
theorem xg_2 : ∀ w ∈ Cond.classLink RX5 163 "java/lang/IllegalArgumentException" :: Cond.initialized "java/lang/IllegalArgumentException" :: vx_atS RX5 167 "java/lang/IllegalArgumentException" xnm, vx_ot w = true := by decide +kernel
theorem xg_3 : ∀ w ∈ Cond.classLink RX5 62 "java/lang/IllegalStateException" :: Cond.initialized "java/lang/IllegalStateException" :: vx_atS RX5 66 "java/lang/IllegalStateException" xnm, vx_ot w = true := by decide +kernel
theorem newest_out {rr : Option Nat} (s : PT) (hn : ¬ rr = none) (h0 : ¬ rr = some 0) (h1 : ¬ rr = some 1) (h2 : ¬ rr = some 2) (h3 : ¬ rr = some 3) (h4 : ¬ rr = some 4) (h5 : ¬ rr = some 5) (h6 : ¬ rr = some 6) (h7 : ¬ rr = some 7) (h8 : ¬ rr = some 8) (h9 : ¬ rr = some 9) (h10 : ¬ rr = some 10) (h11 : ¬ rr = some 11) (h12 : ¬ rr = some 12) (h13 : ¬ rr = some 13) : ¬ rr = f_X1_newestKept s := by
  intro e
  unfold f_X1_newestKept at e
  by_cases c1 : p_newest s < 0
  · rw [if_pos c1] at e; exact hn e
  · rw [if_neg c1] at e
    by_cases c2 : 14 ≤ p_newest s
    · rw [if_pos c2] at e; exact hn e
    · rw [if_neg c2] at e
      have v := vp_in_iff.mp (vin14 c1 c2)
      have w : (p_newest s).toNatClampNeg < 14 := by
        show (p_newest s).toInt.toNat < 14
        omega
      generalize (p_newest s).toNatClampNeg = z at w e
      have : z = 0 ∨ z = 1 ∨ z = 2 ∨ z = 3 ∨ z = 4 ∨ z = 5 ∨ z = 6 ∨ z = 7 ∨ z = 8 ∨ z = 9 ∨ z = 10 ∨ z = 11 ∨ z = 12 ∨ z = 13 := by omega
      rcases this with rfl | rfl | rfl | rfl | rfl | rfl | rfl | rfl | rfl | rfl | rfl | rfl | rfl | rfl
      · exact h0 e
      · exact h1 e
      · exact h2 e
      · exact h3 e
      · exact h4 e
      · exact h5 e
      · exact h6 e
      · exact h7 e
      · exact h8 e
      · exact h9 e
      · exact h10 e
      · exact h11 e
      · exact h12 e
      · exact h13 e
/-- what the law's own methods take beside: which exceptions are no others' -/
def XN (U : State) : Prop := va_Nc "java/lang/IllegalArgumentException" "java/lang/IndexOutOfBoundsException" U ∧ va_Nc "java/lang/IllegalStateException" "java/lang/IndexOutOfBoundsException" U ∧ va_Nc "java/lang/IllegalStateException" "java/lang/IllegalArgumentException" U
theorem XN.moved {u U : State} (h : u.vm.Alike U.vm) (q : XN u) : XN U := ⟨q.1.moved h, q.2.1.moved h, q.2.2.moved h⟩
def pcN (G : va_G) (cy : Nat → ClassId) (ws : va_W) (sz : Nat) (U : State) : Prop := pcX G cy ws sz U ∧ XN U
theorem pcN_blind {G : va_G} {cy : Nat → ClassId} {ws : va_W} {sz : Nat} {av : List Value} : FrameBlind (va_Pc av (pcN G cy ws sz)) := by
  intro a U g mk q
  obtain ⟨q0, q1, q2⟩ := q
  obtain ⟨-, z⟩ := pcX_blind a U g mk ⟨q0, q1⟩
  exact ⟨q0, z, XN.moved (u := U) (U := U.calling g mk a) (Vm.Alike.refl U.vm) q2⟩
theorem preSN {G : va_G} {cy : Nat → ClassId} {wc : va_W} {s : State} {H : Heap} {A : Nat → Prop} {av : List Value} (hX : XN s) (hE : EN A s H) (hF : ∀ q, va_A wc H.size q → A q) (hP : va_P G vwCl wc H) (hK : va_K G vwCl (tyL cy) s) (hD : va_D A wc) (hN : NW s) : PreS s H (va_Pc av (pcN G cy wc H.size)) av :=
  ⟨pcN_blind, fun U hU hW => ⟨rfl, ⟨⟨by rw [hU], by rw [hU]; exact hP, va_K.moved hW.alike hK, hD.weaken (fun _ _ _ _ => trivial), NW.warm hW hN⟩, by rw [hU]; exact (hE.narrow hF).warm hW⟩, XN.moved hW.alike hX⟩⟩
theorem se_l {α β : Type} {f : Nat → β} {g : α → β} {u : Nat} {R : β} (h : Sum.elim f g (.inl u) = R) : f u = R := h
theorem se_r {α β : Type} {f : Nat → β} {g : α → β} {u : α} {R : β} (h : Sum.elim f g (.inr u) = R) : g u = R := h
