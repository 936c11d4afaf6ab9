/-! the values' own words, the worlds of this claim, and rows that join a call's many lines -/
def bI (b : Bool) : Int32 := if b = true then 1 else 0
theorem bI_t : bI true = 1 := rfl
theorem bI_f : bI false = 0 := rfl
theorem bI_nar (b : Bool) : narrow .boolean (.int (bI b)) = .int (bI b) := by cases b <;> rfl
theorem bI_fit (b : Bool) : fits .boolean (.int (bI b)) = true := by cases b <;> rfl
theorem bI_0 {b : Bool} (h : bI b = 0) : ¬ b = true := by intro q; subst q; exact absurd h (by decide)
theorem bI_n0 {b : Bool} (h : ¬ bI b = 0) : b = true := by cases b; exact absurd rfl h; rfl
def jus (x : Int64) (y : Int32) : Int64 := (x.toUInt64 >>> (y.toInt64.toUInt64 &&& Int64.toUInt64 63)).toInt64
def jsl (x : Int64) (y : Int32) : Int64 := x <<< (y.toInt64 &&& 63)
def jsr (x : Int64) (y : Int32) : Int64 := x >>> (y.toInt64 &&& 63)
def ius (x : Int32) (y : Int32) : Int32 := (x.toUInt32 >>> (y.toUInt32 &&& Int32.toUInt32 31)).toInt32
def isl (x : Int32) (y : Int32) : Int32 := x <<< (y &&& 31)
def ich (x : Int32) : Int32 := (x.toUInt32 % 65536).toInt32
def irm (x y : Int32) : Int32 := x - x / y * y
def lrm (x y : Int64) : Int64 := x - x / y * y
def imx (x y : Int32) : Int32 := if x < y then y else x
def imn (x y : Int32) : Int32 := if y < x then y else x
theorem lgc_cases (x y : Int64) : (x < y ∧ lg_cmp x y = -1) ∨ (x = y ∧ lg_cmp x y = 0) ∨ (y < x ∧ lg_cmp x y = 1) := by
  unfold lg_cmp
  by_cases h : x > y
  · exact Or.inr (Or.inr ⟨h, if_pos h⟩)
  · rw [if_neg h]
    by_cases e : x = y
    · exact Or.inr (Or.inl ⟨e, if_pos e⟩)
    · refine Or.inl ⟨?_, if_neg e⟩
      have h1 : ¬ y < x := h
      rw [Int64.lt_iff_toInt_lt] at h1 ⊢
      have h3 : ¬ x.toInt = y.toInt := fun q => e (Int64.toInt_inj.mp q)
      omega
theorem lgc_irr {x y : Int64} (h : x < y) : ¬ x = y ∧ ¬ y < x := by
  refine ⟨fun q => ?_, fun q => ?_⟩
  · subst q; rw [Int64.lt_iff_toInt_lt] at h; omega
  · rw [Int64.lt_iff_toInt_lt] at h q; omega
theorem lgc_eq {x y : Int64} : lg_cmp x y = 0 ↔ x = y := by
  rcases lgc_cases x y with ⟨h, e⟩ | ⟨h, e⟩ | ⟨h, e⟩ <;> rw [e]
  · exact ⟨fun q => absurd q (by decide), fun q => absurd q (lgc_irr h).1⟩
  · exact ⟨fun _ => h, fun _ => rfl⟩
  · exact ⟨fun q => absurd q (by decide), fun q => absurd q.symm (lgc_irr h).1⟩
theorem lgc_lt {x y : Int64} : lg_cmp x y < 0 ↔ x < y := by
  rcases lgc_cases x y with ⟨h, e⟩ | ⟨h, e⟩ | ⟨h, e⟩ <;> rw [e]
  · exact ⟨fun _ => h, fun _ => by decide⟩
  · subst h; exact ⟨fun q => absurd q (by decide), fun q => absurd q (lgc_irr q).2⟩
  · exact ⟨fun q => absurd q (by decide), fun q => absurd h (lgc_irr q).2⟩
theorem lgc_gt {x y : Int64} : 0 < lg_cmp x y ↔ y < x := by
  rcases lgc_cases x y with ⟨h, e⟩ | ⟨h, e⟩ | ⟨h, e⟩ <;> rw [e]
  · exact ⟨fun q => absurd q (by decide), fun q => absurd h (lgc_irr q).2⟩
  · subst h; exact ⟨fun q => absurd q (by decide), fun q => absurd q (lgc_irr q).2⟩
  · exact ⟨fun _ => h, fun _ => by decide⟩
theorem lgc_ge {x y : Int64} : 0 ≤ lg_cmp x y ↔ y ≤ x := by
  have a := @lgc_lt x y
  rw [Int32.lt_iff_toInt_lt, Int64.lt_iff_toInt_lt] at a
  rw [Int32.le_iff_toInt_le, Int64.le_iff_toInt_le]
  have z : (0 : Int32).toInt = 0 := rfl
  omega
theorem lgc_le {x y : Int64} : lg_cmp x y ≤ 0 ↔ x ≤ y := by
  have a := @lgc_gt x y
  rw [Int32.lt_iff_toInt_lt, Int64.lt_iff_toInt_lt] at a
  rw [Int32.le_iff_toInt_le, Int64.le_iff_toInt_le]
  have z : (0 : Int32).toInt = 0 := rfl
  omega
theorem vin {i : Int32} {N : Nat} (h : ¬ (i < 0 ∨ N ≤ i.toNatClampNeg)) : vp_in i N := h
/-- a value with a name -/
def lt_ {α β : Type} (a : α) (f : α → β) : β := f a
theorem lt_e {α β : Type} {a x : α} {f : α → β} {R : β} (e : x = a) (h : lt_ a f = R) : f x = R := by subst e; exact h
/-- a callee that may throw: its number on, or its answer to k -/
def obx {α β : Type} (o : Option (Nat ⊕ α)) (k : α → Option (Nat ⊕ β)) : Option (Nat ⊕ β) := match o with
  | none => none
  | some (.inl e) => some (.inl e)
  | some (.inr v) => k v
theorem obx_some {α β : Type} {o : Option (Nat ⊕ α)} {k : α → Option (Nat ⊕ β)} {R : Nat ⊕ β} (h : obx o k = some R) : ∃ z, o = some z ∧ obx (some z) k = some R := by
  cases o with
  | none => cases h
  | some z => exact ⟨z, rfl, h⟩
theorem obd_some {α β : Type} {o : Option α} {k : α → Option β} {R : β} (h : o.bind k = some R) : ∃ z, o = some z ∧ k z = some R := by
  cases o with
  | none => cases h
  | some z => exact ⟨z, rfl, h⟩
-- what the objects hold
abbrev WT : Type := Int32 × Int32 × Int32 × Int32 × Int64 × Int32 × Int64 × Int64 × Int64 × Int64 × Int64 × Int64
def updW (f : Nat → WT) (k : Nat) (x : WT) : Nat → WT := fun j => if j = k then x else f j
abbrev TT : Type := Int32 × Int32 × Int32 × Int32 × Int32
abbrev ET : Type := Int32 × Int64 × Int64
abbrev PT : Type := Int32 × Int32
abbrev w_rows (t : WT) : Int32 := t.1
abbrev w_cells (t : WT) : Int32 := t.2.1
abbrev w_rule (t : WT) : Int32 := t.2.2.1
abbrev w_nights (t : WT) : Int32 := t.2.2.2.1
abbrev w_frozen (t : WT) : Int64 := t.2.2.2.2.1
abbrev w_kinds (t : WT) : Int32 := t.2.2.2.2.2.1
abbrev w_topRow (t : WT) : Int64 := t.2.2.2.2.2.2.1
abbrev w_rightColumn (t : WT) : Int64 := t.2.2.2.2.2.2.2.1
abbrev w_bottomRow (t : WT) : Int64 := t.2.2.2.2.2.2.2.2.1
abbrev w_leftColumn (t : WT) : Int64 := t.2.2.2.2.2.2.2.2.2.1
abbrev w_rightScratches (t : WT) : Int64 := t.2.2.2.2.2.2.2.2.2.2.1
abbrev w_lowerScratches (t : WT) : Int64 := t.2.2.2.2.2.2.2.2.2.2.2
abbrev t_letter (t : TT) : Int32 := t.1
abbrev t_first (t : TT) : Int32 := t.2.1
abbrev t_second (t : TT) : Int32 := t.2.2.1
abbrev t_length (t : TT) : Int32 := t.2.2.2.1
abbrev t_place (t : TT) : Int32 := t.2.2.2.2
abbrev e_count (t : ET) : Int32 := t.1
abbrev e_odd (t : ET) : Int64 := t.2.1
abbrev e_used (t : ET) : Int64 := t.2.2
abbrev p_count (t : PT) : Int32 := t.1
abbrev p_newest (t : PT) : Int32 := t.2
def wv (t : WT) : va_E := .inr (4, [.int (w_rows t), .int (w_cells t), .int (w_rule t), .int (w_nights t), .long (w_frozen t), .int (w_kinds t), .long (w_topRow t), .long (w_rightColumn t), .long (w_bottomRow t), .long (w_leftColumn t), .long (w_rightScratches t), .long (w_lowerScratches t)])
def tv (a : Nat) (t : TT) : va_E := .inr (3, [.int (t_letter t), .int (t_first t), .int (t_second t), .ref a, .int (t_length t), .int (t_place t)])
def ev (a : Nat) (t : ET) : va_E := .inr (0, [.ref a, .int (e_count t), .long (e_odd t), .long (e_used t)])
def pv (a : Nat) (t : PT) : va_E := .inr (1, [.int (p_count t), .int (p_newest t), .ref a])
def sv (a : Nat) (b : Bool) : va_E := .inr (2, [.ref a, .int (bI b)])
def fv (a0 a1 a2 a3 a4 a5 a6 a7 : Nat) : va_E := .inr (5, [.ref a0, .ref a1, .ref a2, .ref a3, .ref a4, .ref a5, .ref a6, .ref a7])
def av_C (cy : Nat → ClassId) (n : Nat) (f : Nat → Int32) : va_E := .inl (cy 0, n, .inl f)
def av_I (cy : Nat → ClassId) (n : Nat) (f : Nat → Int32) : va_E := .inl (cy 1, n, .inl f)
def av_J (cy : Nat → ClassId) (n : Nat) (f : Nat → Int64) : va_E := .inl (cy 2, n, .inr (.inl f))
def av_Z (cy : Nat → ClassId) (n : Nat) (f : Nat → Int32) : va_E := .inl (cy 3, n, .inl f)
def av_R (cy : Nat → ClassId) (n : Nat) (ak : Nat → Nat) : va_E := .inl (cy 4, n, .inr (.inr (.inr (.inr (fun i => some (ak i))))))
abbrev tyL (cy : Nat → ClassId) : List (ClassId × FieldType) := [(cy 0, .char), (cy 2, .long), (cy 4, .object "PaneFrost$Window")]
/-- the links to private members of a nest mate -/
def NW (U : State) : Prop := va_Nw (.methodLinkNest RX4 56 yX5_holds "PaneFrost") U ∧ va_Nw (.methodLinkNest RX4 132 yX5_isWithin "PaneFrost") U ∧ va_Nw (.methodLinkNest RX0 56 yX5_holds "PaneFrost") U
theorem NW.warm {s U : State} (hW : s.WarmedH U.vm) (h : NW s) : NW U := ⟨h.1.warmM hW, h.2.1.warmM hW, h.2.2.warmM hW⟩
theorem NW.same {u U : State} (e : u.vm = U.vm) (h : NW u) : NW U := ⟨h.1.same rfl e, h.2.1.same rfl e, h.2.2.same rfl e⟩
def Wd (G : va_G) (cy : Nat → ClassId) (A : Nat → Prop) (ws : va_W) (U : State) : Prop := va_P G vwCl ws U.heap ∧ va_K G vwCl (tyL cy) U ∧ va_D A ws ∧ NW U
def pcW (G : va_G) (cy : Nat → ClassId) (ws : va_W) (sz : Nat) (U : State) : Prop := U.heap.size = sz ∧ Wd G cy (fun _ => True) ws U
theorem pcW_blind {G : va_G} {cy : Nat → ClassId} {ws : va_W} {sz : Nat} {av : List Value} : FrameBlind (va_Pc av (pcW G cy ws sz)) := by
  intro a U g mk q
  obtain ⟨q0, q1, qP, qK, qD, qN⟩ := q
  exact ⟨q0, q1, qP, va_K.moved (u := U) (U := U.calling g mk a) (Vm.Alike.refl U.vm) qK, qD, NW.same rfl qN⟩
theorem preS_ {G : va_G} {cy : Nat → ClassId} {wc : va_W} {s : State} {H : Heap} {A : Nat → Prop} {av : List Value} (hP : va_P G vwCl wc H) (hK : va_K G vwCl (tyL cy) s) (hD : va_D A wc) (hN : NW s) : PreS s H (va_Pc av (pcW G cy wc H.size)) av :=
  ⟨pcW_blind, fun U hU hW => ⟨rfl, by rw [hU], by rw [hU]; exact hP, va_K.moved hW.alike hK, hD.weaken (fun _ _ _ _ => trivial), NW.warm hW hN⟩⟩
theorem preV_ {G : va_G} {cy : Nat → ClassId} {wc : va_W} {s : State} {H : Heap} {A : Nat → Prop} {b : Nat} {As : List Value} {ci q0 : Nat} {q : vw_C} {fs : List Value} (hc : vwCl[ci]? = some q) (he : wc[q0]? = some (b, .inr (ci, fs))) (hP : va_P G vwCl wc H) (hK : va_K G vwCl (tyL cy) s) (hD : va_D A wc) (hN : NW s) : PreV s H q.1 b (va_Pc (.ref b :: As) (pcW G cy wc H.size)) As :=
  ⟨pcW_blind, va_recv hK hP hc he, fun U hU hW => ⟨rfl, by rw [hU], by rw [hU]; exact hP, va_K.moved hW.alike hK, hD.weaken (fun _ _ _ _ => trivial), NW.warm hW hN⟩⟩
section KC
variable {p : Program} {l : Launch} {e : Env} {R : Room} {s : State} {m : MethodId} {args : Array Value} {below : List Frame} {meth : Method} {c : Code} {H : Heap} {locs : List Loc} {cells slots : Nat} {Q : State → Prop}
variable {pc : Nat} {ls : Array Slot} {rest st0 : List Value} {a : Array Value} {A : Nat → Prop} {H0 : Heap} {G : va_G} {cy : Nat → ClassId} {wc w1 wr ws : va_W}
theorem kc_i {V : Int32} (hP : va_P G vwCl ws H) (hD : va_D A ws) (hS : va_S A H0 H locs) (hA : ∀ q, H0.size ≤ q → A q) (isC isR : List Nat) (hC : isC.map (fun i => ws[i]?) = wc.map some) (hR : isR.map (fun i => ws[i]?) = wr.map some) (hn : va_nd isR = true) (hdis : ∀ i ∈ isR, i ∉ isC)
    (hr : va_Run p l e R s m args below meth c H locs cells slots 0 0 (F0 m pc ls st0) rest (va_Qi (fun r (_ : Unit) => r = V) (fun _ t => Wd G cy (va_A wc H.size) w1 t) (va_A wc H.size) a) (va_A wc H.size))
    (kk : ∀ (H1 : Heap) (locs1 : List Loc), va_P G vwCl (wr ++ w1) H1 → va_D A (wr ++ w1) → va_S A H0 H1 locs1 → W p l e R s m args below meth c H1 locs1 cells slots Q (F0 m (pc + 3) ls (.int V :: rest))) : W p l e R s m args below meth c H locs cells slots Q (F0 m pc ls st0) := by
  have hF := va_free hD hS hA isC hC
  refine va_calli hr hS (fun q _ h => hF q h) hF (fun r u t H1 locs1 ht hvm hw hB hz1 hk1 hS => ?_)
  obtain ⟨hP1, -, hD1, -⟩ := hB
  rw [ht] at hP1
  obtain ⟨hP, hD⟩ := va_join hP hD isC isR hC hR hn hdis hk1 hF hP1 hD1
  subst hw
  exact kk H1 locs1 hP hD hS
theorem kc_l {V : Int64} (hP : va_P G vwCl ws H) (hD : va_D A ws) (hS : va_S A H0 H locs) (hA : ∀ q, H0.size ≤ q → A q) (isC isR : List Nat) (hC : isC.map (fun i => ws[i]?) = wc.map some) (hR : isR.map (fun i => ws[i]?) = wr.map some) (hn : va_nd isR = true) (hdis : ∀ i ∈ isR, i ∉ isC)
    (hr : va_Run p l e R s m args below meth c H locs cells slots 0 0 (F0 m pc ls st0) rest (va_Ql (fun r (_ : Unit) => r = V) (fun _ t => Wd G cy (va_A wc H.size) w1 t) (va_A wc H.size) a) (va_A wc H.size))
    (kk : ∀ (H1 : Heap) (locs1 : List Loc), va_P G vwCl (wr ++ w1) H1 → va_D A (wr ++ w1) → va_S A H0 H1 locs1 → W p l e R s m args below meth c H1 locs1 cells slots Q (F0 m (pc + 3) ls (.long V :: rest))) : W p l e R s m args below meth c H locs cells slots Q (F0 m pc ls st0) := by
  have hF := va_free hD hS hA isC hC
  refine va_calll hr hS (fun q _ h => hF q h) hF (fun r u t H1 locs1 ht hvm hw hB hz1 hk1 hS => ?_)
  obtain ⟨hP1, -, hD1, -⟩ := hB
  rw [ht] at hP1
  obtain ⟨hP, hD⟩ := va_join hP hD isC isR hC hR hn hdis hk1 hF hP1 hD1
  subst hw
  exact kk H1 locs1 hP hD hS
theorem kc_v (hP : va_P G vwCl ws H) (hD : va_D A ws) (hS : va_S A H0 H locs) (hA : ∀ q, H0.size ≤ q → A q) (isC isR : List Nat) (hC : isC.map (fun i => ws[i]?) = wc.map some) (hR : isR.map (fun i => ws[i]?) = wr.map some) (hn : va_nd isR = true) (hdis : ∀ i ∈ isR, i ∉ isC)
    (hr : va_Run p l e R s m args below meth c H locs cells slots 0 0 (F0 m pc ls st0) rest (va_Qv (fun _ : Unit => True) (fun _ t => Wd G cy (va_A wc H.size) w1 t) (va_A wc H.size) a) (va_A wc H.size))
    (kk : ∀ (H1 : Heap) (locs1 : List Loc), va_P G vwCl (wr ++ w1) H1 → va_D A (wr ++ w1) → va_S A H0 H1 locs1 → W p l e R s m args below meth c H1 locs1 cells slots Q (F0 m (pc + 3) ls rest)) : W p l e R s m args below meth c H locs cells slots Q (F0 m pc ls st0) := by
  have hF := va_free hD hS hA isC hC
  refine va_callv hr hS (fun q _ h => hF q h) hF (fun u t H1 locs1 ht hvm hw hB hz1 hk1 hS => ?_)
  obtain ⟨hP1, -, hD1, -⟩ := hB
  rw [ht] at hP1
  obtain ⟨hP, hD⟩ := va_join hP hD isC isR hC hR hn hdis hk1 hF hP1 hD1
  exact kk H1 locs1 hP hD hS
/-- a method's end -/
theorem kr_i {cc : ByteArray} {V V' : Int32} {free : Addr → Prop} (hx : p.tables.exec = Jvm.exec) (hb : c.code = cc) (hr : meth.sig.returnType = some .int) (hlocks : meth.locks = false) (hV : V = V') (hP : va_P G vwCl ws H) (hK : va_K G vwCl (tyL cy) s) (hD : va_D A ws) (hN : NW s) (hS : va_S A s.heap H locs) (hfr : ∀ q ∈ locs, free q.base) (hdg : decode cc pc = .ok (.ireturn, 1)) :
    W p l e R s m args below meth c H locs cells slots (MQ below (va_Qi (fun r (_ : Unit) => r = V') (fun _ t => Wd G cy A ws t) A) args s cells slots free) (F0 m pc ls [.int V]) :=
  W.iret hx hb hr (fun t ht hW => ⟨⟨V, (), rfl, hV, by rw [ht]; exact hP, va_K.moved hW.alike hK, hD, NW.warm hW hN⟩, hS.F ht⟩) hfr hdg
theorem kr_z {cc : ByteArray} {V V' : Int32} {ty : FieldType} {free : Addr → Prop} (hx : p.tables.exec = Jvm.exec) (hb : c.code = cc) (hr : meth.sig.returnType = some ty) (hlocks : meth.locks = false) (hnr : narrow ty (.int V) = .int V) (hV : V = V') (hP : va_P G vwCl ws H) (hK : va_K G vwCl (tyL cy) s) (hD : va_D A ws) (hN : NW s) (hS : va_S A s.heap H locs) (hfr : ∀ q ∈ locs, free q.base) (hdg : decode cc pc = .ok (.ireturn, 1)) :
    W p l e R s m args below meth c H locs cells slots (MQ below (va_Qi (fun r (_ : Unit) => r = V') (fun _ t => Wd G cy A ws t) A) args s cells slots free) (F0 m pc ls [.int V]) :=
  W.zret hx hb hr hnr (fun t ht hW => ⟨⟨V, (), rfl, hV, by rw [ht]; exact hP, va_K.moved hW.alike hK, hD, NW.warm hW hN⟩, hS.F ht⟩) hfr hdg
theorem kr_l {cc : ByteArray} {V V' : Int64} {free : Addr → Prop} (hx : p.tables.exec = Jvm.exec) (hb : c.code = cc) (hr : meth.sig.returnType = some .long) (hlocks : meth.locks = false) (hV : V = V') (hP : va_P G vwCl ws H) (hK : va_K G vwCl (tyL cy) s) (hD : va_D A ws) (hN : NW s) (hS : va_S A s.heap H locs) (hfr : ∀ q ∈ locs, free q.base) (hdg : decode cc pc = .ok (.lreturn, 1)) :
    W p l e R s m args below meth c H locs cells slots (MQ below (va_Ql (fun r (_ : Unit) => r = V') (fun _ t => Wd G cy A ws t) A) args s cells slots free) (F0 m pc ls [.long V]) :=
  W.lret hx hb hr (fun t ht hW => ⟨⟨V, (), rfl, hV, by rw [ht]; exact hP, va_K.moved hW.alike hK, hD, NW.warm hW hN⟩, hS.F ht⟩) hfr hdg
theorem kr_v {cc : ByteArray} {free : Addr → Prop} (hx : p.tables.exec = Jvm.exec) (hb : c.code = cc) (hr : meth.sig.returnType = none) (hlocks : meth.locks = false) (hP : va_P G vwCl ws H) (hK : va_K G vwCl (tyL cy) s) (hD : va_D A ws) (hN : NW s) (hS : va_S A s.heap H locs) (hfr : ∀ q ∈ locs, free q.base) (hdg : decode cc pc = .ok (.return_, 1)) :
    W p l e R s m args below meth c H locs cells slots (MQ below (va_Qv (fun _ : Unit => True) (fun _ t => Wd G cy A ws t) A) args s cells slots free) (F0 m pc ls []) :=
  W.vret hx hb hr (fun t ht hW => ⟨⟨(), rfl, trivial, by rw [ht]; exact hP, va_K.moved hW.alike hK, hD, NW.warm hW hN⟩, hS.F ht⟩) hfr hdg
end KC
theorem ip_ {c : Prop} [Decidable c] {α : Sort _} {a b R : α} (h : c) (hf : (if c then a else b) = R) : a = R := (if_pos h).symm.trans hf
theorem in_ {c : Prop} [Decidable c] {α : Sort _} {a b R : α} (h : ¬ c) (hf : (if c then a else b) = R) : b = R := (if_neg h).symm.trans hf
section KA
variable {p : Program} {l : Launch} {e : Env} {R : Room} {s : State} {m : MethodId} {args : Array Value} {below : List Frame} {meth : Method} {c : Code} {H : Heap} {locs : List Loc} {cells slots : Nat} {Q : State → Prop}
variable {pc : Nat} {ls : Array Slot} {rest : List Value} {A : Nat → Prop} {H0 : Heap} {D : va_G} {cl : List vw_C} {ws : va_W} {tys : List (ClassId × FieldType)} {cc : ByteArray} {a : Nat}
theorem vz_iald {i : Int32} {j : Nat} (hj : i.toNatClampNeg = j) (hexec : p.tables.exec = Jvm.exec) (hb : c.code = cc) (hK : va_K D cl tys s) (hP : va_P D cl ws H) (q0 t0 : Nat) {cA : ClassId} {n : Nat} {f : Nat → Int32} (ha : ws[q0]? = some (a, .inl (cA, n, .inl f))) (ht : tys[t0]? = some (cA, .int)) (hin : vp_in i n) (hdg : decode cc pc = .ok (.iaload, 1))
    (kk : W p l e R s m args below meth c H locs cells slots Q (F0 m (pc + 1) ls (.int (f j) :: rest))) : W p l e R s m args below meth c H locs cells slots Q (F0 m pc ls (.int i :: .ref a :: rest)) := by
  subst hj; exact va_iald hexec hb hK hP q0 t0 ha ht hin hdg kk
theorem vz_zald {i : Int32} {j : Nat} (hj : i.toNatClampNeg = j) (hexec : p.tables.exec = Jvm.exec) (hb : c.code = cc) (hK : va_K D cl tys s) (hP : va_P D cl ws H) (q0 t0 : Nat) {cA : ClassId} {n : Nat} {f : Nat → Int32} (ha : ws[q0]? = some (a, .inl (cA, n, .inl f))) (ht : tys[t0]? = some (cA, .boolean)) (hin : vp_in i n) (hdg : decode cc pc = .ok (.baload, 1))
    (kk : W p l e R s m args below meth c H locs cells slots Q (F0 m (pc + 1) ls (.int (f j) :: rest))) : W p l e R s m args below meth c H locs cells slots Q (F0 m pc ls (.int i :: .ref a :: rest)) := by
  subst hj; exact va_zald hexec hb hK hP q0 t0 ha ht hin hdg kk
theorem vz_cald {i : Int32} {j : Nat} (hj : i.toNatClampNeg = j) (hexec : p.tables.exec = Jvm.exec) (hb : c.code = cc) (hK : va_K D cl tys s) (hP : va_P D cl ws H) (q0 t0 : Nat) {cA : ClassId} {n : Nat} {f : Nat → Int32} (ha : ws[q0]? = some (a, .inl (cA, n, .inl f))) (ht : tys[t0]? = some (cA, .char)) (hin : vp_in i n) (hdg : decode cc pc = .ok (.caload, 1))
    (kk : W p l e R s m args below meth c H locs cells slots Q (F0 m (pc + 1) ls (.int (f j) :: rest))) : W p l e R s m args below meth c H locs cells slots Q (F0 m pc ls (.int i :: .ref a :: rest)) := by
  subst hj; exact va_cald hexec hb hK hP q0 t0 ha ht hin hdg kk
theorem vz_lald {i : Int32} {j : Nat} (hj : i.toNatClampNeg = j) (hexec : p.tables.exec = Jvm.exec) (hb : c.code = cc) (hK : va_K D cl tys s) (hP : va_P D cl ws H) (q0 t0 : Nat) {cA : ClassId} {n : Nat} {f : Nat → Int64} (ha : ws[q0]? = some (a, .inl (cA, n, .inr (.inl f)))) (ht : tys[t0]? = some (cA, .long)) (hin : vp_in i n) (hdg : decode cc pc = .ok (.laload, 1))
    (kk : W p l e R s m args below meth c H locs cells slots Q (F0 m (pc + 1) ls (.long (f j) :: rest))) : W p l e R s m args below meth c H locs cells slots Q (F0 m pc ls (.int i :: .ref a :: rest)) := by
  subst hj; exact va_lald hexec hb hK hP q0 t0 ha ht hin hdg kk
theorem vz_iast {i : Int32} {j : Nat} {x : Int32} (hj : i.toNatClampNeg = j) (hexec : p.tables.exec = Jvm.exec) (hb : c.code = cc) (hK : va_K D cl tys s) (hP : va_P D cl ws H) (hD : va_D A ws) (hS : va_S A H0 H locs) (q0 t0 : Nat) {cA : ClassId} {n : Nat} {f : Nat → Int32} (ha : ws[q0]? = some (a, .inl (cA, n, .inl f))) (ht : tys[t0]? = some (cA, .int)) (hin : vp_in i n) (hdg : decode cc pc = .ok (.iastore, 1))
    (kk : ∀ (H1 : Heap) (locs1 : List Loc), va_P D cl (ws.set q0 (a, .inl (cA, n, .inl (upd f j x)))) H1 → va_D A (ws.set q0 (a, .inl (cA, n, .inl (upd f j x)))) → va_S A H0 H1 locs1 → W p l e R s m args below meth c H1 locs1 cells slots Q (F0 m (pc + 1) ls rest)) : W p l e R s m args below meth c H locs cells slots Q (F0 m pc ls (.int x :: .int i :: .ref a :: rest)) := by
  subst hj; exact va_iast hexec hb hK hP hD hS q0 t0 ha ht hin hdg kk
theorem vz_zast {i : Int32} {j : Nat} {x : Int32} (hj : i.toNatClampNeg = j) (hexec : p.tables.exec = Jvm.exec) (hb : c.code = cc) (hK : va_K D cl tys s) (hP : va_P D cl ws H) (hD : va_D A ws) (hS : va_S A H0 H locs) (q0 t0 : Nat) {cA : ClassId} {n : Nat} {f : Nat → Int32} (ha : ws[q0]? = some (a, .inl (cA, n, .inl f))) (ht : tys[t0]? = some (cA, .boolean)) (hin : vp_in i n) (hdg : decode cc pc = .ok (.bastore, 1))
    (kk : ∀ (H1 : Heap) (locs1 : List Loc), va_P D cl (ws.set q0 (a, .inl (cA, n, .inl (upd f j (vp_nar .boolean x))))) H1 → va_D A (ws.set q0 (a, .inl (cA, n, .inl (upd f j (vp_nar .boolean x))))) → va_S A H0 H1 locs1 → W p l e R s m args below meth c H1 locs1 cells slots Q (F0 m (pc + 1) ls rest)) : W p l e R s m args below meth c H locs cells slots Q (F0 m pc ls (.int x :: .int i :: .ref a :: rest)) := by
  subst hj; exact va_zast hexec hb hK hP hD hS q0 t0 ha ht hin hdg kk
theorem vz_cast {i : Int32} {j : Nat} {x : Int32} (hj : i.toNatClampNeg = j) (hexec : p.tables.exec = Jvm.exec) (hb : c.code = cc) (hK : va_K D cl tys s) (hP : va_P D cl ws H) (hD : va_D A ws) (hS : va_S A H0 H locs) (q0 t0 : Nat) {cA : ClassId} {n : Nat} {f : Nat → Int32} (ha : ws[q0]? = some (a, .inl (cA, n, .inl f))) (ht : tys[t0]? = some (cA, .char)) (hin : vp_in i n) (hdg : decode cc pc = .ok (.castore, 1))
    (kk : ∀ (H1 : Heap) (locs1 : List Loc), va_P D cl (ws.set q0 (a, .inl (cA, n, .inl (upd f j (vp_nar .char x))))) H1 → va_D A (ws.set q0 (a, .inl (cA, n, .inl (upd f j (vp_nar .char x))))) → va_S A H0 H1 locs1 → W p l e R s m args below meth c H1 locs1 cells slots Q (F0 m (pc + 1) ls rest)) : W p l e R s m args below meth c H locs cells slots Q (F0 m pc ls (.int x :: .int i :: .ref a :: rest)) := by
  subst hj; exact va_cast hexec hb hK hP hD hS q0 t0 ha ht hin hdg kk
theorem vz_last {i : Int32} {j : Nat} {x : Int64} (hj : i.toNatClampNeg = j) (hexec : p.tables.exec = Jvm.exec) (hb : c.code = cc) (hK : va_K D cl tys s) (hP : va_P D cl ws H) (hD : va_D A ws) (hS : va_S A H0 H locs) (q0 t0 : Nat) {cA : ClassId} {n : Nat} {f : Nat → Int64} (ha : ws[q0]? = some (a, .inl (cA, n, .inr (.inl f)))) (ht : tys[t0]? = some (cA, .long)) (hin : vp_in i n) (hdg : decode cc pc = .ok (.lastore, 1))
    (kk : ∀ (H1 : Heap) (locs1 : List Loc), va_P D cl (ws.set q0 (a, .inl (cA, n, .inr (.inl (vp_updL f j x))))) H1 → va_D A (ws.set q0 (a, .inl (cA, n, .inr (.inl (vp_updL f j x))))) → va_S A H0 H1 locs1 → W p l e R s m args below meth c H1 locs1 cells slots Q (F0 m (pc + 1) ls rest)) : W p l e R s m args below meth c H locs cells slots Q (F0 m pc ls (.long x :: .int i :: .ref a :: rest)) := by
  subst hj; exact va_last hexec hb hK hP hD hS q0 t0 ha ht hin hdg kk
theorem lv_tableD (hexec : p.tables.exec = Jvm.exec) (hb : c.code = cc) {dflt lo hi : Int} {offs : Array Int} {len : Nat} {x : Int32} {tgt : Nat} (hdg : decode cc pc = .ok (.tableswitch dflt lo hi offs, len)) (h : (x.toInt < lo ∨ hi < x.toInt) ∨ offs[(x.toInt - lo).toNat]? = some dflt) (ht : (pc : Int) + dflt = (tgt : Int))
    (k : W p l e R s m args below meth c H locs cells slots Q (F0 m tgt ls rest)) : W p l e R s m args below meth c H locs cells slots Q (F0 m pc ls (.int x :: rest)) := by
  by_cases h1 : x.toInt < lo
  · exact lv_tableOut hexec hb hdg (Or.inl h1) ht k
  · by_cases h2 : hi < x.toInt
    · exact lv_tableOut hexec hb hdg (Or.inr h2) ht k
    · rcases h with h | h
      · rcases h with h | h
        · exact absurd h h1
        · exact absurd h h2
      · exact lv_tableIn hexec hb hdg h1 h2 h ht k
end KA
def isr (x : Int32) (y : Int32) : Int32 := x >>> (y &&& 31)
