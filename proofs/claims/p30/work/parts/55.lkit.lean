/-! an object's whole world in one word, and calls in worlds of one or two objects -/
abbrev OT : Type := TT × (Nat → Int32) × WT × WT × PT × (Nat → WT) × Bool × WT × Bool × WT × ET × (Nat → Int64) × (Nat → Int64)
abbrev o_tx (o : OT) : TT := o.1
abbrev o_sg (o : OT) : Nat → Int32 := o.2.1
abbrev o_w (o : OT) : WT := o.2.2.1
abbrev o_tr (o : OT) : WT := o.2.2.2.1
abbrev o_p (o : OT) : PT := o.2.2.2.2.1
abbrev o_sk (o : OT) : Nat → WT := o.2.2.2.2.2.1
abbrev o_b0 (o : OT) : Bool := o.2.2.2.2.2.2.1
abbrev o_k0 (o : OT) : WT := o.2.2.2.2.2.2.2.1
abbrev o_b1 (o : OT) : Bool := o.2.2.2.2.2.2.2.2.1
abbrev o_k1 (o : OT) : WT := o.2.2.2.2.2.2.2.2.2.1
abbrev o_e (o : OT) : ET := o.2.2.2.2.2.2.2.2.2.2.1
abbrev o_g (o : OT) : Nat → Int64 := o.2.2.2.2.2.2.2.2.2.2.2.1
abbrev o_l (o : OT) : Nat → Int64 := o.2.2.2.2.2.2.2.2.2.2.2.2
def oTr (o : OT) (t : WT) : OT := (o_tx o, o_sg o, o_w o, t, o_p o, o_sk o, o_b0 o, o_k0 o, o_b1 o, o_k1 o, o_e o, o_g o, o_l o)
def oEq (o : OT) (e : ET) (g : Nat → Int64) : OT := (o_tx o, o_sg o, o_w o, o_tr o, o_p o, o_sk o, o_b0 o, o_k0 o, o_b1 o, o_k1 o, e, g, o_l o)
abbrev g_L_looks (n : Nat) (o : OT) (x : Int32) : Option Int64 := f_L_looks n o.1 o.2.1 o.2.2.1 o.2.2.2.1 o.2.2.2.2.1 o.2.2.2.2.2.1 o.2.2.2.2.2.2.1 o.2.2.2.2.2.2.2.1 o.2.2.2.2.2.2.2.2.1 o.2.2.2.2.2.2.2.2.2.1 o.2.2.2.2.2.2.2.2.2.2.1 o.2.2.2.2.2.2.2.2.2.2.2.1 o.2.2.2.2.2.2.2.2.2.2.2.2 x
abbrev g_L_was (n : Nat) (o : OT) : Option (Int64 × ET × (Nat → Int64)) := f_L_was n o.1 o.2.1 o.2.2.1 o.2.2.2.1 o.2.2.2.2.1 o.2.2.2.2.2.1 o.2.2.2.2.2.2.1 o.2.2.2.2.2.2.2.1 o.2.2.2.2.2.2.2.2.1 o.2.2.2.2.2.2.2.2.2.1 o.2.2.2.2.2.2.2.2.2.2.1 o.2.2.2.2.2.2.2.2.2.2.2.1 o.2.2.2.2.2.2.2.2.2.2.2.2
abbrev g_L_doScript (n : Nat) (o : OT) (x : Int32) (y : Int64) : Option (Int32 × WT) := f_L_doScript n o.1 o.2.1 o.2.2.1 o.2.2.2.1 o.2.2.2.2.1 o.2.2.2.2.2.1 o.2.2.2.2.2.2.1 o.2.2.2.2.2.2.2.1 o.2.2.2.2.2.2.2.2.1 o.2.2.2.2.2.2.2.2.2.1 o.2.2.2.2.2.2.2.2.2.2.1 o.2.2.2.2.2.2.2.2.2.2.2.1 o.2.2.2.2.2.2.2.2.2.2.2.2 x y
abbrev g_L_doSimulate (n : Nat) (o : OT) (x : Int64) (y : Int32) : Option (Int32 × WT) := f_L_doSimulate n o.1 o.2.1 o.2.2.1 o.2.2.2.1 o.2.2.2.2.1 o.2.2.2.2.2.1 o.2.2.2.2.2.2.1 o.2.2.2.2.2.2.2.1 o.2.2.2.2.2.2.2.2.1 o.2.2.2.2.2.2.2.2.2.1 o.2.2.2.2.2.2.2.2.2.2.1 o.2.2.2.2.2.2.2.2.2.2.2.1 o.2.2.2.2.2.2.2.2.2.2.2.2 x y
def oW (cy : Nat → ClassId) (a ak : Nat → Nat) (o : OT) : va_W := [(a 0, fv (a 1) (a 3) (a 4) (a 5) (a 7) (a 9) (a 11) (a 13)), (a 1, tv (a 2) (o_tx o)), (a 2, av_C cy 120 (o_sg o)), (a 3, wv (o_w o)), (a 4, wv (o_tr o)), (a 5, pv (a 6) (o_p o)), (a 6, av_R cy 14 ak), (ak 0, wv (o_sk o 0)), (ak 1, wv (o_sk o 1)), (ak 2, wv (o_sk o 2)), (ak 3, wv (o_sk o 3)), (ak 4, wv (o_sk o 4)), (ak 5, wv (o_sk o 5)), (ak 6, wv (o_sk o 6)), (ak 7, wv (o_sk o 7)), (ak 8, wv (o_sk o 8)), (ak 9, wv (o_sk o 9)), (ak 10, wv (o_sk o 10)), (ak 11, wv (o_sk o 11)), (ak 12, wv (o_sk o 12)), (ak 13, wv (o_sk o 13)), (a 7, sv (a 8) (o_b0 o)), (a 8, wv (o_k0 o)), (a 9, sv (a 10) (o_b1 o)), (a 10, wv (o_k1 o)), (a 11, ev (a 12) (o_e o)), (a 12, av_J cy 64 (o_g o)), (a 13, av_J cy 301 (o_l o))]
section JN
variable {G : va_G} {A : Nat → Prop} {H0 H : Heap} {locs : List Loc} {w v ws : va_W}
theorem P_0 : va_P G vwCl [] H := fun k q hk => by simp at hk
theorem D_0 : va_D A [] := ⟨fun i j p q hi => by simp at hi, fun k q hk => by simp at hk⟩
theorem ap_l {k : Nat} {q : Nat × va_E} (hk : w[k]? = some q) : (w ++ v)[k]? = some q := by
  rw [List.getElem?_append_left (List.getElem?_eq_some_iff.mp hk).1]; exact hk
theorem ap_r {k : Nat} {q : Nat × va_E} (hk : v[k]? = some q) : (w ++ v)[w.length + k]? = some q := by
  rw [List.getElem?_append_right (Nat.le_add_right _ _), Nat.add_sub_cancel_left]; exact hk
theorem P_l (h : va_P G vwCl (w ++ v) H) : va_P G vwCl w H := fun k q hk => h k q (ap_l hk)
theorem P_r (h : va_P G vwCl (w ++ v) H) : va_P G vwCl v H := fun k q hk => h (w.length + k) q (ap_r hk)
theorem D_l (h : va_D A (w ++ v)) : va_D A w := ⟨fun i j p q hi hj e => h.1 i j p q (ap_l hi) (ap_l hj) e, fun k q hk => h.2 k q (ap_l hk)⟩
theorem D_r (h : va_D A (w ++ v)) : va_D A v := ⟨fun i j p q hi hj e => by have := h.1 _ _ p q (ap_r (w := w) hi) (ap_r (w := w) hj) e; omega, fun k q hk => h.2 (w.length + k) q (ap_r hk)⟩
theorem D_x (h : va_D A (w ++ v)) {i j : Nat} {p q : Nat × va_E} (hi : w[i]? = some p) (hj : v[j]? = some q) : p.1 ≠ q.1 := fun e => by
  have a := h.1 i (w.length + j) p q (ap_l hi) (ap_r hj) e
  have b := (List.getElem?_eq_some_iff.mp hi).1
  omega
theorem fr_ (hD : va_D A w) (hS : va_S A H0 H locs) (hA : ∀ q, H0.size ≤ q → A q) : ∀ q, va_A w H.size q → A q := fun q h => by
  rcases h with ⟨k, e, h⟩ | h
  · exact hD.2 k (q, e) h
  · exact hA q (Nat.le_trans hS.1 h)
/-- what a callee's world gives back to its caller -/
def Jn (G : va_G) (A : Nat → Prop) (wc : va_W) (H : Heap) (J : va_W → va_W) : Prop := (∀ q, va_A wc H.size q → A q) ∧ ∀ (H1 : Heap) (w1 : va_W), (∀ q : Nat, q < H.size → ¬ va_A wc H.size q → H1[q]? = H[q]?) → va_P G vwCl w1 H1 → va_D (va_A wc H.size) w1 → va_P G vwCl (J w1) H1 ∧ va_D A (J w1)
theorem Jn_0 (hP : va_P G vwCl ws H) (hD : va_D A ws) (hS : va_S A H0 H locs) (hA : ∀ q, H0.size ≤ q → A q) : Jn G A [] H (fun _ => ws) :=
  ⟨fr_ D_0 hS hA, fun H1 w1 hk _ _ => ⟨fun k q hq => (hP k q hq).kept (hk q.1 (hP k q hq).lt (fun h => by
    rcases h with ⟨k2, e, h⟩ | h
    · simp at h
    · have := (hP k q hq).lt
      omega)), hD⟩⟩
theorem Jn_1 (_ : va_P G vwCl w H) (hD : va_D A w) (hS : va_S A H0 H locs) (hA : ∀ q, H0.size ≤ q → A q) : Jn G A w H (fun w1 => w1) :=
  ⟨fr_ hD hS hA, fun _ _ _ hP1 hD1 => ⟨hP1, hD1.weaken (fun _ q _ h => fr_ hD hS hA q.1 h)⟩⟩
theorem Jn_l (hP : va_P G vwCl (w ++ v) H) (hD : va_D A (w ++ v)) (hS : va_S A H0 H locs) (hA : ∀ q, H0.size ≤ q → A q) : Jn G A w H (fun w1 => w1 ++ v) := by
  have out : ∀ (k : Nat) (q : Nat × va_E), v[k]? = some q → ¬ va_A w H.size q.1 := fun k q hq h => by
    rcases h with ⟨k2, e, h⟩ | h
    · exact D_x hD h hq rfl
    · have := ((P_r hP) k q hq).lt
      omega
  refine ⟨fr_ (D_l hD) hS hA, fun H1 w1 hk hP1 hD1 => ⟨va_P.app hP1 (fun k q hq => ((P_r hP) k q hq).kept (hk q.1 ((P_r hP) k q hq).lt (out k q hq))), va_D.app (hD1.weaken (fun _ q _ h => fr_ (D_l hD) hS hA q.1 h)) (D_r hD) (fun i j p q hp hq e => ?_)⟩⟩
  exact out j q hq (by rw [← e]; exact hD1.2 i p hp)
theorem Jn_r (hP : va_P G vwCl (w ++ v) H) (hD : va_D A (w ++ v)) (hS : va_S A H0 H locs) (hA : ∀ q, H0.size ≤ q → A q) : Jn G A v H (fun v1 => w ++ v1) := by
  have out : ∀ (k : Nat) (q : Nat × va_E), w[k]? = some q → ¬ va_A v H.size q.1 := fun k q hq h => by
    rcases h with ⟨k2, e, h⟩ | h
    · exact D_x hD hq h rfl
    · have := ((P_l hP) k q hq).lt
      omega
  refine ⟨fr_ (D_r hD) hS hA, fun H1 w1 hk hP1 hD1 => ⟨va_P.app (fun k q hq => ((P_l hP) k q hq).kept (hk q.1 ((P_l hP) k q hq).lt (out k q hq))) hP1, va_D.app (D_l hD) (hD1.weaken (fun _ q _ h => fr_ (D_r hD) hS hA q.1 h)) (fun i j p q hp hq e => ?_)⟩⟩
  exact out i p hp (by rw [e]; exact hD1.2 j q hq)
end JN
section KB
variable {p : Program} {l : Launch} {e : Env} {R : Room} {s : State} {m : MethodId} {args : Array Value} {below : List Frame} {meth : Method} {c : Code} {H : Heap} {locs : List Loc} {cells slots mc ms cc : Nat} {Q : State → Prop}
variable {pc : Nat} {ls : Array Slot} {rest st0 : List Value} {a : Array Value} {A : Nat → Prop} {H0 : Heap} {G : va_G} {cy : Nat → ClassId} {wc w1 : va_W} {J : va_W → va_W}
theorem kb_i {V : Int32} (hS : va_S A H0 H locs) (hJ : Jn G A wc H J)
    (hr : va_Run p l e R s m args below meth c H locs cells slots 0 0 (F0 m pc ls st0) rest (va_Qi (fun r (_ : Unit) => r = V) (fun _ t => Wd G cy (va_A wc H.size) w1 t) (va_A wc H.size) a) (va_A wc H.size))
    (kk : ∀ (H1 : Heap) (locs1 : List Loc), va_P G vwCl (J w1) H1 → va_D A (J w1) → va_S A H0 H1 locs1 → W p l e R s m args below meth c H1 locs1 cells slots Q (F0 m (pc + 3) ls (.int V :: rest))) : W p l e R s m args below meth c H locs cells slots Q (F0 m pc ls st0) := by
  refine va_calli hr hS (fun q _ h => hJ.1 q h) hJ.1 (fun r u t H1 locs1 ht hvm hw hB hz1 hk1 hS => ?_)
  obtain ⟨hP1, -, hD1, -⟩ := hB
  rw [ht] at hP1
  obtain ⟨hP, hD⟩ := hJ.2 H1 w1 hk1 hP1 hD1
  subst hw
  exact kk H1 locs1 hP hD hS
theorem kb_l {V : Int64} (hS : va_S A H0 H locs) (hJ : Jn G A wc H J)
    (hr : va_Run p l e R s m args below meth c H locs cells slots 0 0 (F0 m pc ls st0) rest (va_Ql (fun r (_ : Unit) => r = V) (fun _ t => Wd G cy (va_A wc H.size) w1 t) (va_A wc H.size) a) (va_A wc H.size))
    (kk : ∀ (H1 : Heap) (locs1 : List Loc), va_P G vwCl (J w1) H1 → va_D A (J w1) → va_S A H0 H1 locs1 → W p l e R s m args below meth c H1 locs1 cells slots Q (F0 m (pc + 3) ls (.long V :: rest))) : W p l e R s m args below meth c H locs cells slots Q (F0 m pc ls st0) := by
  refine va_calll hr hS (fun q _ h => hJ.1 q h) hJ.1 (fun r u t H1 locs1 ht hvm hw hB hz1 hk1 hS => ?_)
  obtain ⟨hP1, -, hD1, -⟩ := hB
  rw [ht] at hP1
  obtain ⟨hP, hD⟩ := hJ.2 H1 w1 hk1 hP1 hD1
  subst hw
  exact kk H1 locs1 hP hD hS
theorem kb_i6 {V : Int32} (hS : va_S A H0 H locs) (hms : ms ≤ 6 * mc) (hJ : Jn G A wc H J)
    (hr : va_Run p l e R s m args below meth c H locs cc (6 * cc) mc ms (F0 m pc ls st0) rest (va_Qi (fun r (_ : Unit) => r = V) (fun _ t => Wd G cy (va_A wc H.size) w1 t) (va_A wc H.size) a) (va_A wc H.size))
    (kk : ∀ (H1 : Heap) (locs1 : List Loc), va_P G vwCl (J w1) H1 → va_D A (J w1) → va_S A H0 H1 locs1 → W p l e R s m args below meth c H1 locs1 (cc + mc) (6 * (cc + mc)) Q (F0 m (pc + 3) ls (.int V :: rest))) : W p l e R s m args below meth c H locs cc (6 * cc) Q (F0 m pc ls st0) := by
  refine va_calli hr hS (fun q _ h => hJ.1 q h) hJ.1 (fun r u t H1 locs1 ht hvm hw hB hz1 hk1 hS => ?_)
  obtain ⟨hP1, -, hD1, -⟩ := hB
  rw [ht] at hP1
  obtain ⟨hP, hD⟩ := hJ.2 H1 w1 hk1 hP1 hD1
  subst hw
  exact W.widen (Nat.le_refl _) (by omega) (kk H1 locs1 hP hD hS)
theorem kbx_i {T : Type} {R0 : T} {w1 : T → va_W} {wx : va_W} {V : T → Int32} (hS : va_S A H0 H locs) (hms : ms ≤ 6 * mc) (hJ : Jn G A wc H J)
    (hr : vx_Run p l e R s m args below meth c H locs cc (6 * cc) mc ms (F0 m pc ls st0) rest (va_Qi (fun r (u : T) => (Sum.inr R0 : Nat ⊕ T) = .inr u ∧ r = V u) (fun u t => Wd G cy (va_A wc H.size) (w1 u) t) (va_A wc H.size) a) (vx_X (fun u : Nat => (Sum.inr R0 : Nat ⊕ T) = .inl u) (fun E u t => E = exN u ∧ va_P G vwCl wx t.heap ∧ va_D (va_A wc H.size) wx) (va_A wc H.size)) (va_A wc H.size))
    (kk : ∀ (H1 : Heap) (locs1 : List Loc), va_P G vwCl (J (w1 R0)) H1 → va_D A (J (w1 R0)) → va_S A H0 H1 locs1 → W p l e R s m args below meth c H1 locs1 (cc + mc) (6 * (cc + mc)) Q (F0 m (pc + 3) ls (.int (V R0) :: rest))) : W p l e R s m args below meth c H locs cc (6 * cc) Q (F0 m pc ls st0) := by
  refine vx_calli hr hS (fun q _ h => hJ.1 q h) hJ.1 (fun q _ h => hJ.1 q h) (fun E ce q9 u t H1 locs1 ht hvm hp hB hz1 hk1 hS hc1 hc2 hc3 => nomatch hp) (fun r u t H1 locs1 ht hvm hw hB hz1 hk1 hS => ?_)
  obtain ⟨hP1, -, hD1, -⟩ := hB
  rw [ht] at hP1
  obtain ⟨hP, hD⟩ := hJ.2 H1 (w1 u) hk1 hP1 hD1
  obtain ⟨hz, rfl⟩ := hw
  obtain rfl := Sum.inr.inj hz
  exact W.widen (Nat.le_refl _) (by omega) (kk H1 locs1 hP hD hS)
theorem kbx_l {T : Type} {R0 : T} {w1 : T → va_W} {wx : va_W} {V : T → Int64} (hS : va_S A H0 H locs) (hms : ms ≤ 6 * mc) (hJ : Jn G A wc H J)
    (hr : vx_Run p l e R s m args below meth c H locs cc (6 * cc) mc ms (F0 m pc ls st0) rest (va_Ql (fun r (u : T) => (Sum.inr R0 : Nat ⊕ T) = .inr u ∧ r = V u) (fun u t => Wd G cy (va_A wc H.size) (w1 u) t) (va_A wc H.size) a) (vx_X (fun u : Nat => (Sum.inr R0 : Nat ⊕ T) = .inl u) (fun E u t => E = exN u ∧ va_P G vwCl wx t.heap ∧ va_D (va_A wc H.size) wx) (va_A wc H.size)) (va_A wc H.size))
    (kk : ∀ (H1 : Heap) (locs1 : List Loc), va_P G vwCl (J (w1 R0)) H1 → va_D A (J (w1 R0)) → va_S A H0 H1 locs1 → W p l e R s m args below meth c H1 locs1 (cc + mc) (6 * (cc + mc)) Q (F0 m (pc + 3) ls (.long (V R0) :: rest))) : W p l e R s m args below meth c H locs cc (6 * cc) Q (F0 m pc ls st0) := by
  refine vx_calll hr hS (fun q _ h => hJ.1 q h) hJ.1 (fun q _ h => hJ.1 q h) (fun E ce q9 u t H1 locs1 ht hvm hp hB hz1 hk1 hS hc1 hc2 hc3 => nomatch hp) (fun r u t H1 locs1 ht hvm hw hB hz1 hk1 hS => ?_)
  obtain ⟨hP1, -, hD1, -⟩ := hB
  rw [ht] at hP1
  obtain ⟨hP, hD⟩ := hJ.2 H1 (w1 u) hk1 hP1 hD1
  obtain ⟨hz, rfl⟩ := hw
  obtain rfl := Sum.inr.inj hz
  exact W.widen (Nat.le_refl _) (by omega) (kk H1 locs1 hP hD hS)
end KB
