-- ===== end of PART A; then your names; then what follows =====
/-! THE CLAIM OUT OF ONE WALK OF THE LAW'S BODY. Your part is whole_start (and what it stands on); all else here is the same for every law, but numbers. -/
def R_law : String := "PaneFrostLaw"
def lw_P (b : Addr) (xs : List Int32) (args : Array Value) (s : State) : Prop := args = #[.ref b] ∧ s.IntsAt b xs ∧ xs.length ≤ 260 ∧ (Jvm.Cond.and given_1 narrow_1).before args s = true
def lw_Q (_ : Array Value) (s : State) (o : Outcome) (t : State) : Prop := o = .returned (some (.int 1)) ∧ Framed s o t [] 730771 6909156
def lw_Z (below : List Frame) (a : Array Value) (s : State) : State → Prop := fun t => ∃ o, t.status = .running ∧ Ended t below o ∧ lw_Q a s o t
/-- the law's own end, with 1 on the stack, nothing written that was there before, its room as the claim has it -/
theorem lw_ret {p : Program} {l : Launch} {e : Env} {s : State} {m : MethodId} {below : List Frame} {meth : Method} {c : Code} {b : Nat} (hx : p.tables.exec = Jvm.exec) (hb : c.code = code) (hr : meth.sig.returnType = ret) (hlocks : meth.locks = false) {pc : Nat} {H : Heap} {ls : Array Slot} (hdg : decode code pc = .ok (.ireturn, 1)) : W p l e room_1 s m #[Value.ref b] below meth c H [] 730771 6909156 (lw_Z below #[Value.ref b] s) (F0 m pc ls [.int 1]) := by
  intro T hT X
  obtain ⟨fs, hret, hrun, hended, hW, hframe⟩ := X.leave (v := some (.int 1)) (hlocks := hlocks) (fun h => by rw [hr] at h; cases h)
  have hmeth' : T.vm.method? m = some meth := X.method'
  refine ⟨T.setFrames fs, ?_, .returned (some (.int 1)), hrun, hended, rfl, ⟨_, rfl⟩, hW, hframe⟩
  jvm_step X.here [X.here.top, hx, hb, hdg, hmeth', hr, ret, narrow_b1]
  (try refine ⟨rfl, ?_⟩); (try refine ⟨rfl, ?_⟩)
  first | (intro acts; rw [hret _ acts rfl rfl rfl]) | rw [hret _ _ rfl rfl rfl]
  exact Steps.refl _
/-- what holds at the law's entry: the machine, the code, the tables' words (any of lw_tbl by 'hts w (by decide +kernel)'), the script of L ints xs at the cell b, what the Statement gives of the start (any of its parts by flat_of_before) -/
def lw_At (p : Program) (s : State) (m : MethodId) (meth : Method) (c : Code) (b L : Nat) (xs : Nat → Int32) : Prop :=
  p.tables.exec = Jvm.exec ∧ c.code = code ∧ meth.sig.returnType = ret ∧ c.maxLocals = 8 ∧ s.vm.findClass R_law = some m.cls ∧ (∀ w ∈ lw_tbl, w.before #[Value.ref b] s = true) ∧ va_X b L xs s s.heap ∧ b < s.heap.size ∧ meth.locks = false ∧ (Jvm.Cond.and given_1 narrow_1).before #[Value.ref b] s = true

/-! what the start gives -/
theorem tb {b : Nat} {s : State} (hts : ∀ w ∈ lw_tbl, w.before #[Value.ref b] s = true) (i : Nat) {w : Cond} (h : tables_1[i]? = some w) : w.before #[Value.ref b] s = true := hts w (List.mem_append_right _ (List.mem_of_getElem? h))
theorem SR_of {k : Nat} {tx : String} {A : Array Value} {U : State} (h : (Cond.stringRef RX5 k tx).before A U = true) : SR k tx U := by
  have h1 := h
  simp only [Cond.before, Cond.holds, Cond.value] at h1
  cases hc : U.vm.findClass RX5 with
  | none => simp [hc] at h1
  | some cur =>
    obtain ⟨_, _, _, a, _, _, _, _, _, e⟩ := Cond.stringRef_spec (args := A) (first := U) (o := none) (idx := []) hc h
    exact ⟨a, vk_R.of h e⟩
theorem arrC {ty : FieldType} {A : Array Value} {s : State} (hno : ∀ C, ty ≠ .object C) (h : (Cond.arrayClass ty).before A s = true) : ∃ cA, ArrOfT s cA ty ∧ va_RA s cA ty := by
  obtain ⟨cA, kA, comp, hfind, hk, hkind⟩ := Cond.arrayClass_spec h
  cases ty with
  | object C => exact absurd rfl (hno C)
  | _ => exact ⟨cA, fun n z => ⟨fun k h => (by cases h), kA, hk, comp, hkind⟩, hfind⟩
theorem arrO {C : String} {A : Array Value} {s : State} (h : (Cond.arrayOver (.object C)).before A s = true) : ∃ cA, ArrOfT s cA (.object C) ∧ va_RA s cA (.object C) := by
  obtain ⟨comp, c, k, h1, h2, h3, h4, h5⟩ := Cond.arrayOver_spec h
  exact ⟨c, fun n z => ⟨fun k h => (by cases h), k, h3, comp, h4⟩, k, comp, h3, h4, h1, h5⟩
set_option maxRecDepth 100000 in
theorem law_XS {b : Nat} {s : State} (hts : ∀ w ∈ lw_tbl, w.before #[Value.ref b] s = true) : XS s :=
  ⟨SR_of (tb hts 295 (w := .stringRef RX5 64 "the text is full") (by decide +kernel)), SR_of (tb hts 347 (w := .stringRef RX5 80 "the text is not a window") (by decide +kernel)), SR_of (tb hts 500 (w := .stringRef RX5 165 "what is not 0 to 7") (by decide +kernel)), SR_of (tb hts 543 (w := .stringRef RX5 186 "what is not 0 to 3") (by decide +kernel)), SR_of (tb hts 602 (w := .stringRef RX5 204 "no cell is the neighbour there") (by decide +kernel)), SR_of (tb hts 638 (w := .stringRef RX5 208 "no state is remembered") (by decide +kernel)), SR_of (tb hts 791 (w := .stringRef RX5 270 "script does not fit") (by decide +kernel)), SR_of (tb hts 771 (w := .stringRef RX5 301 "nothing has been saved there") (by decide +kernel)), SR_of (tb hts 754 (w := .stringRef RX5 308 "no such save slot") (by decide +kernel)), SR_of (tb hts 523 (w := .stringRef RX5 311 "no such cell") (by decide +kernel)), SR_of (tb hts 255 (w := .stringRef RX5 317 "an argument is out of its range") (by decide +kernel)), SR_of (tb hts 679 (w := .stringRef RX5 319 "the rule is 0") (by decide +kernel))⟩
set_option maxRecDepth 100000 in
theorem law_XD {b : Nat} {s : State} (hts : ∀ w ∈ lw_tbl, w.before #[Value.ref b] s = true) : XD s :=
  ⟨va_Nw.of rfl (tb hts 218 (w := .declares (Bundle.initS "java/lang/RuntimeException")) (by decide +kernel)), va_Nw.of rfl (tb hts 220 (w := .declares (Bundle.initS "java/lang/Exception")) (by decide +kernel)), va_Nw.of rfl (tb hts 222 (w := .declares (Bundle.initS "java/lang/Throwable")) (by decide +kernel)), va_Nw.of rfl (tb hts 516 (w := .castable "java/lang/IndexOutOfBoundsException" "java/lang/IndexOutOfBoundsException") (by decide +kernel)), va_Nw.of rfl (tb hts 216 (w := .castable "java/lang/IllegalArgumentException" "java/lang/IllegalArgumentException") (by decide +kernel)), va_Nw.of rfl (tb hts 288 (w := .castable "java/lang/IllegalStateException" "java/lang/IllegalStateException") (by decide +kernel))⟩
set_option maxRecDepth 100000 in
theorem law_NW {b : Nat} {s : State} (hts : ∀ w ∈ lw_tbl, w.before #[Value.ref b] s = true) : NW s :=
  ⟨va_Nw.of rfl (tb hts 382 (w := .methodLinkNest RX4 56 yX5_holds "PaneFrost") (by decide +kernel)), va_Nw.of rfl (tb hts 389 (w := .methodLinkNest RX4 132 yX5_isWithin "PaneFrost") (by decide +kernel)), va_Nw.of rfl (tb hts 695 (w := .methodLinkNest RX0 56 yX5_holds "PaneFrost") (by decide +kernel))⟩
set_option maxRecDepth 100000 in
theorem law_XN {b : Nat} {s : State} (hgv : (Jvm.Cond.and given_1 narrow_1).before #[Value.ref b] s = true) : XN s := by
  have hs := flat_of_before _ hgv
  exact ⟨va_Nc.of (hs (.not (.castable "java/lang/IllegalArgumentException" "java/lang/IndexOutOfBoundsException")) (by decide +kernel)), va_Nc.of (hs (.not (.castable "java/lang/IllegalStateException" "java/lang/IndexOutOfBoundsException")) (by decide +kernel)), va_Nc.of (hs (.not (.castable "java/lang/IllegalStateException" "java/lang/IllegalArgumentException")) (by decide +kernel))⟩
set_option maxRecDepth 100000 in
theorem law_EN {b : Nat} {s : State} (hts : ∀ w ∈ lw_tbl, w.before #[Value.ref b] s = true) (hgv : (Jvm.Cond.and given_1 narrow_1).before #[Value.ref b] s = true) : EN (fun q : Nat => s.heap.size ≤ q) s s.heap := by
  have hs := flat_of_before _ hgv
  have hA : ∀ a : Nat, a < s.heap.size → ¬ (fun q : Nat => s.heap.size ≤ q) a := fun a h => Nat.not_le.mpr h
  exact ⟨vx_Zqof (tb hts 241 (w := .laysStatic Bundle.tN "UNASSIGNED_STACK" Bundle.steD) (by decide +kernel)) (tb hts 7 (w := .initialized Bundle.tN) (by decide +kernel)) (hs (.isRef (.static Bundle.tN "UNASSIGNED_STACK" Bundle.steD)) (by decide +kernel)) hA, vx_Zqof (tb hts 243 (w := .laysStatic Bundle.tN "SUPPRESSED_SENTINEL" Bundle.listD) (by decide +kernel)) (tb hts 7 (w := .initialized Bundle.tN) (by decide +kernel)) (hs (.isRef (.static Bundle.tN "SUPPRESSED_SENTINEL" Bundle.listD)) (by decide +kernel)) hA, law_XD hts, law_XS hts⟩
set_option maxRecDepth 100000 in
theorem law_AO {b : Nat} {s : State} (hts : ∀ w ∈ lw_tbl, w.before #[Value.ref b] s = true) : va_AO "PaneFrost$Window" s := va_AO.of (tb hts 112 (w := .arrayOver (.object "PaneFrost$Window")) (by decide +kernel))
set_option maxRecDepth 100000 in
theorem law_K {b : Nat} {s : State} (hts : ∀ w ∈ lw_tbl, w.before #[Value.ref b] s = true) : ∃ (G : va_G) (cy : Nat → ClassId), va_K G vwCl (tyL cy) s := by
  obtain ⟨c0, i0, h0⟩ := u_known (C := RX0) (T := TX0) (N := 4) (n := 4) hts inX0 (tb hts 143 (w := .instantiable RX0 4) (by decide +kernel))
  obtain ⟨c1, i1, h1⟩ := u_known (C := RX1) (T := TX1) (N := 3) (n := 3) hts inX1 (tb hts 106 (w := .instantiable RX1 3) (by decide +kernel))
  obtain ⟨c2, i2, h2⟩ := u_known (C := RX2) (T := TX2) (N := 2) (n := 2) hts inX2 (tb hts 126 (w := .instantiable RX2 2) (by decide +kernel))
  obtain ⟨c3, i3, h3⟩ := u_known (C := RX3) (T := TX3) (N := 6) (n := 6) hts inX3 (tb hts 24 (w := .instantiable RX3 6) (by decide +kernel))
  obtain ⟨c4, i4, h4⟩ := u_known (C := RX4) (T := TX4) (N := 12) (n := 12) hts inX4 (tb hts 53 (w := .instantiable RX4 12) (by decide +kernel))
  obtain ⟨c5, i5, h5⟩ := u_known (C := RX5) (T := TX5) (N := 8) (n := 8) hts inX5 (tb hts 16 (w := .instantiable RX5 8) (by decide +kernel))
  obtain ⟨d0, a0, e0⟩ := arrC (ty := .char) (fun C q => by cases q) (tb hts 51 (w := .arrayClass .char) (by decide +kernel))
  obtain ⟨d2, a2, e2⟩ := arrC (ty := .long) (fun C q => by cases q) (tb hts 161 (w := .arrayClass .long) (by decide +kernel))
  obtain ⟨d4, a4, e4⟩ := arrO (C := "PaneFrost$Window") (tb hts 112 (w := .arrayOver (.object "PaneFrost$Window")) (by decide +kernel))
  refine ⟨((fun k => if k = 0 then c0 else if k = 1 then c1 else if k = 2 then c2 else if k = 3 then c3 else if k = 4 then c4 else c5), (fun k => if k = 0 then i0 else if k = 1 then i1 else if k = 2 then i2 else if k = 3 then i3 else if k = 4 then i4 else i5)), (fun k => if k = 0 then d0 else if k = 2 then d2 else d4), fun k q hq => ?_, fun k q hq => ?_⟩
  · match k, hq with
    | 0, hq => cases hq; exact h0
    | 1, hq => cases hq; exact h1
    | 2, hq => cases hq; exact h2
    | 3, hq => cases hq; exact h3
    | 4, hq => cases hq; exact h4
    | 5, hq => cases hq; exact h5
    | k + 6, hq => simp [vwCl] at hq
  · match k, hq with
    | 0, hq => cases hq; exact ⟨a0, e0⟩
    | 1, hq => cases hq; exact ⟨a2, e2⟩
    | 2, hq => cases hq; exact ⟨a4, e4⟩
    | k + 3, hq => simp [tyL] at hq
theorem law_fl {l : Launch} (h : l.flags = flags0) : l.stackTraces = false := by
  unfold Launch.stackTraces
  rw [h]; decide +kernel
