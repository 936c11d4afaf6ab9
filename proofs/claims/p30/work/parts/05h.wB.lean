/-! one list of words for the law's own methods -/
set_option maxRecDepth 100000 in
theorem inH_wsL_call : (.code yL_call cL_call 5 (some .int) : Cond) ∈ lw_tbl := List.mem_of_getElem? (i := 235) (by rfl)
theorem inW_wsL_call : ∀ w ∈ wsL_call, w ∈ lw_tbl := fun w h => (List.mem_cons.mp h).elim (fun e => by rw [e]; exact inH_wsL_call) (fun h => (List.mem_append.mp h).elim (fun h => (List.mem_append.mp h).elim (fun h => (List.mem_append.mp h).elim (fun h => (List.mem_append.mp h).elim (fun h => (List.mem_append.mp h).elim (fun h => (List.mem_append.mp h).elim (fun h => (List.mem_append.mp h).elim (fun h => (List.mem_append.mp h).elim (fun h => (List.mem_append.mp h).elim (fun h => (List.mem_append.mp h).elim (fun h => inC_wsL_call_r1 w h) (fun h => (List.mem_append.mp h).elim (fun h => inC_wsL_call_r2 w h) (fun h => (List.mem_append.mp h).elim (fun h => inC_wsL_call_r3 w h) (fun h => (List.mem_append.mp h).elim (fun h => inC_wsL_call_r4 w h) (fun h => (List.mem_append.mp h).elim (fun h => inC_wsL_call_r5 w h) (fun h => (List.mem_append.mp h).elim (fun h => inC_wsL_call_r6 w h) (fun h => (List.mem_append.mp h).elim (fun h => inC_wsL_call_r7 w h) (fun h => (List.mem_append.mp h).elim (fun h => inC_wsL_call_r8 w h) (fun h => (List.mem_append.mp h).elim (fun h => inC_wsL_call_r9 w h) (fun h => (List.mem_append.mp h).elim (fun h => inC_wsL_call_r10 w h) (fun h => (List.mem_append.mp h).elim (fun h => inC_wsL_call_r11 w h) (fun h => (List.mem_append.mp h).elim (fun h => inC_wsL_call_r12 w h) (fun h => (List.mem_append.mp h).elim (fun h => inC_wsL_call_r13 w h) (fun h => (List.mem_append.mp h).elim (fun h => inC_wsL_call_r14 w h) (fun h => (List.mem_append.mp h).elim (fun h => inC_wsL_call_r15 w h) (fun h => (List.mem_append.mp h).elim (fun h => inC_wsL_call_r16 w h) (fun h => (List.mem_append.mp h).elim (fun h => inC_wsL_call_r17 w h) (fun h => (List.mem_append.mp h).elim (fun h => inC_wsL_call_r18 w h) (fun h => (List.mem_append.mp h).elim (fun h => inC_wsL_call_r19 w h) (fun h => (List.mem_append.mp h).elim (fun h => inC_wsL_call_r20 w h) (fun h => (List.mem_append.mp h).elim (fun h => inC_wsL_call_r21 w h) (fun h => (List.mem_append.mp h).elim (fun h => inC_wsL_call_r22 w h) (fun h => inC_wsL_call_r23 w h))))))))))))))))))))))) (fun h => inX5 w h)) (fun h => inX3 w h)) (fun h => inX1 w h)) (fun h => inX2 w h)) (fun h => inX4 w h)) (fun h => inX0 w h)) (fun h => wsL_law_x0 w h)) (fun h => wsL_law_x1 w h)) (fun h => wsL_law_x2 w h))
set_option maxRecDepth 100000 in
theorem inH_wsL_looks : (.codeWith yL_looks cL_looks 3 (some .long) [(0, 5, 6, 13)] : Cond) ∈ lw_tbl := by decide +kernel
theorem inW_wsL_looks : ∀ w ∈ wsL_looks, w ∈ lw_tbl := fun w h => (List.mem_cons.mp h).elim (fun e => by rw [e]; exact inH_wsL_looks) (fun h => (List.mem_append.mp h).elim (fun h => (List.mem_append.mp h).elim (fun h => (List.mem_append.mp h).elim (fun h => (List.mem_append.mp h).elim (fun h => inC_wsL_looks_r1 w h) (fun h => (List.mem_append.mp h).elim (fun h => inC_wsL_looks_r2 w h) (fun h => inC_wsL_looks_r3 w h))) (fun h => inX5 w h)) (fun h => inX4 w h)) (fun h => wsL_law_x1 w h))
set_option maxRecDepth 100000 in
theorem inH_wsL_was : (.codeWith yL_was cL_was 2 (some .long) [(0, 4, 5, 21)] : Cond) ∈ lw_tbl := by decide +kernel
theorem inW_wsL_was : ∀ w ∈ wsL_was, w ∈ lw_tbl := fun w h => (List.mem_cons.mp h).elim (fun e => by rw [e]; exact inH_wsL_was) (fun h => (List.mem_append.mp h).elim (fun h => (List.mem_append.mp h).elim (fun h => (List.mem_append.mp h).elim (fun h => (List.mem_append.mp h).elim (fun h => (List.mem_append.mp h).elim (fun h => inC_wsL_was_r1 w h) (fun h => (List.mem_append.mp h).elim (fun h => inC_wsL_was_r2 w h) (fun h => (List.mem_append.mp h).elim (fun h => inC_wsL_was_r3 w h) (fun h => (List.mem_append.mp h).elim (fun h => inC_wsL_was_r4 w h) (fun h => inC_wsL_was_r5 w h))))) (fun h => inX5 w h)) (fun h => inX4 w h)) (fun h => inX0 w h)) (fun h => wsL_law_x0 w h))
set_option maxRecDepth 100000 in
theorem inH_wsL_doScript : (.codeWith yL_doScript cL_doScript 5 (some .int) [(0, 6, 7, 13)] : Cond) ∈ lw_tbl := by decide +kernel
theorem inW_wsL_doScript : ∀ w ∈ wsL_doScript, w ∈ lw_tbl := fun w h => (List.mem_cons.mp h).elim (fun e => by rw [e]; exact inH_wsL_doScript) (fun h => (List.mem_append.mp h).elim (fun h => (List.mem_append.mp h).elim (fun h => (List.mem_append.mp h).elim (fun h => (List.mem_append.mp h).elim (fun h => inC_wsL_doScript_r1 w h) (fun h => (List.mem_append.mp h).elim (fun h => inC_wsL_doScript_r2 w h) (fun h => (List.mem_append.mp h).elim (fun h => inC_wsL_doScript_r3 w h) (fun h => (List.mem_append.mp h).elim (fun h => inC_wsL_doScript_r4 w h) (fun h => (List.mem_append.mp h).elim (fun h => inC_wsL_doScript_r5 w h) (fun h => (List.mem_append.mp h).elim (fun h => inC_wsL_doScript_r6 w h) (fun h => inC_wsL_doScript_r7 w h))))))) (fun h => inX5 w h)) (fun h => inX4 w h)) (fun h => wsL_law_x1 w h))
set_option maxRecDepth 100000 in
theorem inH_wsL_doSimulate : (.codeWith yL_doSimulate cL_doSimulate 5 (some .int) [(0, 6, 7, 13)] : Cond) ∈ lw_tbl := by decide +kernel
theorem inW_wsL_doSimulate : ∀ w ∈ wsL_doSimulate, w ∈ lw_tbl := fun w h => (List.mem_cons.mp h).elim (fun e => by rw [e]; exact inH_wsL_doSimulate) (fun h => (List.mem_append.mp h).elim (fun h => (List.mem_append.mp h).elim (fun h => (List.mem_append.mp h).elim (fun h => (List.mem_append.mp h).elim (fun h => inC_wsL_doSimulate_r1 w h) (fun h => (List.mem_append.mp h).elim (fun h => inC_wsL_doSimulate_r2 w h) (fun h => (List.mem_append.mp h).elim (fun h => inC_wsL_doSimulate_r3 w h) (fun h => (List.mem_append.mp h).elim (fun h => inC_wsL_doSimulate_r4 w h) (fun h => (List.mem_append.mp h).elim (fun h => inC_wsL_doSimulate_r5 w h) (fun h => (List.mem_append.mp h).elim (fun h => inC_wsL_doSimulate_r6 w h) (fun h => inC_wsL_doSimulate_r7 w h))))))) (fun h => inX5 w h)) (fun h => inX4 w h)) (fun h => wsL_law_x1 w h))
set_option maxRecDepth 100000 in
theorem inW_wsX5_frozen : ∀ w ∈ wsX5_frozen, w ∈ lw_tbl := fun w h => (List.mem_cons.mp h).elim (fun e => by rw [e]; exact List.mem_of_getElem? (i := 854) (by decide +kernel)) (fun h => (List.mem_append.mp h).elim (fun h => (List.mem_append.mp h).elim (fun h => (List.forall_mem_cons.mpr ⟨by decide +kernel, List.forall_mem_cons.mpr ⟨by decide +kernel, fun _ h => absurd h List.not_mem_nil⟩⟩ : ∀ w ∈ [.fieldLink RX5 19 "PaneFrost" "window" "LPaneFrost$Window;", .fieldLink RX5 138 "PaneFrost$Window" "frozen" "J"], w ∈ lw_tbl) w h) (fun h => inX5 w h)) (fun h => inX4 w h))
set_option maxRecDepth 100000 in
theorem inW_wsL_thrown : ∀ w ∈ wsL_thrown, w ∈ lw_tbl := List.forall_mem_cons.mpr ⟨List.mem_of_getElem? (i := 866) (by decide +kernel), by decide +kernel⟩
def kB : List Cond := [.constant RL 166 (15519229), .constant RL 167 (2147483647), .constant RL 196 (100000), .constant RL 29 (-9999002), .constant RL 38 (-9999003), .constant RL 52 (-9999001), .constantLong RL 15 (-9999002), .constantLong RL 180 (10000), .constantLong RL 222 (4294967295), .constantLong RL 23 (-9999003), .methodLink RL 168 yL_call, .static yL_call, .methodLink RL 172 yL_looks, .static yL_looks, .methodLink RL 218 yL_was, .static yL_was, .methodLink RL 176 yL_doScript, .static yL_doScript, .methodLink RL 182 yL_doSimulate, .static yL_doSimulate, .methodLink RL 214 yL_thrown, .static yL_thrown, .methodLink RL 197 yL_refuses, .static yL_refuses, .methodLink RL 205 yL_holds, .static yL_holds, .methodLink RL 193 yL_act, .static yL_act, .methodLink RL 201 yL_alike, .static yL_alike, .methodLink RL 209 yL_nights, .static yL_nights, .methodLink RL 224 yL_clear, .static yL_clear, .methodLink RL 211 yL_scratches, .static yL_scratches, .initialized RL, .methodLink RL 186 yX5_frozen, .instanceMethod yX5_frozen, .selects RX5 yX5_frozen yX5_frozen, .initialized RX5, .code yL_refuses cL_refuses 6 (some .boolean), .code yL_holds cL_holds 20 (some .boolean), .code yL_act cL_act 5 (some .int), .code yL_alike cL_alike 6 (some .boolean), .code yL_nights cL_nights 21 (some .boolean), .code yL_clear cL_clear 7 (some .boolean), .code yL_scratches cL_scratches 11 (some .boolean)]
set_option maxRecDepth 100000 in
theorem inW_kB : ∀ w ∈ kB, w ∈ lw_tbl := List.forall_mem_cons.mpr ⟨by decide +kernel, List.forall_mem_cons.mpr ⟨by decide +kernel, List.forall_mem_cons.mpr ⟨by decide +kernel, List.forall_mem_cons.mpr ⟨by decide +kernel, List.forall_mem_cons.mpr ⟨by decide +kernel, List.forall_mem_cons.mpr ⟨by decide +kernel, List.forall_mem_cons.mpr ⟨by decide +kernel, List.forall_mem_cons.mpr ⟨by decide +kernel, List.forall_mem_cons.mpr ⟨by decide +kernel, List.forall_mem_cons.mpr ⟨by decide +kernel, List.forall_mem_cons.mpr ⟨by decide +kernel, List.forall_mem_cons.mpr ⟨by decide +kernel, List.forall_mem_cons.mpr ⟨by decide +kernel, List.forall_mem_cons.mpr ⟨by decide +kernel, List.forall_mem_cons.mpr ⟨by decide +kernel, List.forall_mem_cons.mpr ⟨by decide +kernel, List.forall_mem_cons.mpr ⟨by decide +kernel, List.forall_mem_cons.mpr ⟨by decide +kernel, List.forall_mem_cons.mpr ⟨by decide +kernel, List.forall_mem_cons.mpr ⟨by decide +kernel, List.forall_mem_cons.mpr ⟨by decide +kernel, List.forall_mem_cons.mpr ⟨by decide +kernel, List.forall_mem_cons.mpr ⟨by decide +kernel, List.forall_mem_cons.mpr ⟨by decide +kernel, List.forall_mem_cons.mpr ⟨by decide +kernel, List.forall_mem_cons.mpr ⟨by decide +kernel, List.forall_mem_cons.mpr ⟨by decide +kernel, List.forall_mem_cons.mpr ⟨by decide +kernel, List.forall_mem_cons.mpr ⟨by decide +kernel, List.forall_mem_cons.mpr ⟨by decide +kernel, List.forall_mem_cons.mpr ⟨by decide +kernel, List.forall_mem_cons.mpr ⟨by decide +kernel, List.forall_mem_cons.mpr ⟨by decide +kernel, List.forall_mem_cons.mpr ⟨by decide +kernel, List.forall_mem_cons.mpr ⟨by decide +kernel, List.forall_mem_cons.mpr ⟨by decide +kernel, List.forall_mem_cons.mpr ⟨by decide +kernel, List.forall_mem_cons.mpr ⟨by decide +kernel, List.forall_mem_cons.mpr ⟨by decide +kernel, List.forall_mem_cons.mpr ⟨by decide +kernel, List.forall_mem_cons.mpr ⟨by decide +kernel, List.forall_mem_cons.mpr ⟨List.mem_of_getElem? (i := 232) (by rfl), List.forall_mem_cons.mpr ⟨List.mem_of_getElem? (i := 850) (by rfl), List.forall_mem_cons.mpr ⟨List.mem_of_getElem? (i := 857) (by rfl), List.forall_mem_cons.mpr ⟨List.mem_of_getElem? (i := 860) (by rfl), List.forall_mem_cons.mpr ⟨List.mem_of_getElem? (i := 863) (by rfl), List.forall_mem_cons.mpr ⟨List.mem_of_getElem? (i := 885) (by rfl), List.forall_mem_cons.mpr ⟨List.mem_of_getElem? (i := 882) (by rfl), fun _ h => absurd h List.not_mem_nil⟩⟩⟩⟩⟩⟩⟩⟩⟩⟩⟩⟩⟩⟩⟩⟩⟩⟩⟩⟩⟩⟩⟩⟩⟩⟩⟩⟩⟩⟩⟩⟩⟩⟩⟩⟩⟩⟩⟩⟩⟩⟩⟩⟩⟩⟩⟩⟩
def wB : List Cond := (kB ++ (wsL_call ++ (wsL_looks ++ (wsL_was ++ (wsL_doScript ++ (wsL_doSimulate ++ (wsX5_frozen ++ wsL_thrown)))))))
theorem inW_wB : ∀ w ∈ wB, w ∈ lw_tbl := fun w h => (List.mem_append.mp h).elim (fun h => inW_kB w h) (fun h => (List.mem_append.mp h).elim (fun h => inW_wsL_call w h) (fun h => (List.mem_append.mp h).elim (fun h => inW_wsL_looks w h) (fun h => (List.mem_append.mp h).elim (fun h => inW_wsL_was w h) (fun h => (List.mem_append.mp h).elim (fun h => inW_wsL_doScript w h) (fun h => (List.mem_append.mp h).elim (fun h => inW_wsL_doSimulate w h) (fun h => (List.mem_append.mp h).elim (fun h => inW_wsX5_frozen w h) (fun h => inW_wsL_thrown w h)))))))
theorem mB_kB : ∀ w ∈ kB, w ∈ wB := fun w h => List.mem_append_left _ h
set_option maxRecDepth 100000 in
theorem aB_kB : kB.all goodWord = true := by decide +kernel
theorem mB_wsL_call : ∀ w ∈ wsL_call, w ∈ wB := fun w h => List.mem_append_right _ (List.mem_append_left _ h)
set_option maxRecDepth 100000 in
theorem aB_wsL_call : wsL_call.all goodWord = true := by decide +kernel
theorem mB_wsL_looks : ∀ w ∈ wsL_looks, w ∈ wB := fun w h => List.mem_append_right _ (List.mem_append_right _ (List.mem_append_left _ h))
set_option maxRecDepth 100000 in
theorem aB_wsL_looks : wsL_looks.all goodWord = true := by decide +kernel
theorem mB_wsL_was : ∀ w ∈ wsL_was, w ∈ wB := fun w h => List.mem_append_right _ (List.mem_append_right _ (List.mem_append_right _ (List.mem_append_left _ h)))
set_option maxRecDepth 100000 in
theorem aB_wsL_was : wsL_was.all goodWord = true := by decide +kernel
theorem mB_wsL_doScript : ∀ w ∈ wsL_doScript, w ∈ wB := fun w h => List.mem_append_right _ (List.mem_append_right _ (List.mem_append_right _ (List.mem_append_right _ (List.mem_append_left _ h))))
set_option maxRecDepth 100000 in
theorem aB_wsL_doScript : wsL_doScript.all goodWord = true := by decide +kernel
theorem mB_wsL_doSimulate : ∀ w ∈ wsL_doSimulate, w ∈ wB := fun w h => List.mem_append_right _ (List.mem_append_right _ (List.mem_append_right _ (List.mem_append_right _ (List.mem_append_right _ (List.mem_append_left _ h)))))
set_option maxRecDepth 100000 in
theorem aB_wsL_doSimulate : wsL_doSimulate.all goodWord = true := by decide +kernel
theorem mB_wsX5_frozen : ∀ w ∈ wsX5_frozen, w ∈ wB := fun w h => List.mem_append_right _ (List.mem_append_right _ (List.mem_append_right _ (List.mem_append_right _ (List.mem_append_right _ (List.mem_append_right _ (List.mem_append_left _ h))))))
set_option maxRecDepth 100000 in
theorem aB_wsX5_frozen : wsX5_frozen.all goodWord = true := by decide +kernel
theorem mB_wsL_thrown : ∀ w ∈ wsL_thrown, w ∈ wB := fun w h => List.mem_append_right _ (List.mem_append_right _ (List.mem_append_right _ (List.mem_append_right _ (List.mem_append_right _ (List.mem_append_right _ (List.mem_append_right _ (h)))))))
set_option maxRecDepth 100000 in
theorem aB_wsL_thrown : wsL_thrown.all goodWord = true := by decide +kernel
theorem all_app {a b : List Cond} (h1 : a.all goodWord = true) (h2 : b.all goodWord = true) : (a ++ b).all goodWord = true := by rw [List.all_append, h1, h2]; rfl
theorem aB_wB : wB.all goodWord = true := all_app aB_kB (all_app aB_wsL_call (all_app aB_wsL_looks (all_app aB_wsL_was (all_app aB_wsL_doScript (all_app aB_wsL_doSimulate (all_app aB_wsX5_frozen (aB_wsL_thrown)))))))
def wB_refuses : List Cond := .code yL_refuses cL_refuses 6 (some .boolean) :: wB
theorem mB_wB_refuses : ∀ w ∈ wB_refuses, w ∈ wB := fun w h => (List.mem_cons.mp h).elim (fun e => by rw [e]; exact List.mem_append_left _ (List.mem_of_getElem? (i := 41) (by rfl))) (fun h => h)
theorem aB_wB_refuses : wB_refuses.all goodWord = true := by
  show (goodWord _ && wB.all goodWord) = true
  rw [aB_wB]; rfl
def wB_holds : List Cond := .code yL_holds cL_holds 20 (some .boolean) :: wB
theorem mB_wB_holds : ∀ w ∈ wB_holds, w ∈ wB := fun w h => (List.mem_cons.mp h).elim (fun e => by rw [e]; exact List.mem_append_left _ (List.mem_of_getElem? (i := 42) (by rfl))) (fun h => h)
theorem aB_wB_holds : wB_holds.all goodWord = true := by
  show (goodWord _ && wB.all goodWord) = true
  rw [aB_wB]; rfl
def wB_act : List Cond := .code yL_act cL_act 5 (some .int) :: wB
theorem mB_wB_act : ∀ w ∈ wB_act, w ∈ wB := fun w h => (List.mem_cons.mp h).elim (fun e => by rw [e]; exact List.mem_append_left _ (List.mem_of_getElem? (i := 43) (by rfl))) (fun h => h)
theorem aB_wB_act : wB_act.all goodWord = true := by
  show (goodWord _ && wB.all goodWord) = true
  rw [aB_wB]; rfl
def wB_alike : List Cond := .code yL_alike cL_alike 6 (some .boolean) :: wB
theorem mB_wB_alike : ∀ w ∈ wB_alike, w ∈ wB := fun w h => (List.mem_cons.mp h).elim (fun e => by rw [e]; exact List.mem_append_left _ (List.mem_of_getElem? (i := 44) (by rfl))) (fun h => h)
theorem aB_wB_alike : wB_alike.all goodWord = true := by
  show (goodWord _ && wB.all goodWord) = true
  rw [aB_wB]; rfl
def wB_nights : List Cond := .code yL_nights cL_nights 21 (some .boolean) :: wB
theorem mB_wB_nights : ∀ w ∈ wB_nights, w ∈ wB := fun w h => (List.mem_cons.mp h).elim (fun e => by rw [e]; exact List.mem_append_left _ (List.mem_of_getElem? (i := 45) (by rfl))) (fun h => h)
theorem aB_wB_nights : wB_nights.all goodWord = true := by
  show (goodWord _ && wB.all goodWord) = true
  rw [aB_wB]; rfl
def wB_clear : List Cond := .code yL_clear cL_clear 7 (some .boolean) :: wB
theorem mB_wB_clear : ∀ w ∈ wB_clear, w ∈ wB := fun w h => (List.mem_cons.mp h).elim (fun e => by rw [e]; exact List.mem_append_left _ (List.mem_of_getElem? (i := 46) (by rfl))) (fun h => h)
theorem aB_wB_clear : wB_clear.all goodWord = true := by
  show (goodWord _ && wB.all goodWord) = true
  rw [aB_wB]; rfl
def wB_scratches : List Cond := .code yL_scratches cL_scratches 11 (some .boolean) :: wB
theorem mB_wB_scratches : ∀ w ∈ wB_scratches, w ∈ wB := fun w h => (List.mem_cons.mp h).elim (fun e => by rw [e]; exact List.mem_append_left _ (List.mem_of_getElem? (i := 47) (by rfl))) (fun h => h)
theorem aB_wB_scratches : wB_scratches.all goodWord = true := by
  show (goodWord _ && wB.all goodWord) = true
  rw [aB_wB]; rfl
set_option maxRecDepth 100000 in
theorem gB_refuses_L_call : GoodIn wB_refuses (va_wsS RL 168 yL_call wsL_call) := goodIn_app (goodIn_of _ (by decide +kernel)) (goodIn_sub (fun w h => List.mem_cons_of_mem _ (mB_wsL_call w h)) aB_wsL_call)
set_option maxRecDepth 100000 in
theorem gB_refuses_L_looks : GoodIn wB_refuses (va_wsS RL 172 yL_looks wsL_looks) := goodIn_app (goodIn_of _ (by decide +kernel)) (goodIn_sub (fun w h => List.mem_cons_of_mem _ (mB_wsL_looks w h)) aB_wsL_looks)
set_option maxRecDepth 100000 in
theorem gB_refuses_L_doScript : GoodIn wB_refuses (va_wsS RL 176 yL_doScript wsL_doScript) := goodIn_app (goodIn_of _ (by decide +kernel)) (goodIn_sub (fun w h => List.mem_cons_of_mem _ (mB_wsL_doScript w h)) aB_wsL_doScript)
set_option maxRecDepth 100000 in
theorem gB_refuses_L_doSimulate : GoodIn wB_refuses (va_wsS RL 182 yL_doSimulate wsL_doSimulate) := goodIn_app (goodIn_of _ (by decide +kernel)) (goodIn_sub (fun w h => List.mem_cons_of_mem _ (mB_wsL_doSimulate w h)) aB_wsL_doSimulate)
set_option maxRecDepth 100000 in
theorem gB_holds_L_call : GoodIn wB_holds (va_wsS RL 168 yL_call wsL_call) := goodIn_app (goodIn_of _ (by decide +kernel)) (goodIn_sub (fun w h => List.mem_cons_of_mem _ (mB_wsL_call w h)) aB_wsL_call)
set_option maxRecDepth 100000 in
theorem gB_holds_X5_frozen : GoodIn wB_holds (wsV RL 186 RX5 yX5_frozen wsX5_frozen) := goodIn_app (goodIn_of _ (by decide +kernel)) (goodIn_sub (fun w h => List.mem_cons_of_mem _ (mB_wsX5_frozen w h)) aB_wsX5_frozen)
set_option maxRecDepth 100000 in
theorem gB_act_L_call : GoodIn wB_act (va_wsS RL 168 yL_call wsL_call) := goodIn_app (goodIn_of _ (by decide +kernel)) (goodIn_sub (fun w h => List.mem_cons_of_mem _ (mB_wsL_call w h)) aB_wsL_call)
set_option maxRecDepth 100000 in
theorem gB_alike_L_call : GoodIn wB_alike (va_wsS RL 168 yL_call wsL_call) := goodIn_app (goodIn_of _ (by decide +kernel)) (goodIn_sub (fun w h => List.mem_cons_of_mem _ (mB_wsL_call w h)) aB_wsL_call)
set_option maxRecDepth 100000 in
theorem gB_alike_L_doSimulate : GoodIn wB_alike (va_wsS RL 182 yL_doSimulate wsL_doSimulate) := goodIn_app (goodIn_of _ (by decide +kernel)) (goodIn_sub (fun w h => List.mem_cons_of_mem _ (mB_wsL_doSimulate w h)) aB_wsL_doSimulate)
set_option maxRecDepth 100000 in
theorem gB_alike_X5_frozen : GoodIn wB_alike (wsV RL 186 RX5 yX5_frozen wsX5_frozen) := goodIn_app (goodIn_of _ (by decide +kernel)) (goodIn_sub (fun w h => List.mem_cons_of_mem _ (mB_wsX5_frozen w h)) aB_wsX5_frozen)
set_option maxRecDepth 100000 in
theorem gB_alike_L_looks : GoodIn wB_alike (va_wsS RL 172 yL_looks wsL_looks) := goodIn_app (goodIn_of _ (by decide +kernel)) (goodIn_sub (fun w h => List.mem_cons_of_mem _ (mB_wsL_looks w h)) aB_wsL_looks)
set_option maxRecDepth 100000 in
theorem gB_nights_L_call : GoodIn wB_nights (va_wsS RL 168 yL_call wsL_call) := goodIn_app (goodIn_of _ (by decide +kernel)) (goodIn_sub (fun w h => List.mem_cons_of_mem _ (mB_wsL_call w h)) aB_wsL_call)
set_option maxRecDepth 100000 in
theorem gB_nights_X5_frozen : GoodIn wB_nights (wsV RL 186 RX5 yX5_frozen wsX5_frozen) := goodIn_app (goodIn_of _ (by decide +kernel)) (goodIn_sub (fun w h => List.mem_cons_of_mem _ (mB_wsX5_frozen w h)) aB_wsX5_frozen)
set_option maxRecDepth 100000 in
theorem gB_nights_L_looks : GoodIn wB_nights (va_wsS RL 172 yL_looks wsL_looks) := goodIn_app (goodIn_of _ (by decide +kernel)) (goodIn_sub (fun w h => List.mem_cons_of_mem _ (mB_wsL_looks w h)) aB_wsL_looks)
set_option maxRecDepth 100000 in
theorem gB_nights_L_thrown : GoodIn wB_nights (va_wsS RL 214 yL_thrown wsL_thrown) := goodIn_app (goodIn_of _ (by decide +kernel)) (goodIn_sub (fun w h => List.mem_cons_of_mem _ (mB_wsL_thrown w h)) aB_wsL_thrown)
set_option maxRecDepth 100000 in
theorem gB_nights_L_was : GoodIn wB_nights (va_wsS RL 218 yL_was wsL_was) := goodIn_app (goodIn_of _ (by decide +kernel)) (goodIn_sub (fun w h => List.mem_cons_of_mem _ (mB_wsL_was w h)) aB_wsL_was)
set_option maxRecDepth 100000 in
theorem gB_clear_L_call : GoodIn wB_clear (va_wsS RL 168 yL_call wsL_call) := goodIn_app (goodIn_of _ (by decide +kernel)) (goodIn_sub (fun w h => List.mem_cons_of_mem _ (mB_wsL_call w h)) aB_wsL_call)
set_option maxRecDepth 100000 in
theorem gB_clear_L_looks : GoodIn wB_clear (va_wsS RL 172 yL_looks wsL_looks) := goodIn_app (goodIn_of _ (by decide +kernel)) (goodIn_sub (fun w h => List.mem_cons_of_mem _ (mB_wsL_looks w h)) aB_wsL_looks)
set_option maxRecDepth 100000 in
theorem gB_clear_L_thrown : GoodIn wB_clear (va_wsS RL 214 yL_thrown wsL_thrown) := goodIn_app (goodIn_of _ (by decide +kernel)) (goodIn_sub (fun w h => List.mem_cons_of_mem _ (mB_wsL_thrown w h)) aB_wsL_thrown)
set_option maxRecDepth 100000 in
theorem gB_scratches_L_call : GoodIn wB_scratches (va_wsS RL 168 yL_call wsL_call) := goodIn_app (goodIn_of _ (by decide +kernel)) (goodIn_sub (fun w h => List.mem_cons_of_mem _ (mB_wsL_call w h)) aB_wsL_call)
set_option maxRecDepth 100000 in
theorem gB_scratches_L_clear : GoodIn wB_scratches (va_wsS RL 224 yL_clear wB_clear) := goodIn_app (goodIn_of _ (by decide +kernel)) (goodIn_sub (fun w h => List.mem_cons_of_mem _ (mB_wB_clear w h)) aB_wB_clear)
set_option maxRecDepth 100000 in
theorem gB_law_L_refuses : GoodIn lw_tbl (va_wsS RL 197 yL_refuses wB_refuses) := goodIn_app (goodIn_of _ (by decide +kernel)) (goodIn_sub (fun w h => inW_wB w (mB_wB_refuses w h)) aB_wB_refuses)
set_option maxRecDepth 100000 in
theorem gB_law_L_holds : GoodIn lw_tbl (va_wsS RL 205 yL_holds wB_holds) := goodIn_app (goodIn_of _ (by decide +kernel)) (goodIn_sub (fun w h => inW_wB w (mB_wB_holds w h)) aB_wB_holds)
set_option maxRecDepth 100000 in
theorem gB_law_L_act : GoodIn lw_tbl (va_wsS RL 193 yL_act wB_act) := goodIn_app (goodIn_of _ (by decide +kernel)) (goodIn_sub (fun w h => inW_wB w (mB_wB_act w h)) aB_wB_act)
set_option maxRecDepth 100000 in
theorem gB_law_L_alike : GoodIn lw_tbl (va_wsS RL 201 yL_alike wB_alike) := goodIn_app (goodIn_of _ (by decide +kernel)) (goodIn_sub (fun w h => inW_wB w (mB_wB_alike w h)) aB_wB_alike)
set_option maxRecDepth 100000 in
theorem gB_law_L_nights : GoodIn lw_tbl (va_wsS RL 209 yL_nights wB_nights) := goodIn_app (goodIn_of _ (by decide +kernel)) (goodIn_sub (fun w h => inW_wB w (mB_wB_nights w h)) aB_wB_nights)
set_option maxRecDepth 100000 in
theorem gB_law_L_scratches : GoodIn lw_tbl (va_wsS RL 211 yL_scratches wB_scratches) := goodIn_app (goodIn_of _ (by decide +kernel)) (goodIn_sub (fun w h => inW_wB w (mB_wB_scratches w h)) aB_wB_scratches)
set_option maxRecDepth 100000 in
theorem gB_law_L_cell : GoodIn lw_tbl (va_wsS RL 190 yL_cell wsL_cell) := goodIn_of _ (by decide +kernel)
