theorem ddN_X0_free : yX0_free.cls ≠ "java/lang/invoke/MethodHandle" ∧ yX0_free.cls ≠ "java/lang/invoke/VarHandle" ∧ (parseMethodDescriptor yX0_free.desc).map (fun d => d.parameters.length) = some 0 := by decide +kernel
theorem ddV_X0_free : yX0_free.cls = RX0 ∧ yX0_free.cls ≠ "java/lang/invoke/MethodHandle" ∧ yX0_free.cls ≠ "java/lang/invoke/VarHandle" ∧ (parseMethodDescriptor yX0_free.desc).map (fun d => d.parameters.length) = some 0 := by decide +kernel
theorem ddN_X0_isSolved : yX0_isSolved.cls ≠ "java/lang/invoke/MethodHandle" ∧ yX0_isSolved.cls ≠ "java/lang/invoke/VarHandle" ∧ (parseMethodDescriptor yX0_isSolved.desc).map (fun d => d.parameters.length) = some 0 := by decide +kernel
theorem ddV_X0_isSolved : yX0_isSolved.cls = RX0 ∧ yX0_isSolved.cls ≠ "java/lang/invoke/MethodHandle" ∧ yX0_isSolved.cls ≠ "java/lang/invoke/VarHandle" ∧ (parseMethodDescriptor yX0_isSolved.desc).map (fun d => d.parameters.length) = some 0 := by decide +kernel
theorem ddN_X0_leastSolution : yX0_leastSolution.cls ≠ "java/lang/invoke/MethodHandle" ∧ yX0_leastSolution.cls ≠ "java/lang/invoke/VarHandle" ∧ (parseMethodDescriptor yX0_leastSolution.desc).map (fun d => d.parameters.length) = some 0 := by decide +kernel
theorem ddV_X0_leastSolution : yX0_leastSolution.cls = RX0 ∧ yX0_leastSolution.cls ≠ "java/lang/invoke/MethodHandle" ∧ yX0_leastSolution.cls ≠ "java/lang/invoke/VarHandle" ∧ (parseMethodDescriptor yX0_leastSolution.desc).map (fun d => d.parameters.length) = some 0 := by decide +kernel
theorem ddN_X0_solve : yX0_solve.cls ≠ "java/lang/invoke/MethodHandle" ∧ yX0_solve.cls ≠ "java/lang/invoke/VarHandle" ∧ (parseMethodDescriptor yX0_solve.desc).map (fun d => d.parameters.length) = some 1 := by decide +kernel
theorem ddV_X0_solve : yX0_solve.cls = RX0 ∧ yX0_solve.cls ≠ "java/lang/invoke/MethodHandle" ∧ yX0_solve.cls ≠ "java/lang/invoke/VarHandle" ∧ (parseMethodDescriptor yX0_solve.desc).map (fun d => d.parameters.length) = some 1 := by decide +kernel
theorem ddN_X1_forget : yX1_forget.cls ≠ "java/lang/invoke/MethodHandle" ∧ yX1_forget.cls ≠ "java/lang/invoke/VarHandle" ∧ (parseMethodDescriptor yX1_forget.desc).map (fun d => d.parameters.length) = some 0 := by decide +kernel
theorem ddV_X1_forget : yX1_forget.cls = RX1 ∧ yX1_forget.cls ≠ "java/lang/invoke/MethodHandle" ∧ yX1_forget.cls ≠ "java/lang/invoke/VarHandle" ∧ (parseMethodDescriptor yX1_forget.desc).map (fun d => d.parameters.length) = some 0 := by decide +kernel
theorem ddN_X1_remember : yX1_remember.cls ≠ "java/lang/invoke/MethodHandle" ∧ yX1_remember.cls ≠ "java/lang/invoke/VarHandle" ∧ (parseMethodDescriptor yX1_remember.desc).map (fun d => d.parameters.length) = some 1 := by decide +kernel
theorem ddV_X1_remember : yX1_remember.cls = RX1 ∧ yX1_remember.cls ≠ "java/lang/invoke/MethodHandle" ∧ yX1_remember.cls ≠ "java/lang/invoke/VarHandle" ∧ (parseMethodDescriptor yX1_remember.desc).map (fun d => d.parameters.length) = some 1 := by decide +kernel
theorem ddN_X1_takeBack : yX1_takeBack.cls ≠ "java/lang/invoke/MethodHandle" ∧ yX1_takeBack.cls ≠ "java/lang/invoke/VarHandle" ∧ (parseMethodDescriptor yX1_takeBack.desc).map (fun d => d.parameters.length) = some 1 := by decide +kernel
theorem ddV_X1_takeBack : yX1_takeBack.cls = RX1 ∧ yX1_takeBack.cls ≠ "java/lang/invoke/MethodHandle" ∧ yX1_takeBack.cls ≠ "java/lang/invoke/VarHandle" ∧ (parseMethodDescriptor yX1_takeBack.desc).map (fun d => d.parameters.length) = some 1 := by decide +kernel
theorem ddN_X2_empty : yX2_empty.cls ≠ "java/lang/invoke/MethodHandle" ∧ yX2_empty.cls ≠ "java/lang/invoke/VarHandle" ∧ (parseMethodDescriptor yX2_empty.desc).map (fun d => d.parameters.length) = some 0 := by decide +kernel
theorem ddV_X2_empty : yX2_empty.cls = RX2 ∧ yX2_empty.cls ≠ "java/lang/invoke/MethodHandle" ∧ yX2_empty.cls ≠ "java/lang/invoke/VarHandle" ∧ (parseMethodDescriptor yX2_empty.desc).map (fun d => d.parameters.length) = some 0 := by decide +kernel
theorem ddN_X2_put : yX2_put.cls ≠ "java/lang/invoke/MethodHandle" ∧ yX2_put.cls ≠ "java/lang/invoke/VarHandle" ∧ (parseMethodDescriptor yX2_put.desc).map (fun d => d.parameters.length) = some 1 := by decide +kernel
theorem ddV_X2_put : yX2_put.cls = RX2 ∧ yX2_put.cls ≠ "java/lang/invoke/MethodHandle" ∧ yX2_put.cls ≠ "java/lang/invoke/VarHandle" ∧ (parseMethodDescriptor yX2_put.desc).map (fun d => d.parameters.length) = some 1 := by decide +kernel
theorem ddN_X3_add : yX3_add.cls ≠ "java/lang/invoke/MethodHandle" ∧ yX3_add.cls ≠ "java/lang/invoke/VarHandle" ∧ (parseMethodDescriptor yX3_add.desc).map (fun d => d.parameters.length) = some 1 := by decide +kernel
theorem ddV_X3_add : yX3_add.cls = RX3 ∧ yX3_add.cls ≠ "java/lang/invoke/MethodHandle" ∧ yX3_add.cls ≠ "java/lang/invoke/VarHandle" ∧ (parseMethodDescriptor yX3_add.desc).map (fun d => d.parameters.length) = some 1 := by decide +kernel
theorem ddN_X3_firstError : yX3_firstError.cls ≠ "java/lang/invoke/MethodHandle" ∧ yX3_firstError.cls ≠ "java/lang/invoke/VarHandle" ∧ (parseMethodDescriptor yX3_firstError.desc).map (fun d => d.parameters.length) = some 0 := by decide +kernel
theorem ddV_X3_firstError : yX3_firstError.cls = RX3 ∧ yX3_firstError.cls ≠ "java/lang/invoke/MethodHandle" ∧ yX3_firstError.cls ≠ "java/lang/invoke/VarHandle" ∧ (parseMethodDescriptor yX3_firstError.desc).map (fun d => d.parameters.length) = some 0 := by decide +kernel
theorem ddN_X3_isFull : yX3_isFull.cls ≠ "java/lang/invoke/MethodHandle" ∧ yX3_isFull.cls ≠ "java/lang/invoke/VarHandle" ∧ (parseMethodDescriptor yX3_isFull.desc).map (fun d => d.parameters.length) = some 0 := by decide +kernel
theorem ddV_X3_isFull : yX3_isFull.cls = RX3 ∧ yX3_isFull.cls ≠ "java/lang/invoke/MethodHandle" ∧ yX3_isFull.cls ≠ "java/lang/invoke/VarHandle" ∧ (parseMethodDescriptor yX3_isFull.desc).map (fun d => d.parameters.length) = some 0 := by decide +kernel
theorem ddN_X4_cold : yX4_cold.cls ≠ "java/lang/invoke/MethodHandle" ∧ yX4_cold.cls ≠ "java/lang/invoke/VarHandle" ∧ (parseMethodDescriptor yX4_cold.desc).map (fun d => d.parameters.length) = some 1 := by decide +kernel
theorem ddV_X4_cold : yX4_cold.cls = RX4 ∧ yX4_cold.cls ≠ "java/lang/invoke/MethodHandle" ∧ yX4_cold.cls ≠ "java/lang/invoke/VarHandle" ∧ (parseMethodDescriptor yX4_cold.desc).map (fun d => d.parameters.length) = some 1 := by decide +kernel
theorem ddN_X4_largestPatch : yX4_largestPatch.cls ≠ "java/lang/invoke/MethodHandle" ∧ yX4_largestPatch.cls ≠ "java/lang/invoke/VarHandle" ∧ (parseMethodDescriptor yX4_largestPatch.desc).map (fun d => d.parameters.length) = some 0 := by decide +kernel
theorem ddV_X4_largestPatch : yX4_largestPatch.cls = RX4 ∧ yX4_largestPatch.cls ≠ "java/lang/invoke/MethodHandle" ∧ yX4_largestPatch.cls ≠ "java/lang/invoke/VarHandle" ∧ (parseMethodDescriptor yX4_largestPatch.desc).map (fun d => d.parameters.length) = some 0 := by decide +kernel
theorem ddN_X4_pass : yX4_pass.cls ≠ "java/lang/invoke/MethodHandle" ∧ yX4_pass.cls ≠ "java/lang/invoke/VarHandle" ∧ (parseMethodDescriptor yX4_pass.desc).map (fun d => d.parameters.length) = some 1 := by decide +kernel
theorem ddV_X4_pass : yX4_pass.cls = RX4 ∧ yX4_pass.cls ≠ "java/lang/invoke/MethodHandle" ∧ yX4_pass.cls ≠ "java/lang/invoke/VarHandle" ∧ (parseMethodDescriptor yX4_pass.desc).map (fun d => d.parameters.length) = some 1 := by decide +kernel
theorem ddN_X4_patchAt : yX4_patchAt.cls ≠ "java/lang/invoke/MethodHandle" ∧ yX4_patchAt.cls ≠ "java/lang/invoke/VarHandle" ∧ (parseMethodDescriptor yX4_patchAt.desc).map (fun d => d.parameters.length) = some 1 := by decide +kernel
theorem ddV_X4_patchAt : yX4_patchAt.cls = RX4 ∧ yX4_patchAt.cls ≠ "java/lang/invoke/MethodHandle" ∧ yX4_patchAt.cls ≠ "java/lang/invoke/VarHandle" ∧ (parseMethodDescriptor yX4_patchAt.desc).map (fun d => d.parameters.length) = some 1 := by decide +kernel
theorem ddN_X4_patches : yX4_patches.cls ≠ "java/lang/invoke/MethodHandle" ∧ yX4_patches.cls ≠ "java/lang/invoke/VarHandle" ∧ (parseMethodDescriptor yX4_patches.desc).map (fun d => d.parameters.length) = some 0 := by decide +kernel
theorem ddV_X4_patches : yX4_patches.cls = RX4 ∧ yX4_patches.cls ≠ "java/lang/invoke/MethodHandle" ∧ yX4_patches.cls ≠ "java/lang/invoke/VarHandle" ∧ (parseMethodDescriptor yX4_patches.desc).map (fun d => d.parameters.length) = some 0 := by decide +kernel
theorem ddN_X4_putKind : yX4_putKind.cls ≠ "java/lang/invoke/MethodHandle" ∧ yX4_putKind.cls ≠ "java/lang/invoke/VarHandle" ∧ (parseMethodDescriptor yX4_putKind.desc).map (fun d => d.parameters.length) = some 2 := by decide +kernel
theorem ddV_X4_putKind : yX4_putKind.cls = RX4 ∧ yX4_putKind.cls ≠ "java/lang/invoke/MethodHandle" ∧ yX4_putKind.cls ≠ "java/lang/invoke/VarHandle" ∧ (parseMethodDescriptor yX4_putKind.desc).map (fun d => d.parameters.length) = some 2 := by decide +kernel
theorem ddN_X4_putRule : yX4_putRule.cls ≠ "java/lang/invoke/MethodHandle" ∧ yX4_putRule.cls ≠ "java/lang/invoke/VarHandle" ∧ (parseMethodDescriptor yX4_putRule.desc).map (fun d => d.parameters.length) = some 1 := by decide +kernel
theorem ddV_X4_putRule : yX4_putRule.cls = RX4 ∧ yX4_putRule.cls ≠ "java/lang/invoke/MethodHandle" ∧ yX4_putRule.cls ≠ "java/lang/invoke/VarHandle" ∧ (parseMethodDescriptor yX4_putRule.desc).map (fun d => d.parameters.length) = some 1 := by decide +kernel
theorem ddN_X4_renew : yX4_renew.cls ≠ "java/lang/invoke/MethodHandle" ∧ yX4_renew.cls ≠ "java/lang/invoke/VarHandle" ∧ (parseMethodDescriptor yX4_renew.desc).map (fun d => d.parameters.length) = some 2 := by decide +kernel
theorem ddV_X4_renew : yX4_renew.cls = RX4 ∧ yX4_renew.cls ≠ "java/lang/invoke/MethodHandle" ∧ yX4_renew.cls ≠ "java/lang/invoke/VarHandle" ∧ (parseMethodDescriptor yX4_renew.desc).map (fun d => d.parameters.length) = some 2 := by decide +kernel
theorem ddN_X4_scrape : yX4_scrape.cls ≠ "java/lang/invoke/MethodHandle" ∧ yX4_scrape.cls ≠ "java/lang/invoke/VarHandle" ∧ (parseMethodDescriptor yX4_scrape.desc).map (fun d => d.parameters.length) = some 2 := by decide +kernel
theorem ddV_X4_scrape : yX4_scrape.cls = RX4 ∧ yX4_scrape.cls ≠ "java/lang/invoke/MethodHandle" ∧ yX4_scrape.cls ≠ "java/lang/invoke/VarHandle" ∧ (parseMethodDescriptor yX4_scrape.desc).map (fun d => d.parameters.length) = some 2 := by decide +kernel
theorem ddN_X4_scratches : yX4_scratches.cls ≠ "java/lang/invoke/MethodHandle" ∧ yX4_scratches.cls ≠ "java/lang/invoke/VarHandle" ∧ (parseMethodDescriptor yX4_scratches.desc).map (fun d => d.parameters.length) = some 0 := by decide +kernel
theorem ddV_X4_scratches : yX4_scratches.cls = RX4 ∧ yX4_scratches.cls ≠ "java/lang/invoke/MethodHandle" ∧ yX4_scratches.cls ≠ "java/lang/invoke/VarHandle" ∧ (parseMethodDescriptor yX4_scratches.desc).map (fun d => d.parameters.length) = some 0 := by decide +kernel
theorem ddN_X4_scratchesAt : yX4_scratchesAt.cls ≠ "java/lang/invoke/MethodHandle" ∧ yX4_scratchesAt.cls ≠ "java/lang/invoke/VarHandle" ∧ (parseMethodDescriptor yX4_scratchesAt.desc).map (fun d => d.parameters.length) = some 1 := by decide +kernel
theorem ddV_X4_scratchesAt : yX4_scratchesAt.cls = RX4 ∧ yX4_scratchesAt.cls ≠ "java/lang/invoke/MethodHandle" ∧ yX4_scratchesAt.cls ≠ "java/lang/invoke/VarHandle" ∧ (parseMethodDescriptor yX4_scratchesAt.desc).map (fun d => d.parameters.length) = some 1 := by decide +kernel
theorem ddN_X4_staysClear : yX4_staysClear.cls ≠ "java/lang/invoke/MethodHandle" ∧ yX4_staysClear.cls ≠ "java/lang/invoke/VarHandle" ∧ (parseMethodDescriptor yX4_staysClear.desc).map (fun d => d.parameters.length) = some 2 := by decide +kernel
theorem ddV_X4_staysClear : yX4_staysClear.cls = RX4 ∧ yX4_staysClear.cls ≠ "java/lang/invoke/MethodHandle" ∧ yX4_staysClear.cls ≠ "java/lang/invoke/VarHandle" ∧ (parseMethodDescriptor yX4_staysClear.desc).map (fun d => d.parameters.length) = some 2 := by decide +kernel
theorem ddN_X4_thaw : yX4_thaw.cls ≠ "java/lang/invoke/MethodHandle" ∧ yX4_thaw.cls ≠ "java/lang/invoke/VarHandle" ∧ (parseMethodDescriptor yX4_thaw.desc).map (fun d => d.parameters.length) = some 2 := by decide +kernel
theorem ddV_X4_thaw : yX4_thaw.cls = RX4 ∧ yX4_thaw.cls ≠ "java/lang/invoke/MethodHandle" ∧ yX4_thaw.cls ≠ "java/lang/invoke/VarHandle" ∧ (parseMethodDescriptor yX4_thaw.desc).map (fun d => d.parameters.length) = some 2 := by decide +kernel
theorem ddN_X4_turn : yX4_turn.cls ≠ "java/lang/invoke/MethodHandle" ∧ yX4_turn.cls ≠ "java/lang/invoke/VarHandle" ∧ (parseMethodDescriptor yX4_turn.desc).map (fun d => d.parameters.length) = some 1 := by decide +kernel
theorem ddV_X4_turn : yX4_turn.cls = RX4 ∧ yX4_turn.cls ≠ "java/lang/invoke/MethodHandle" ∧ yX4_turn.cls ≠ "java/lang/invoke/VarHandle" ∧ (parseMethodDescriptor yX4_turn.desc).map (fun d => d.parameters.length) = some 1 := by decide +kernel
theorem ddN_X5_canBeTried : yX5_canBeTried.cls ≠ "java/lang/invoke/MethodHandle" ∧ yX5_canBeTried.cls ≠ "java/lang/invoke/VarHandle" ∧ (parseMethodDescriptor yX5_canBeTried.desc).map (fun d => d.parameters.length) = some 2 := by decide +kernel
theorem ddV_X5_canBeTried : yX5_canBeTried.cls = RX5 ∧ yX5_canBeTried.cls ≠ "java/lang/invoke/MethodHandle" ∧ yX5_canBeTried.cls ≠ "java/lang/invoke/VarHandle" ∧ (parseMethodDescriptor yX5_canBeTried.desc).map (fun d => d.parameters.length) = some 2 := by decide +kernel
theorem ddN_X5_firstOfPeriod : yX5_firstOfPeriod.cls ≠ "java/lang/invoke/MethodHandle" ∧ yX5_firstOfPeriod.cls ≠ "java/lang/invoke/VarHandle" ∧ (parseMethodDescriptor yX5_firstOfPeriod.desc).map (fun d => d.parameters.length) = some 1 := by decide +kernel
theorem ddV_X5_firstOfPeriod : yX5_firstOfPeriod.cls = RX5 ∧ yX5_firstOfPeriod.cls ≠ "java/lang/invoke/MethodHandle" ∧ yX5_firstOfPeriod.cls ≠ "java/lang/invoke/VarHandle" ∧ (parseMethodDescriptor yX5_firstOfPeriod.desc).map (fun d => d.parameters.length) = some 1 := by decide +kernel
theorem ddN_X5_look : yX5_look.cls ≠ "java/lang/invoke/MethodHandle" ∧ yX5_look.cls ≠ "java/lang/invoke/VarHandle" ∧ (parseMethodDescriptor yX5_look.desc).map (fun d => d.parameters.length) = some 1 := by decide +kernel
theorem ddV_X5_look : yX5_look.cls = RX5 ∧ yX5_look.cls ≠ "java/lang/invoke/MethodHandle" ∧ yX5_look.cls ≠ "java/lang/invoke/VarHandle" ∧ (parseMethodDescriptor yX5_look.desc).map (fun d => d.parameters.length) = some 1 := by decide +kernel
theorem ddN_X5_lookAhead : yX5_lookAhead.cls ≠ "java/lang/invoke/MethodHandle" ∧ yX5_lookAhead.cls ≠ "java/lang/invoke/VarHandle" ∧ (parseMethodDescriptor yX5_lookAhead.desc).map (fun d => d.parameters.length) = some 0 := by decide +kernel
theorem ddV_X5_lookAhead : yX5_lookAhead.cls = RX5 ∧ yX5_lookAhead.cls ≠ "java/lang/invoke/MethodHandle" ∧ yX5_lookAhead.cls ≠ "java/lang/invoke/VarHandle" ∧ (parseMethodDescriptor yX5_lookAhead.desc).map (fun d => d.parameters.length) = some 0 := by decide +kernel
theorem ddN_X5_needCell : yX5_needCell.cls ≠ "java/lang/invoke/MethodHandle" ∧ yX5_needCell.cls ≠ "java/lang/invoke/VarHandle" ∧ (parseMethodDescriptor yX5_needCell.desc).map (fun d => d.parameters.length) = some 1 := by decide +kernel
theorem ddV_X5_needCell : yX5_needCell.cls = RX5 ∧ yX5_needCell.cls ≠ "java/lang/invoke/MethodHandle" ∧ yX5_needCell.cls ≠ "java/lang/invoke/VarHandle" ∧ (parseMethodDescriptor yX5_needCell.desc).map (fun d => d.parameters.length) = some 1 := by decide +kernel
theorem ddN_X5_needLinearRule : yX5_needLinearRule.cls ≠ "java/lang/invoke/MethodHandle" ∧ yX5_needLinearRule.cls ≠ "java/lang/invoke/VarHandle" ∧ (parseMethodDescriptor yX5_needLinearRule.desc).map (fun d => d.parameters.length) = some 0 := by decide +kernel
theorem ddV_X5_needLinearRule : yX5_needLinearRule.cls = RX5 ∧ yX5_needLinearRule.cls ≠ "java/lang/invoke/MethodHandle" ∧ yX5_needLinearRule.cls ≠ "java/lang/invoke/VarHandle" ∧ (parseMethodDescriptor yX5_needLinearRule.desc).map (fun d => d.parameters.length) = some 0 := by decide +kernel
theorem ddN_X5_needRange : yX5_needRange.cls ≠ "java/lang/invoke/MethodHandle" ∧ yX5_needRange.cls ≠ "java/lang/invoke/VarHandle" ∧ (parseMethodDescriptor yX5_needRange.desc).map (fun d => d.parameters.length) = some 3 := by decide +kernel
theorem ddV_X5_needRange : yX5_needRange.cls = RX5 ∧ yX5_needRange.cls ≠ "java/lang/invoke/MethodHandle" ∧ yX5_needRange.cls ≠ "java/lang/invoke/VarHandle" ∧ (parseMethodDescriptor yX5_needRange.desc).map (fun d => d.parameters.length) = some 3 := by decide +kernel
theorem ddN_X5_needSlot : yX5_needSlot.cls ≠ "java/lang/invoke/MethodHandle" ∧ yX5_needSlot.cls ≠ "java/lang/invoke/VarHandle" ∧ (parseMethodDescriptor yX5_needSlot.desc).map (fun d => d.parameters.length) = some 1 := by decide +kernel
theorem ddV_X5_needSlot : yX5_needSlot.cls = RX5 ∧ yX5_needSlot.cls ≠ "java/lang/invoke/MethodHandle" ∧ yX5_needSlot.cls ≠ "java/lang/invoke/VarHandle" ∧ (parseMethodDescriptor yX5_needSlot.desc).map (fun d => d.parameters.length) = some 1 := by decide +kernel
theorem ddN_X5_obey : yX5_obey.cls ≠ "java/lang/invoke/MethodHandle" ∧ yX5_obey.cls ≠ "java/lang/invoke/VarHandle" ∧ (parseMethodDescriptor yX5_obey.desc).map (fun d => d.parameters.length) = some 3 := by decide +kernel
theorem ddV_X5_obey : yX5_obey.cls = RX5 ∧ yX5_obey.cls ≠ "java/lang/invoke/MethodHandle" ∧ yX5_obey.cls ≠ "java/lang/invoke/VarHandle" ∧ (parseMethodDescriptor yX5_obey.desc).map (fun d => d.parameters.length) = some 3 := by decide +kernel
theorem ddN_X5_period : yX5_period.cls ≠ "java/lang/invoke/MethodHandle" ∧ yX5_period.cls ≠ "java/lang/invoke/VarHandle" ∧ (parseMethodDescriptor yX5_period.desc).map (fun d => d.parameters.length) = some 0 := by decide +kernel
theorem ddV_X5_period : yX5_period.cls = RX5 ∧ yX5_period.cls ≠ "java/lang/invoke/MethodHandle" ∧ yX5_period.cls ≠ "java/lang/invoke/VarHandle" ∧ (parseMethodDescriptor yX5_period.desc).map (fun d => d.parameters.length) = some 0 := by decide +kernel
theorem ddN_X5_slotAt : yX5_slotAt.cls ≠ "java/lang/invoke/MethodHandle" ∧ yX5_slotAt.cls ≠ "java/lang/invoke/VarHandle" ∧ (parseMethodDescriptor yX5_slotAt.desc).map (fun d => d.parameters.length) = some 1 := by decide +kernel
theorem ddV_X5_slotAt : yX5_slotAt.cls = RX5 ∧ yX5_slotAt.cls ≠ "java/lang/invoke/MethodHandle" ∧ yX5_slotAt.cls ≠ "java/lang/invoke/VarHandle" ∧ (parseMethodDescriptor yX5_slotAt.desc).map (fun d => d.parameters.length) = some 1 := by decide +kernel
theorem ddN_X5_succeeds : yX5_succeeds.cls ≠ "java/lang/invoke/MethodHandle" ∧ yX5_succeeds.cls ≠ "java/lang/invoke/VarHandle" ∧ (parseMethodDescriptor yX5_succeeds.desc).map (fun d => d.parameters.length) = some 1 := by decide +kernel
theorem ddV_X5_succeeds : yX5_succeeds.cls = RX5 ∧ yX5_succeeds.cls ≠ "java/lang/invoke/MethodHandle" ∧ yX5_succeeds.cls ≠ "java/lang/invoke/VarHandle" ∧ (parseMethodDescriptor yX5_succeeds.desc).map (fun d => d.parameters.length) = some 1 := by decide +kernel
theorem ddN_X5_takeTurn : yX5_takeTurn.cls ≠ "java/lang/invoke/MethodHandle" ∧ yX5_takeTurn.cls ≠ "java/lang/invoke/VarHandle" ∧ (parseMethodDescriptor yX5_takeTurn.desc).map (fun d => d.parameters.length) = some 1 := by decide +kernel
theorem ddV_X5_takeTurn : yX5_takeTurn.cls = RX5 ∧ yX5_takeTurn.cls ≠ "java/lang/invoke/MethodHandle" ∧ yX5_takeTurn.cls ≠ "java/lang/invoke/VarHandle" ∧ (parseMethodDescriptor yX5_takeTurn.desc).map (fun d => d.parameters.length) = some 1 := by decide +kernel
theorem ddN_X5_withoutLowest : yX5_withoutLowest.cls ≠ "java/lang/invoke/MethodHandle" ∧ yX5_withoutLowest.cls ≠ "java/lang/invoke/VarHandle" ∧ (parseMethodDescriptor yX5_withoutLowest.desc).map (fun d => d.parameters.length) = some 2 := by decide +kernel
theorem ddV_X5_withoutLowest : yX5_withoutLowest.cls = RX5 ∧ yX5_withoutLowest.cls ≠ "java/lang/invoke/MethodHandle" ∧ yX5_withoutLowest.cls ≠ "java/lang/invoke/VarHandle" ∧ (parseMethodDescriptor yX5_withoutLowest.desc).map (fun d => d.parameters.length) = some 2 := by decide +kernel
theorem ddN_X5_wouldKeep : yX5_wouldKeep.cls ≠ "java/lang/invoke/MethodHandle" ∧ yX5_wouldKeep.cls ≠ "java/lang/invoke/VarHandle" ∧ (parseMethodDescriptor yX5_wouldKeep.desc).map (fun d => d.parameters.length) = some 4 := by decide +kernel
theorem ddV_X5_wouldKeep : yX5_wouldKeep.cls = RX5 ∧ yX5_wouldKeep.cls ≠ "java/lang/invoke/MethodHandle" ∧ yX5_wouldKeep.cls ≠ "java/lang/invoke/VarHandle" ∧ (parseMethodDescriptor yX5_wouldKeep.desc).map (fun d => d.parameters.length) = some 4 := by decide +kernel
theorem iw_X5_about_X4 : ∀ w ∈ u_ws RX4 TX4 12, w ∈ wsX5_about := by decide +kernel
theorem iw_X5_about_X5 : ∀ w ∈ u_ws RX5 TX5 8, w ∈ wsX5_about := by decide +kernel
theorem iw_X5_append_X5 : ∀ w ∈ u_ws RX5 TX5 8, w ∈ wsX5_append := by decide +kernel
theorem iw_X5_before_X5 : ∀ w ∈ u_ws RX5 TX5 8, w ∈ wsX5_before := by decide +kernel
theorem iw_X5_befores_X5 : ∀ w ∈ u_ws RX5 TX5 8, w ∈ wsX5_befores := by decide +kernel
theorem iw_X5_border_X5 : ∀ w ∈ u_ws RX5 TX5 8, w ∈ wsX5_border := by decide +kernel
theorem iw_X5_breathe_X5 : ∀ w ∈ u_ws RX5 TX5 8, w ∈ wsX5_breathe := by decide +kernel
theorem iw_X5_canBeTried_X5 : ∀ w ∈ u_ws RX5 TX5 8, w ∈ wsX5_canBeTried := by decide +kernel
theorem iw_X5_cell_X5 : ∀ w ∈ u_ws RX5 TX5 8, w ∈ wsX5_cell := by decide +kernel
theorem iw_X5_coming_X4 : ∀ w ∈ u_ws RX4 TX4 12, w ∈ wsX5_coming := by decide +kernel
theorem iw_X5_coming_X5 : ∀ w ∈ u_ws RX5 TX5 8, w ∈ wsX5_coming := by decide +kernel
theorem iw_X5_flip_X5 : ∀ w ∈ u_ws RX5 TX5 8, w ∈ wsX5_flip := by decide +kernel
theorem iw_X5_freezesIn_X4 : ∀ w ∈ u_ws RX4 TX4 12, w ∈ wsX5_freezesIn := by decide +kernel
theorem iw_X5_freezesIn_X5 : ∀ w ∈ u_ws RX5 TX5 8, w ∈ wsX5_freezesIn := by decide +kernel
theorem iw_X5_frozen_X4 : ∀ w ∈ u_ws RX4 TX4 12, w ∈ wsX5_frozen := by decide +kernel
theorem iw_X5_frozen_X5 : ∀ w ∈ u_ws RX5 TX5 8, w ∈ wsX5_frozen := by decide +kernel
theorem iw_X5_keeps_X5 : ∀ w ∈ u_ws RX5 TX5 8, w ∈ wsX5_keeps := by decide +kernel
theorem iw_X5_load_X3 : ∀ w ∈ u_ws RX3 TX3 6, w ∈ wsX5_load := by decide +kernel
theorem iw_X5_load_X5 : ∀ w ∈ u_ws RX5 TX5 8, w ∈ wsX5_load := by decide +kernel
theorem iw_X5_look_X5 : ∀ w ∈ u_ws RX5 TX5 8, w ∈ wsX5_look := by decide +kernel
theorem iw_X5_lookAhead_X4 : ∀ w ∈ u_ws RX4 TX4 12, w ∈ wsX5_lookAhead := by decide +kernel
theorem iw_X5_lookAhead_X5 : ∀ w ∈ u_ws RX5 TX5 8, w ∈ wsX5_lookAhead := by decide +kernel
theorem iw_X5_needCell_X5 : ∀ w ∈ u_ws RX5 TX5 8, w ∈ wsX5_needCell := by decide +kernel
theorem iw_X5_needLinearRule_X4 : ∀ w ∈ u_ws RX4 TX4 12, w ∈ wsX5_needLinearRule := by decide +kernel
theorem iw_X5_needLinearRule_X5 : ∀ w ∈ u_ws RX5 TX5 8, w ∈ wsX5_needLinearRule := by decide +kernel
theorem iw_X5_neighbour_X5 : ∀ w ∈ u_ws RX5 TX5 8, w ∈ wsX5_neighbour := by decide +kernel
theorem iw_X5_nights_X5 : ∀ w ∈ u_ws RX5 TX5 8, w ∈ wsX5_nights := by decide +kernel
theorem iw_X5_obey_X5 : ∀ w ∈ u_ws RX5 TX5 8, w ∈ wsX5_obey := by decide +kernel
theorem iw_X5_restore_X2 : ∀ w ∈ u_ws RX2 TX2 2, w ∈ wsX5_restore := by decide +kernel
theorem iw_X5_restore_X4 : ∀ w ∈ u_ws RX4 TX4 12, w ∈ wsX5_restore := by decide +kernel
theorem iw_X5_restore_X5 : ∀ w ∈ u_ws RX5 TX5 8, w ∈ wsX5_restore := by decide +kernel
theorem iw_X5_rule_X5 : ∀ w ∈ u_ws RX5 TX5 8, w ∈ wsX5_rule := by decide +kernel
theorem iw_X5_runScript_X5 : ∀ w ∈ u_ws RX5 TX5 8, w ∈ wsX5_runScript := by decide +kernel
theorem iw_X5_save_X4 : ∀ w ∈ u_ws RX4 TX4 12, w ∈ wsX5_save := by decide +kernel
theorem iw_X5_save_X5 : ∀ w ∈ u_ws RX5 TX5 8, w ∈ wsX5_save := by decide +kernel
theorem iw_X5_scratch_X5 : ∀ w ∈ u_ws RX5 TX5 8, w ∈ wsX5_scratch := by decide +kernel
theorem iw_X5_side_X5 : ∀ w ∈ u_ws RX5 TX5 8, w ∈ wsX5_side := by decide +kernel
theorem iw_X5_simulate_X4 : ∀ w ∈ u_ws RX4 TX4 12, w ∈ wsX5_simulate := by decide +kernel
theorem iw_X5_simulate_X5 : ∀ w ∈ u_ws RX5 TX5 8, w ∈ wsX5_simulate := by decide +kernel
theorem iw_X5_size_X5 : ∀ w ∈ u_ws RX5 TX5 8, w ∈ wsX5_size := by decide +kernel
theorem iw_X5_slotAt_X5 : ∀ w ∈ u_ws RX5 TX5 8, w ∈ wsX5_slotAt := by decide +kernel
theorem iw_X5_succeeds_X4 : ∀ w ∈ u_ws RX4 TX4 12, w ∈ wsX5_succeeds := by decide +kernel
theorem iw_X5_succeeds_X5 : ∀ w ∈ u_ws RX5 TX5 8, w ∈ wsX5_succeeds := by decide +kernel
theorem iw_X5_takeTurn_X5 : ∀ w ∈ u_ws RX5 TX5 8, w ∈ wsX5_takeTurn := by decide +kernel
theorem iw_X5_undo_X1 : ∀ w ∈ u_ws RX1 TX1 3, w ∈ wsX5_undo := by decide +kernel
theorem iw_X5_undo_X5 : ∀ w ∈ u_ws RX5 TX5 8, w ∈ wsX5_undo := by decide +kernel
theorem iw_X5_wouldKeep_X5 : ∀ w ∈ u_ws RX5 TX5 8, w ∈ wsX5_wouldKeep := by decide +kernel
theorem xm_X5_about_2 : ∀ w ∈ (vx_atS RX5 167 "java/lang/IllegalArgumentException" xnm).filter goodWord, w ∈ wsX5_about := by decide +kernel
theorem xm_X5_append_3 : ∀ w ∈ (vx_atS RX5 66 "java/lang/IllegalStateException" xnm).filter goodWord, w ∈ wsX5_append := by decide +kernel
theorem xm_X5_cell_2 : ∀ w ∈ (vx_atS RX5 167 "java/lang/IllegalArgumentException" xnm).filter goodWord, w ∈ wsX5_cell := by decide +kernel
theorem xm_X5_load_3 : ∀ w ∈ (vx_atS RX5 66 "java/lang/IllegalStateException" xnm).filter goodWord, w ∈ wsX5_load := by decide +kernel
theorem xm_X5_needCell_1 : ∀ w ∈ (vx_atS RX5 310 "java/lang/IndexOutOfBoundsException" xnm).filter goodWord, w ∈ wsX5_needCell := by decide +kernel
theorem xm_X5_needLinearRule_3 : ∀ w ∈ (vx_atS RX5 66 "java/lang/IllegalStateException" xnm).filter goodWord, w ∈ wsX5_needLinearRule := by decide +kernel
theorem xm_X5_needRange_2 : ∀ w ∈ (vx_atS RX5 167 "java/lang/IllegalArgumentException" xnm).filter goodWord, w ∈ wsX5_needRange := by decide +kernel
theorem xm_X5_needSlot_1 : ∀ w ∈ (vx_atS RX5 310 "java/lang/IndexOutOfBoundsException" xnm).filter goodWord, w ∈ wsX5_needSlot := by decide +kernel
theorem xm_X5_restore_3 : ∀ w ∈ (vx_atS RX5 66 "java/lang/IllegalStateException" xnm).filter goodWord, w ∈ wsX5_restore := by decide +kernel
theorem xm_X5_runScript_2 : ∀ w ∈ (vx_atS RX5 167 "java/lang/IllegalArgumentException" xnm).filter goodWord, w ∈ wsX5_runScript := by decide +kernel
theorem xm_X5_scratch_3 : ∀ w ∈ (vx_atS RX5 66 "java/lang/IllegalStateException" xnm).filter goodWord, w ∈ wsX5_scratch := by decide +kernel
theorem xm_X5_undo_3 : ∀ w ∈ (vx_atS RX5 66 "java/lang/IllegalStateException" xnm).filter goodWord, w ∈ wsX5_undo := by decide +kernel
set_option maxHeartbeats 4000000 in
set_option maxRecDepth 100000 in
theorem c_X5_needRange {l : Launch} (hfl : l.stackTraces = false) (G : va_G) (cy : Nat → ClassId) (a_0 : Nat) (sz : Nat) (x1 : Int32) (x2 : Int32) (x3 : Int32)  (R : Nat ⊕ (Unit)) (hf : f_X5_needRange x1 x2 x3 = some R) : vx_Met l yX5_needRange wsX5_needRange ({ frames := 7, cells := 1, slots := 6, locals := 100 } : Room) (va_Pc [.ref a_0, .int x1, .int x2, .int x3] (pcX G cy [] sz)) (va_Qv (fun (u : Unit) => R = .inr u) (fun u t => Wd G cy (va_A [] sz) [] t) (va_A [] sz)) (vx_X (fun u : Nat => R = .inl u) (fun E u t => E = exN u ∧ va_P G vwCl [] t.heap ∧ va_D (va_A [] sz) []) (va_A [] sz)) 1 6 (va_A [] sz) := by
  refine vx_ofW (cc := cX5_needRange) (maxL := 4) (ret := none) (by decide) rfl ?_
  intro p e s m args below meth c s₁ B hml hnt hv
  obtain ⟨rfl, ⟨hsz, hP, hK, hD0, hN⟩, hE⟩ := hv
  have hx := B.exec
  have hb := B.bytes
  have hr := B.returns
  have hts := atoms_spec (ws := wsX5_needRange) B.pre
  have hown : s.vm.findClass RX5 = some m.cls := findClass_of_methodNamed B.named
  have hlocks := B.notSynchronized
  subst hsz
  have hD := hD0.self (sz := s.heap.size)
  generalize hAe : va_A [] s.heap.size = A at hD hE ⊢
  have hA : ∀ q : Nat, s.heap.size ≤ q → A q := fun q h => by rw [← hAe]; exact Or.inr h
  have hS : va_S A s.heap s.heap [] := va_S.rf
  have hP : va_P G vwCl [] s.heap := hP
  have hl := lv_entry [.ref a_0, .int x1, .int x2, .int x3] (n := 4) (Nat.le_of_ble_eq_true rfl)
  rw [lg_entry_eq]
  generalize (lg_sl [.ref a_0, .int x1, .int x2, .int x3] ++ List.replicate (4 - (lg_sl [.ref a_0, .int x1, .int x2, .int x3]).length) Slot.unset).toArray = ls at hl ⊢
  have hl : lv_has ls 4 [(0, .ref a_0), (1, .int x1), (2, .int x2), (3, .int x3)] := hl
  unfold f_X5_needRange at hf
  refine lv_iload_n hx hb dX5_needRange_0 rfl (lv_at hl 1 rfl) ?_
  refine lv_iload_n hx hb dX5_needRange_1 rfl (lv_at hl 2 rfl) ?_
  refine lv_iload_n hx hb dX5_needRange_2 rfl (lv_at hl 3 rfl) ?_
  refine kc_i (w1 := []) (wr := []) hP hD hS hA [] [] rfl rfl rfl (by decide) (va_runS (As := [.int x1, .int x2, .int x3]) (rest := []) ⟨hx, hb, hml, hown, hts⟩ (c_X5_isWithin (l := l) G cy  s.heap.size x1 x2 x3  (f_X5_isWithin x1 x2 x3) rfl) (va_cwS 3 hts gX5_needRange_X5_isWithin rfl rfl rfl ddN_X5_isWithin ⟨Nat.le_of_ble_eq_true rfl, Nat.le_of_ble_eq_true rfl⟩) (preS_ hP hK hD hN) rfl rfl hl.1 rfl (lv_room (Nat.le_of_ble_eq_true rfl)) dX5_needRange_3 ⟨Nat.le_of_ble_eq_true rfl, Nat.le_of_ble_eq_true rfl⟩) (fun H locs hP hD hS => ?_)
  have hP : va_P G vwCl [] H := hP
  have hD : va_D A [] := hD
  refine lv_if_ne (tgt := 20) hx hb dX5_needRange_6 (by decide) (fun h_1 => ?_) (fun h_1 => ?_)
  · have hf := ip_ (bI_n0 h_1) hf
    refine W.widen (k := 1) (n := 6) (Nat.le_of_ble_eq_true rfl) (Nat.le_of_ble_eq_true rfl) ?_
    exact kr_vX (u := ()) hx hb hr hlocks ((Option.some.inj hf).symm) hP hK hD hN hS hS.2.2 dX5_needRange_20
  · have hf := in_ (bI_0 h_1) hf
    exact kt_SW hx hb hfl (own := RX5) (X := "java/lang/IllegalArgumentException") (text := "an argument is out of its range") (names := xnm) (ik := 163) (is := 317) (ic := 167) hown (by decide +kernel) xnm_fit (hts (.classLink RX5 163 "java/lang/IllegalArgumentException") (by decide +kernel)) (hts (.initialized "java/lang/IllegalArgumentException") (by decide +kernel)) hE.2.2.2.2.2.2.2.2.2.2.2.2.2.1 (vx_hat (fun w hw => hts w (xm_X5_needRange_2 w hw)) xh_2 (xB_of hE.2.2.1 hE.2.2.1.2.2.2.2.1)) xg_2 hE hP hD hS (hl.1.trans hml.symm) hnt hlocks dX5_needRange_9 dX5_needRange_12 dX5_needRange_13 dX5_needRange_16 dX5_needRange_19 (Nat.le_of_ble_eq_true rfl) (Nat.le_of_ble_eq_true rfl) (Nat.le_of_ble_eq_true rfl) (Nat.le_of_ble_eq_true rfl) (Nat.le_of_ble_eq_true rfl) (Nat.le_of_ble_eq_true rfl) 2 rfl ((Option.some.inj hf).symm)
set_option maxHeartbeats 4000000 in
set_option maxRecDepth 100000 in
theorem c_X5_append {l : Launch} (hfl : l.stackTraces = false) (G : va_G) (cy : Nat → ClassId) (a_0 : Nat) (a_text : Nat) (a_text_signs : Nat) (a_window : Nat) (a_trial : Nat) (a_past : Nat) (a_firstSlot : Nat) (a_secondSlot : Nat) (a_equations : Nat) (a_looks : Nat) (sz : Nat) (s_text : TT) (g_text_signs : Nat → Int32) (x1 : Int32)  (R : Nat ⊕ (Int32 × TT × (Nat → Int32))) (hf : f_X5_append s_text g_text_signs x1 = some R) : vx_Met l yX5_append wsX5_append ({ frames := 8, cells := 2, slots := 12, locals := 123 } : Room) (va_Pc [.ref a_0, .int x1] (pcX G cy [(a_0, fv a_text a_window a_trial a_past a_firstSlot a_secondSlot a_equations a_looks), (a_text, tv a_text_signs s_text), (a_text_signs, av_C cy 120 g_text_signs)] sz)) (va_Qi (fun r (u : Int32 × TT × (Nat → Int32)) => R = .inr u ∧ r = u.1) (fun u t => Wd G cy (va_A [(a_0, fv a_text a_window a_trial a_past a_firstSlot a_secondSlot a_equations a_looks), (a_text, tv a_text_signs s_text), (a_text_signs, av_C cy 120 g_text_signs)] sz) [(a_0, fv a_text a_window a_trial a_past a_firstSlot a_secondSlot a_equations a_looks), (a_text, tv a_text_signs u.2.1), (a_text_signs, av_C cy 120 u.2.2)] t) (va_A [(a_0, fv a_text a_window a_trial a_past a_firstSlot a_secondSlot a_equations a_looks), (a_text, tv a_text_signs s_text), (a_text_signs, av_C cy 120 g_text_signs)] sz)) (vx_X (fun u : Nat => R = .inl u) (fun E u t => E = exN u ∧ va_P G vwCl [(a_0, fv a_text a_window a_trial a_past a_firstSlot a_secondSlot a_equations a_looks), (a_text, tv a_text_signs s_text), (a_text_signs, av_C cy 120 g_text_signs)] t.heap ∧ va_D (va_A [(a_0, fv a_text a_window a_trial a_past a_firstSlot a_secondSlot a_equations a_looks), (a_text, tv a_text_signs s_text), (a_text_signs, av_C cy 120 g_text_signs)] sz) [(a_0, fv a_text a_window a_trial a_past a_firstSlot a_secondSlot a_equations a_looks), (a_text, tv a_text_signs s_text), (a_text_signs, av_C cy 120 g_text_signs)]) (va_A [(a_0, fv a_text a_window a_trial a_past a_firstSlot a_secondSlot a_equations a_looks), (a_text, tv a_text_signs s_text), (a_text_signs, av_C cy 120 g_text_signs)] sz)) 2 12 (va_A [(a_0, fv a_text a_window a_trial a_past a_firstSlot a_secondSlot a_equations a_looks), (a_text, tv a_text_signs s_text), (a_text_signs, av_C cy 120 g_text_signs)] sz) := by
  refine vx_ofW (cc := cX5_append) (maxL := 2) (ret := (some .int)) (by decide) rfl ?_
  intro p e s m args below meth c s₁ B hml hnt hv
  obtain ⟨rfl, ⟨hsz, hP, hK, hD0, hN⟩, hE⟩ := hv
  have hx := B.exec
  have hb := B.bytes
  have hr := B.returns
  have hts := atoms_spec (ws := wsX5_append) B.pre
  have hown : s.vm.findClass RX5 = some m.cls := findClass_of_methodNamed B.named
  have hlocks := B.notSynchronized
  subst hsz
  have hD := hD0.self (sz := s.heap.size)
  generalize hAe : va_A [(a_0, fv a_text a_window a_trial a_past a_firstSlot a_secondSlot a_equations a_looks), (a_text, tv a_text_signs s_text), (a_text_signs, av_C cy 120 g_text_signs)] s.heap.size = A at hD hE ⊢
  have hA : ∀ q : Nat, s.heap.size ≤ q → A q := fun q h => by rw [← hAe]; exact Or.inr h
  have hS : va_S A s.heap s.heap [] := va_S.rf
  have hP : va_P G vwCl [(a_0, fv a_text a_window a_trial a_past a_firstSlot a_secondSlot a_equations a_looks), (a_text, tv a_text_signs s_text), (a_text_signs, av_C cy 120 g_text_signs)] s.heap := hP
  have hl := lv_entry [.ref a_0, .int x1] (n := 2) (Nat.le_of_ble_eq_true rfl)
  rw [lg_entry_eq]
  generalize (lg_sl [.ref a_0, .int x1] ++ List.replicate (2 - (lg_sl [.ref a_0, .int x1]).length) Slot.unset).toArray = ls at hl ⊢
  have hl : lv_has ls 2 [(0, .ref a_0), (1, .int x1)] := hl
  unfold f_X5_append at hf
  refine lv_aload_n hx hb dX5_append_0 rfl (lv_at hl 0 rfl) ?_
  refine lv_iload_n hx hb dX5_append_1 rfl (lv_at hl 1 rfl) ?_
  refine lv_iconst (v := 0) hx hb dX5_append_2 (by decide) ?_
  refine lv_sipush (v := 255) hx hb dX5_append_3 (by decide) ?_
  obtain ⟨r_1, hh_r_1, hf⟩ := obx_some hf
  refine kx_v (w1 := fun (_ : Unit) => []) (wr := [(a_0, fv a_text a_window a_trial a_past a_firstSlot a_secondSlot a_equations a_looks), (a_text, tv a_text_signs s_text), (a_text_signs, av_C cy 120 g_text_signs)]) hP hD hS hA [] [0, 1, 2] rfl rfl rfl (by decide) (vx_runV (As := [.int x1, .int 0, .int 255]) (rest := []) ⟨hx, hb, hml, hown, hts⟩ (c_X5_needRange (l := l) hfl G cy a_0 s.heap.size x1 0 255  r_1 hh_r_1) (cwV 3 hts gX5_append_X5_needRange rfl rfl rfl ddV_X5_needRange ⟨Nat.le_of_ble_eq_true rfl, Nat.le_of_ble_eq_true rfl⟩) (preVX2 (ci := 5) (q0 := 0) rfl rfl hP (hE.kept hS.2.1) (va_free hD hS hA (wc := []) [] rfl) (hP.sub (ws' := []) [] rfl) hK (hD.sub (ws' := []) [] rfl rfl) hN) rfl rfl hl.1 rfl (lv_room (Nat.le_of_ble_eq_true rfl)) dX5_append_6 ⟨Nat.le_of_ble_eq_true rfl, Nat.le_of_ble_eq_true rfl⟩) (fun u ce q9 H locs hz hP hD hS hc1 hc2 hc3 => ?_) (fun u_1 H locs hz hP hD hS => ?_)
  · subst hz
    have hP : va_P G vwCl [(a_0, fv a_text a_window a_trial a_past a_firstSlot a_secondSlot a_equations a_looks), (a_text, tv a_text_signs s_text), (a_text_signs, av_C cy 120 g_text_signs)] H := hP
    have hD : va_D A [(a_0, fv a_text a_window a_trial a_past a_firstSlot a_secondSlot a_equations a_looks), (a_text, tv a_text_signs s_text), (a_text_signs, av_C cy 120 g_text_signs)] := hD
    exact vx_widen (k := 2) (n := 12) (Nat.le_of_ble_eq_true rfl) (Nat.le_of_ble_eq_true rfl) (kx_out u hnt hlocks (obx_l hf) hP hK hD hN hS hc1 hc2 hc3 (Nat.le_refl _) (Nat.le_refl _))
  subst hz
  have hf := obx_r hf
  have hP : va_P G vwCl [(a_0, fv a_text a_window a_trial a_past a_firstSlot a_secondSlot a_equations a_looks), (a_text, tv a_text_signs s_text), (a_text_signs, av_C cy 120 g_text_signs)] H := hP
  have hD : va_D A [(a_0, fv a_text a_window a_trial a_past a_firstSlot a_secondSlot a_equations a_looks), (a_text, tv a_text_signs s_text), (a_text_signs, av_C cy 120 g_text_signs)] := hD
  refine lv_aload_n hx hb dX5_append_9 rfl (lv_at hl 0 rfl) ?_
  refine va_get (D := G) (ci := 5) (v := .ref a_text) (C := RX5) (T := TX5) (N := 8) hx hb hts iw_X5_append_X5 hown hK hP 0 rfl rfl 0 (by decide) (hts (.fieldLink RX5 10 "PaneFrost" "text" "LPaneFrost$Text;") (by decide +kernel)) (fun _ h9 => h9) rfl dX5_append_10 ?_
  refine kc_i (w1 := [(a_text, tv a_text_signs s_text), (a_text_signs, av_C cy 120 g_text_signs)]) (wr := [(a_0, fv a_text a_window a_trial a_past a_firstSlot a_secondSlot a_equations a_looks)]) hP hD hS hA [1, 2] [0] rfl rfl rfl (by decide) (va_runV (As := []) (rest := []) ⟨hx, hb, hml, hown, hts⟩ (c_X3_isFull (l := l) G cy a_text a_text_signs H.size s_text g_text_signs  (f_X3_isFull s_text g_text_signs) rfl) (cwV 0 hts gX5_append_X3_isFull rfl rfl rfl ddV_X3_isFull ⟨Nat.le_of_ble_eq_true rfl, Nat.le_of_ble_eq_true rfl⟩) (preV_ (ci := 3) (q0 := 0) rfl rfl (hP.sub (ws' := [(a_text, tv a_text_signs s_text), (a_text_signs, av_C cy 120 g_text_signs)]) [1, 2] rfl) hK (hD.sub (ws' := [(a_text, tv a_text_signs s_text), (a_text_signs, av_C cy 120 g_text_signs)]) [1, 2] rfl rfl) hN) rfl rfl hl.1 rfl (lv_room (Nat.le_of_ble_eq_true rfl)) dX5_append_13 ⟨Nat.le_of_ble_eq_true rfl, Nat.le_of_ble_eq_true rfl⟩) (fun H locs hP hD hS => ?_)
  have hP : va_P G vwCl [(a_0, fv a_text a_window a_trial a_past a_firstSlot a_secondSlot a_equations a_looks), (a_text, tv a_text_signs s_text), (a_text_signs, av_C cy 120 g_text_signs)] H := hP
  have hD : va_D A [(a_0, fv a_text a_window a_trial a_past a_firstSlot a_secondSlot a_equations a_looks), (a_text, tv a_text_signs s_text), (a_text_signs, av_C cy 120 g_text_signs)] := hD
  refine lv_if_eq (tgt := 29) hx hb dX5_append_16 (by decide) (fun h_2 => ?_) (fun h_2 => ?_)
  · have hf := in_ (bI_0 h_2) hf
    refine lv_aload_n hx hb dX5_append_29 rfl (lv_at hl 0 rfl) ?_
    refine va_get (D := G) (ci := 5) (v := .ref a_text) (C := RX5) (T := TX5) (N := 8) hx hb hts iw_X5_append_X5 hown hK hP 0 rfl rfl 0 (by decide) (hts (.fieldLink RX5 10 "PaneFrost" "text" "LPaneFrost$Text;") (by decide +kernel)) (fun _ h9 => h9) rfl dX5_append_30 ?_
    refine lv_iload_n hx hb dX5_append_33 rfl (lv_at hl 1 rfl) ?_
    refine lv_i2c (v := (ich x1)) hx hb dX5_append_34 rfl ?_
    obtain ⟨r_3, hh_r_3, hf⟩ := obd_some hf
    refine kc_i (w1 := [(a_text, tv a_text_signs r_3.2.1), (a_text_signs, av_C cy 120 r_3.2.2)]) (wr := [(a_0, fv a_text a_window a_trial a_past a_firstSlot a_secondSlot a_equations a_looks)]) hP hD hS hA [1, 2] [0] rfl rfl rfl (by decide) (va_runV (As := [.int (ich x1)]) (rest := []) ⟨hx, hb, hml, hown, hts⟩ (c_X3_add (l := l) G cy a_text a_text_signs H.size s_text g_text_signs (ich x1)  r_3 hh_r_3) (cwV 1 hts gX5_append_X3_add rfl rfl rfl ddV_X3_add ⟨Nat.le_of_ble_eq_true rfl, Nat.le_of_ble_eq_true rfl⟩) (preV_ (ci := 3) (q0 := 0) rfl rfl (hP.sub (ws' := [(a_text, tv a_text_signs s_text), (a_text_signs, av_C cy 120 g_text_signs)]) [1, 2] rfl) hK (hD.sub (ws' := [(a_text, tv a_text_signs s_text), (a_text_signs, av_C cy 120 g_text_signs)]) [1, 2] rfl rfl) hN) rfl rfl hl.1 rfl (lv_room (Nat.le_of_ble_eq_true rfl)) dX5_append_35 ⟨Nat.le_of_ble_eq_true rfl, Nat.le_of_ble_eq_true rfl⟩) (fun H locs hP hD hS => ?_)
    have hP : va_P G vwCl [(a_0, fv a_text a_window a_trial a_past a_firstSlot a_secondSlot a_equations a_looks), (a_text, tv a_text_signs r_3.2.1), (a_text_signs, av_C cy 120 r_3.2.2)] H := hP
    have hD : va_D A [(a_0, fv a_text a_window a_trial a_past a_firstSlot a_secondSlot a_equations a_looks), (a_text, tv a_text_signs r_3.2.1), (a_text_signs, av_C cy 120 r_3.2.2)] := hD
    refine W.widen (k := 2) (n := 12) (Nat.le_of_ble_eq_true rfl) (Nat.le_of_ble_eq_true rfl) ?_
    exact kr_iX (u := (r_3.1, r_3.2.1, r_3.2.2)) hx hb hr hlocks ((Option.some.inj hf).symm) hP hK hD hN hS hS.2.2 dX5_append_38
  · have hf := ip_ (bI_n0 h_2) hf
    exact kt_S hx hb hfl (own := RX5) (X := "java/lang/IllegalStateException") (text := "the text is full") (names := xnm) (ik := 62) (is := 64) (ic := 66) hown (by decide +kernel) xnm_fit (hts (.classLink RX5 62 "java/lang/IllegalStateException") (by decide +kernel)) (hts (.initialized "java/lang/IllegalStateException") (by decide +kernel)) hE.2.2.2.1 (vx_hat (fun w hw => hts w (xm_X5_append_3 w hw)) xh_3 (xB_of hE.2.2.1 hE.2.2.1.2.2.2.2.2)) xg_3 hE hP hD hS (hl.1.trans hml.symm) hnt hlocks dX5_append_19 dX5_append_22 dX5_append_23 dX5_append_25 dX5_append_28 (Nat.le_of_ble_eq_true rfl) (Nat.le_of_ble_eq_true rfl) (Nat.le_of_ble_eq_true rfl) (Nat.le_of_ble_eq_true rfl) (Nat.le_of_ble_eq_true rfl) (Nat.le_of_ble_eq_true rfl) 3 rfl ((Option.some.inj hf).symm)
set_option maxHeartbeats 4000000 in
set_option maxRecDepth 100000 in
theorem c_X5_obey {l : Launch} (G : va_G) (cy : Nat → ClassId) (a_0 : Nat) (a_text : Nat) (a_window : Nat) (a_trial : Nat) (a_past : Nat) (a_firstSlot : Nat) (a_secondSlot : Nat) (a_equations : Nat) (a_looks : Nat) (sz : Nat) (s_window : WT) (x1 : Int32) (x2 : Int32) (x3 : Int32) (n : Nat) (R : Int32 × WT) (hf : f_X5_obey n s_window x1 x2 x3 = some R) : Met l yX5_obey wsX5_obey ({ frames := 5, cells := 0, slots := 0, locals := 118 } : Room) (va_Pc [.ref a_0, .int x1, .int x2, .int x3] (pcW G cy [(a_0, fv a_text a_window a_trial a_past a_firstSlot a_secondSlot a_equations a_looks), (a_window, wv s_window)] sz)) (va_Qi (fun r (_ : Unit) => r = R.1) (fun _ t => Wd G cy (va_A [(a_0, fv a_text a_window a_trial a_past a_firstSlot a_secondSlot a_equations a_looks), (a_window, wv s_window)] sz) [(a_0, fv a_text a_window a_trial a_past a_firstSlot a_secondSlot a_equations a_looks), (a_window, wv R.2)] t) (va_A [(a_0, fv a_text a_window a_trial a_past a_firstSlot a_secondSlot a_equations a_looks), (a_window, wv s_window)] sz)) 0 0 (va_A [(a_0, fv a_text a_window a_trial a_past a_firstSlot a_secondSlot a_equations a_looks), (a_window, wv s_window)] sz) := by
  refine Met.ofW (cc := cX5_obey) (maxL := 4) (ret := (some .int)) (by decide) rfl ?_
  intro p e s m args below meth c s₁ B hml hv
  obtain ⟨rfl, hsz, hP, hK, hD0, hN⟩ := hv
  have hx := B.exec
  have hb := B.bytes
  have hr := B.returns
  have hts := atoms_spec (ws := wsX5_obey) B.pre
  have hown : s.vm.findClass RX5 = some m.cls := findClass_of_methodNamed B.named
  have hlocks := B.notSynchronized
  subst hsz
  have hD := hD0.self (sz := s.heap.size)
  generalize hAe : va_A [(a_0, fv a_text a_window a_trial a_past a_firstSlot a_secondSlot a_equations a_looks), (a_window, wv s_window)] s.heap.size = A at hD ⊢
  have hA : ∀ q : Nat, s.heap.size ≤ q → A q := fun q h => by rw [← hAe]; exact Or.inr h
  have hS : va_S A s.heap s.heap [] := va_S.rf
  have hP : va_P G vwCl [(a_0, fv a_text a_window a_trial a_past a_firstSlot a_secondSlot a_equations a_looks), (a_window, wv s_window)] s.heap := hP
  have hl := lv_entry [.ref a_0, .int x1, .int x2, .int x3] (n := 4) (Nat.le_of_ble_eq_true rfl)
  rw [lg_entry_eq]
  generalize (lg_sl [.ref a_0, .int x1, .int x2, .int x3] ++ List.replicate (4 - (lg_sl [.ref a_0, .int x1, .int x2, .int x3]).length) Slot.unset).toArray = ls at hl ⊢
  have hl : lv_has ls 4 [(0, .ref a_0), (1, .int x1), (2, .int x2), (3, .int x3)] := hl
  unfold f_X5_obey at hf
  refine lv_iload_n hx hb dX5_obey_0 rfl (lv_at hl 1 rfl) ?_
  by_cases h_1 : x1 = 98
  · have hf := ip_ h_1 hf
    refine lv_tableIn (tgt := 111) (off := 110) hx hb dX5_obey_1 (by show ¬ x1.toInt < 98; rw [h_1]; decide) (by show ¬ 116 < x1.toInt; rw [h_1]; decide) (by show (#[110, 148, 148, 148, 91, 148, 148, 148, 148, 148, 148, 148, 139, 148, 148, 148, 120, 100, 129] : Array Int)[(x1.toInt - 98).toNat]? = some 110; rw [h_1]; rfl) (by decide) ?_
    refine lv_aload_n hx hb dX5_obey_111 rfl (lv_at hl 0 rfl) ?_
    refine va_get (D := G) (ci := 5) (v := .ref a_window) (C := RX5) (T := TX5) (N := 8) hx hb hts iw_X5_obey_X5 hown hK hP 0 rfl rfl 1 (by decide) (hts (.fieldLink RX5 19 "PaneFrost" "window" "LPaneFrost$Window;") (by decide +kernel)) (fun _ h9 => h9) rfl dX5_obey_112 ?_
    refine lv_iload_n hx hb dX5_obey_115 rfl (lv_at hl 2 rfl) ?_
    refine lv_iload_n hx hb dX5_obey_116 rfl (lv_at hl 3 rfl) ?_
    obtain ⟨r_2, hh_r_2⟩ : ∃ z, z = f_X4_putKind s_window x2 x3 := ⟨_, rfl⟩
    have hf := lt_e hh_r_2 hf
    refine kc_i (w1 := [(a_window, wv r_2.2)]) (wr := [(a_0, fv a_text a_window a_trial a_past a_firstSlot a_secondSlot a_equations a_looks)]) hP hD hS hA [1] [0] rfl rfl rfl (by decide) (va_runV (As := [.int x2, .int x3]) (rest := []) ⟨hx, hb, hml, hown, hts⟩ (c_X4_putKind (l := l) G cy a_window s.heap.size s_window x2 x3  r_2 hh_r_2.symm) (cwV 2 hts gX5_obey_X4_putKind rfl rfl rfl ddV_X4_putKind ⟨Nat.le_of_ble_eq_true rfl, Nat.le_of_ble_eq_true rfl⟩) (preV_ (ci := 4) (q0 := 0) rfl rfl (hP.sub (ws' := [(a_window, wv s_window)]) [1] rfl) hK (hD.sub (ws' := [(a_window, wv s_window)]) [1] rfl rfl) hN) rfl rfl hl.1 rfl (lv_room (Nat.le_of_ble_eq_true rfl)) dX5_obey_117 ⟨Nat.le_of_ble_eq_true rfl, Nat.le_of_ble_eq_true rfl⟩) (fun H locs hP hD hS => ?_)
    have hP : va_P G vwCl [(a_0, fv a_text a_window a_trial a_past a_firstSlot a_secondSlot a_equations a_looks), (a_window, wv r_2.2)] H := hP
    have hD : va_D A [(a_0, fv a_text a_window a_trial a_past a_firstSlot a_secondSlot a_equations a_looks), (a_window, wv r_2.2)] := hD
    obtain rfl := Option.some.inj hf
    exact kr_i hx hb hr hlocks rfl hP hK hD hN hS hS.2.2 dX5_obey_120
  have hf := in_ h_1 hf
  by_cases h_3 : x1 = 102
  · have hf := ip_ h_3 hf
    refine lv_tableIn (tgt := 92) (off := 91) hx hb dX5_obey_1 (by show ¬ x1.toInt < 98; rw [h_3]; decide) (by show ¬ 116 < x1.toInt; rw [h_3]; decide) (by show (#[110, 148, 148, 148, 91, 148, 148, 148, 148, 148, 148, 148, 139, 148, 148, 148, 120, 100, 129] : Array Int)[(x1.toInt - 98).toNat]? = some 91; rw [h_3]; rfl) (by decide) ?_
    refine lv_aload_n hx hb dX5_obey_92 rfl (lv_at hl 0 rfl) ?_
    refine va_get (D := G) (ci := 5) (v := .ref a_window) (C := RX5) (T := TX5) (N := 8) hx hb hts iw_X5_obey_X5 hown hK hP 0 rfl rfl 1 (by decide) (hts (.fieldLink RX5 19 "PaneFrost" "window" "LPaneFrost$Window;") (by decide +kernel)) (fun _ h9 => h9) rfl dX5_obey_93 ?_
    refine lv_iload_n hx hb dX5_obey_96 rfl (lv_at hl 2 rfl) ?_
    obtain ⟨r_4, hh_r_4⟩ : ∃ z, z = f_X4_turn s_window x2 := ⟨_, rfl⟩
    have hf := lt_e hh_r_4 hf
    refine kc_i (w1 := [(a_window, wv r_4.2)]) (wr := [(a_0, fv a_text a_window a_trial a_past a_firstSlot a_secondSlot a_equations a_looks)]) hP hD hS hA [1] [0] rfl rfl rfl (by decide) (va_runV (As := [.int x2]) (rest := []) ⟨hx, hb, hml, hown, hts⟩ (c_X4_turn (l := l) G cy a_window s.heap.size s_window x2  r_4 hh_r_4.symm) (cwV 1 hts gX5_obey_X4_turn rfl rfl rfl ddV_X4_turn ⟨Nat.le_of_ble_eq_true rfl, Nat.le_of_ble_eq_true rfl⟩) (preV_ (ci := 4) (q0 := 0) rfl rfl (hP.sub (ws' := [(a_window, wv s_window)]) [1] rfl) hK (hD.sub (ws' := [(a_window, wv s_window)]) [1] rfl rfl) hN) rfl rfl hl.1 rfl (lv_room (Nat.le_of_ble_eq_true rfl)) dX5_obey_97 ⟨Nat.le_of_ble_eq_true rfl, Nat.le_of_ble_eq_true rfl⟩) (fun H locs hP hD hS => ?_)
    have hP : va_P G vwCl [(a_0, fv a_text a_window a_trial a_past a_firstSlot a_secondSlot a_equations a_looks), (a_window, wv r_4.2)] H := hP
    have hD : va_D A [(a_0, fv a_text a_window a_trial a_past a_firstSlot a_secondSlot a_equations a_looks), (a_window, wv r_4.2)] := hD
    obtain rfl := Option.some.inj hf
    exact kr_i hx hb hr hlocks rfl hP hK hD hN hS hS.2.2 dX5_obey_100
  have hf := in_ h_3 hf
  by_cases h_5 : x1 = 110
  · have hf := ip_ h_5 hf
    refine lv_tableIn (tgt := 140) (off := 139) hx hb dX5_obey_1 (by show ¬ x1.toInt < 98; rw [h_5]; decide) (by show ¬ 116 < x1.toInt; rw [h_5]; decide) (by show (#[110, 148, 148, 148, 91, 148, 148, 148, 148, 148, 148, 148, 139, 148, 148, 148, 120, 100, 129] : Array Int)[(x1.toInt - 98).toNat]? = some 139; rw [h_5]; rfl) (by decide) ?_
    refine lv_aload_n hx hb dX5_obey_140 rfl (lv_at hl 0 rfl) ?_
    refine va_get (D := G) (ci := 5) (v := .ref a_window) (C := RX5) (T := TX5) (N := 8) hx hb hts iw_X5_obey_X5 hown hK hP 0 rfl rfl 1 (by decide) (hts (.fieldLink RX5 19 "PaneFrost" "window" "LPaneFrost$Window;") (by decide +kernel)) (fun _ h9 => h9) rfl dX5_obey_141 ?_
    refine lv_iload_n hx hb dX5_obey_144 rfl (lv_at hl 2 rfl) ?_
    obtain ⟨r_6, hh_r_6, hf⟩ := obd_some hf
    refine kc_i (w1 := [(a_window, wv r_6.2)]) (wr := [(a_0, fv a_text a_window a_trial a_past a_firstSlot a_secondSlot a_equations a_looks)]) hP hD hS hA [1] [0] rfl rfl rfl (by decide) (va_runV (As := [.int x2]) (rest := []) ⟨hx, hb, hml, hown, hts⟩ (c_X4_pass (l := l) G cy a_window s.heap.size s_window x2 n r_6 hh_r_6) (cwV 1 hts gX5_obey_X4_pass rfl rfl rfl ddV_X4_pass ⟨Nat.le_of_ble_eq_true rfl, Nat.le_of_ble_eq_true rfl⟩) (preV_ (ci := 4) (q0 := 0) rfl rfl (hP.sub (ws' := [(a_window, wv s_window)]) [1] rfl) hK (hD.sub (ws' := [(a_window, wv s_window)]) [1] rfl rfl) hN) rfl rfl hl.1 rfl (lv_room (Nat.le_of_ble_eq_true rfl)) dX5_obey_145 ⟨Nat.le_of_ble_eq_true rfl, Nat.le_of_ble_eq_true rfl⟩) (fun H locs hP hD hS => ?_)
    have hP : va_P G vwCl [(a_0, fv a_text a_window a_trial a_past a_firstSlot a_secondSlot a_equations a_looks), (a_window, wv r_6.2)] H := hP
    have hD : va_D A [(a_0, fv a_text a_window a_trial a_past a_firstSlot a_secondSlot a_equations a_looks), (a_window, wv r_6.2)] := hD
    obtain rfl := Option.some.inj hf
    exact kr_i hx hb hr hlocks rfl hP hK hD hN hS hS.2.2 dX5_obey_148
  have hf := in_ h_5 hf
  by_cases h_7 : x1 = 114
  · have hf := ip_ h_7 hf
    refine lv_tableIn (tgt := 121) (off := 120) hx hb dX5_obey_1 (by show ¬ x1.toInt < 98; rw [h_7]; decide) (by show ¬ 116 < x1.toInt; rw [h_7]; decide) (by show (#[110, 148, 148, 148, 91, 148, 148, 148, 148, 148, 148, 148, 139, 148, 148, 148, 120, 100, 129] : Array Int)[(x1.toInt - 98).toNat]? = some 120; rw [h_7]; rfl) (by decide) ?_
    refine lv_aload_n hx hb dX5_obey_121 rfl (lv_at hl 0 rfl) ?_
    refine va_get (D := G) (ci := 5) (v := .ref a_window) (C := RX5) (T := TX5) (N := 8) hx hb hts iw_X5_obey_X5 hown hK hP 0 rfl rfl 1 (by decide) (hts (.fieldLink RX5 19 "PaneFrost" "window" "LPaneFrost$Window;") (by decide +kernel)) (fun _ h9 => h9) rfl dX5_obey_122 ?_
    refine lv_iload_n hx hb dX5_obey_125 rfl (lv_at hl 2 rfl) ?_
    obtain ⟨r_8, hh_r_8⟩ : ∃ z, z = f_X4_putRule s_window x2 := ⟨_, rfl⟩
    have hf := lt_e hh_r_8 hf
    refine kc_i (w1 := [(a_window, wv r_8.2)]) (wr := [(a_0, fv a_text a_window a_trial a_past a_firstSlot a_secondSlot a_equations a_looks)]) hP hD hS hA [1] [0] rfl rfl rfl (by decide) (va_runV (As := [.int x2]) (rest := []) ⟨hx, hb, hml, hown, hts⟩ (c_X4_putRule (l := l) G cy a_window s.heap.size s_window x2  r_8 hh_r_8.symm) (cwV 1 hts gX5_obey_X4_putRule rfl rfl rfl ddV_X4_putRule ⟨Nat.le_of_ble_eq_true rfl, Nat.le_of_ble_eq_true rfl⟩) (preV_ (ci := 4) (q0 := 0) rfl rfl (hP.sub (ws' := [(a_window, wv s_window)]) [1] rfl) hK (hD.sub (ws' := [(a_window, wv s_window)]) [1] rfl rfl) hN) rfl rfl hl.1 rfl (lv_room (Nat.le_of_ble_eq_true rfl)) dX5_obey_126 ⟨Nat.le_of_ble_eq_true rfl, Nat.le_of_ble_eq_true rfl⟩) (fun H locs hP hD hS => ?_)
    have hP : va_P G vwCl [(a_0, fv a_text a_window a_trial a_past a_firstSlot a_secondSlot a_equations a_looks), (a_window, wv r_8.2)] H := hP
    have hD : va_D A [(a_0, fv a_text a_window a_trial a_past a_firstSlot a_secondSlot a_equations a_looks), (a_window, wv r_8.2)] := hD
    obtain rfl := Option.some.inj hf
    exact kr_i hx hb hr hlocks rfl hP hK hD hN hS hS.2.2 dX5_obey_129
  have hf := in_ h_7 hf
  by_cases h_9 : x1 = 115
  · have hf := ip_ h_9 hf
    refine lv_tableIn (tgt := 101) (off := 100) hx hb dX5_obey_1 (by show ¬ x1.toInt < 98; rw [h_9]; decide) (by show ¬ 116 < x1.toInt; rw [h_9]; decide) (by show (#[110, 148, 148, 148, 91, 148, 148, 148, 148, 148, 148, 148, 139, 148, 148, 148, 120, 100, 129] : Array Int)[(x1.toInt - 98).toNat]? = some 100; rw [h_9]; rfl) (by decide) ?_
    refine lv_aload_n hx hb dX5_obey_101 rfl (lv_at hl 0 rfl) ?_
    refine va_get (D := G) (ci := 5) (v := .ref a_window) (C := RX5) (T := TX5) (N := 8) hx hb hts iw_X5_obey_X5 hown hK hP 0 rfl rfl 1 (by decide) (hts (.fieldLink RX5 19 "PaneFrost" "window" "LPaneFrost$Window;") (by decide +kernel)) (fun _ h9 => h9) rfl dX5_obey_102 ?_
    refine lv_iload_n hx hb dX5_obey_105 rfl (lv_at hl 2 rfl) ?_
    refine lv_iload_n hx hb dX5_obey_106 rfl (lv_at hl 3 rfl) ?_
    obtain ⟨r_10, hh_r_10⟩ : ∃ z, z = f_X4_scrape s_window x2 x3 := ⟨_, rfl⟩
    have hf := lt_e hh_r_10 hf
    refine kc_i (w1 := [(a_window, wv r_10.2)]) (wr := [(a_0, fv a_text a_window a_trial a_past a_firstSlot a_secondSlot a_equations a_looks)]) hP hD hS hA [1] [0] rfl rfl rfl (by decide) (va_runV (As := [.int x2, .int x3]) (rest := []) ⟨hx, hb, hml, hown, hts⟩ (c_X4_scrape (l := l) G cy a_window s.heap.size s_window x2 x3  r_10 hh_r_10.symm) (cwV 2 hts gX5_obey_X4_scrape rfl rfl rfl ddV_X4_scrape ⟨Nat.le_of_ble_eq_true rfl, Nat.le_of_ble_eq_true rfl⟩) (preV_ (ci := 4) (q0 := 0) rfl rfl (hP.sub (ws' := [(a_window, wv s_window)]) [1] rfl) hK (hD.sub (ws' := [(a_window, wv s_window)]) [1] rfl rfl) hN) rfl rfl hl.1 rfl (lv_room (Nat.le_of_ble_eq_true rfl)) dX5_obey_107 ⟨Nat.le_of_ble_eq_true rfl, Nat.le_of_ble_eq_true rfl⟩) (fun H locs hP hD hS => ?_)
    have hP : va_P G vwCl [(a_0, fv a_text a_window a_trial a_past a_firstSlot a_secondSlot a_equations a_looks), (a_window, wv r_10.2)] H := hP
    have hD : va_D A [(a_0, fv a_text a_window a_trial a_past a_firstSlot a_secondSlot a_equations a_looks), (a_window, wv r_10.2)] := hD
    obtain rfl := Option.some.inj hf
    exact kr_i hx hb hr hlocks rfl hP hK hD hN hS hS.2.2 dX5_obey_110
  have hf := in_ h_9 hf
  by_cases h_11 : x1 = 116
  · have hf := ip_ h_11 hf
    refine lv_tableIn (tgt := 130) (off := 129) hx hb dX5_obey_1 (by show ¬ x1.toInt < 98; rw [h_11]; decide) (by show ¬ 116 < x1.toInt; rw [h_11]; decide) (by show (#[110, 148, 148, 148, 91, 148, 148, 148, 148, 148, 148, 148, 139, 148, 148, 148, 120, 100, 129] : Array Int)[(x1.toInt - 98).toNat]? = some 129; rw [h_11]; rfl) (by decide) ?_
    refine lv_aload_n hx hb dX5_obey_130 rfl (lv_at hl 0 rfl) ?_
    refine va_get (D := G) (ci := 5) (v := .ref a_window) (C := RX5) (T := TX5) (N := 8) hx hb hts iw_X5_obey_X5 hown hK hP 0 rfl rfl 1 (by decide) (hts (.fieldLink RX5 19 "PaneFrost" "window" "LPaneFrost$Window;") (by decide +kernel)) (fun _ h9 => h9) rfl dX5_obey_131 ?_
    refine lv_iload_n hx hb dX5_obey_134 rfl (lv_at hl 2 rfl) ?_
    refine lv_iload_n hx hb dX5_obey_135 rfl (lv_at hl 3 rfl) ?_
    obtain ⟨r_12, hh_r_12, hf⟩ := obd_some hf
    refine kc_i (w1 := [(a_window, wv r_12.2)]) (wr := [(a_0, fv a_text a_window a_trial a_past a_firstSlot a_secondSlot a_equations a_looks)]) hP hD hS hA [1] [0] rfl rfl rfl (by decide) (va_runV (As := [.int x2, .int x3]) (rest := []) ⟨hx, hb, hml, hown, hts⟩ (c_X4_thaw (l := l) G cy a_window s.heap.size s_window x2 x3 n r_12 hh_r_12) (cwV 2 hts gX5_obey_X4_thaw rfl rfl rfl ddV_X4_thaw ⟨Nat.le_of_ble_eq_true rfl, Nat.le_of_ble_eq_true rfl⟩) (preV_ (ci := 4) (q0 := 0) rfl rfl (hP.sub (ws' := [(a_window, wv s_window)]) [1] rfl) hK (hD.sub (ws' := [(a_window, wv s_window)]) [1] rfl rfl) hN) rfl rfl hl.1 rfl (lv_room (Nat.le_of_ble_eq_true rfl)) dX5_obey_136 ⟨Nat.le_of_ble_eq_true rfl, Nat.le_of_ble_eq_true rfl⟩) (fun H locs hP hD hS => ?_)
    have hP : va_P G vwCl [(a_0, fv a_text a_window a_trial a_past a_firstSlot a_secondSlot a_equations a_looks), (a_window, wv r_12.2)] H := hP
    have hD : va_D A [(a_0, fv a_text a_window a_trial a_past a_firstSlot a_secondSlot a_equations a_looks), (a_window, wv r_12.2)] := hD
    obtain rfl := Option.some.inj hf
    exact kr_i hx hb hr hlocks rfl hP hK hD hN hS hS.2.2 dX5_obey_139
  have hf := in_ h_11 hf
  have th_1 : ¬ x1.toInt = 98 := fun q => h_1 (Int32.toInt_inj.mp (q.trans (by decide)))
  have th_3 : ¬ x1.toInt = 102 := fun q => h_3 (Int32.toInt_inj.mp (q.trans (by decide)))
  have th_5 : ¬ x1.toInt = 110 := fun q => h_5 (Int32.toInt_inj.mp (q.trans (by decide)))
  have th_7 : ¬ x1.toInt = 114 := fun q => h_7 (Int32.toInt_inj.mp (q.trans (by decide)))
  have th_9 : ¬ x1.toInt = 115 := fun q => h_9 (Int32.toInt_inj.mp (q.trans (by decide)))
  have th_11 : ¬ x1.toInt = 116 := fun q => h_11 (Int32.toInt_inj.mp (q.trans (by decide)))
  have hdf : (x1.toInt < 98 ∨ 116 < x1.toInt) ∨ x1.toInt = 99 ∨ x1.toInt = 100 ∨ x1.toInt = 101 ∨ x1.toInt = 103 ∨ x1.toInt = 104 ∨ x1.toInt = 105 ∨ x1.toInt = 106 ∨ x1.toInt = 107 ∨ x1.toInt = 108 ∨ x1.toInt = 109 ∨ x1.toInt = 111 ∨ x1.toInt = 112 ∨ x1.toInt = 113 := by omega
  refine lv_tableD (tgt := 149) hx hb dX5_obey_1 (by rcases hdf with (g | g) | g | g | g | g | g | g | g | g | g | g | g | g | g; exact Or.inl (Or.inl g); exact Or.inl (Or.inr g); exact Or.inr (by show (#[110, 148, 148, 148, 91, 148, 148, 148, 148, 148, 148, 148, 139, 148, 148, 148, 120, 100, 129] : Array Int)[(x1.toInt - 98).toNat]? = some 148; rw [g]; rfl); exact Or.inr (by show (#[110, 148, 148, 148, 91, 148, 148, 148, 148, 148, 148, 148, 139, 148, 148, 148, 120, 100, 129] : Array Int)[(x1.toInt - 98).toNat]? = some 148; rw [g]; rfl); exact Or.inr (by show (#[110, 148, 148, 148, 91, 148, 148, 148, 148, 148, 148, 148, 139, 148, 148, 148, 120, 100, 129] : Array Int)[(x1.toInt - 98).toNat]? = some 148; rw [g]; rfl); exact Or.inr (by show (#[110, 148, 148, 148, 91, 148, 148, 148, 148, 148, 148, 148, 139, 148, 148, 148, 120, 100, 129] : Array Int)[(x1.toInt - 98).toNat]? = some 148; rw [g]; rfl); exact Or.inr (by show (#[110, 148, 148, 148, 91, 148, 148, 148, 148, 148, 148, 148, 139, 148, 148, 148, 120, 100, 129] : Array Int)[(x1.toInt - 98).toNat]? = some 148; rw [g]; rfl); exact Or.inr (by show (#[110, 148, 148, 148, 91, 148, 148, 148, 148, 148, 148, 148, 139, 148, 148, 148, 120, 100, 129] : Array Int)[(x1.toInt - 98).toNat]? = some 148; rw [g]; rfl); exact Or.inr (by show (#[110, 148, 148, 148, 91, 148, 148, 148, 148, 148, 148, 148, 139, 148, 148, 148, 120, 100, 129] : Array Int)[(x1.toInt - 98).toNat]? = some 148; rw [g]; rfl); exact Or.inr (by show (#[110, 148, 148, 148, 91, 148, 148, 148, 148, 148, 148, 148, 139, 148, 148, 148, 120, 100, 129] : Array Int)[(x1.toInt - 98).toNat]? = some 148; rw [g]; rfl); exact Or.inr (by show (#[110, 148, 148, 148, 91, 148, 148, 148, 148, 148, 148, 148, 139, 148, 148, 148, 120, 100, 129] : Array Int)[(x1.toInt - 98).toNat]? = some 148; rw [g]; rfl); exact Or.inr (by show (#[110, 148, 148, 148, 91, 148, 148, 148, 148, 148, 148, 148, 139, 148, 148, 148, 120, 100, 129] : Array Int)[(x1.toInt - 98).toNat]? = some 148; rw [g]; rfl); exact Or.inr (by show (#[110, 148, 148, 148, 91, 148, 148, 148, 148, 148, 148, 148, 139, 148, 148, 148, 120, 100, 129] : Array Int)[(x1.toInt - 98).toNat]? = some 148; rw [g]; rfl); exact Or.inr (by show (#[110, 148, 148, 148, 91, 148, 148, 148, 148, 148, 148, 148, 139, 148, 148, 148, 120, 100, 129] : Array Int)[(x1.toInt - 98).toNat]? = some 148; rw [g]; rfl); exact Or.inr (by show (#[110, 148, 148, 148, 91, 148, 148, 148, 148, 148, 148, 148, 139, 148, 148, 148, 120, 100, 129] : Array Int)[(x1.toInt - 98).toNat]? = some 148; rw [g]; rfl)) (by decide) ?_
  refine lv_iconst (v := (-1)) hx hb dX5_obey_149 (by decide) ?_
  obtain rfl := Option.some.inj hf
  exact kr_i hx hb hr hlocks rfl hP hK hD hN hS hS.2.2 dX5_obey_150
set_option maxHeartbeats 4000000 in
set_option maxRecDepth 100000 in
theorem c_X5_load {l : Launch} (hfl : l.stackTraces = false) (G : va_G) (cy : Nat → ClassId) (a_0 : Nat) (a_text : Nat) (a_text_signs : Nat) (a_window : Nat) (a_trial : Nat) (a_past : Nat) (a_past_kept : Nat) (a_firstSlot : Nat) (a_firstSlot_kept : Nat) (a_secondSlot : Nat) (a_secondSlot_kept : Nat) (a_equations : Nat) (a_looks : Nat) (sz : Nat) (s_text : TT) (g_text_signs : Nat → Int32) (s_window : WT) (s_past : PT) (s_firstSlot : Bool) (s_secondSlot : Bool) (n : Nat) (tx : TT) (htx : ∀ r, f_X3_firstError n s_text g_text_signs = some r → tx = r.2) (R : Nat ⊕ (Int32 × TT × WT × PT × Bool × Bool)) (hf : f_X5_load n s_text g_text_signs s_window s_past s_firstSlot s_secondSlot = some R) : vx_Met l yX5_load wsX5_load ({ frames := 7, cells := 1, slots := 6, locals := 141 } : Room) (va_Pc [.ref a_0] (pcX G cy [(a_0, fv a_text a_window a_trial a_past a_firstSlot a_secondSlot a_equations a_looks), (a_text, tv a_text_signs s_text), (a_text_signs, av_C cy 120 g_text_signs), (a_window, wv s_window), (a_past, pv a_past_kept s_past), (a_firstSlot, sv a_firstSlot_kept s_firstSlot), (a_secondSlot, sv a_secondSlot_kept s_secondSlot)] sz)) (va_Qi (fun r (u : Int32 × TT × WT × PT × Bool × Bool) => R = .inr u ∧ r = u.1) (fun u t => Wd G cy (va_A [(a_0, fv a_text a_window a_trial a_past a_firstSlot a_secondSlot a_equations a_looks), (a_text, tv a_text_signs s_text), (a_text_signs, av_C cy 120 g_text_signs), (a_window, wv s_window), (a_past, pv a_past_kept s_past), (a_firstSlot, sv a_firstSlot_kept s_firstSlot), (a_secondSlot, sv a_secondSlot_kept s_secondSlot)] sz) [(a_0, fv a_text a_window a_trial a_past a_firstSlot a_secondSlot a_equations a_looks), (a_text, tv a_text_signs u.2.1), (a_text_signs, av_C cy 120 g_text_signs), (a_window, wv u.2.2.1), (a_past, pv a_past_kept u.2.2.2.1), (a_firstSlot, sv a_firstSlot_kept u.2.2.2.2.1), (a_secondSlot, sv a_secondSlot_kept u.2.2.2.2.2)] t) (va_A [(a_0, fv a_text a_window a_trial a_past a_firstSlot a_secondSlot a_equations a_looks), (a_text, tv a_text_signs s_text), (a_text_signs, av_C cy 120 g_text_signs), (a_window, wv s_window), (a_past, pv a_past_kept s_past), (a_firstSlot, sv a_firstSlot_kept s_firstSlot), (a_secondSlot, sv a_secondSlot_kept s_secondSlot)] sz)) (vx_X (fun u : Nat => R = .inl u) (fun E u t => E = exN u ∧ va_P G vwCl [(a_0, fv a_text a_window a_trial a_past a_firstSlot a_secondSlot a_equations a_looks), (a_text, tv a_text_signs tx), (a_text_signs, av_C cy 120 g_text_signs), (a_window, wv s_window), (a_past, pv a_past_kept s_past), (a_firstSlot, sv a_firstSlot_kept s_firstSlot), (a_secondSlot, sv a_secondSlot_kept s_secondSlot)] t.heap ∧ va_D (va_A [(a_0, fv a_text a_window a_trial a_past a_firstSlot a_secondSlot a_equations a_looks), (a_text, tv a_text_signs s_text), (a_text_signs, av_C cy 120 g_text_signs), (a_window, wv s_window), (a_past, pv a_past_kept s_past), (a_firstSlot, sv a_firstSlot_kept s_firstSlot), (a_secondSlot, sv a_secondSlot_kept s_secondSlot)] sz) [(a_0, fv a_text a_window a_trial a_past a_firstSlot a_secondSlot a_equations a_looks), (a_text, tv a_text_signs tx), (a_text_signs, av_C cy 120 g_text_signs), (a_window, wv s_window), (a_past, pv a_past_kept s_past), (a_firstSlot, sv a_firstSlot_kept s_firstSlot), (a_secondSlot, sv a_secondSlot_kept s_secondSlot)]) (va_A [(a_0, fv a_text a_window a_trial a_past a_firstSlot a_secondSlot a_equations a_looks), (a_text, tv a_text_signs s_text), (a_text_signs, av_C cy 120 g_text_signs), (a_window, wv s_window), (a_past, pv a_past_kept s_past), (a_firstSlot, sv a_firstSlot_kept s_firstSlot), (a_secondSlot, sv a_secondSlot_kept s_secondSlot)] sz)) 1 6 (va_A [(a_0, fv a_text a_window a_trial a_past a_firstSlot a_secondSlot a_equations a_looks), (a_text, tv a_text_signs s_text), (a_text_signs, av_C cy 120 g_text_signs), (a_window, wv s_window), (a_past, pv a_past_kept s_past), (a_firstSlot, sv a_firstSlot_kept s_firstSlot), (a_secondSlot, sv a_secondSlot_kept s_secondSlot)] sz) := by
  refine vx_ofW (cc := cX5_load) (maxL := 3) (ret := (some .int)) (by decide) rfl ?_
  intro p e s m args below meth c s₁ B hml hnt hv
  obtain ⟨rfl, ⟨hsz, hP, hK, hD0, hN⟩, hE⟩ := hv
  have hx := B.exec
  have hb := B.bytes
  have hr := B.returns
  have hts := atoms_spec (ws := wsX5_load) B.pre
  have hown : s.vm.findClass RX5 = some m.cls := findClass_of_methodNamed B.named
  have hlocks := B.notSynchronized
  subst hsz
  have hD := hD0.self (sz := s.heap.size)
  generalize hAe : va_A [(a_0, fv a_text a_window a_trial a_past a_firstSlot a_secondSlot a_equations a_looks), (a_text, tv a_text_signs s_text), (a_text_signs, av_C cy 120 g_text_signs), (a_window, wv s_window), (a_past, pv a_past_kept s_past), (a_firstSlot, sv a_firstSlot_kept s_firstSlot), (a_secondSlot, sv a_secondSlot_kept s_secondSlot)] s.heap.size = A at hD hE ⊢
  have hA : ∀ q : Nat, s.heap.size ≤ q → A q := fun q h => by rw [← hAe]; exact Or.inr h
  have hS : va_S A s.heap s.heap [] := va_S.rf
  have hP : va_P G vwCl [(a_0, fv a_text a_window a_trial a_past a_firstSlot a_secondSlot a_equations a_looks), (a_text, tv a_text_signs s_text), (a_text_signs, av_C cy 120 g_text_signs), (a_window, wv s_window), (a_past, pv a_past_kept s_past), (a_firstSlot, sv a_firstSlot_kept s_firstSlot), (a_secondSlot, sv a_secondSlot_kept s_secondSlot)] s.heap := hP
  have bl_75 : ∀ (k : Nat), ∀ (c_s_text : TT) (c_s_window : WT) (c_s_past : PT) (c_s_firstSlot : Bool) (c_s_secondSlot : Bool) (y1 : Int32) (y2 : Int32) (H : Heap) (locs : List Loc), f_X5_load_b75 n g_text_signs k c_s_text c_s_window c_s_past c_s_firstSlot c_s_secondSlot y1 y2 = some R → va_P G vwCl [(a_0, fv a_text a_window a_trial a_past a_firstSlot a_secondSlot a_equations a_looks), (a_text, tv a_text_signs c_s_text), (a_text_signs, av_C cy 120 g_text_signs), (a_window, wv c_s_window), (a_past, pv a_past_kept c_s_past), (a_firstSlot, sv a_firstSlot_kept c_s_firstSlot), (a_secondSlot, sv a_secondSlot_kept c_s_secondSlot)] H → va_D A [(a_0, fv a_text a_window a_trial a_past a_firstSlot a_secondSlot a_equations a_looks), (a_text, tv a_text_signs c_s_text), (a_text_signs, av_C cy 120 g_text_signs), (a_window, wv c_s_window), (a_past, pv a_past_kept c_s_past), (a_firstSlot, sv a_firstSlot_kept c_s_firstSlot), (a_secondSlot, sv a_secondSlot_kept c_s_secondSlot)] → va_S A s.heap H locs → ∀ (ls : Array Slot), lv_has ls 3 [(0, .ref a_0), (1, .int y1), (2, .int y2)] → W p l e ({ frames := 7, cells := 1, slots := 6, locals := 141 } : Room) s m [.ref a_0].toArray below meth c H locs 1 6 (vx_MQ below (va_Qi (fun r (u : Int32 × TT × WT × PT × Bool × Bool) => R = .inr u ∧ r = u.1) (fun u t => Wd G cy A [(a_0, fv a_text a_window a_trial a_past a_firstSlot a_secondSlot a_equations a_looks), (a_text, tv a_text_signs u.2.1), (a_text_signs, av_C cy 120 g_text_signs), (a_window, wv u.2.2.1), (a_past, pv a_past_kept u.2.2.2.1), (a_firstSlot, sv a_firstSlot_kept u.2.2.2.2.1), (a_secondSlot, sv a_secondSlot_kept u.2.2.2.2.2)] t) A) (vx_X (fun u : Nat => R = .inl u) (fun E u t => E = exN u ∧ va_P G vwCl [(a_0, fv a_text a_window a_trial a_past a_firstSlot a_secondSlot a_equations a_looks), (a_text, tv a_text_signs tx), (a_text_signs, av_C cy 120 g_text_signs), (a_window, wv s_window), (a_past, pv a_past_kept s_past), (a_firstSlot, sv a_firstSlot_kept s_firstSlot), (a_secondSlot, sv a_secondSlot_kept s_secondSlot)] t.heap ∧ va_D A [(a_0, fv a_text a_window a_trial a_past a_firstSlot a_secondSlot a_equations a_looks), (a_text, tv a_text_signs tx), (a_text_signs, av_C cy 120 g_text_signs), (a_window, wv s_window), (a_past, pv a_past_kept s_past), (a_firstSlot, sv a_firstSlot_kept s_firstSlot), (a_secondSlot, sv a_secondSlot_kept s_secondSlot)]) A) [.ref a_0].toArray s 1 6 A) (F0 m 75 ls []) := by
    intro k
    induction k with
    | zero =>
      intro c_s_text c_s_window c_s_past c_s_firstSlot c_s_secondSlot y1 y2 H locs hf; cases hf
    | succ k ih =>
      intro c_s_text c_s_window c_s_past c_s_firstSlot c_s_secondSlot y1 y2 H locs hf hP hD hS ls hl
      have hf := (f_X5_load_b75_s n g_text_signs k c_s_text c_s_window c_s_past c_s_firstSlot c_s_secondSlot y1 y2).symm.trans hf
      refine lv_iload_n hx hb dX5_load_75 rfl (lv_at hl 2 rfl) ?_
      refine lv_bipush (v := 120) hx hb dX5_load_76 (by decide) ?_
      refine lv_icmp_ge (tgt := 129) hx hb dX5_load_78 (by decide) (fun h_1 => ?_) (fun h_1 => ?_)
      · have hf := ip_ h_1 hf
        refine lv_iload_n hx hb dX5_load_129 rfl (lv_at hl 1 rfl) ?_
        exact kr_iX (u := (y1, c_s_text, c_s_window, c_s_past, c_s_firstSlot, c_s_secondSlot)) hx hb hr hlocks ((Option.some.inj hf).symm) hP hK hD hN hS hS.2.2 dX5_load_130
      · have hf := in_ h_1 hf
        refine lv_aload_n hx hb dX5_load_81 rfl (lv_at hl 0 rfl) ?_
        refine va_get (D := G) (ci := 5) (v := .ref a_text) (C := RX5) (T := TX5) (N := 8) hx hb hts iw_X5_load_X5 hown hK hP 0 rfl rfl 0 (by decide) (hts (.fieldLink RX5 10 "PaneFrost" "text" "LPaneFrost$Text;") (by decide +kernel)) (fun _ h9 => h9) rfl dX5_load_82 ?_
        obtain ⟨r_2, hh_r_2, hf⟩ := obd_some hf
        refine kc_i (w1 := [(a_text, tv a_text_signs r_2.2), (a_text_signs, av_C cy 120 g_text_signs)]) (wr := [(a_0, fv a_text a_window a_trial a_past a_firstSlot a_secondSlot a_equations a_looks), (a_window, wv c_s_window), (a_past, pv a_past_kept c_s_past), (a_firstSlot, sv a_firstSlot_kept c_s_firstSlot), (a_secondSlot, sv a_secondSlot_kept c_s_secondSlot)]) hP hD hS hA [1, 2] [0, 3, 4, 5, 6] rfl rfl rfl (by decide) (va_runV (As := []) (rest := []) ⟨hx, hb, hml, hown, hts⟩ (c_X3_readCommand (l := l) G cy a_text a_text_signs H.size c_s_text g_text_signs n r_2 hh_r_2) (cwV 0 hts gX5_load_X3_readCommand rfl rfl rfl ddV_X3_readCommand ⟨Nat.le_of_ble_eq_true rfl, Nat.le_of_ble_eq_true rfl⟩) (preV_ (ci := 3) (q0 := 0) rfl rfl (hP.sub (ws' := [(a_text, tv a_text_signs c_s_text), (a_text_signs, av_C cy 120 g_text_signs)]) [1, 2] rfl) hK (hD.sub (ws' := [(a_text, tv a_text_signs c_s_text), (a_text_signs, av_C cy 120 g_text_signs)]) [1, 2] rfl rfl) hN) rfl rfl hl.1 rfl (lv_room (Nat.le_of_ble_eq_true rfl)) dX5_load_85 ⟨Nat.le_of_ble_eq_true rfl, Nat.le_of_ble_eq_true rfl⟩) (fun H locs hP hD hS => ?_)
        have hP : va_P G vwCl [(a_0, fv a_text a_window a_trial a_past a_firstSlot a_secondSlot a_equations a_looks), (a_window, wv c_s_window), (a_past, pv a_past_kept c_s_past), (a_firstSlot, sv a_firstSlot_kept c_s_firstSlot), (a_secondSlot, sv a_secondSlot_kept c_s_secondSlot), (a_text, tv a_text_signs r_2.2), (a_text_signs, av_C cy 120 g_text_signs)] H := hP
        have hD : va_D A [(a_0, fv a_text a_window a_trial a_past a_firstSlot a_secondSlot a_equations a_looks), (a_window, wv c_s_window), (a_past, pv a_past_kept c_s_past), (a_firstSlot, sv a_firstSlot_kept c_s_firstSlot), (a_secondSlot, sv a_secondSlot_kept c_s_secondSlot), (a_text, tv a_text_signs r_2.2), (a_text_signs, av_C cy 120 g_text_signs)] := hD
        refine lv_if_eq (tgt := 129) hx hb dX5_load_88 (by decide) (fun h_3 => ?_) (fun h_3 => ?_)
        · have hf := in_ (bI_0 h_3) hf
          refine lv_iload_n hx hb dX5_load_129 rfl (lv_at hl 1 rfl) ?_
          exact kr_iX (u := (y1, r_2.2, c_s_window, c_s_past, c_s_firstSlot, c_s_secondSlot)) hx hb hr hlocks ((Option.some.inj hf).symm) (hP.sub (ws' := [(a_0, fv a_text a_window a_trial a_past a_firstSlot a_secondSlot a_equations a_looks), (a_text, tv a_text_signs r_2.2), (a_text_signs, av_C cy 120 g_text_signs), (a_window, wv c_s_window), (a_past, pv a_past_kept c_s_past), (a_firstSlot, sv a_firstSlot_kept c_s_firstSlot), (a_secondSlot, sv a_secondSlot_kept c_s_secondSlot)]) [0, 5, 6, 1, 2, 3, 4] rfl) hK (hD.sub (ws' := [(a_0, fv a_text a_window a_trial a_past a_firstSlot a_secondSlot a_equations a_looks), (a_text, tv a_text_signs r_2.2), (a_text_signs, av_C cy 120 g_text_signs), (a_window, wv c_s_window), (a_past, pv a_past_kept c_s_past), (a_firstSlot, sv a_firstSlot_kept c_s_firstSlot), (a_secondSlot, sv a_secondSlot_kept c_s_secondSlot)]) [0, 5, 6, 1, 2, 3, 4] rfl rfl) hN hS hS.2.2 dX5_load_130
        · have hf := ip_ (bI_n0 h_3) hf
          refine lv_aload_n hx hb dX5_load_91 rfl (lv_at hl 0 rfl) ?_
          refine lv_aload_n hx hb dX5_load_92 rfl (lv_at hl 0 rfl) ?_
          refine va_get (D := G) (ci := 5) (v := .ref a_text) (C := RX5) (T := TX5) (N := 8) hx hb hts iw_X5_load_X5 hown hK hP 0 rfl rfl 0 (by decide) (hts (.fieldLink RX5 10 "PaneFrost" "text" "LPaneFrost$Text;") (by decide +kernel)) (fun _ h9 => h9) rfl dX5_load_93 ?_
          refine va_get (D := G) (ci := 3) (v := .int (t_letter r_2.2)) (C := RX3) (T := TX3) (N := 6) hx hb hts iw_X5_load_X3 hown hK hP 5 rfl rfl 0 (by decide) (hts (.fieldLink RX5 104 "PaneFrost$Text" "letter" "C") (by decide +kernel)) (fun _ h9 => h9) rfl dX5_load_96 ?_
          refine lv_aload_n hx hb dX5_load_99 rfl (lv_at hl 0 rfl) ?_
          refine va_get (D := G) (ci := 5) (v := .ref a_text) (C := RX5) (T := TX5) (N := 8) hx hb hts iw_X5_load_X5 hown hK hP 0 rfl rfl 0 (by decide) (hts (.fieldLink RX5 10 "PaneFrost" "text" "LPaneFrost$Text;") (by decide +kernel)) (fun _ h9 => h9) rfl dX5_load_100 ?_
          refine va_get (D := G) (ci := 3) (v := .int (t_first r_2.2)) (C := RX3) (T := TX3) (N := 6) hx hb hts iw_X5_load_X3 hown hK hP 5 rfl rfl 1 (by decide) (hts (.fieldLink RX5 90 "PaneFrost$Text" "first" "I") (by decide +kernel)) (fun _ h9 => h9) rfl dX5_load_103 ?_
          refine lv_aload_n hx hb dX5_load_106 rfl (lv_at hl 0 rfl) ?_
          refine va_get (D := G) (ci := 5) (v := .ref a_text) (C := RX5) (T := TX5) (N := 8) hx hb hts iw_X5_load_X5 hown hK hP 0 rfl rfl 0 (by decide) (hts (.fieldLink RX5 10 "PaneFrost" "text" "LPaneFrost$Text;") (by decide +kernel)) (fun _ h9 => h9) rfl dX5_load_107 ?_
          refine va_get (D := G) (ci := 3) (v := .int (t_second r_2.2)) (C := RX3) (T := TX3) (N := 6) hx hb hts iw_X5_load_X3 hown hK hP 5 rfl rfl 2 (by decide) (hts (.fieldLink RX5 94 "PaneFrost$Text" "second" "I") (by decide +kernel)) (fun _ h9 => h9) rfl dX5_load_110 ?_
          obtain ⟨r_4, hh_r_4, hf⟩ := obd_some hf
          refine kc_i (w1 := [(a_0, fv a_text a_window a_trial a_past a_firstSlot a_secondSlot a_equations a_looks), (a_window, wv r_4.2)]) (wr := [(a_past, pv a_past_kept c_s_past), (a_firstSlot, sv a_firstSlot_kept c_s_firstSlot), (a_secondSlot, sv a_secondSlot_kept c_s_secondSlot), (a_text, tv a_text_signs r_2.2), (a_text_signs, av_C cy 120 g_text_signs)]) hP hD hS hA [0, 1] [2, 3, 4, 5, 6] rfl rfl rfl (by decide) (va_runV (As := [.int (t_letter r_2.2), .int (t_first r_2.2), .int (t_second r_2.2)]) (rest := []) ⟨hx, hb, hml, hown, hts⟩ (c_X5_obey (l := l) G cy a_0 a_text a_window a_trial a_past a_firstSlot a_secondSlot a_equations a_looks H.size c_s_window (t_letter r_2.2) (t_first r_2.2) (t_second r_2.2) n r_4 hh_r_4) (cwV 3 hts gX5_load_X5_obey rfl rfl rfl ddV_X5_obey ⟨Nat.le_of_ble_eq_true rfl, Nat.le_of_ble_eq_true rfl⟩) (preV_ (ci := 5) (q0 := 0) rfl rfl (hP.sub (ws' := [(a_0, fv a_text a_window a_trial a_past a_firstSlot a_secondSlot a_equations a_looks), (a_window, wv c_s_window)]) [0, 1] rfl) hK (hD.sub (ws' := [(a_0, fv a_text a_window a_trial a_past a_firstSlot a_secondSlot a_equations a_looks), (a_window, wv c_s_window)]) [0, 1] rfl rfl) hN) rfl rfl hl.1 rfl (lv_room (Nat.le_of_ble_eq_true rfl)) dX5_load_113 ⟨Nat.le_of_ble_eq_true rfl, Nat.le_of_ble_eq_true rfl⟩) (fun H locs hP hD hS => ?_)
          have hP : va_P G vwCl [(a_past, pv a_past_kept c_s_past), (a_firstSlot, sv a_firstSlot_kept c_s_firstSlot), (a_secondSlot, sv a_secondSlot_kept c_s_secondSlot), (a_text, tv a_text_signs r_2.2), (a_text_signs, av_C cy 120 g_text_signs), (a_0, fv a_text a_window a_trial a_past a_firstSlot a_secondSlot a_equations a_looks), (a_window, wv r_4.2)] H := hP
          have hD : va_D A [(a_past, pv a_past_kept c_s_past), (a_firstSlot, sv a_firstSlot_kept c_s_firstSlot), (a_secondSlot, sv a_secondSlot_kept c_s_secondSlot), (a_text, tv a_text_signs r_2.2), (a_text_signs, av_C cy 120 g_text_signs), (a_0, fv a_text a_window a_trial a_past a_firstSlot a_secondSlot a_equations a_looks), (a_window, wv r_4.2)] := hD
          refine lv_iconst (v := (-1)) hx hb dX5_load_116 (by decide) ?_
          refine lv_icmp_ne (tgt := 123) hx hb dX5_load_117 (by decide) (fun h_5 => ?_) (fun h_5 => ?_)
          · have hf := in_ h_5 hf
            refine lv_iinc (v := (y2 + 1)) (lv' := [(2, .int (y2 + 1)), (0, .ref a_0), (1, .int y1)]) hx hb dX5_load_123 hl (k := 2) rfl rfl (by decide) rfl (fun ls hl => ?_)
            refine lv_goto (tgt := 75) hx hb dX5_load_126 (by decide) ?_
            exact ih r_2.2 r_4.2 c_s_past c_s_firstSlot c_s_secondSlot y1 (y2 + 1) _ _ hf (hP.sub (ws' := [(a_0, fv a_text a_window a_trial a_past a_firstSlot a_secondSlot a_equations a_looks), (a_text, tv a_text_signs r_2.2), (a_text_signs, av_C cy 120 g_text_signs), (a_window, wv r_4.2), (a_past, pv a_past_kept c_s_past), (a_firstSlot, sv a_firstSlot_kept c_s_firstSlot), (a_secondSlot, sv a_secondSlot_kept c_s_secondSlot)]) [5, 3, 4, 6, 0, 1, 2] rfl) (hD.sub (ws' := [(a_0, fv a_text a_window a_trial a_past a_firstSlot a_secondSlot a_equations a_looks), (a_text, tv a_text_signs r_2.2), (a_text_signs, av_C cy 120 g_text_signs), (a_window, wv r_4.2), (a_past, pv a_past_kept c_s_past), (a_firstSlot, sv a_firstSlot_kept c_s_firstSlot), (a_secondSlot, sv a_secondSlot_kept c_s_secondSlot)]) [5, 3, 4, 6, 0, 1, 2] rfl rfl) hS ls (lv_sub hl [1, 2, 0] rfl)
          · have hf := ip_ h_5 hf
            refine lv_iinc (v := (y1 + 1)) (lv' := [(1, .int (y1 + 1)), (0, .ref a_0), (2, .int y2)]) hx hb dX5_load_120 hl (k := 1) rfl rfl (by decide) rfl (fun ls hl => ?_)
            refine lv_iinc (v := (y2 + 1)) (lv' := [(2, .int (y2 + 1)), (1, .int (y1 + 1)), (0, .ref a_0)]) hx hb dX5_load_123 hl (k := 2) rfl rfl (by decide) rfl (fun ls hl => ?_)
            refine lv_goto (tgt := 75) hx hb dX5_load_126 (by decide) ?_
            exact ih r_2.2 r_4.2 c_s_past c_s_firstSlot c_s_secondSlot (y1 + 1) (y2 + 1) _ _ hf (hP.sub (ws' := [(a_0, fv a_text a_window a_trial a_past a_firstSlot a_secondSlot a_equations a_looks), (a_text, tv a_text_signs r_2.2), (a_text_signs, av_C cy 120 g_text_signs), (a_window, wv r_4.2), (a_past, pv a_past_kept c_s_past), (a_firstSlot, sv a_firstSlot_kept c_s_firstSlot), (a_secondSlot, sv a_secondSlot_kept c_s_secondSlot)]) [5, 3, 4, 6, 0, 1, 2] rfl) (hD.sub (ws' := [(a_0, fv a_text a_window a_trial a_past a_firstSlot a_secondSlot a_equations a_looks), (a_text, tv a_text_signs r_2.2), (a_text_signs, av_C cy 120 g_text_signs), (a_window, wv r_4.2), (a_past, pv a_past_kept c_s_past), (a_firstSlot, sv a_firstSlot_kept c_s_firstSlot), (a_secondSlot, sv a_secondSlot_kept c_s_secondSlot)]) [5, 3, 4, 6, 0, 1, 2] rfl rfl) hS ls (lv_sub hl [2, 1, 0] rfl)
  have hl := lv_entry [.ref a_0] (n := 3) (Nat.le_of_ble_eq_true rfl)
  rw [lg_entry_eq]
  generalize (lg_sl [.ref a_0] ++ List.replicate (3 - (lg_sl [.ref a_0]).length) Slot.unset).toArray = ls at hl ⊢
  have hl : lv_has ls 3 [(0, .ref a_0)] := hl
  unfold f_X5_load at hf
  refine lv_aload_n hx hb dX5_load_0 rfl (lv_at hl 0 rfl) ?_
  refine va_get (D := G) (ci := 5) (v := .ref a_text) (C := RX5) (T := TX5) (N := 8) hx hb hts iw_X5_load_X5 hown hK hP 0 rfl rfl 0 (by decide) (hts (.fieldLink RX5 10 "PaneFrost" "text" "LPaneFrost$Text;") (by decide +kernel)) (fun _ h9 => h9) rfl dX5_load_1 ?_
  obtain ⟨r_6, hh_r_6, hf⟩ := obd_some hf
  refine kc_i (w1 := [(a_text, tv a_text_signs r_6.2), (a_text_signs, av_C cy 120 g_text_signs)]) (wr := [(a_0, fv a_text a_window a_trial a_past a_firstSlot a_secondSlot a_equations a_looks), (a_window, wv s_window), (a_past, pv a_past_kept s_past), (a_firstSlot, sv a_firstSlot_kept s_firstSlot), (a_secondSlot, sv a_secondSlot_kept s_secondSlot)]) hP hD hS hA [1, 2] [0, 3, 4, 5, 6] rfl rfl rfl (by decide) (va_runV (As := []) (rest := []) ⟨hx, hb, hml, hown, hts⟩ (c_X3_firstError (l := l) G cy a_text a_text_signs s.heap.size s_text g_text_signs n r_6 hh_r_6) (cwV 0 hts gX5_load_X3_firstError rfl rfl rfl ddV_X3_firstError ⟨Nat.le_of_ble_eq_true rfl, Nat.le_of_ble_eq_true rfl⟩) (preV_ (ci := 3) (q0 := 0) rfl rfl (hP.sub (ws' := [(a_text, tv a_text_signs s_text), (a_text_signs, av_C cy 120 g_text_signs)]) [1, 2] rfl) hK (hD.sub (ws' := [(a_text, tv a_text_signs s_text), (a_text_signs, av_C cy 120 g_text_signs)]) [1, 2] rfl rfl) hN) rfl rfl hl.1 rfl (lv_room (Nat.le_of_ble_eq_true rfl)) dX5_load_4 ⟨Nat.le_of_ble_eq_true rfl, Nat.le_of_ble_eq_true rfl⟩) (fun H locs hP hD hS => ?_)
  have hP : va_P G vwCl [(a_0, fv a_text a_window a_trial a_past a_firstSlot a_secondSlot a_equations a_looks), (a_window, wv s_window), (a_past, pv a_past_kept s_past), (a_firstSlot, sv a_firstSlot_kept s_firstSlot), (a_secondSlot, sv a_secondSlot_kept s_secondSlot), (a_text, tv a_text_signs r_6.2), (a_text_signs, av_C cy 120 g_text_signs)] H := hP
  have hD : va_D A [(a_0, fv a_text a_window a_trial a_past a_firstSlot a_secondSlot a_equations a_looks), (a_window, wv s_window), (a_past, pv a_past_kept s_past), (a_firstSlot, sv a_firstSlot_kept s_firstSlot), (a_secondSlot, sv a_secondSlot_kept s_secondSlot), (a_text, tv a_text_signs r_6.2), (a_text_signs, av_C cy 120 g_text_signs)] := hD
  refine lv_iconst (v := (-1)) hx hb dX5_load_7 (by decide) ?_
  refine lv_icmp_eq (tgt := 21) hx hb dX5_load_8 (by decide) (fun h_7 => ?_) (fun h_7 => ?_)
  · have hf := ip_ h_7 hf
    refine lv_aload_n hx hb dX5_load_21 rfl (lv_at hl 0 rfl) ?_
    refine va_get (D := G) (ci := 5) (v := .ref a_past) (C := RX5) (T := TX5) (N := 8) hx hb hts iw_X5_load_X5 hown hK hP 0 rfl rfl 3 (by decide) (hts (.fieldLink RX5 29 "PaneFrost" "past" "LPaneFrost$Past;") (by decide +kernel)) (fun _ h9 => h9) rfl dX5_load_22 ?_
    refine kc_v (w1 := [(a_past, pv a_past_kept (f_X1_forget s_past))]) (wr := [(a_0, fv a_text a_window a_trial a_past a_firstSlot a_secondSlot a_equations a_looks), (a_window, wv s_window), (a_firstSlot, sv a_firstSlot_kept s_firstSlot), (a_secondSlot, sv a_secondSlot_kept s_secondSlot), (a_text, tv a_text_signs r_6.2), (a_text_signs, av_C cy 120 g_text_signs)]) hP hD hS hA [2] [0, 1, 3, 4, 5, 6] rfl rfl rfl (by decide) (va_runV (As := []) (rest := []) ⟨hx, hb, hml, hown, hts⟩ (c_X1_forget (l := l) G cy a_past a_past_kept H.size s_past  (f_X1_forget s_past) rfl) (cwV 0 hts gX5_load_X1_forget rfl rfl rfl ddV_X1_forget ⟨Nat.le_of_ble_eq_true rfl, Nat.le_of_ble_eq_true rfl⟩) (preV_ (ci := 1) (q0 := 0) rfl rfl (hP.sub (ws' := [(a_past, pv a_past_kept s_past)]) [2] rfl) hK (hD.sub (ws' := [(a_past, pv a_past_kept s_past)]) [2] rfl rfl) hN) rfl rfl hl.1 rfl (lv_room (Nat.le_of_ble_eq_true rfl)) dX5_load_25 ⟨Nat.le_of_ble_eq_true rfl, Nat.le_of_ble_eq_true rfl⟩) (fun H locs hP hD hS => ?_)
    have hP : va_P G vwCl [(a_0, fv a_text a_window a_trial a_past a_firstSlot a_secondSlot a_equations a_looks), (a_window, wv s_window), (a_firstSlot, sv a_firstSlot_kept s_firstSlot), (a_secondSlot, sv a_secondSlot_kept s_secondSlot), (a_text, tv a_text_signs r_6.2), (a_text_signs, av_C cy 120 g_text_signs), (a_past, pv a_past_kept (f_X1_forget s_past))] H := hP
    have hD : va_D A [(a_0, fv a_text a_window a_trial a_past a_firstSlot a_secondSlot a_equations a_looks), (a_window, wv s_window), (a_firstSlot, sv a_firstSlot_kept s_firstSlot), (a_secondSlot, sv a_secondSlot_kept s_secondSlot), (a_text, tv a_text_signs r_6.2), (a_text_signs, av_C cy 120 g_text_signs), (a_past, pv a_past_kept (f_X1_forget s_past))] := hD
    refine lv_aload_n hx hb dX5_load_28 rfl (lv_at hl 0 rfl) ?_
    refine va_get (D := G) (ci := 5) (v := .ref a_firstSlot) (C := RX5) (T := TX5) (N := 8) hx hb hts iw_X5_load_X5 hown hK hP 0 rfl rfl 4 (by decide) (hts (.fieldLink RX5 36 "PaneFrost" "firstSlot" "LPaneFrost$Slot;") (by decide +kernel)) (fun _ h9 => h9) rfl dX5_load_29 ?_
    refine kc_v (w1 := [(a_firstSlot, sv a_firstSlot_kept (f_X2_empty s_firstSlot))]) (wr := [(a_0, fv a_text a_window a_trial a_past a_firstSlot a_secondSlot a_equations a_looks), (a_window, wv s_window), (a_secondSlot, sv a_secondSlot_kept s_secondSlot), (a_text, tv a_text_signs r_6.2), (a_text_signs, av_C cy 120 g_text_signs), (a_past, pv a_past_kept (f_X1_forget s_past))]) hP hD hS hA [2] [0, 1, 3, 4, 5, 6] rfl rfl rfl (by decide) (va_runV (As := []) (rest := []) ⟨hx, hb, hml, hown, hts⟩ (c_X2_empty (l := l) G cy a_firstSlot a_firstSlot_kept H.size s_firstSlot  (f_X2_empty s_firstSlot) rfl) (cwV 0 hts gX5_load_X2_empty rfl rfl rfl ddV_X2_empty ⟨Nat.le_of_ble_eq_true rfl, Nat.le_of_ble_eq_true rfl⟩) (preV_ (ci := 2) (q0 := 0) rfl rfl (hP.sub (ws' := [(a_firstSlot, sv a_firstSlot_kept s_firstSlot)]) [2] rfl) hK (hD.sub (ws' := [(a_firstSlot, sv a_firstSlot_kept s_firstSlot)]) [2] rfl rfl) hN) rfl rfl hl.1 rfl (lv_room (Nat.le_of_ble_eq_true rfl)) dX5_load_32 ⟨Nat.le_of_ble_eq_true rfl, Nat.le_of_ble_eq_true rfl⟩) (fun H locs hP hD hS => ?_)
    have hP : va_P G vwCl [(a_0, fv a_text a_window a_trial a_past a_firstSlot a_secondSlot a_equations a_looks), (a_window, wv s_window), (a_secondSlot, sv a_secondSlot_kept s_secondSlot), (a_text, tv a_text_signs r_6.2), (a_text_signs, av_C cy 120 g_text_signs), (a_past, pv a_past_kept (f_X1_forget s_past)), (a_firstSlot, sv a_firstSlot_kept (f_X2_empty s_firstSlot))] H := hP
    have hD : va_D A [(a_0, fv a_text a_window a_trial a_past a_firstSlot a_secondSlot a_equations a_looks), (a_window, wv s_window), (a_secondSlot, sv a_secondSlot_kept s_secondSlot), (a_text, tv a_text_signs r_6.2), (a_text_signs, av_C cy 120 g_text_signs), (a_past, pv a_past_kept (f_X1_forget s_past)), (a_firstSlot, sv a_firstSlot_kept (f_X2_empty s_firstSlot))] := hD
    refine lv_aload_n hx hb dX5_load_35 rfl (lv_at hl 0 rfl) ?_
    refine va_get (D := G) (ci := 5) (v := .ref a_secondSlot) (C := RX5) (T := TX5) (N := 8) hx hb hts iw_X5_load_X5 hown hK hP 0 rfl rfl 5 (by decide) (hts (.fieldLink RX5 40 "PaneFrost" "secondSlot" "LPaneFrost$Slot;") (by decide +kernel)) (fun _ h9 => h9) rfl dX5_load_36 ?_
    refine kc_v (w1 := [(a_secondSlot, sv a_secondSlot_kept (f_X2_empty s_secondSlot))]) (wr := [(a_0, fv a_text a_window a_trial a_past a_firstSlot a_secondSlot a_equations a_looks), (a_window, wv s_window), (a_text, tv a_text_signs r_6.2), (a_text_signs, av_C cy 120 g_text_signs), (a_past, pv a_past_kept (f_X1_forget s_past)), (a_firstSlot, sv a_firstSlot_kept (f_X2_empty s_firstSlot))]) hP hD hS hA [2] [0, 1, 3, 4, 5, 6] rfl rfl rfl (by decide) (va_runV (As := []) (rest := []) ⟨hx, hb, hml, hown, hts⟩ (c_X2_empty (l := l) G cy a_secondSlot a_secondSlot_kept H.size s_secondSlot  (f_X2_empty s_secondSlot) rfl) (cwV 0 hts gX5_load_X2_empty rfl rfl rfl ddV_X2_empty ⟨Nat.le_of_ble_eq_true rfl, Nat.le_of_ble_eq_true rfl⟩) (preV_ (ci := 2) (q0 := 0) rfl rfl (hP.sub (ws' := [(a_secondSlot, sv a_secondSlot_kept s_secondSlot)]) [2] rfl) hK (hD.sub (ws' := [(a_secondSlot, sv a_secondSlot_kept s_secondSlot)]) [2] rfl rfl) hN) rfl rfl hl.1 rfl (lv_room (Nat.le_of_ble_eq_true rfl)) dX5_load_39 ⟨Nat.le_of_ble_eq_true rfl, Nat.le_of_ble_eq_true rfl⟩) (fun H locs hP hD hS => ?_)
    have hP : va_P G vwCl [(a_0, fv a_text a_window a_trial a_past a_firstSlot a_secondSlot a_equations a_looks), (a_window, wv s_window), (a_text, tv a_text_signs r_6.2), (a_text_signs, av_C cy 120 g_text_signs), (a_past, pv a_past_kept (f_X1_forget s_past)), (a_firstSlot, sv a_firstSlot_kept (f_X2_empty s_firstSlot)), (a_secondSlot, sv a_secondSlot_kept (f_X2_empty s_secondSlot))] H := hP
    have hD : va_D A [(a_0, fv a_text a_window a_trial a_past a_firstSlot a_secondSlot a_equations a_looks), (a_window, wv s_window), (a_text, tv a_text_signs r_6.2), (a_text_signs, av_C cy 120 g_text_signs), (a_past, pv a_past_kept (f_X1_forget s_past)), (a_firstSlot, sv a_firstSlot_kept (f_X2_empty s_firstSlot)), (a_secondSlot, sv a_secondSlot_kept (f_X2_empty s_secondSlot))] := hD
    refine lv_aload_n hx hb dX5_load_42 rfl (lv_at hl 0 rfl) ?_
    refine va_get (D := G) (ci := 5) (v := .ref a_text) (C := RX5) (T := TX5) (N := 8) hx hb hts iw_X5_load_X5 hown hK hP 0 rfl rfl 0 (by decide) (hts (.fieldLink RX5 10 "PaneFrost" "text" "LPaneFrost$Text;") (by decide +kernel)) (fun _ h9 => h9) rfl dX5_load_43 ?_
    obtain ⟨r_8, hh_r_8, hf⟩ := obd_some hf
    refine kc_i (w1 := [(a_text, tv a_text_signs r_8.2), (a_text_signs, av_C cy 120 g_text_signs)]) (wr := [(a_0, fv a_text a_window a_trial a_past a_firstSlot a_secondSlot a_equations a_looks), (a_window, wv s_window), (a_past, pv a_past_kept (f_X1_forget s_past)), (a_firstSlot, sv a_firstSlot_kept (f_X2_empty s_firstSlot)), (a_secondSlot, sv a_secondSlot_kept (f_X2_empty s_secondSlot))]) hP hD hS hA [2, 3] [0, 1, 4, 5, 6] rfl rfl rfl (by decide) (va_runV (As := []) (rest := []) ⟨hx, hb, hml, hown, hts⟩ (c_X3_readWindow (l := l) G cy a_text a_text_signs H.size r_6.2 g_text_signs n r_8 hh_r_8) (cwV 0 hts gX5_load_X3_readWindow rfl rfl rfl ddV_X3_readWindow ⟨Nat.le_of_ble_eq_true rfl, Nat.le_of_ble_eq_true rfl⟩) (preV_ (ci := 3) (q0 := 0) rfl rfl (hP.sub (ws' := [(a_text, tv a_text_signs r_6.2), (a_text_signs, av_C cy 120 g_text_signs)]) [2, 3] rfl) hK (hD.sub (ws' := [(a_text, tv a_text_signs r_6.2), (a_text_signs, av_C cy 120 g_text_signs)]) [2, 3] rfl rfl) hN) rfl rfl hl.1 rfl (lv_room (Nat.le_of_ble_eq_true rfl)) dX5_load_46 ⟨Nat.le_of_ble_eq_true rfl, Nat.le_of_ble_eq_true rfl⟩) (fun H locs hP hD hS => ?_)
    have hP : va_P G vwCl [(a_0, fv a_text a_window a_trial a_past a_firstSlot a_secondSlot a_equations a_looks), (a_window, wv s_window), (a_past, pv a_past_kept (f_X1_forget s_past)), (a_firstSlot, sv a_firstSlot_kept (f_X2_empty s_firstSlot)), (a_secondSlot, sv a_secondSlot_kept (f_X2_empty s_secondSlot)), (a_text, tv a_text_signs r_8.2), (a_text_signs, av_C cy 120 g_text_signs)] H := hP
    have hD : va_D A [(a_0, fv a_text a_window a_trial a_past a_firstSlot a_secondSlot a_equations a_looks), (a_window, wv s_window), (a_past, pv a_past_kept (f_X1_forget s_past)), (a_firstSlot, sv a_firstSlot_kept (f_X2_empty s_firstSlot)), (a_secondSlot, sv a_secondSlot_kept (f_X2_empty s_secondSlot)), (a_text, tv a_text_signs r_8.2), (a_text_signs, av_C cy 120 g_text_signs)] := hD
    refine lv_pop hx hb dX5_load_49 rfl ?_
    refine lv_aload_n hx hb dX5_load_50 rfl (lv_at hl 0 rfl) ?_
    refine va_get (D := G) (ci := 5) (v := .ref a_window) (C := RX5) (T := TX5) (N := 8) hx hb hts iw_X5_load_X5 hown hK hP 0 rfl rfl 1 (by decide) (hts (.fieldLink RX5 19 "PaneFrost" "window" "LPaneFrost$Window;") (by decide +kernel)) (fun _ h9 => h9) rfl dX5_load_51 ?_
    refine lv_aload_n hx hb dX5_load_54 rfl (lv_at hl 0 rfl) ?_
    refine va_get (D := G) (ci := 5) (v := .ref a_text) (C := RX5) (T := TX5) (N := 8) hx hb hts iw_X5_load_X5 hown hK hP 0 rfl rfl 0 (by decide) (hts (.fieldLink RX5 10 "PaneFrost" "text" "LPaneFrost$Text;") (by decide +kernel)) (fun _ h9 => h9) rfl dX5_load_55 ?_
    refine va_get (D := G) (ci := 3) (v := .int (t_first r_8.2)) (C := RX3) (T := TX3) (N := 6) hx hb hts iw_X5_load_X3 hown hK hP 5 rfl rfl 1 (by decide) (hts (.fieldLink RX5 90 "PaneFrost$Text" "first" "I") (by decide +kernel)) (fun _ h9 => h9) rfl dX5_load_58 ?_
    refine lv_aload_n hx hb dX5_load_61 rfl (lv_at hl 0 rfl) ?_
    refine va_get (D := G) (ci := 5) (v := .ref a_text) (C := RX5) (T := TX5) (N := 8) hx hb hts iw_X5_load_X5 hown hK hP 0 rfl rfl 0 (by decide) (hts (.fieldLink RX5 10 "PaneFrost" "text" "LPaneFrost$Text;") (by decide +kernel)) (fun _ h9 => h9) rfl dX5_load_62 ?_
    refine va_get (D := G) (ci := 3) (v := .int (t_second r_8.2)) (C := RX3) (T := TX3) (N := 6) hx hb hts iw_X5_load_X3 hown hK hP 5 rfl rfl 2 (by decide) (hts (.fieldLink RX5 94 "PaneFrost$Text" "second" "I") (by decide +kernel)) (fun _ h9 => h9) rfl dX5_load_65 ?_
    obtain ⟨r_9, hh_r_9, hf⟩ := obd_some hf
    refine kc_v (w1 := [(a_window, wv r_9)]) (wr := [(a_0, fv a_text a_window a_trial a_past a_firstSlot a_secondSlot a_equations a_looks), (a_past, pv a_past_kept (f_X1_forget s_past)), (a_firstSlot, sv a_firstSlot_kept (f_X2_empty s_firstSlot)), (a_secondSlot, sv a_secondSlot_kept (f_X2_empty s_secondSlot)), (a_text, tv a_text_signs r_8.2), (a_text_signs, av_C cy 120 g_text_signs)]) hP hD hS hA [1] [0, 2, 3, 4, 5, 6] rfl rfl rfl (by decide) (va_runV (As := [.int (t_first r_8.2), .int (t_second r_8.2)]) (rest := []) ⟨hx, hb, hml, hown, hts⟩ (c_X4_renew (l := l) G cy a_window H.size s_window (t_first r_8.2) (t_second r_8.2) n r_9 hh_r_9) (cwV 2 hts gX5_load_X4_renew rfl rfl rfl ddV_X4_renew ⟨Nat.le_of_ble_eq_true rfl, Nat.le_of_ble_eq_true rfl⟩) (preV_ (ci := 4) (q0 := 0) rfl rfl (hP.sub (ws' := [(a_window, wv s_window)]) [1] rfl) hK (hD.sub (ws' := [(a_window, wv s_window)]) [1] rfl rfl) hN) rfl rfl hl.1 rfl (lv_room (Nat.le_of_ble_eq_true rfl)) dX5_load_68 ⟨Nat.le_of_ble_eq_true rfl, Nat.le_of_ble_eq_true rfl⟩) (fun H locs hP hD hS => ?_)
    have hP : va_P G vwCl [(a_0, fv a_text a_window a_trial a_past a_firstSlot a_secondSlot a_equations a_looks), (a_past, pv a_past_kept (f_X1_forget s_past)), (a_firstSlot, sv a_firstSlot_kept (f_X2_empty s_firstSlot)), (a_secondSlot, sv a_secondSlot_kept (f_X2_empty s_secondSlot)), (a_text, tv a_text_signs r_8.2), (a_text_signs, av_C cy 120 g_text_signs), (a_window, wv r_9)] H := hP
    have hD : va_D A [(a_0, fv a_text a_window a_trial a_past a_firstSlot a_secondSlot a_equations a_looks), (a_past, pv a_past_kept (f_X1_forget s_past)), (a_firstSlot, sv a_firstSlot_kept (f_X2_empty s_firstSlot)), (a_secondSlot, sv a_secondSlot_kept (f_X2_empty s_secondSlot)), (a_text, tv a_text_signs r_8.2), (a_text_signs, av_C cy 120 g_text_signs), (a_window, wv r_9)] := hD
    refine lv_iconst (v := 0) hx hb dX5_load_71 (by decide) ?_
    refine lv_istore_n (lv' := [(1, .int 0), (0, .ref a_0)]) hx hb dX5_load_72 rfl hl (by decide) rfl (fun ls hl => ?_)
    refine lv_iconst (v := 0) hx hb dX5_load_73 (by decide) ?_
    refine lv_istore_n (lv' := [(2, .int 0), (1, .int 0), (0, .ref a_0)]) hx hb dX5_load_74 rfl hl (by decide) rfl (fun ls hl => ?_)
    refine W.widen (k := 1) (n := 6) (Nat.le_of_ble_eq_true rfl) (Nat.le_of_ble_eq_true rfl) ?_
    exact bl_75 n r_8.2 r_9 (f_X1_forget s_past) (f_X2_empty s_firstSlot) (f_X2_empty s_secondSlot) 0 0 _ _ hf (hP.sub (ws' := [(a_0, fv a_text a_window a_trial a_past a_firstSlot a_secondSlot a_equations a_looks), (a_text, tv a_text_signs r_8.2), (a_text_signs, av_C cy 120 g_text_signs), (a_window, wv r_9), (a_past, pv a_past_kept (f_X1_forget s_past)), (a_firstSlot, sv a_firstSlot_kept (f_X2_empty s_firstSlot)), (a_secondSlot, sv a_secondSlot_kept (f_X2_empty s_secondSlot))]) [0, 4, 5, 6, 1, 2, 3] rfl) (hD.sub (ws' := [(a_0, fv a_text a_window a_trial a_past a_firstSlot a_secondSlot a_equations a_looks), (a_text, tv a_text_signs r_8.2), (a_text_signs, av_C cy 120 g_text_signs), (a_window, wv r_9), (a_past, pv a_past_kept (f_X1_forget s_past)), (a_firstSlot, sv a_firstSlot_kept (f_X2_empty s_firstSlot)), (a_secondSlot, sv a_secondSlot_kept (f_X2_empty s_secondSlot))]) [0, 4, 5, 6, 1, 2, 3] rfl rfl) hS ls (lv_sub hl [2, 1, 0] rfl)
  · have hf := in_ h_7 hf
    obtain rfl := htx _ hh_r_6
    exact kt_S hx hb hfl (own := RX5) (X := "java/lang/IllegalStateException") (text := "the text is not a window") (names := xnm) (ik := 62) (is := 80) (ic := 66) hown (by decide +kernel) xnm_fit (hts (.classLink RX5 62 "java/lang/IllegalStateException") (by decide +kernel)) (hts (.initialized "java/lang/IllegalStateException") (by decide +kernel)) hE.2.2.2.2.1 (vx_hat (fun w hw => hts w (xm_X5_load_3 w hw)) xh_3 (xB_of hE.2.2.1 hE.2.2.1.2.2.2.2.2)) xg_3 hE (hP.sub (ws' := [(a_0, fv a_text a_window a_trial a_past a_firstSlot a_secondSlot a_equations a_looks), (a_text, tv a_text_signs r_6.2), (a_text_signs, av_C cy 120 g_text_signs), (a_window, wv s_window), (a_past, pv a_past_kept s_past), (a_firstSlot, sv a_firstSlot_kept s_firstSlot), (a_secondSlot, sv a_secondSlot_kept s_secondSlot)]) [0, 5, 6, 1, 2, 3, 4] rfl) (hD.sub (ws' := [(a_0, fv a_text a_window a_trial a_past a_firstSlot a_secondSlot a_equations a_looks), (a_text, tv a_text_signs r_6.2), (a_text_signs, av_C cy 120 g_text_signs), (a_window, wv s_window), (a_past, pv a_past_kept s_past), (a_firstSlot, sv a_firstSlot_kept s_firstSlot), (a_secondSlot, sv a_secondSlot_kept s_secondSlot)]) [0, 5, 6, 1, 2, 3, 4] rfl rfl) hS (hl.1.trans hml.symm) hnt hlocks dX5_load_11 dX5_load_14 dX5_load_15 dX5_load_17 dX5_load_20 (Nat.le_of_ble_eq_true rfl) (Nat.le_of_ble_eq_true rfl) (Nat.le_of_ble_eq_true rfl) (Nat.le_of_ble_eq_true rfl) (Nat.le_of_ble_eq_true rfl) (Nat.le_of_ble_eq_true rfl) 3 rfl ((Option.some.inj hf).symm)
set_option maxHeartbeats 4000000 in
set_option maxRecDepth 100000 in
theorem c_X5_about {l : Launch} (hfl : l.stackTraces = false) (G : va_G) (cy : Nat → ClassId) (a_0 : Nat) (a_text : Nat) (a_window : Nat) (a_trial : Nat) (a_past : Nat) (a_firstSlot : Nat) (a_secondSlot : Nat) (a_equations : Nat) (a_looks : Nat) (sz : Nat) (s_window : WT) (x1 : Int32) (n : Nat) (R : Nat ⊕ (Int32)) (hf : f_X5_about n s_window x1 = some R) : vx_Met l yX5_about wsX5_about ({ frames := 7, cells := 1, slots := 6, locals := 124 } : Room) (va_Pc [.ref a_0, .int x1] (pcX G cy [(a_0, fv a_text a_window a_trial a_past a_firstSlot a_secondSlot a_equations a_looks), (a_window, wv s_window)] sz)) (va_Qi (fun r (u : Int32) => R = .inr u ∧ r = u) (fun u t => Wd G cy (va_A [(a_0, fv a_text a_window a_trial a_past a_firstSlot a_secondSlot a_equations a_looks), (a_window, wv s_window)] sz) [(a_0, fv a_text a_window a_trial a_past a_firstSlot a_secondSlot a_equations a_looks), (a_window, wv s_window)] t) (va_A [(a_0, fv a_text a_window a_trial a_past a_firstSlot a_secondSlot a_equations a_looks), (a_window, wv s_window)] sz)) (vx_X (fun u : Nat => R = .inl u) (fun E u t => E = exN u ∧ va_P G vwCl [(a_0, fv a_text a_window a_trial a_past a_firstSlot a_secondSlot a_equations a_looks), (a_window, wv s_window)] t.heap ∧ va_D (va_A [(a_0, fv a_text a_window a_trial a_past a_firstSlot a_secondSlot a_equations a_looks), (a_window, wv s_window)] sz) [(a_0, fv a_text a_window a_trial a_past a_firstSlot a_secondSlot a_equations a_looks), (a_window, wv s_window)]) (va_A [(a_0, fv a_text a_window a_trial a_past a_firstSlot a_secondSlot a_equations a_looks), (a_window, wv s_window)] sz)) 1 6 (va_A [(a_0, fv a_text a_window a_trial a_past a_firstSlot a_secondSlot a_equations a_looks), (a_window, wv s_window)] sz) := by
  refine vx_ofW (cc := cX5_about) (maxL := 2) (ret := (some .int)) (by decide) rfl ?_
  intro p e s m args below meth c s₁ B hml hnt hv
  obtain ⟨rfl, ⟨hsz, hP, hK, hD0, hN⟩, hE⟩ := hv
  have hx := B.exec
  have hb := B.bytes
  have hr := B.returns
  have hts := atoms_spec (ws := wsX5_about) B.pre
  have hown : s.vm.findClass RX5 = some m.cls := findClass_of_methodNamed B.named
  have hlocks := B.notSynchronized
  subst hsz
  have hD := hD0.self (sz := s.heap.size)
  generalize hAe : va_A [(a_0, fv a_text a_window a_trial a_past a_firstSlot a_secondSlot a_equations a_looks), (a_window, wv s_window)] s.heap.size = A at hD hE ⊢
  have hA : ∀ q : Nat, s.heap.size ≤ q → A q := fun q h => by rw [← hAe]; exact Or.inr h
  have hS : va_S A s.heap s.heap [] := va_S.rf
  have hP : va_P G vwCl [(a_0, fv a_text a_window a_trial a_past a_firstSlot a_secondSlot a_equations a_looks), (a_window, wv s_window)] s.heap := hP
  have hl := lv_entry [.ref a_0, .int x1] (n := 2) (Nat.le_of_ble_eq_true rfl)
  rw [lg_entry_eq]
  generalize (lg_sl [.ref a_0, .int x1] ++ List.replicate (2 - (lg_sl [.ref a_0, .int x1]).length) Slot.unset).toArray = ls at hl ⊢
  have hl : lv_has ls 2 [(0, .ref a_0), (1, .int x1)] := hl
  unfold f_X5_about at hf
  refine lv_iload_n hx hb dX5_about_0 rfl (lv_at hl 1 rfl) ?_
  by_cases h_1 : x1 = 0
  · have hf := ip_ h_1 hf
    refine lv_tableIn (tgt := 48) (off := 47) hx hb dX5_about_1 (by show ¬ x1.toInt < 0; rw [h_1]; decide) (by show ¬ 7 < x1.toInt; rw [h_1]; decide) (by show (#[47, 55, 63, 74, 82, 90, 98, 106] : Array Int)[(x1.toInt - 0).toNat]? = some 47; rw [h_1]; rfl) (by decide) ?_
    refine lv_aload_n hx hb dX5_about_48 rfl (lv_at hl 0 rfl) ?_
    refine va_get (D := G) (ci := 5) (v := .ref a_window) (C := RX5) (T := TX5) (N := 8) hx hb hts iw_X5_about_X5 hown hK hP 0 rfl rfl 1 (by decide) (hts (.fieldLink RX5 19 "PaneFrost" "window" "LPaneFrost$Window;") (by decide +kernel)) (fun _ h9 => h9) rfl dX5_about_49 ?_
    refine va_get (D := G) (ci := 4) (v := .int (w_rows s_window)) (C := RX4) (T := TX4) (N := 12) hx hb hts iw_X5_about_X4 hown hK hP 1 rfl rfl 0 (by decide) (hts (.fieldLink RX5 132 "PaneFrost$Window" "rows" "I") (by decide +kernel)) (fun _ h9 => h9) rfl dX5_about_52 ?_
    refine W.widen (k := 1) (n := 6) (Nat.le_of_ble_eq_true rfl) (Nat.le_of_ble_eq_true rfl) ?_
    exact kr_iX (u := (w_rows s_window)) hx hb hr hlocks ((Option.some.inj hf).symm) hP hK hD hN hS hS.2.2 dX5_about_55
  have hf := in_ h_1 hf
  by_cases h_2 : x1 = 1
  · have hf := ip_ h_2 hf
    refine lv_tableIn (tgt := 56) (off := 55) hx hb dX5_about_1 (by show ¬ x1.toInt < 0; rw [h_2]; decide) (by show ¬ 7 < x1.toInt; rw [h_2]; decide) (by show (#[47, 55, 63, 74, 82, 90, 98, 106] : Array Int)[(x1.toInt - 0).toNat]? = some 55; rw [h_2]; rfl) (by decide) ?_
    refine lv_aload_n hx hb dX5_about_56 rfl (lv_at hl 0 rfl) ?_
    refine va_get (D := G) (ci := 5) (v := .ref a_window) (C := RX5) (T := TX5) (N := 8) hx hb hts iw_X5_about_X5 hown hK hP 0 rfl rfl 1 (by decide) (hts (.fieldLink RX5 19 "PaneFrost" "window" "LPaneFrost$Window;") (by decide +kernel)) (fun _ h9 => h9) rfl dX5_about_57 ?_
    refine va_get (D := G) (ci := 4) (v := .int (w_cells s_window)) (C := RX4) (T := TX4) (N := 12) hx hb hts iw_X5_about_X4 hown hK hP 1 rfl rfl 1 (by decide) (hts (.fieldLink RX5 135 "PaneFrost$Window" "cells" "I") (by decide +kernel)) (fun _ h9 => h9) rfl dX5_about_60 ?_
    refine W.widen (k := 1) (n := 6) (Nat.le_of_ble_eq_true rfl) (Nat.le_of_ble_eq_true rfl) ?_
    exact kr_iX (u := (w_cells s_window)) hx hb hr hlocks ((Option.some.inj hf).symm) hP hK hD hN hS hS.2.2 dX5_about_63
  have hf := in_ h_2 hf
  by_cases h_3 : x1 = 2
  · have hf := ip_ h_3 hf
    refine lv_tableIn (tgt := 64) (off := 63) hx hb dX5_about_1 (by show ¬ x1.toInt < 0; rw [h_3]; decide) (by show ¬ 7 < x1.toInt; rw [h_3]; decide) (by show (#[47, 55, 63, 74, 82, 90, 98, 106] : Array Int)[(x1.toInt - 0).toNat]? = some 63; rw [h_3]; rfl) (by decide) ?_
    refine lv_aload_n hx hb dX5_about_64 rfl (lv_at hl 0 rfl) ?_
    refine va_get (D := G) (ci := 5) (v := .ref a_window) (C := RX5) (T := TX5) (N := 8) hx hb hts iw_X5_about_X5 hown hK hP 0 rfl rfl 1 (by decide) (hts (.fieldLink RX5 19 "PaneFrost" "window" "LPaneFrost$Window;") (by decide +kernel)) (fun _ h9 => h9) rfl dX5_about_65 ?_
    refine va_get (D := G) (ci := 4) (v := .long (w_frozen s_window)) (C := RX4) (T := TX4) (N := 12) hx hb hts iw_X5_about_X4 hown hK hP 1 rfl rfl 4 (by decide) (hts (.fieldLink RX5 138 "PaneFrost$Window" "frozen" "J") (by decide +kernel)) (fun _ h9 => h9) rfl dX5_about_68 ?_
    refine kc_i (w1 := []) (wr := [(a_0, fv a_text a_window a_trial a_past a_firstSlot a_secondSlot a_equations a_looks), (a_window, wv s_window)]) hP hD hS hA [] [0, 1] rfl rfl rfl (by decide) (va_runS (As := [.long (w_frozen s_window)]) (rest := []) ⟨hx, hb, hml, hown, hts⟩ (c_J13_bitCount_95d88 (l := l) G cy  s.heap.size (w_frozen s_window)  (f_J13_bitCount_95d88 (w_frozen s_window)) rfl) (va_cwS 1 hts gX5_about_J13_bitCount_95d88 rfl rfl rfl ddN_J13_bitCount_95d88 ⟨Nat.le_of_ble_eq_true rfl, Nat.le_of_ble_eq_true rfl⟩) (preS_ (hP.sub (ws' := []) [] rfl) hK (hD.sub (ws' := []) [] rfl rfl) hN) rfl rfl hl.1 rfl (lv_room (Nat.le_of_ble_eq_true rfl)) dX5_about_71 ⟨Nat.le_of_ble_eq_true rfl, Nat.le_of_ble_eq_true rfl⟩) (fun H locs hP hD hS => ?_)
    have hP : va_P G vwCl [(a_0, fv a_text a_window a_trial a_past a_firstSlot a_secondSlot a_equations a_looks), (a_window, wv s_window)] H := hP
    have hD : va_D A [(a_0, fv a_text a_window a_trial a_past a_firstSlot a_secondSlot a_equations a_looks), (a_window, wv s_window)] := hD
    refine W.widen (k := 1) (n := 6) (Nat.le_of_ble_eq_true rfl) (Nat.le_of_ble_eq_true rfl) ?_
    exact kr_iX (u := (f_J13_bitCount_95d88 (w_frozen s_window))) hx hb hr hlocks ((Option.some.inj hf).symm) hP hK hD hN hS hS.2.2 dX5_about_74
  have hf := in_ h_3 hf
  by_cases h_4 : x1 = 3
  · have hf := ip_ h_4 hf
    refine lv_tableIn (tgt := 75) (off := 74) hx hb dX5_about_1 (by show ¬ x1.toInt < 0; rw [h_4]; decide) (by show ¬ 7 < x1.toInt; rw [h_4]; decide) (by show (#[47, 55, 63, 74, 82, 90, 98, 106] : Array Int)[(x1.toInt - 0).toNat]? = some 74; rw [h_4]; rfl) (by decide) ?_
    refine lv_aload_n hx hb dX5_about_75 rfl (lv_at hl 0 rfl) ?_
    refine va_get (D := G) (ci := 5) (v := .ref a_window) (C := RX5) (T := TX5) (N := 8) hx hb hts iw_X5_about_X5 hown hK hP 0 rfl rfl 1 (by decide) (hts (.fieldLink RX5 19 "PaneFrost" "window" "LPaneFrost$Window;") (by decide +kernel)) (fun _ h9 => h9) rfl dX5_about_76 ?_
    refine kc_i (w1 := [(a_window, wv s_window)]) (wr := [(a_0, fv a_text a_window a_trial a_past a_firstSlot a_secondSlot a_equations a_looks)]) hP hD hS hA [1] [0] rfl rfl rfl (by decide) (va_runV (As := []) (rest := []) ⟨hx, hb, hml, hown, hts⟩ (c_X4_scratches (l := l) G cy a_window s.heap.size s_window  (f_X4_scratches s_window) rfl) (cwV 0 hts gX5_about_X4_scratches rfl rfl rfl ddV_X4_scratches ⟨Nat.le_of_ble_eq_true rfl, Nat.le_of_ble_eq_true rfl⟩) (preV_ (ci := 4) (q0 := 0) rfl rfl (hP.sub (ws' := [(a_window, wv s_window)]) [1] rfl) hK (hD.sub (ws' := [(a_window, wv s_window)]) [1] rfl rfl) hN) rfl rfl hl.1 rfl (lv_room (Nat.le_of_ble_eq_true rfl)) dX5_about_79 ⟨Nat.le_of_ble_eq_true rfl, Nat.le_of_ble_eq_true rfl⟩) (fun H locs hP hD hS => ?_)
    have hP : va_P G vwCl [(a_0, fv a_text a_window a_trial a_past a_firstSlot a_secondSlot a_equations a_looks), (a_window, wv s_window)] H := hP
    have hD : va_D A [(a_0, fv a_text a_window a_trial a_past a_firstSlot a_secondSlot a_equations a_looks), (a_window, wv s_window)] := hD
    refine W.widen (k := 1) (n := 6) (Nat.le_of_ble_eq_true rfl) (Nat.le_of_ble_eq_true rfl) ?_
    exact kr_iX (u := (f_X4_scratches s_window)) hx hb hr hlocks ((Option.some.inj hf).symm) hP hK hD hN hS hS.2.2 dX5_about_82
  have hf := in_ h_4 hf
  by_cases h_5 : x1 = 4
  · have hf := ip_ h_5 hf
    refine lv_tableIn (tgt := 83) (off := 82) hx hb dX5_about_1 (by show ¬ x1.toInt < 0; rw [h_5]; decide) (by show ¬ 7 < x1.toInt; rw [h_5]; decide) (by show (#[47, 55, 63, 74, 82, 90, 98, 106] : Array Int)[(x1.toInt - 0).toNat]? = some 82; rw [h_5]; rfl) (by decide) ?_
    refine lv_aload_n hx hb dX5_about_83 rfl (lv_at hl 0 rfl) ?_
    refine va_get (D := G) (ci := 5) (v := .ref a_window) (C := RX5) (T := TX5) (N := 8) hx hb hts iw_X5_about_X5 hown hK hP 0 rfl rfl 1 (by decide) (hts (.fieldLink RX5 19 "PaneFrost" "window" "LPaneFrost$Window;") (by decide +kernel)) (fun _ h9 => h9) rfl dX5_about_84 ?_
    refine va_get (D := G) (ci := 4) (v := .int (w_rule s_window)) (C := RX4) (T := TX4) (N := 12) hx hb hts iw_X5_about_X4 hown hK hP 1 rfl rfl 2 (by decide) (hts (.fieldLink RX5 151 "PaneFrost$Window" "rule" "I") (by decide +kernel)) (fun _ h9 => h9) rfl dX5_about_87 ?_
    refine W.widen (k := 1) (n := 6) (Nat.le_of_ble_eq_true rfl) (Nat.le_of_ble_eq_true rfl) ?_
    exact kr_iX (u := (w_rule s_window)) hx hb hr hlocks ((Option.some.inj hf).symm) hP hK hD hN hS hS.2.2 dX5_about_90
  have hf := in_ h_5 hf
  by_cases h_6 : x1 = 5
  · have hf := ip_ h_6 hf
    refine lv_tableIn (tgt := 91) (off := 90) hx hb dX5_about_1 (by show ¬ x1.toInt < 0; rw [h_6]; decide) (by show ¬ 7 < x1.toInt; rw [h_6]; decide) (by show (#[47, 55, 63, 74, 82, 90, 98, 106] : Array Int)[(x1.toInt - 0).toNat]? = some 90; rw [h_6]; rfl) (by decide) ?_
    refine lv_aload_n hx hb dX5_about_91 rfl (lv_at hl 0 rfl) ?_
    refine va_get (D := G) (ci := 5) (v := .ref a_window) (C := RX5) (T := TX5) (N := 8) hx hb hts iw_X5_about_X5 hown hK hP 0 rfl rfl 1 (by decide) (hts (.fieldLink RX5 19 "PaneFrost" "window" "LPaneFrost$Window;") (by decide +kernel)) (fun _ h9 => h9) rfl dX5_about_92 ?_
    refine va_get (D := G) (ci := 4) (v := .int (w_nights s_window)) (C := RX4) (T := TX4) (N := 12) hx hb hts iw_X5_about_X4 hown hK hP 1 rfl rfl 3 (by decide) (hts (.fieldLink RX5 154 "PaneFrost$Window" "nights" "I") (by decide +kernel)) (fun _ h9 => h9) rfl dX5_about_95 ?_
    refine W.widen (k := 1) (n := 6) (Nat.le_of_ble_eq_true rfl) (Nat.le_of_ble_eq_true rfl) ?_
    exact kr_iX (u := (w_nights s_window)) hx hb hr hlocks ((Option.some.inj hf).symm) hP hK hD hN hS hS.2.2 dX5_about_98
  have hf := in_ h_6 hf
  by_cases h_7 : x1 = 6
  · have hf := ip_ h_7 hf
    refine lv_tableIn (tgt := 99) (off := 98) hx hb dX5_about_1 (by show ¬ x1.toInt < 0; rw [h_7]; decide) (by show ¬ 7 < x1.toInt; rw [h_7]; decide) (by show (#[47, 55, 63, 74, 82, 90, 98, 106] : Array Int)[(x1.toInt - 0).toNat]? = some 98; rw [h_7]; rfl) (by decide) ?_
    refine lv_aload_n hx hb dX5_about_99 rfl (lv_at hl 0 rfl) ?_
    refine va_get (D := G) (ci := 5) (v := .ref a_window) (C := RX5) (T := TX5) (N := 8) hx hb hts iw_X5_about_X5 hown hK hP 0 rfl rfl 1 (by decide) (hts (.fieldLink RX5 19 "PaneFrost" "window" "LPaneFrost$Window;") (by decide +kernel)) (fun _ h9 => h9) rfl dX5_about_100 ?_
    obtain ⟨r_8, hh_r_8, hf⟩ := obd_some hf
    refine kc_i (w1 := [(a_window, wv s_window)]) (wr := [(a_0, fv a_text a_window a_trial a_past a_firstSlot a_secondSlot a_equations a_looks)]) hP hD hS hA [1] [0] rfl rfl rfl (by decide) (va_runV (As := []) (rest := []) ⟨hx, hb, hml, hown, hts⟩ (c_X4_patches (l := l) G cy a_window s.heap.size s_window n r_8 hh_r_8) (cwV 0 hts gX5_about_X4_patches rfl rfl rfl ddV_X4_patches ⟨Nat.le_of_ble_eq_true rfl, Nat.le_of_ble_eq_true rfl⟩) (preV_ (ci := 4) (q0 := 0) rfl rfl (hP.sub (ws' := [(a_window, wv s_window)]) [1] rfl) hK (hD.sub (ws' := [(a_window, wv s_window)]) [1] rfl rfl) hN) rfl rfl hl.1 rfl (lv_room (Nat.le_of_ble_eq_true rfl)) dX5_about_103 ⟨Nat.le_of_ble_eq_true rfl, Nat.le_of_ble_eq_true rfl⟩) (fun H locs hP hD hS => ?_)
    have hP : va_P G vwCl [(a_0, fv a_text a_window a_trial a_past a_firstSlot a_secondSlot a_equations a_looks), (a_window, wv s_window)] H := hP
    have hD : va_D A [(a_0, fv a_text a_window a_trial a_past a_firstSlot a_secondSlot a_equations a_looks), (a_window, wv s_window)] := hD
    refine W.widen (k := 1) (n := 6) (Nat.le_of_ble_eq_true rfl) (Nat.le_of_ble_eq_true rfl) ?_
    exact kr_iX (u := r_8) hx hb hr hlocks ((Option.some.inj hf).symm) hP hK hD hN hS hS.2.2 dX5_about_106
  have hf := in_ h_7 hf
  by_cases h_9 : x1 = 7
  · have hf := ip_ h_9 hf
    refine lv_tableIn (tgt := 107) (off := 106) hx hb dX5_about_1 (by show ¬ x1.toInt < 0; rw [h_9]; decide) (by show ¬ 7 < x1.toInt; rw [h_9]; decide) (by show (#[47, 55, 63, 74, 82, 90, 98, 106] : Array Int)[(x1.toInt - 0).toNat]? = some 106; rw [h_9]; rfl) (by decide) ?_
    refine lv_aload_n hx hb dX5_about_107 rfl (lv_at hl 0 rfl) ?_
    refine va_get (D := G) (ci := 5) (v := .ref a_window) (C := RX5) (T := TX5) (N := 8) hx hb hts iw_X5_about_X5 hown hK hP 0 rfl rfl 1 (by decide) (hts (.fieldLink RX5 19 "PaneFrost" "window" "LPaneFrost$Window;") (by decide +kernel)) (fun _ h9 => h9) rfl dX5_about_108 ?_
    obtain ⟨r_10, hh_r_10, hf⟩ := obd_some hf
    refine kc_i (w1 := [(a_window, wv s_window)]) (wr := [(a_0, fv a_text a_window a_trial a_past a_firstSlot a_secondSlot a_equations a_looks)]) hP hD hS hA [1] [0] rfl rfl rfl (by decide) (va_runV (As := []) (rest := []) ⟨hx, hb, hml, hown, hts⟩ (c_X4_largestPatch (l := l) G cy a_window s.heap.size s_window n r_10 hh_r_10) (cwV 0 hts gX5_about_X4_largestPatch rfl rfl rfl ddV_X4_largestPatch ⟨Nat.le_of_ble_eq_true rfl, Nat.le_of_ble_eq_true rfl⟩) (preV_ (ci := 4) (q0 := 0) rfl rfl (hP.sub (ws' := [(a_window, wv s_window)]) [1] rfl) hK (hD.sub (ws' := [(a_window, wv s_window)]) [1] rfl rfl) hN) rfl rfl hl.1 rfl (lv_room (Nat.le_of_ble_eq_true rfl)) dX5_about_111 ⟨Nat.le_of_ble_eq_true rfl, Nat.le_of_ble_eq_true rfl⟩) (fun H locs hP hD hS => ?_)
    have hP : va_P G vwCl [(a_0, fv a_text a_window a_trial a_past a_firstSlot a_secondSlot a_equations a_looks), (a_window, wv s_window)] H := hP
    have hD : va_D A [(a_0, fv a_text a_window a_trial a_past a_firstSlot a_secondSlot a_equations a_looks), (a_window, wv s_window)] := hD
    refine W.widen (k := 1) (n := 6) (Nat.le_of_ble_eq_true rfl) (Nat.le_of_ble_eq_true rfl) ?_
    exact kr_iX (u := r_10) hx hb hr hlocks ((Option.some.inj hf).symm) hP hK hD hN hS hS.2.2 dX5_about_114
  have hf := in_ h_9 hf
  have th_1 : ¬ x1.toInt = 0 := fun q => h_1 (Int32.toInt_inj.mp (q.trans (by decide)))
  have th_2 : ¬ x1.toInt = 1 := fun q => h_2 (Int32.toInt_inj.mp (q.trans (by decide)))
  have th_3 : ¬ x1.toInt = 2 := fun q => h_3 (Int32.toInt_inj.mp (q.trans (by decide)))
  have th_4 : ¬ x1.toInt = 3 := fun q => h_4 (Int32.toInt_inj.mp (q.trans (by decide)))
  have th_5 : ¬ x1.toInt = 4 := fun q => h_5 (Int32.toInt_inj.mp (q.trans (by decide)))
  have th_6 : ¬ x1.toInt = 5 := fun q => h_6 (Int32.toInt_inj.mp (q.trans (by decide)))
  have th_7 : ¬ x1.toInt = 6 := fun q => h_7 (Int32.toInt_inj.mp (q.trans (by decide)))
  have th_9 : ¬ x1.toInt = 7 := fun q => h_9 (Int32.toInt_inj.mp (q.trans (by decide)))
  have hdf : (x1.toInt < 0 ∨ 7 < x1.toInt) := by omega
  refine lv_tableOut (tgt := 115) hx hb dX5_about_1 hdf (by decide) ?_
  exact kt_S hx hb hfl (own := RX5) (X := "java/lang/IllegalArgumentException") (text := "what is not 0 to 7") (names := xnm) (ik := 163) (is := 165) (ic := 167) hown (by decide +kernel) xnm_fit (hts (.classLink RX5 163 "java/lang/IllegalArgumentException") (by decide +kernel)) (hts (.initialized "java/lang/IllegalArgumentException") (by decide +kernel)) hE.2.2.2.2.2.1 (vx_hat (fun w hw => hts w (xm_X5_about_2 w hw)) xh_2 (xB_of hE.2.2.1 hE.2.2.1.2.2.2.2.1)) xg_2 hE hP hD hS (hl.1.trans hml.symm) hnt hlocks dX5_about_115 dX5_about_118 dX5_about_119 dX5_about_121 dX5_about_124 (Nat.le_of_ble_eq_true rfl) (Nat.le_of_ble_eq_true rfl) (Nat.le_of_ble_eq_true rfl) (Nat.le_of_ble_eq_true rfl) (Nat.le_of_ble_eq_true rfl) (Nat.le_of_ble_eq_true rfl) 2 rfl ((Option.some.inj hf).symm)
set_option maxHeartbeats 4000000 in
set_option maxRecDepth 100000 in
theorem c_X5_frozen {l : Launch} (G : va_G) (cy : Nat → ClassId) (a_0 : Nat) (a_text : Nat) (a_text_signs : Nat) (a_window : Nat) (a_trial : Nat) (a_past : Nat) (a_past_kept : Nat) (a_firstSlot : Nat) (a_firstSlot_kept : Nat) (a_secondSlot : Nat) (a_secondSlot_kept : Nat) (a_equations : Nat) (a_equations_terms : Nat) (a_looks : Nat) (ak : Nat → Nat) (sz : Nat) (s_text : TT) (g_text_signs : Nat → Int32) (s_window : WT) (s_trial : WT) (s_past : PT) (sk : Nat → WT) (s_firstSlot : Bool) (s_firstSlot_kept : WT) (s_secondSlot : Bool) (s_secondSlot_kept : WT) (s_equations : ET) (g_equations_terms : Nat → Int64) (g_looks : Nat → Int64)  (R : Int64) (hf : f_X5_frozen s_text g_text_signs s_window s_trial s_past sk s_firstSlot s_firstSlot_kept s_secondSlot s_secondSlot_kept s_equations g_equations_terms g_looks = R) : Met l yX5_frozen wsX5_frozen ({ frames := 0, cells := 0, slots := 0, locals := 0 } : Room) (va_Pc [.ref a_0] (pcW G cy [(a_0, fv a_text a_window a_trial a_past a_firstSlot a_secondSlot a_equations a_looks), (a_text, tv a_text_signs s_text), (a_text_signs, av_C cy 120 g_text_signs), (a_window, wv s_window), (a_trial, wv s_trial), (a_past, pv a_past_kept s_past), (a_past_kept, av_R cy 14 ak), (ak 0, wv (sk 0)), (ak 1, wv (sk 1)), (ak 2, wv (sk 2)), (ak 3, wv (sk 3)), (ak 4, wv (sk 4)), (ak 5, wv (sk 5)), (ak 6, wv (sk 6)), (ak 7, wv (sk 7)), (ak 8, wv (sk 8)), (ak 9, wv (sk 9)), (ak 10, wv (sk 10)), (ak 11, wv (sk 11)), (ak 12, wv (sk 12)), (ak 13, wv (sk 13)), (a_firstSlot, sv a_firstSlot_kept s_firstSlot), (a_firstSlot_kept, wv s_firstSlot_kept), (a_secondSlot, sv a_secondSlot_kept s_secondSlot), (a_secondSlot_kept, wv s_secondSlot_kept), (a_equations, ev a_equations_terms s_equations), (a_equations_terms, av_J cy 64 g_equations_terms), (a_looks, av_J cy 301 g_looks)] sz)) (va_Ql (fun r (_ : Unit) => r = R) (fun _ t => Wd G cy (va_A [(a_0, fv a_text a_window a_trial a_past a_firstSlot a_secondSlot a_equations a_looks), (a_text, tv a_text_signs s_text), (a_text_signs, av_C cy 120 g_text_signs), (a_window, wv s_window), (a_trial, wv s_trial), (a_past, pv a_past_kept s_past), (a_past_kept, av_R cy 14 ak), (ak 0, wv (sk 0)), (ak 1, wv (sk 1)), (ak 2, wv (sk 2)), (ak 3, wv (sk 3)), (ak 4, wv (sk 4)), (ak 5, wv (sk 5)), (ak 6, wv (sk 6)), (ak 7, wv (sk 7)), (ak 8, wv (sk 8)), (ak 9, wv (sk 9)), (ak 10, wv (sk 10)), (ak 11, wv (sk 11)), (ak 12, wv (sk 12)), (ak 13, wv (sk 13)), (a_firstSlot, sv a_firstSlot_kept s_firstSlot), (a_firstSlot_kept, wv s_firstSlot_kept), (a_secondSlot, sv a_secondSlot_kept s_secondSlot), (a_secondSlot_kept, wv s_secondSlot_kept), (a_equations, ev a_equations_terms s_equations), (a_equations_terms, av_J cy 64 g_equations_terms), (a_looks, av_J cy 301 g_looks)] sz) [(a_0, fv a_text a_window a_trial a_past a_firstSlot a_secondSlot a_equations a_looks), (a_text, tv a_text_signs s_text), (a_text_signs, av_C cy 120 g_text_signs), (a_window, wv s_window), (a_trial, wv s_trial), (a_past, pv a_past_kept s_past), (a_past_kept, av_R cy 14 ak), (ak 0, wv (sk 0)), (ak 1, wv (sk 1)), (ak 2, wv (sk 2)), (ak 3, wv (sk 3)), (ak 4, wv (sk 4)), (ak 5, wv (sk 5)), (ak 6, wv (sk 6)), (ak 7, wv (sk 7)), (ak 8, wv (sk 8)), (ak 9, wv (sk 9)), (ak 10, wv (sk 10)), (ak 11, wv (sk 11)), (ak 12, wv (sk 12)), (ak 13, wv (sk 13)), (a_firstSlot, sv a_firstSlot_kept s_firstSlot), (a_firstSlot_kept, wv s_firstSlot_kept), (a_secondSlot, sv a_secondSlot_kept s_secondSlot), (a_secondSlot_kept, wv s_secondSlot_kept), (a_equations, ev a_equations_terms s_equations), (a_equations_terms, av_J cy 64 g_equations_terms), (a_looks, av_J cy 301 g_looks)] t) (va_A [(a_0, fv a_text a_window a_trial a_past a_firstSlot a_secondSlot a_equations a_looks), (a_text, tv a_text_signs s_text), (a_text_signs, av_C cy 120 g_text_signs), (a_window, wv s_window), (a_trial, wv s_trial), (a_past, pv a_past_kept s_past), (a_past_kept, av_R cy 14 ak), (ak 0, wv (sk 0)), (ak 1, wv (sk 1)), (ak 2, wv (sk 2)), (ak 3, wv (sk 3)), (ak 4, wv (sk 4)), (ak 5, wv (sk 5)), (ak 6, wv (sk 6)), (ak 7, wv (sk 7)), (ak 8, wv (sk 8)), (ak 9, wv (sk 9)), (ak 10, wv (sk 10)), (ak 11, wv (sk 11)), (ak 12, wv (sk 12)), (ak 13, wv (sk 13)), (a_firstSlot, sv a_firstSlot_kept s_firstSlot), (a_firstSlot_kept, wv s_firstSlot_kept), (a_secondSlot, sv a_secondSlot_kept s_secondSlot), (a_secondSlot_kept, wv s_secondSlot_kept), (a_equations, ev a_equations_terms s_equations), (a_equations_terms, av_J cy 64 g_equations_terms), (a_looks, av_J cy 301 g_looks)] sz)) 0 0 (va_A [(a_0, fv a_text a_window a_trial a_past a_firstSlot a_secondSlot a_equations a_looks), (a_text, tv a_text_signs s_text), (a_text_signs, av_C cy 120 g_text_signs), (a_window, wv s_window), (a_trial, wv s_trial), (a_past, pv a_past_kept s_past), (a_past_kept, av_R cy 14 ak), (ak 0, wv (sk 0)), (ak 1, wv (sk 1)), (ak 2, wv (sk 2)), (ak 3, wv (sk 3)), (ak 4, wv (sk 4)), (ak 5, wv (sk 5)), (ak 6, wv (sk 6)), (ak 7, wv (sk 7)), (ak 8, wv (sk 8)), (ak 9, wv (sk 9)), (ak 10, wv (sk 10)), (ak 11, wv (sk 11)), (ak 12, wv (sk 12)), (ak 13, wv (sk 13)), (a_firstSlot, sv a_firstSlot_kept s_firstSlot), (a_firstSlot_kept, wv s_firstSlot_kept), (a_secondSlot, sv a_secondSlot_kept s_secondSlot), (a_secondSlot_kept, wv s_secondSlot_kept), (a_equations, ev a_equations_terms s_equations), (a_equations_terms, av_J cy 64 g_equations_terms), (a_looks, av_J cy 301 g_looks)] sz) := by
  refine Met.ofW (cc := cX5_frozen) (maxL := 1) (ret := (some .long)) (by decide) rfl ?_
  intro p e s m args below meth c s₁ B hml hv
  obtain ⟨rfl, hsz, hP, hK, hD0, hN⟩ := hv
  have hx := B.exec
  have hb := B.bytes
  have hr := B.returns
  have hts := atoms_spec (ws := wsX5_frozen) B.pre
  have hown : s.vm.findClass RX5 = some m.cls := findClass_of_methodNamed B.named
  have hlocks := B.notSynchronized
  subst hsz
  have hD := hD0.self (sz := s.heap.size)
  generalize hAe : va_A [(a_0, fv a_text a_window a_trial a_past a_firstSlot a_secondSlot a_equations a_looks), (a_text, tv a_text_signs s_text), (a_text_signs, av_C cy 120 g_text_signs), (a_window, wv s_window), (a_trial, wv s_trial), (a_past, pv a_past_kept s_past), (a_past_kept, av_R cy 14 ak), (ak 0, wv (sk 0)), (ak 1, wv (sk 1)), (ak 2, wv (sk 2)), (ak 3, wv (sk 3)), (ak 4, wv (sk 4)), (ak 5, wv (sk 5)), (ak 6, wv (sk 6)), (ak 7, wv (sk 7)), (ak 8, wv (sk 8)), (ak 9, wv (sk 9)), (ak 10, wv (sk 10)), (ak 11, wv (sk 11)), (ak 12, wv (sk 12)), (ak 13, wv (sk 13)), (a_firstSlot, sv a_firstSlot_kept s_firstSlot), (a_firstSlot_kept, wv s_firstSlot_kept), (a_secondSlot, sv a_secondSlot_kept s_secondSlot), (a_secondSlot_kept, wv s_secondSlot_kept), (a_equations, ev a_equations_terms s_equations), (a_equations_terms, av_J cy 64 g_equations_terms), (a_looks, av_J cy 301 g_looks)] s.heap.size = A at hD ⊢
  have hA : ∀ q : Nat, s.heap.size ≤ q → A q := fun q h => by rw [← hAe]; exact Or.inr h
  have hS : va_S A s.heap s.heap [] := va_S.rf
  have hP : va_P G vwCl [(a_0, fv a_text a_window a_trial a_past a_firstSlot a_secondSlot a_equations a_looks), (a_text, tv a_text_signs s_text), (a_text_signs, av_C cy 120 g_text_signs), (a_window, wv s_window), (a_trial, wv s_trial), (a_past, pv a_past_kept s_past), (a_past_kept, av_R cy 14 ak), (ak 0, wv (sk 0)), (ak 1, wv (sk 1)), (ak 2, wv (sk 2)), (ak 3, wv (sk 3)), (ak 4, wv (sk 4)), (ak 5, wv (sk 5)), (ak 6, wv (sk 6)), (ak 7, wv (sk 7)), (ak 8, wv (sk 8)), (ak 9, wv (sk 9)), (ak 10, wv (sk 10)), (ak 11, wv (sk 11)), (ak 12, wv (sk 12)), (ak 13, wv (sk 13)), (a_firstSlot, sv a_firstSlot_kept s_firstSlot), (a_firstSlot_kept, wv s_firstSlot_kept), (a_secondSlot, sv a_secondSlot_kept s_secondSlot), (a_secondSlot_kept, wv s_secondSlot_kept), (a_equations, ev a_equations_terms s_equations), (a_equations_terms, av_J cy 64 g_equations_terms), (a_looks, av_J cy 301 g_looks)] s.heap := hP
  have hl := lv_entry [.ref a_0] (n := 1) (Nat.le_of_ble_eq_true rfl)
  rw [lg_entry_eq]
  generalize (lg_sl [.ref a_0] ++ List.replicate (1 - (lg_sl [.ref a_0]).length) Slot.unset).toArray = ls at hl ⊢
  have hl : lv_has ls 1 [(0, .ref a_0)] := hl
  unfold f_X5_frozen at hf
  refine lv_aload_n hx hb dX5_frozen_0 rfl (lv_at hl 0 rfl) ?_
  refine va_get (D := G) (ci := 5) (v := .ref a_window) (C := RX5) (T := TX5) (N := 8) hx hb hts iw_X5_frozen_X5 hown hK hP 0 rfl rfl 1 (by decide) (hts (.fieldLink RX5 19 "PaneFrost" "window" "LPaneFrost$Window;") (by decide +kernel)) (fun _ h9 => h9) rfl dX5_frozen_1 ?_
  refine va_get (D := G) (ci := 4) (v := .long (w_frozen s_window)) (C := RX4) (T := TX4) (N := 12) hx hb hts iw_X5_frozen_X4 hown hK hP 3 rfl rfl 4 (by decide) (hts (.fieldLink RX5 138 "PaneFrost$Window" "frozen" "J") (by decide +kernel)) (fun _ h9 => h9) rfl dX5_frozen_4 ?_
  subst hf
  exact kr_l hx hb hr hlocks rfl hP hK hD hN hS hS.2.2 dX5_frozen_7
set_option maxHeartbeats 4000000 in
set_option maxRecDepth 100000 in
theorem c_X5_needCell {l : Launch} (hfl : l.stackTraces = false) (G : va_G) (cy : Nat → ClassId) (a_0 : Nat) (a_text : Nat) (a_window : Nat) (a_trial : Nat) (a_past : Nat) (a_firstSlot : Nat) (a_secondSlot : Nat) (a_equations : Nat) (a_looks : Nat) (sz : Nat) (s_window : WT) (x1 : Int32)  (R : Nat ⊕ (Unit)) (hf : f_X5_needCell s_window x1 = some R) : vx_Met l yX5_needCell wsX5_needCell ({ frames := 7, cells := 1, slots := 6, locals := 100 } : Room) (va_Pc [.ref a_0, .int x1] (pcX G cy [(a_0, fv a_text a_window a_trial a_past a_firstSlot a_secondSlot a_equations a_looks), (a_window, wv s_window)] sz)) (va_Qv (fun (u : Unit) => R = .inr u) (fun u t => Wd G cy (va_A [(a_0, fv a_text a_window a_trial a_past a_firstSlot a_secondSlot a_equations a_looks), (a_window, wv s_window)] sz) [(a_0, fv a_text a_window a_trial a_past a_firstSlot a_secondSlot a_equations a_looks), (a_window, wv s_window)] t) (va_A [(a_0, fv a_text a_window a_trial a_past a_firstSlot a_secondSlot a_equations a_looks), (a_window, wv s_window)] sz)) (vx_X (fun u : Nat => R = .inl u) (fun E u t => E = exN u ∧ va_P G vwCl [(a_0, fv a_text a_window a_trial a_past a_firstSlot a_secondSlot a_equations a_looks), (a_window, wv s_window)] t.heap ∧ va_D (va_A [(a_0, fv a_text a_window a_trial a_past a_firstSlot a_secondSlot a_equations a_looks), (a_window, wv s_window)] sz) [(a_0, fv a_text a_window a_trial a_past a_firstSlot a_secondSlot a_equations a_looks), (a_window, wv s_window)]) (va_A [(a_0, fv a_text a_window a_trial a_past a_firstSlot a_secondSlot a_equations a_looks), (a_window, wv s_window)] sz)) 1 6 (va_A [(a_0, fv a_text a_window a_trial a_past a_firstSlot a_secondSlot a_equations a_looks), (a_window, wv s_window)] sz) := by
  refine vx_ofW (cc := cX5_needCell) (maxL := 2) (ret := none) (by decide) rfl ?_
  intro p e s m args below meth c s₁ B hml hnt hv
  obtain ⟨rfl, ⟨hsz, hP, hK, hD0, hN⟩, hE⟩ := hv
  have hx := B.exec
  have hb := B.bytes
  have hr := B.returns
  have hts := atoms_spec (ws := wsX5_needCell) B.pre
  have hown : s.vm.findClass RX5 = some m.cls := findClass_of_methodNamed B.named
  have hlocks := B.notSynchronized
  subst hsz
  have hD := hD0.self (sz := s.heap.size)
  generalize hAe : va_A [(a_0, fv a_text a_window a_trial a_past a_firstSlot a_secondSlot a_equations a_looks), (a_window, wv s_window)] s.heap.size = A at hD hE ⊢
  have hA : ∀ q : Nat, s.heap.size ≤ q → A q := fun q h => by rw [← hAe]; exact Or.inr h
  have hS : va_S A s.heap s.heap [] := va_S.rf
  have hP : va_P G vwCl [(a_0, fv a_text a_window a_trial a_past a_firstSlot a_secondSlot a_equations a_looks), (a_window, wv s_window)] s.heap := hP
  have hl := lv_entry [.ref a_0, .int x1] (n := 2) (Nat.le_of_ble_eq_true rfl)
  rw [lg_entry_eq]
  generalize (lg_sl [.ref a_0, .int x1] ++ List.replicate (2 - (lg_sl [.ref a_0, .int x1]).length) Slot.unset).toArray = ls at hl ⊢
  have hl : lv_has ls 2 [(0, .ref a_0), (1, .int x1)] := hl
  unfold f_X5_needCell at hf
  refine lv_aload_n hx hb dX5_needCell_0 rfl (lv_at hl 0 rfl) ?_
  refine va_get (D := G) (ci := 5) (v := .ref a_window) (C := RX5) (T := TX5) (N := 8) hx hb hts iw_X5_needCell_X5 hown hK hP 0 rfl rfl 1 (by decide) (hts (.fieldLink RX5 19 "PaneFrost" "window" "LPaneFrost$Window;") (by decide +kernel)) (fun _ h9 => h9) rfl dX5_needCell_1 ?_
  refine lv_iload_n hx hb dX5_needCell_4 rfl (lv_at hl 1 rfl) ?_
  refine kc_i (w1 := [(a_window, wv s_window)]) (wr := [(a_0, fv a_text a_window a_trial a_past a_firstSlot a_secondSlot a_equations a_looks)]) hP hD hS hA [1] [0] rfl rfl rfl (by decide) (va_runV (As := [.int x1]) (rest := []) ⟨hx, hb, hml, hown, hts⟩ (c_X4_hasCell (l := l) G cy a_window s.heap.size s_window x1  (f_X4_hasCell s_window x1) rfl) (cwV 1 hts gX5_needCell_X4_hasCell rfl rfl rfl ddV_X4_hasCell ⟨Nat.le_of_ble_eq_true rfl, Nat.le_of_ble_eq_true rfl⟩) (preV_ (ci := 4) (q0 := 0) rfl rfl (hP.sub (ws' := [(a_window, wv s_window)]) [1] rfl) hK (hD.sub (ws' := [(a_window, wv s_window)]) [1] rfl rfl) hN) rfl rfl hl.1 rfl (lv_room (Nat.le_of_ble_eq_true rfl)) dX5_needCell_5 ⟨Nat.le_of_ble_eq_true rfl, Nat.le_of_ble_eq_true rfl⟩) (fun H locs hP hD hS => ?_)
  have hP : va_P G vwCl [(a_0, fv a_text a_window a_trial a_past a_firstSlot a_secondSlot a_equations a_looks), (a_window, wv s_window)] H := hP
  have hD : va_D A [(a_0, fv a_text a_window a_trial a_past a_firstSlot a_secondSlot a_equations a_looks), (a_window, wv s_window)] := hD
  refine lv_if_ne (tgt := 22) hx hb dX5_needCell_8 (by decide) (fun h_1 => ?_) (fun h_1 => ?_)
  · have hf := ip_ (bI_n0 h_1) hf
    refine W.widen (k := 1) (n := 6) (Nat.le_of_ble_eq_true rfl) (Nat.le_of_ble_eq_true rfl) ?_
    exact kr_vX (u := ()) hx hb hr hlocks ((Option.some.inj hf).symm) hP hK hD hN hS hS.2.2 dX5_needCell_22
  · have hf := in_ (bI_0 h_1) hf
    exact kt_SW hx hb hfl (own := RX5) (X := "java/lang/IndexOutOfBoundsException") (text := "no such cell") (names := xnm) (ik := 306) (is := 311) (ic := 310) hown (by decide +kernel) xnm_fit (hts (.classLink RX5 306 "java/lang/IndexOutOfBoundsException") (by decide +kernel)) (hts (.initialized "java/lang/IndexOutOfBoundsException") (by decide +kernel)) hE.2.2.2.2.2.2.2.2.2.2.2.2.1 (vx_hat (fun w hw => hts w (xm_X5_needCell_1 w hw)) xh_1 (xB_of hE.2.2.1 hE.2.2.1.2.2.2.1)) xg_1 hE hP hD hS (hl.1.trans hml.symm) hnt hlocks dX5_needCell_11 dX5_needCell_14 dX5_needCell_15 dX5_needCell_18 dX5_needCell_21 (Nat.le_of_ble_eq_true rfl) (Nat.le_of_ble_eq_true rfl) (Nat.le_of_ble_eq_true rfl) (Nat.le_of_ble_eq_true rfl) (Nat.le_of_ble_eq_true rfl) (Nat.le_of_ble_eq_true rfl) 1 rfl ((Option.some.inj hf).symm)
set_option maxHeartbeats 4000000 in
set_option maxRecDepth 100000 in
theorem c_X5_cell {l : Launch} (hfl : l.stackTraces = false) (G : va_G) (cy : Nat → ClassId) (a_0 : Nat) (a_text : Nat) (a_window : Nat) (a_trial : Nat) (a_past : Nat) (a_firstSlot : Nat) (a_secondSlot : Nat) (a_equations : Nat) (a_looks : Nat) (sz : Nat) (s_window : WT) (x1 : Int32) (x2 : Int32) (n : Nat) (R : Nat ⊕ (Int32)) (hf : f_X5_cell n s_window x1 x2 = some R) : vx_Met l yX5_cell wsX5_cell ({ frames := 8, cells := 2, slots := 12, locals := 121 } : Room) (va_Pc [.ref a_0, .int x1, .int x2] (pcX G cy [(a_0, fv a_text a_window a_trial a_past a_firstSlot a_secondSlot a_equations a_looks), (a_window, wv s_window)] sz)) (va_Qi (fun r (u : Int32) => R = .inr u ∧ r = u) (fun u t => Wd G cy (va_A [(a_0, fv a_text a_window a_trial a_past a_firstSlot a_secondSlot a_equations a_looks), (a_window, wv s_window)] sz) [(a_0, fv a_text a_window a_trial a_past a_firstSlot a_secondSlot a_equations a_looks), (a_window, wv s_window)] t) (va_A [(a_0, fv a_text a_window a_trial a_past a_firstSlot a_secondSlot a_equations a_looks), (a_window, wv s_window)] sz)) (vx_X (fun u : Nat => R = .inl u) (fun E u t => E = exN u ∧ va_P G vwCl [(a_0, fv a_text a_window a_trial a_past a_firstSlot a_secondSlot a_equations a_looks), (a_window, wv s_window)] t.heap ∧ va_D (va_A [(a_0, fv a_text a_window a_trial a_past a_firstSlot a_secondSlot a_equations a_looks), (a_window, wv s_window)] sz) [(a_0, fv a_text a_window a_trial a_past a_firstSlot a_secondSlot a_equations a_looks), (a_window, wv s_window)]) (va_A [(a_0, fv a_text a_window a_trial a_past a_firstSlot a_secondSlot a_equations a_looks), (a_window, wv s_window)] sz)) 2 12 (va_A [(a_0, fv a_text a_window a_trial a_past a_firstSlot a_secondSlot a_equations a_looks), (a_window, wv s_window)] sz) := by
  refine vx_ofW (cc := cX5_cell) (maxL := 3) (ret := (some .int)) (by decide) rfl ?_
  intro p e s m args below meth c s₁ B hml hnt hv
  obtain ⟨rfl, ⟨hsz, hP, hK, hD0, hN⟩, hE⟩ := hv
  have hx := B.exec
  have hb := B.bytes
  have hr := B.returns
  have hts := atoms_spec (ws := wsX5_cell) B.pre
  have hown : s.vm.findClass RX5 = some m.cls := findClass_of_methodNamed B.named
  have hlocks := B.notSynchronized
  subst hsz
  have hD := hD0.self (sz := s.heap.size)
  generalize hAe : va_A [(a_0, fv a_text a_window a_trial a_past a_firstSlot a_secondSlot a_equations a_looks), (a_window, wv s_window)] s.heap.size = A at hD hE ⊢
  have hA : ∀ q : Nat, s.heap.size ≤ q → A q := fun q h => by rw [← hAe]; exact Or.inr h
  have hS : va_S A s.heap s.heap [] := va_S.rf
  have hP : va_P G vwCl [(a_0, fv a_text a_window a_trial a_past a_firstSlot a_secondSlot a_equations a_looks), (a_window, wv s_window)] s.heap := hP
  have hl := lv_entry [.ref a_0, .int x1, .int x2] (n := 3) (Nat.le_of_ble_eq_true rfl)
  rw [lg_entry_eq]
  generalize (lg_sl [.ref a_0, .int x1, .int x2] ++ List.replicate (3 - (lg_sl [.ref a_0, .int x1, .int x2]).length) Slot.unset).toArray = ls at hl ⊢
  have hl : lv_has ls 3 [(0, .ref a_0), (1, .int x1), (2, .int x2)] := hl
  unfold f_X5_cell at hf
  refine lv_aload_n hx hb dX5_cell_0 rfl (lv_at hl 0 rfl) ?_
  refine lv_iload_n hx hb dX5_cell_1 rfl (lv_at hl 1 rfl) ?_
  obtain ⟨r_1, hh_r_1, hf⟩ := obx_some hf
  refine kx_v (w1 := fun (_ : Unit) => [(a_0, fv a_text a_window a_trial a_past a_firstSlot a_secondSlot a_equations a_looks), (a_window, wv s_window)]) (wr := []) hP hD hS hA [0, 1] [] rfl rfl rfl (by decide) (vx_runV (As := [.int x1]) (rest := []) ⟨hx, hb, hml, hown, hts⟩ (c_X5_needCell (l := l) hfl G cy a_0 a_text a_window a_trial a_past a_firstSlot a_secondSlot a_equations a_looks s.heap.size s_window x1  r_1 hh_r_1) (cwV 1 hts gX5_cell_X5_needCell rfl rfl rfl ddV_X5_needCell ⟨Nat.le_of_ble_eq_true rfl, Nat.le_of_ble_eq_true rfl⟩) (preVX (ci := 5) (q0 := 0) rfl rfl (hE.kept hS.2.1) (va_free hD hS hA (wc := [(a_0, fv a_text a_window a_trial a_past a_firstSlot a_secondSlot a_equations a_looks), (a_window, wv s_window)]) [0, 1] rfl) hP hK hD hN) rfl rfl hl.1 rfl (lv_room (Nat.le_of_ble_eq_true rfl)) dX5_cell_2 ⟨Nat.le_of_ble_eq_true rfl, Nat.le_of_ble_eq_true rfl⟩) (fun u ce q9 H locs hz hP hD hS hc1 hc2 hc3 => ?_) (fun u_1 H locs hz hP hD hS => ?_)
  · subst hz
    have hP : va_P G vwCl [(a_0, fv a_text a_window a_trial a_past a_firstSlot a_secondSlot a_equations a_looks), (a_window, wv s_window)] H := hP
    have hD : va_D A [(a_0, fv a_text a_window a_trial a_past a_firstSlot a_secondSlot a_equations a_looks), (a_window, wv s_window)] := hD
    exact vx_widen (k := 2) (n := 12) (Nat.le_of_ble_eq_true rfl) (Nat.le_of_ble_eq_true rfl) (kx_out u hnt hlocks (obx_l hf) hP hK hD hN hS hc1 hc2 hc3 (Nat.le_refl _) (Nat.le_refl _))
  subst hz
  have hf := obx_r hf
  have hP : va_P G vwCl [(a_0, fv a_text a_window a_trial a_past a_firstSlot a_secondSlot a_equations a_looks), (a_window, wv s_window)] H := hP
  have hD : va_D A [(a_0, fv a_text a_window a_trial a_past a_firstSlot a_secondSlot a_equations a_looks), (a_window, wv s_window)] := hD
  refine lv_iload_n hx hb dX5_cell_5 rfl (lv_at hl 2 rfl) ?_
  by_cases h_2 : x2 = 0
  · have hf := ip_ h_2 hf
    refine lv_tableIn (tgt := 36) (off := 30) hx hb dX5_cell_6 (by show ¬ x2.toInt < 0; rw [h_2]; decide) (by show ¬ 3 < x2.toInt; rw [h_2]; decide) (by show (#[30, 47, 56, 68] : Array Int)[(x2.toInt - 0).toNat]? = some 30; rw [h_2]; rfl) (by decide) ?_
    refine lv_aload_n hx hb dX5_cell_36 rfl (lv_at hl 0 rfl) ?_
    refine va_get (D := G) (ci := 5) (v := .ref a_window) (C := RX5) (T := TX5) (N := 8) hx hb hts iw_X5_cell_X5 hown hK hP 0 rfl rfl 1 (by decide) (hts (.fieldLink RX5 19 "PaneFrost" "window" "LPaneFrost$Window;") (by decide +kernel)) (fun _ h9 => h9) rfl dX5_cell_37 ?_
    refine lv_iload_n hx hb dX5_cell_40 rfl (lv_at hl 1 rfl) ?_
    refine kc_i (w1 := [(a_window, wv s_window)]) (wr := [(a_0, fv a_text a_window a_trial a_past a_firstSlot a_secondSlot a_equations a_looks)]) hP hD hS hA [1] [0] rfl rfl rfl (by decide) (va_runV (As := [.int x1]) (rest := []) ⟨hx, hb, hml, hown, hts⟩ (c_X4_isFrozen (l := l) G cy a_window H.size s_window x1  (f_X4_isFrozen s_window x1) rfl) (cwV 1 hts gX5_cell_X4_isFrozen rfl rfl rfl ddV_X4_isFrozen ⟨Nat.le_of_ble_eq_true rfl, Nat.le_of_ble_eq_true rfl⟩) (preV_ (ci := 4) (q0 := 0) rfl rfl (hP.sub (ws' := [(a_window, wv s_window)]) [1] rfl) hK (hD.sub (ws' := [(a_window, wv s_window)]) [1] rfl rfl) hN) rfl rfl hl.1 rfl (lv_room (Nat.le_of_ble_eq_true rfl)) dX5_cell_41 ⟨Nat.le_of_ble_eq_true rfl, Nat.le_of_ble_eq_true rfl⟩) (fun H locs hP hD hS => ?_)
    have hP : va_P G vwCl [(a_0, fv a_text a_window a_trial a_past a_firstSlot a_secondSlot a_equations a_looks), (a_window, wv s_window)] H := hP
    have hD : va_D A [(a_0, fv a_text a_window a_trial a_past a_firstSlot a_secondSlot a_equations a_looks), (a_window, wv s_window)] := hD
    refine lv_if_eq (tgt := 51) hx hb dX5_cell_44 (by decide) (fun h_3 => ?_) (fun h_3 => ?_)
    · have hf := in_ (bI_0 h_3) hf
      refine lv_iconst (v := 0) hx hb dX5_cell_51 (by decide) ?_
      refine W.widen (k := 2) (n := 12) (Nat.le_of_ble_eq_true rfl) (Nat.le_of_ble_eq_true rfl) ?_
      exact kr_iX (u := 0) hx hb hr hlocks ((Option.some.inj hf).symm) hP hK hD hN hS hS.2.2 dX5_cell_52
    · have hf := ip_ (bI_n0 h_3) hf
      refine lv_iconst (v := 1) hx hb dX5_cell_47 (by decide) ?_
      refine lv_goto (tgt := 52) hx hb dX5_cell_48 (by decide) ?_
      refine W.widen (k := 2) (n := 12) (Nat.le_of_ble_eq_true rfl) (Nat.le_of_ble_eq_true rfl) ?_
      exact kr_iX (u := 1) hx hb hr hlocks ((Option.some.inj hf).symm) hP hK hD hN hS hS.2.2 dX5_cell_52
  have hf := in_ h_2 hf
  by_cases h_4 : x2 = 1
  · have hf := ip_ h_4 hf
    refine lv_tableIn (tgt := 53) (off := 47) hx hb dX5_cell_6 (by show ¬ x2.toInt < 0; rw [h_4]; decide) (by show ¬ 3 < x2.toInt; rw [h_4]; decide) (by show (#[30, 47, 56, 68] : Array Int)[(x2.toInt - 0).toNat]? = some 47; rw [h_4]; rfl) (by decide) ?_
    refine lv_aload_n hx hb dX5_cell_53 rfl (lv_at hl 0 rfl) ?_
    refine va_get (D := G) (ci := 5) (v := .ref a_window) (C := RX5) (T := TX5) (N := 8) hx hb hts iw_X5_cell_X5 hown hK hP 0 rfl rfl 1 (by decide) (hts (.fieldLink RX5 19 "PaneFrost" "window" "LPaneFrost$Window;") (by decide +kernel)) (fun _ h9 => h9) rfl dX5_cell_54 ?_
    refine lv_iload_n hx hb dX5_cell_57 rfl (lv_at hl 1 rfl) ?_
    obtain ⟨r_5, hh_r_5, hf⟩ := obd_some hf
    refine kc_i (w1 := [(a_window, wv s_window)]) (wr := [(a_0, fv a_text a_window a_trial a_past a_firstSlot a_secondSlot a_equations a_looks)]) hP hD hS hA [1] [0] rfl rfl rfl (by decide) (va_runV (As := [.int x1]) (rest := []) ⟨hx, hb, hml, hown, hts⟩ (c_X4_cold (l := l) G cy a_window H.size s_window x1 n r_5 hh_r_5) (cwV 1 hts gX5_cell_X4_cold rfl rfl rfl ddV_X4_cold ⟨Nat.le_of_ble_eq_true rfl, Nat.le_of_ble_eq_true rfl⟩) (preV_ (ci := 4) (q0 := 0) rfl rfl (hP.sub (ws' := [(a_window, wv s_window)]) [1] rfl) hK (hD.sub (ws' := [(a_window, wv s_window)]) [1] rfl rfl) hN) rfl rfl hl.1 rfl (lv_room (Nat.le_of_ble_eq_true rfl)) dX5_cell_58 ⟨Nat.le_of_ble_eq_true rfl, Nat.le_of_ble_eq_true rfl⟩) (fun H locs hP hD hS => ?_)
    have hP : va_P G vwCl [(a_0, fv a_text a_window a_trial a_past a_firstSlot a_secondSlot a_equations a_looks), (a_window, wv s_window)] H := hP
    have hD : va_D A [(a_0, fv a_text a_window a_trial a_past a_firstSlot a_secondSlot a_equations a_looks), (a_window, wv s_window)] := hD
    refine W.widen (k := 2) (n := 12) (Nat.le_of_ble_eq_true rfl) (Nat.le_of_ble_eq_true rfl) ?_
    exact kr_iX (u := r_5) hx hb hr hlocks ((Option.some.inj hf).symm) hP hK hD hN hS hS.2.2 dX5_cell_61
  have hf := in_ h_4 hf
  by_cases h_6 : x2 = 2
  · have hf := ip_ h_6 hf
    refine lv_tableIn (tgt := 62) (off := 56) hx hb dX5_cell_6 (by show ¬ x2.toInt < 0; rw [h_6]; decide) (by show ¬ 3 < x2.toInt; rw [h_6]; decide) (by show (#[30, 47, 56, 68] : Array Int)[(x2.toInt - 0).toNat]? = some 56; rw [h_6]; rfl) (by decide) ?_
    refine lv_aload_n hx hb dX5_cell_62 rfl (lv_at hl 0 rfl) ?_
    refine va_get (D := G) (ci := 5) (v := .ref a_window) (C := RX5) (T := TX5) (N := 8) hx hb hts iw_X5_cell_X5 hown hK hP 0 rfl rfl 1 (by decide) (hts (.fieldLink RX5 19 "PaneFrost" "window" "LPaneFrost$Window;") (by decide +kernel)) (fun _ h9 => h9) rfl dX5_cell_63 ?_
    refine lv_iload_n hx hb dX5_cell_66 rfl (lv_at hl 1 rfl) ?_
    obtain ⟨r_7, hh_r_7, hf⟩ := obd_some hf
    refine kc_l (w1 := [(a_window, wv s_window)]) (wr := [(a_0, fv a_text a_window a_trial a_past a_firstSlot a_secondSlot a_equations a_looks)]) hP hD hS hA [1] [0] rfl rfl rfl (by decide) (va_runV (As := [.int x1]) (rest := []) ⟨hx, hb, hml, hown, hts⟩ (c_X4_patchAt (l := l) G cy a_window H.size s_window x1 n r_7 hh_r_7) (cwV 1 hts gX5_cell_X4_patchAt rfl rfl rfl ddV_X4_patchAt ⟨Nat.le_of_ble_eq_true rfl, Nat.le_of_ble_eq_true rfl⟩) (preV_ (ci := 4) (q0 := 0) rfl rfl (hP.sub (ws' := [(a_window, wv s_window)]) [1] rfl) hK (hD.sub (ws' := [(a_window, wv s_window)]) [1] rfl rfl) hN) rfl rfl hl.1 rfl (lv_room (Nat.le_of_ble_eq_true rfl)) dX5_cell_67 ⟨Nat.le_of_ble_eq_true rfl, Nat.le_of_ble_eq_true rfl⟩) (fun H locs hP hD hS => ?_)
    have hP : va_P G vwCl [(a_0, fv a_text a_window a_trial a_past a_firstSlot a_secondSlot a_equations a_looks), (a_window, wv s_window)] H := hP
    have hD : va_D A [(a_0, fv a_text a_window a_trial a_past a_firstSlot a_secondSlot a_equations a_looks), (a_window, wv s_window)] := hD
    refine kc_i (w1 := []) (wr := [(a_0, fv a_text a_window a_trial a_past a_firstSlot a_secondSlot a_equations a_looks), (a_window, wv s_window)]) hP hD hS hA [] [0, 1] rfl rfl rfl (by decide) (va_runS (As := [.long r_7]) (rest := []) ⟨hx, hb, hml, hown, hts⟩ (c_J13_bitCount_95d88 (l := l) G cy  H.size r_7  (f_J13_bitCount_95d88 r_7) rfl) (va_cwS 1 hts gX5_cell_J13_bitCount_95d88 rfl rfl rfl ddN_J13_bitCount_95d88 ⟨Nat.le_of_ble_eq_true rfl, Nat.le_of_ble_eq_true rfl⟩) (preS_ (hP.sub (ws' := []) [] rfl) hK (hD.sub (ws' := []) [] rfl rfl) hN) rfl rfl hl.1 rfl (lv_room (Nat.le_of_ble_eq_true rfl)) dX5_cell_70 ⟨Nat.le_of_ble_eq_true rfl, Nat.le_of_ble_eq_true rfl⟩) (fun H locs hP hD hS => ?_)
    have hP : va_P G vwCl [(a_0, fv a_text a_window a_trial a_past a_firstSlot a_secondSlot a_equations a_looks), (a_window, wv s_window)] H := hP
    have hD : va_D A [(a_0, fv a_text a_window a_trial a_past a_firstSlot a_secondSlot a_equations a_looks), (a_window, wv s_window)] := hD
    refine W.widen (k := 2) (n := 12) (Nat.le_of_ble_eq_true rfl) (Nat.le_of_ble_eq_true rfl) ?_
    exact kr_iX (u := (f_J13_bitCount_95d88 r_7)) hx hb hr hlocks ((Option.some.inj hf).symm) hP hK hD hN hS hS.2.2 dX5_cell_73
  have hf := in_ h_6 hf
  by_cases h_8 : x2 = 3
  · have hf := ip_ h_8 hf
    refine lv_tableIn (tgt := 74) (off := 68) hx hb dX5_cell_6 (by show ¬ x2.toInt < 0; rw [h_8]; decide) (by show ¬ 3 < x2.toInt; rw [h_8]; decide) (by show (#[30, 47, 56, 68] : Array Int)[(x2.toInt - 0).toNat]? = some 68; rw [h_8]; rfl) (by decide) ?_
    refine lv_aload_n hx hb dX5_cell_74 rfl (lv_at hl 0 rfl) ?_
    refine va_get (D := G) (ci := 5) (v := .ref a_window) (C := RX5) (T := TX5) (N := 8) hx hb hts iw_X5_cell_X5 hown hK hP 0 rfl rfl 1 (by decide) (hts (.fieldLink RX5 19 "PaneFrost" "window" "LPaneFrost$Window;") (by decide +kernel)) (fun _ h9 => h9) rfl dX5_cell_75 ?_
    refine lv_iload_n hx hb dX5_cell_78 rfl (lv_at hl 1 rfl) ?_
    obtain ⟨r_9, hh_r_9, hf⟩ := obd_some hf
    refine kc_i (w1 := [(a_window, wv s_window)]) (wr := [(a_0, fv a_text a_window a_trial a_past a_firstSlot a_secondSlot a_equations a_looks)]) hP hD hS hA [1] [0] rfl rfl rfl (by decide) (va_runV (As := [.int x1]) (rest := []) ⟨hx, hb, hml, hown, hts⟩ (c_X4_scratchesAt (l := l) G cy a_window H.size s_window x1 n r_9 hh_r_9) (cwV 1 hts gX5_cell_X4_scratchesAt rfl rfl rfl ddV_X4_scratchesAt ⟨Nat.le_of_ble_eq_true rfl, Nat.le_of_ble_eq_true rfl⟩) (preV_ (ci := 4) (q0 := 0) rfl rfl (hP.sub (ws' := [(a_window, wv s_window)]) [1] rfl) hK (hD.sub (ws' := [(a_window, wv s_window)]) [1] rfl rfl) hN) rfl rfl hl.1 rfl (lv_room (Nat.le_of_ble_eq_true rfl)) dX5_cell_79 ⟨Nat.le_of_ble_eq_true rfl, Nat.le_of_ble_eq_true rfl⟩) (fun H locs hP hD hS => ?_)
    have hP : va_P G vwCl [(a_0, fv a_text a_window a_trial a_past a_firstSlot a_secondSlot a_equations a_looks), (a_window, wv s_window)] H := hP
    have hD : va_D A [(a_0, fv a_text a_window a_trial a_past a_firstSlot a_secondSlot a_equations a_looks), (a_window, wv s_window)] := hD
    refine W.widen (k := 2) (n := 12) (Nat.le_of_ble_eq_true rfl) (Nat.le_of_ble_eq_true rfl) ?_
    exact kr_iX (u := r_9) hx hb hr hlocks ((Option.some.inj hf).symm) hP hK hD hN hS hS.2.2 dX5_cell_82
  have hf := in_ h_8 hf
  have th_2 : ¬ x2.toInt = 0 := fun q => h_2 (Int32.toInt_inj.mp (q.trans (by decide)))
  have th_4 : ¬ x2.toInt = 1 := fun q => h_4 (Int32.toInt_inj.mp (q.trans (by decide)))
  have th_6 : ¬ x2.toInt = 2 := fun q => h_6 (Int32.toInt_inj.mp (q.trans (by decide)))
  have th_8 : ¬ x2.toInt = 3 := fun q => h_8 (Int32.toInt_inj.mp (q.trans (by decide)))
  have hdf : (x2.toInt < 0 ∨ 3 < x2.toInt) := by omega
  refine lv_tableOut (tgt := 83) hx hb dX5_cell_6 hdf (by decide) ?_
  exact kt_S hx hb hfl (own := RX5) (X := "java/lang/IllegalArgumentException") (text := "what is not 0 to 3") (names := xnm) (ik := 163) (is := 186) (ic := 167) hown (by decide +kernel) xnm_fit (hts (.classLink RX5 163 "java/lang/IllegalArgumentException") (by decide +kernel)) (hts (.initialized "java/lang/IllegalArgumentException") (by decide +kernel)) hE.2.2.2.2.2.2.1 (vx_hat (fun w hw => hts w (xm_X5_cell_2 w hw)) xh_2 (xB_of hE.2.2.1 hE.2.2.1.2.2.2.2.1)) xg_2 hE hP hD hS (hl.1.trans hml.symm) hnt hlocks dX5_cell_83 dX5_cell_86 dX5_cell_87 dX5_cell_89 dX5_cell_92 (Nat.le_of_ble_eq_true rfl) (Nat.le_of_ble_eq_true rfl) (Nat.le_of_ble_eq_true rfl) (Nat.le_of_ble_eq_true rfl) (Nat.le_of_ble_eq_true rfl) (Nat.le_of_ble_eq_true rfl) 2 rfl ((Option.some.inj hf).symm)
set_option maxHeartbeats 4000000 in
set_option maxRecDepth 100000 in
theorem c_X5_neighbour {l : Launch} (hfl : l.stackTraces = false) (G : va_G) (cy : Nat → ClassId) (a_0 : Nat) (a_text : Nat) (a_window : Nat) (a_trial : Nat) (a_past : Nat) (a_firstSlot : Nat) (a_secondSlot : Nat) (a_equations : Nat) (a_looks : Nat) (sz : Nat) (s_window : WT) (x1 : Int32) (x2 : Int32)  (R : Nat ⊕ (Int32)) (hf : f_X5_neighbour s_window x1 x2 = some R) : vx_Met l yX5_neighbour wsX5_neighbour ({ frames := 8, cells := 2, slots := 12, locals := 123 } : Room) (va_Pc [.ref a_0, .int x1, .int x2] (pcX G cy [(a_0, fv a_text a_window a_trial a_past a_firstSlot a_secondSlot a_equations a_looks), (a_window, wv s_window)] sz)) (va_Qi (fun r (u : Int32) => R = .inr u ∧ r = u) (fun u t => Wd G cy (va_A [(a_0, fv a_text a_window a_trial a_past a_firstSlot a_secondSlot a_equations a_looks), (a_window, wv s_window)] sz) [(a_0, fv a_text a_window a_trial a_past a_firstSlot a_secondSlot a_equations a_looks), (a_window, wv s_window)] t) (va_A [(a_0, fv a_text a_window a_trial a_past a_firstSlot a_secondSlot a_equations a_looks), (a_window, wv s_window)] sz)) (vx_X (fun u : Nat => R = .inl u) (fun E u t => E = exN u ∧ va_P G vwCl [(a_0, fv a_text a_window a_trial a_past a_firstSlot a_secondSlot a_equations a_looks), (a_window, wv s_window)] t.heap ∧ va_D (va_A [(a_0, fv a_text a_window a_trial a_past a_firstSlot a_secondSlot a_equations a_looks), (a_window, wv s_window)] sz) [(a_0, fv a_text a_window a_trial a_past a_firstSlot a_secondSlot a_equations a_looks), (a_window, wv s_window)]) (va_A [(a_0, fv a_text a_window a_trial a_past a_firstSlot a_secondSlot a_equations a_looks), (a_window, wv s_window)] sz)) 2 12 (va_A [(a_0, fv a_text a_window a_trial a_past a_firstSlot a_secondSlot a_equations a_looks), (a_window, wv s_window)] sz) := by
  refine vx_ofW (cc := cX5_neighbour) (maxL := 3) (ret := (some .int)) (by decide) rfl ?_
  intro p e s m args below meth c s₁ B hml hnt hv
  obtain ⟨rfl, ⟨hsz, hP, hK, hD0, hN⟩, hE⟩ := hv
  have hx := B.exec
  have hb := B.bytes
  have hr := B.returns
  have hts := atoms_spec (ws := wsX5_neighbour) B.pre
  have hown : s.vm.findClass RX5 = some m.cls := findClass_of_methodNamed B.named
  have hlocks := B.notSynchronized
  subst hsz
  have hD := hD0.self (sz := s.heap.size)
  generalize hAe : va_A [(a_0, fv a_text a_window a_trial a_past a_firstSlot a_secondSlot a_equations a_looks), (a_window, wv s_window)] s.heap.size = A at hD hE ⊢
  have hA : ∀ q : Nat, s.heap.size ≤ q → A q := fun q h => by rw [← hAe]; exact Or.inr h
  have hS : va_S A s.heap s.heap [] := va_S.rf
  have hP : va_P G vwCl [(a_0, fv a_text a_window a_trial a_past a_firstSlot a_secondSlot a_equations a_looks), (a_window, wv s_window)] s.heap := hP
  have hl := lv_entry [.ref a_0, .int x1, .int x2] (n := 3) (Nat.le_of_ble_eq_true rfl)
  rw [lg_entry_eq]
  generalize (lg_sl [.ref a_0, .int x1, .int x2] ++ List.replicate (3 - (lg_sl [.ref a_0, .int x1, .int x2]).length) Slot.unset).toArray = ls at hl ⊢
  have hl : lv_has ls 3 [(0, .ref a_0), (1, .int x1), (2, .int x2)] := hl
  unfold f_X5_neighbour at hf
  refine lv_aload_n hx hb dX5_neighbour_0 rfl (lv_at hl 0 rfl) ?_
  refine lv_iload_n hx hb dX5_neighbour_1 rfl (lv_at hl 1 rfl) ?_
  obtain ⟨r_1, hh_r_1, hf⟩ := obx_some hf
  refine kx_v (w1 := fun (_ : Unit) => [(a_0, fv a_text a_window a_trial a_past a_firstSlot a_secondSlot a_equations a_looks), (a_window, wv s_window)]) (wr := []) hP hD hS hA [0, 1] [] rfl rfl rfl (by decide) (vx_runV (As := [.int x1]) (rest := []) ⟨hx, hb, hml, hown, hts⟩ (c_X5_needCell (l := l) hfl G cy a_0 a_text a_window a_trial a_past a_firstSlot a_secondSlot a_equations a_looks s.heap.size s_window x1  r_1 hh_r_1) (cwV 1 hts gX5_neighbour_X5_needCell rfl rfl rfl ddV_X5_needCell ⟨Nat.le_of_ble_eq_true rfl, Nat.le_of_ble_eq_true rfl⟩) (preVX (ci := 5) (q0 := 0) rfl rfl (hE.kept hS.2.1) (va_free hD hS hA (wc := [(a_0, fv a_text a_window a_trial a_past a_firstSlot a_secondSlot a_equations a_looks), (a_window, wv s_window)]) [0, 1] rfl) hP hK hD hN) rfl rfl hl.1 rfl (lv_room (Nat.le_of_ble_eq_true rfl)) dX5_neighbour_2 ⟨Nat.le_of_ble_eq_true rfl, Nat.le_of_ble_eq_true rfl⟩) (fun u ce q9 H locs hz hP hD hS hc1 hc2 hc3 => ?_) (fun u_1 H locs hz hP hD hS => ?_)
  · subst hz
    have hP : va_P G vwCl [(a_0, fv a_text a_window a_trial a_past a_firstSlot a_secondSlot a_equations a_looks), (a_window, wv s_window)] H := hP
    have hD : va_D A [(a_0, fv a_text a_window a_trial a_past a_firstSlot a_secondSlot a_equations a_looks), (a_window, wv s_window)] := hD
    exact vx_widen (k := 2) (n := 12) (Nat.le_of_ble_eq_true rfl) (Nat.le_of_ble_eq_true rfl) (kx_out u hnt hlocks (obx_l hf) hP hK hD hN hS hc1 hc2 hc3 (Nat.le_refl _) (Nat.le_refl _))
  subst hz
  have hf := obx_r hf
  have hP : va_P G vwCl [(a_0, fv a_text a_window a_trial a_past a_firstSlot a_secondSlot a_equations a_looks), (a_window, wv s_window)] H := hP
  have hD : va_D A [(a_0, fv a_text a_window a_trial a_past a_firstSlot a_secondSlot a_equations a_looks), (a_window, wv s_window)] := hD
  refine lv_aload_n hx hb dX5_neighbour_5 rfl (lv_at hl 0 rfl) ?_
  refine lv_iload_n hx hb dX5_neighbour_6 rfl (lv_at hl 2 rfl) ?_
  refine lv_iconst (v := 0) hx hb dX5_neighbour_7 (by decide) ?_
  refine lv_iconst (v := 3) hx hb dX5_neighbour_8 (by decide) ?_
  obtain ⟨r_2, hh_r_2, hf⟩ := obx_some hf
  refine kx_v (w1 := fun (_ : Unit) => []) (wr := [(a_0, fv a_text a_window a_trial a_past a_firstSlot a_secondSlot a_equations a_looks), (a_window, wv s_window)]) hP hD hS hA [] [0, 1] rfl rfl rfl (by decide) (vx_runV (As := [.int x2, .int 0, .int 3]) (rest := []) ⟨hx, hb, hml, hown, hts⟩ (c_X5_needRange (l := l) hfl G cy a_0 H.size x2 0 3  r_2 hh_r_2) (cwV 3 hts gX5_neighbour_X5_needRange rfl rfl rfl ddV_X5_needRange ⟨Nat.le_of_ble_eq_true rfl, Nat.le_of_ble_eq_true rfl⟩) (preVX2 (ci := 5) (q0 := 0) rfl rfl hP (hE.kept hS.2.1) (va_free hD hS hA (wc := []) [] rfl) (hP.sub (ws' := []) [] rfl) hK (hD.sub (ws' := []) [] rfl rfl) hN) rfl rfl hl.1 rfl (lv_room (Nat.le_of_ble_eq_true rfl)) dX5_neighbour_9 ⟨Nat.le_of_ble_eq_true rfl, Nat.le_of_ble_eq_true rfl⟩) (fun u ce q9 H locs hz hP hD hS hc1 hc2 hc3 => ?_) (fun u_2 H locs hz hP hD hS => ?_)
  · subst hz
    have hP : va_P G vwCl [(a_0, fv a_text a_window a_trial a_past a_firstSlot a_secondSlot a_equations a_looks), (a_window, wv s_window)] H := hP
    have hD : va_D A [(a_0, fv a_text a_window a_trial a_past a_firstSlot a_secondSlot a_equations a_looks), (a_window, wv s_window)] := hD
    exact vx_widen (k := 2) (n := 12) (Nat.le_of_ble_eq_true rfl) (Nat.le_of_ble_eq_true rfl) (kx_out u hnt hlocks (obx_l hf) hP hK hD hN hS hc1 hc2 hc3 (Nat.le_refl _) (Nat.le_refl _))
  subst hz
  have hf := obx_r hf
  have hP : va_P G vwCl [(a_0, fv a_text a_window a_trial a_past a_firstSlot a_secondSlot a_equations a_looks), (a_window, wv s_window)] H := hP
  have hD : va_D A [(a_0, fv a_text a_window a_trial a_past a_firstSlot a_secondSlot a_equations a_looks), (a_window, wv s_window)] := hD
  refine lv_aload_n hx hb dX5_neighbour_12 rfl (lv_at hl 0 rfl) ?_
  refine va_get (D := G) (ci := 5) (v := .ref a_window) (C := RX5) (T := TX5) (N := 8) hx hb hts iw_X5_neighbour_X5 hown hK hP 0 rfl rfl 1 (by decide) (hts (.fieldLink RX5 19 "PaneFrost" "window" "LPaneFrost$Window;") (by decide +kernel)) (fun _ h9 => h9) rfl dX5_neighbour_13 ?_
  refine lv_iload_n hx hb dX5_neighbour_16 rfl (lv_at hl 1 rfl) ?_
  refine lv_iload_n hx hb dX5_neighbour_17 rfl (lv_at hl 2 rfl) ?_
  refine kc_i (w1 := [(a_window, wv s_window)]) (wr := [(a_0, fv a_text a_window a_trial a_past a_firstSlot a_secondSlot a_equations a_looks)]) hP hD hS hA [1] [0] rfl rfl rfl (by decide) (va_runV (As := [.int x1, .int x2]) (rest := []) ⟨hx, hb, hml, hown, hts⟩ (c_X4_beside (l := l) G cy a_window H.size s_window x1 x2  (f_X4_beside s_window x1 x2) rfl) (cwV 2 hts gX5_neighbour_X4_beside rfl rfl rfl ddV_X4_beside ⟨Nat.le_of_ble_eq_true rfl, Nat.le_of_ble_eq_true rfl⟩) (preV_ (ci := 4) (q0 := 0) rfl rfl (hP.sub (ws' := [(a_window, wv s_window)]) [1] rfl) hK (hD.sub (ws' := [(a_window, wv s_window)]) [1] rfl rfl) hN) rfl rfl hl.1 rfl (lv_room (Nat.le_of_ble_eq_true rfl)) dX5_neighbour_18 ⟨Nat.le_of_ble_eq_true rfl, Nat.le_of_ble_eq_true rfl⟩) (fun H locs hP hD hS => ?_)
  have hP : va_P G vwCl [(a_0, fv a_text a_window a_trial a_past a_firstSlot a_secondSlot a_equations a_looks), (a_window, wv s_window)] H := hP
  have hD : va_D A [(a_0, fv a_text a_window a_trial a_past a_firstSlot a_secondSlot a_equations a_looks), (a_window, wv s_window)] := hD
  exact kr_iX (u := (f_X4_beside s_window x1 x2)) hx hb hr hlocks ((Option.some.inj hf).symm) hP hK hD hN hS hS.2.2 dX5_neighbour_21
set_option maxHeartbeats 4000000 in
set_option maxRecDepth 100000 in
theorem c_X5_side {l : Launch} (hfl : l.stackTraces = false) (G : va_G) (cy : Nat → ClassId) (a_0 : Nat) (a_text : Nat) (a_window : Nat) (a_trial : Nat) (a_past : Nat) (a_firstSlot : Nat) (a_secondSlot : Nat) (a_equations : Nat) (a_looks : Nat) (sz : Nat) (s_window : WT) (x1 : Int32)  (R : Nat ⊕ (Int32)) (hf : f_X5_side s_window x1 = some R) : vx_Met l yX5_side wsX5_side ({ frames := 8, cells := 1, slots := 6, locals := 123 } : Room) (va_Pc [.ref a_0, .int x1] (pcX G cy [(a_0, fv a_text a_window a_trial a_past a_firstSlot a_secondSlot a_equations a_looks), (a_window, wv s_window)] sz)) (va_Qi (fun r (u : Int32) => R = .inr u ∧ r = u) (fun u t => Wd G cy (va_A [(a_0, fv a_text a_window a_trial a_past a_firstSlot a_secondSlot a_equations a_looks), (a_window, wv s_window)] sz) [(a_0, fv a_text a_window a_trial a_past a_firstSlot a_secondSlot a_equations a_looks), (a_window, wv s_window)] t) (va_A [(a_0, fv a_text a_window a_trial a_past a_firstSlot a_secondSlot a_equations a_looks), (a_window, wv s_window)] sz)) (vx_X (fun u : Nat => R = .inl u) (fun E u t => E = exN u ∧ va_P G vwCl [(a_0, fv a_text a_window a_trial a_past a_firstSlot a_secondSlot a_equations a_looks), (a_window, wv s_window)] t.heap ∧ va_D (va_A [(a_0, fv a_text a_window a_trial a_past a_firstSlot a_secondSlot a_equations a_looks), (a_window, wv s_window)] sz) [(a_0, fv a_text a_window a_trial a_past a_firstSlot a_secondSlot a_equations a_looks), (a_window, wv s_window)]) (va_A [(a_0, fv a_text a_window a_trial a_past a_firstSlot a_secondSlot a_equations a_looks), (a_window, wv s_window)] sz)) 1 6 (va_A [(a_0, fv a_text a_window a_trial a_past a_firstSlot a_secondSlot a_equations a_looks), (a_window, wv s_window)] sz) := by
  refine vx_ofW (cc := cX5_side) (maxL := 2) (ret := (some .int)) (by decide) rfl ?_
  intro p e s m args below meth c s₁ B hml hnt hv
  obtain ⟨rfl, ⟨hsz, hP, hK, hD0, hN⟩, hE⟩ := hv
  have hx := B.exec
  have hb := B.bytes
  have hr := B.returns
  have hts := atoms_spec (ws := wsX5_side) B.pre
  have hown : s.vm.findClass RX5 = some m.cls := findClass_of_methodNamed B.named
  have hlocks := B.notSynchronized
  subst hsz
  have hD := hD0.self (sz := s.heap.size)
  generalize hAe : va_A [(a_0, fv a_text a_window a_trial a_past a_firstSlot a_secondSlot a_equations a_looks), (a_window, wv s_window)] s.heap.size = A at hD hE ⊢
  have hA : ∀ q : Nat, s.heap.size ≤ q → A q := fun q h => by rw [← hAe]; exact Or.inr h
  have hS : va_S A s.heap s.heap [] := va_S.rf
  have hP : va_P G vwCl [(a_0, fv a_text a_window a_trial a_past a_firstSlot a_secondSlot a_equations a_looks), (a_window, wv s_window)] s.heap := hP
  have hl := lv_entry [.ref a_0, .int x1] (n := 2) (Nat.le_of_ble_eq_true rfl)
  rw [lg_entry_eq]
  generalize (lg_sl [.ref a_0, .int x1] ++ List.replicate (2 - (lg_sl [.ref a_0, .int x1]).length) Slot.unset).toArray = ls at hl ⊢
  have hl : lv_has ls 2 [(0, .ref a_0), (1, .int x1)] := hl
  unfold f_X5_side at hf
  refine lv_aload_n hx hb dX5_side_0 rfl (lv_at hl 0 rfl) ?_
  refine lv_iload_n hx hb dX5_side_1 rfl (lv_at hl 1 rfl) ?_
  refine lv_iconst (v := 0) hx hb dX5_side_2 (by decide) ?_
  refine lv_iconst (v := 3) hx hb dX5_side_3 (by decide) ?_
  obtain ⟨r_1, hh_r_1, hf⟩ := obx_some hf
  refine kx_v (w1 := fun (_ : Unit) => []) (wr := [(a_0, fv a_text a_window a_trial a_past a_firstSlot a_secondSlot a_equations a_looks), (a_window, wv s_window)]) hP hD hS hA [] [0, 1] rfl rfl rfl (by decide) (vx_runV (As := [.int x1, .int 0, .int 3]) (rest := []) ⟨hx, hb, hml, hown, hts⟩ (c_X5_needRange (l := l) hfl G cy a_0 s.heap.size x1 0 3  r_1 hh_r_1) (cwV 3 hts gX5_side_X5_needRange rfl rfl rfl ddV_X5_needRange ⟨Nat.le_of_ble_eq_true rfl, Nat.le_of_ble_eq_true rfl⟩) (preVX2 (ci := 5) (q0 := 0) rfl rfl hP (hE.kept hS.2.1) (va_free hD hS hA (wc := []) [] rfl) (hP.sub (ws' := []) [] rfl) hK (hD.sub (ws' := []) [] rfl rfl) hN) rfl rfl hl.1 rfl (lv_room (Nat.le_of_ble_eq_true rfl)) dX5_side_4 ⟨Nat.le_of_ble_eq_true rfl, Nat.le_of_ble_eq_true rfl⟩) (fun u ce q9 H locs hz hP hD hS hc1 hc2 hc3 => ?_) (fun u_1 H locs hz hP hD hS => ?_)
  · subst hz
    have hP : va_P G vwCl [(a_0, fv a_text a_window a_trial a_past a_firstSlot a_secondSlot a_equations a_looks), (a_window, wv s_window)] H := hP
    have hD : va_D A [(a_0, fv a_text a_window a_trial a_past a_firstSlot a_secondSlot a_equations a_looks), (a_window, wv s_window)] := hD
    exact vx_widen (k := 1) (n := 6) (Nat.le_of_ble_eq_true rfl) (Nat.le_of_ble_eq_true rfl) (kx_out u hnt hlocks (obx_l hf) hP hK hD hN hS hc1 hc2 hc3 (Nat.le_refl _) (Nat.le_refl _))
  subst hz
  have hf := obx_r hf
  have hP : va_P G vwCl [(a_0, fv a_text a_window a_trial a_past a_firstSlot a_secondSlot a_equations a_looks), (a_window, wv s_window)] H := hP
  have hD : va_D A [(a_0, fv a_text a_window a_trial a_past a_firstSlot a_secondSlot a_equations a_looks), (a_window, wv s_window)] := hD
  refine lv_aload_n hx hb dX5_side_7 rfl (lv_at hl 0 rfl) ?_
  refine va_get (D := G) (ci := 5) (v := .ref a_window) (C := RX5) (T := TX5) (N := 8) hx hb hts iw_X5_side_X5 hown hK hP 0 rfl rfl 1 (by decide) (hts (.fieldLink RX5 19 "PaneFrost" "window" "LPaneFrost$Window;") (by decide +kernel)) (fun _ h9 => h9) rfl dX5_side_8 ?_
  refine lv_iload_n hx hb dX5_side_11 rfl (lv_at hl 1 rfl) ?_
  refine kc_i (w1 := [(a_window, wv s_window)]) (wr := [(a_0, fv a_text a_window a_trial a_past a_firstSlot a_secondSlot a_equations a_looks)]) hP hD hS hA [1] [0] rfl rfl rfl (by decide) (va_runV (As := [.int x1]) (rest := []) ⟨hx, hb, hml, hown, hts⟩ (c_X4_kind (l := l) G cy a_window H.size s_window x1  (f_X4_kind s_window x1) rfl) (cwV 1 hts gX5_side_X4_kind rfl rfl rfl ddV_X4_kind ⟨Nat.le_of_ble_eq_true rfl, Nat.le_of_ble_eq_true rfl⟩) (preV_ (ci := 4) (q0 := 0) rfl rfl (hP.sub (ws' := [(a_window, wv s_window)]) [1] rfl) hK (hD.sub (ws' := [(a_window, wv s_window)]) [1] rfl rfl) hN) rfl rfl hl.1 rfl (lv_room (Nat.le_of_ble_eq_true rfl)) dX5_side_12 ⟨Nat.le_of_ble_eq_true rfl, Nat.le_of_ble_eq_true rfl⟩) (fun H locs hP hD hS => ?_)
  have hP : va_P G vwCl [(a_0, fv a_text a_window a_trial a_past a_firstSlot a_secondSlot a_equations a_looks), (a_window, wv s_window)] H := hP
  have hD : va_D A [(a_0, fv a_text a_window a_trial a_past a_firstSlot a_secondSlot a_equations a_looks), (a_window, wv s_window)] := hD
  exact kr_iX (u := (f_X4_kind s_window x1)) hx hb hr hlocks ((Option.some.inj hf).symm) hP hK hD hN hS hS.2.2 dX5_side_15
set_option maxHeartbeats 4000000 in
set_option maxRecDepth 100000 in
theorem c_X5_size {l : Launch} (hfl : l.stackTraces = false) (G : va_G) (cy : Nat → ClassId) (a_0 : Nat) (a_text : Nat) (a_window : Nat) (a_trial : Nat) (a_past : Nat) (a_past_kept : Nat) (a_firstSlot : Nat) (a_secondSlot : Nat) (a_equations : Nat) (a_looks : Nat) (ak : Nat → Nat) (sz : Nat) (s_window : WT) (s_past : PT) (sk : Nat → WT) (x1 : Int32) (x2 : Int32) (n : Nat) (R : Nat ⊕ (Int32 × WT × PT × (Nat → WT))) (hf : f_X5_size n s_window s_past sk x1 x2 = some R) : vx_Met l yX5_size wsX5_size ({ frames := 8, cells := 2, slots := 12, locals := 123 } : Room) (va_Pc [.ref a_0, .int x1, .int x2] (pcX G cy [(a_0, fv a_text a_window a_trial a_past a_firstSlot a_secondSlot a_equations a_looks), (a_window, wv s_window), (a_past, pv a_past_kept s_past), (a_past_kept, av_R cy 14 ak), (ak 0, wv (sk 0)), (ak 1, wv (sk 1)), (ak 2, wv (sk 2)), (ak 3, wv (sk 3)), (ak 4, wv (sk 4)), (ak 5, wv (sk 5)), (ak 6, wv (sk 6)), (ak 7, wv (sk 7)), (ak 8, wv (sk 8)), (ak 9, wv (sk 9)), (ak 10, wv (sk 10)), (ak 11, wv (sk 11)), (ak 12, wv (sk 12)), (ak 13, wv (sk 13))] sz)) (va_Qi (fun r (u : Int32 × WT × PT × (Nat → WT)) => R = .inr u ∧ r = u.1) (fun u t => Wd G cy (va_A [(a_0, fv a_text a_window a_trial a_past a_firstSlot a_secondSlot a_equations a_looks), (a_window, wv s_window), (a_past, pv a_past_kept s_past), (a_past_kept, av_R cy 14 ak), (ak 0, wv (sk 0)), (ak 1, wv (sk 1)), (ak 2, wv (sk 2)), (ak 3, wv (sk 3)), (ak 4, wv (sk 4)), (ak 5, wv (sk 5)), (ak 6, wv (sk 6)), (ak 7, wv (sk 7)), (ak 8, wv (sk 8)), (ak 9, wv (sk 9)), (ak 10, wv (sk 10)), (ak 11, wv (sk 11)), (ak 12, wv (sk 12)), (ak 13, wv (sk 13))] sz) [(a_0, fv a_text a_window a_trial a_past a_firstSlot a_secondSlot a_equations a_looks), (a_window, wv u.2.1), (a_past, pv a_past_kept u.2.2.1), (a_past_kept, av_R cy 14 ak), (ak 0, wv (u.2.2.2 0)), (ak 1, wv (u.2.2.2 1)), (ak 2, wv (u.2.2.2 2)), (ak 3, wv (u.2.2.2 3)), (ak 4, wv (u.2.2.2 4)), (ak 5, wv (u.2.2.2 5)), (ak 6, wv (u.2.2.2 6)), (ak 7, wv (u.2.2.2 7)), (ak 8, wv (u.2.2.2 8)), (ak 9, wv (u.2.2.2 9)), (ak 10, wv (u.2.2.2 10)), (ak 11, wv (u.2.2.2 11)), (ak 12, wv (u.2.2.2 12)), (ak 13, wv (u.2.2.2 13))] t) (va_A [(a_0, fv a_text a_window a_trial a_past a_firstSlot a_secondSlot a_equations a_looks), (a_window, wv s_window), (a_past, pv a_past_kept s_past), (a_past_kept, av_R cy 14 ak), (ak 0, wv (sk 0)), (ak 1, wv (sk 1)), (ak 2, wv (sk 2)), (ak 3, wv (sk 3)), (ak 4, wv (sk 4)), (ak 5, wv (sk 5)), (ak 6, wv (sk 6)), (ak 7, wv (sk 7)), (ak 8, wv (sk 8)), (ak 9, wv (sk 9)), (ak 10, wv (sk 10)), (ak 11, wv (sk 11)), (ak 12, wv (sk 12)), (ak 13, wv (sk 13))] sz)) (vx_X (fun u : Nat => R = .inl u) (fun E u t => E = exN u ∧ va_P G vwCl [(a_0, fv a_text a_window a_trial a_past a_firstSlot a_secondSlot a_equations a_looks), (a_window, wv s_window), (a_past, pv a_past_kept s_past), (a_past_kept, av_R cy 14 ak), (ak 0, wv (sk 0)), (ak 1, wv (sk 1)), (ak 2, wv (sk 2)), (ak 3, wv (sk 3)), (ak 4, wv (sk 4)), (ak 5, wv (sk 5)), (ak 6, wv (sk 6)), (ak 7, wv (sk 7)), (ak 8, wv (sk 8)), (ak 9, wv (sk 9)), (ak 10, wv (sk 10)), (ak 11, wv (sk 11)), (ak 12, wv (sk 12)), (ak 13, wv (sk 13))] t.heap ∧ va_D (va_A [(a_0, fv a_text a_window a_trial a_past a_firstSlot a_secondSlot a_equations a_looks), (a_window, wv s_window), (a_past, pv a_past_kept s_past), (a_past_kept, av_R cy 14 ak), (ak 0, wv (sk 0)), (ak 1, wv (sk 1)), (ak 2, wv (sk 2)), (ak 3, wv (sk 3)), (ak 4, wv (sk 4)), (ak 5, wv (sk 5)), (ak 6, wv (sk 6)), (ak 7, wv (sk 7)), (ak 8, wv (sk 8)), (ak 9, wv (sk 9)), (ak 10, wv (sk 10)), (ak 11, wv (sk 11)), (ak 12, wv (sk 12)), (ak 13, wv (sk 13))] sz) [(a_0, fv a_text a_window a_trial a_past a_firstSlot a_secondSlot a_equations a_looks), (a_window, wv s_window), (a_past, pv a_past_kept s_past), (a_past_kept, av_R cy 14 ak), (ak 0, wv (sk 0)), (ak 1, wv (sk 1)), (ak 2, wv (sk 2)), (ak 3, wv (sk 3)), (ak 4, wv (sk 4)), (ak 5, wv (sk 5)), (ak 6, wv (sk 6)), (ak 7, wv (sk 7)), (ak 8, wv (sk 8)), (ak 9, wv (sk 9)), (ak 10, wv (sk 10)), (ak 11, wv (sk 11)), (ak 12, wv (sk 12)), (ak 13, wv (sk 13))]) (va_A [(a_0, fv a_text a_window a_trial a_past a_firstSlot a_secondSlot a_equations a_looks), (a_window, wv s_window), (a_past, pv a_past_kept s_past), (a_past_kept, av_R cy 14 ak), (ak 0, wv (sk 0)), (ak 1, wv (sk 1)), (ak 2, wv (sk 2)), (ak 3, wv (sk 3)), (ak 4, wv (sk 4)), (ak 5, wv (sk 5)), (ak 6, wv (sk 6)), (ak 7, wv (sk 7)), (ak 8, wv (sk 8)), (ak 9, wv (sk 9)), (ak 10, wv (sk 10)), (ak 11, wv (sk 11)), (ak 12, wv (sk 12)), (ak 13, wv (sk 13))] sz)) 2 12 (va_A [(a_0, fv a_text a_window a_trial a_past a_firstSlot a_secondSlot a_equations a_looks), (a_window, wv s_window), (a_past, pv a_past_kept s_past), (a_past_kept, av_R cy 14 ak), (ak 0, wv (sk 0)), (ak 1, wv (sk 1)), (ak 2, wv (sk 2)), (ak 3, wv (sk 3)), (ak 4, wv (sk 4)), (ak 5, wv (sk 5)), (ak 6, wv (sk 6)), (ak 7, wv (sk 7)), (ak 8, wv (sk 8)), (ak 9, wv (sk 9)), (ak 10, wv (sk 10)), (ak 11, wv (sk 11)), (ak 12, wv (sk 12)), (ak 13, wv (sk 13))] sz) := by
  refine vx_ofW (cc := cX5_size) (maxL := 3) (ret := (some .int)) (by decide) rfl ?_
  intro p e s m args below meth c s₁ B hml hnt hv
  obtain ⟨rfl, ⟨hsz, hP, hK, hD0, hN⟩, hE⟩ := hv
  have hx := B.exec
  have hb := B.bytes
  have hr := B.returns
  have hts := atoms_spec (ws := wsX5_size) B.pre
  have hown : s.vm.findClass RX5 = some m.cls := findClass_of_methodNamed B.named
  have hlocks := B.notSynchronized
  subst hsz
  have hD := hD0.self (sz := s.heap.size)
  generalize hAe : va_A [(a_0, fv a_text a_window a_trial a_past a_firstSlot a_secondSlot a_equations a_looks), (a_window, wv s_window), (a_past, pv a_past_kept s_past), (a_past_kept, av_R cy 14 ak), (ak 0, wv (sk 0)), (ak 1, wv (sk 1)), (ak 2, wv (sk 2)), (ak 3, wv (sk 3)), (ak 4, wv (sk 4)), (ak 5, wv (sk 5)), (ak 6, wv (sk 6)), (ak 7, wv (sk 7)), (ak 8, wv (sk 8)), (ak 9, wv (sk 9)), (ak 10, wv (sk 10)), (ak 11, wv (sk 11)), (ak 12, wv (sk 12)), (ak 13, wv (sk 13))] s.heap.size = A at hD hE ⊢
  have hA : ∀ q : Nat, s.heap.size ≤ q → A q := fun q h => by rw [← hAe]; exact Or.inr h
  have hS : va_S A s.heap s.heap [] := va_S.rf
  have hP : va_P G vwCl [(a_0, fv a_text a_window a_trial a_past a_firstSlot a_secondSlot a_equations a_looks), (a_window, wv s_window), (a_past, pv a_past_kept s_past), (a_past_kept, av_R cy 14 ak), (ak 0, wv (sk 0)), (ak 1, wv (sk 1)), (ak 2, wv (sk 2)), (ak 3, wv (sk 3)), (ak 4, wv (sk 4)), (ak 5, wv (sk 5)), (ak 6, wv (sk 6)), (ak 7, wv (sk 7)), (ak 8, wv (sk 8)), (ak 9, wv (sk 9)), (ak 10, wv (sk 10)), (ak 11, wv (sk 11)), (ak 12, wv (sk 12)), (ak 13, wv (sk 13))] s.heap := hP
  have hl := lv_entry [.ref a_0, .int x1, .int x2] (n := 3) (Nat.le_of_ble_eq_true rfl)
  rw [lg_entry_eq]
  generalize (lg_sl [.ref a_0, .int x1, .int x2] ++ List.replicate (3 - (lg_sl [.ref a_0, .int x1, .int x2]).length) Slot.unset).toArray = ls at hl ⊢
  have hl : lv_has ls 3 [(0, .ref a_0), (1, .int x1), (2, .int x2)] := hl
  unfold f_X5_size at hf
  refine lv_aload_n hx hb dX5_size_0 rfl (lv_at hl 0 rfl) ?_
  refine lv_iload_n hx hb dX5_size_1 rfl (lv_at hl 1 rfl) ?_
  refine lv_iconst (v := 2) hx hb dX5_size_2 (by decide) ?_
  refine lv_bipush (v := 8) hx hb dX5_size_3 (by decide) ?_
  obtain ⟨r_1, hh_r_1, hf⟩ := obx_some hf
  refine kx_v (w1 := fun (_ : Unit) => []) (wr := [(a_0, fv a_text a_window a_trial a_past a_firstSlot a_secondSlot a_equations a_looks), (a_window, wv s_window), (a_past, pv a_past_kept s_past), (a_past_kept, av_R cy 14 ak), (ak 0, wv (sk 0)), (ak 1, wv (sk 1)), (ak 2, wv (sk 2)), (ak 3, wv (sk 3)), (ak 4, wv (sk 4)), (ak 5, wv (sk 5)), (ak 6, wv (sk 6)), (ak 7, wv (sk 7)), (ak 8, wv (sk 8)), (ak 9, wv (sk 9)), (ak 10, wv (sk 10)), (ak 11, wv (sk 11)), (ak 12, wv (sk 12)), (ak 13, wv (sk 13))]) hP hD hS hA [] [0, 1, 2, 3, 4, 5, 6, 7, 8, 9, 10, 11, 12, 13, 14, 15, 16, 17] rfl rfl rfl (by decide) (vx_runV (As := [.int x1, .int 2, .int 8]) (rest := []) ⟨hx, hb, hml, hown, hts⟩ (c_X5_needRange (l := l) hfl G cy a_0 s.heap.size x1 2 8  r_1 hh_r_1) (cwV 3 hts gX5_size_X5_needRange rfl rfl rfl ddV_X5_needRange ⟨Nat.le_of_ble_eq_true rfl, Nat.le_of_ble_eq_true rfl⟩) (preVX2 (ci := 5) (q0 := 0) rfl rfl hP (hE.kept hS.2.1) (va_free hD hS hA (wc := []) [] rfl) (hP.sub (ws' := []) [] rfl) hK (hD.sub (ws' := []) [] rfl rfl) hN) rfl rfl hl.1 rfl (lv_room (Nat.le_of_ble_eq_true rfl)) dX5_size_5 ⟨Nat.le_of_ble_eq_true rfl, Nat.le_of_ble_eq_true rfl⟩) (fun u ce q9 H locs hz hP hD hS hc1 hc2 hc3 => ?_) (fun u_1 H locs hz hP hD hS => ?_)
  · subst hz
    have hP : va_P G vwCl [(a_0, fv a_text a_window a_trial a_past a_firstSlot a_secondSlot a_equations a_looks), (a_window, wv s_window), (a_past, pv a_past_kept s_past), (a_past_kept, av_R cy 14 ak), (ak 0, wv (sk 0)), (ak 1, wv (sk 1)), (ak 2, wv (sk 2)), (ak 3, wv (sk 3)), (ak 4, wv (sk 4)), (ak 5, wv (sk 5)), (ak 6, wv (sk 6)), (ak 7, wv (sk 7)), (ak 8, wv (sk 8)), (ak 9, wv (sk 9)), (ak 10, wv (sk 10)), (ak 11, wv (sk 11)), (ak 12, wv (sk 12)), (ak 13, wv (sk 13))] H := hP
    have hD : va_D A [(a_0, fv a_text a_window a_trial a_past a_firstSlot a_secondSlot a_equations a_looks), (a_window, wv s_window), (a_past, pv a_past_kept s_past), (a_past_kept, av_R cy 14 ak), (ak 0, wv (sk 0)), (ak 1, wv (sk 1)), (ak 2, wv (sk 2)), (ak 3, wv (sk 3)), (ak 4, wv (sk 4)), (ak 5, wv (sk 5)), (ak 6, wv (sk 6)), (ak 7, wv (sk 7)), (ak 8, wv (sk 8)), (ak 9, wv (sk 9)), (ak 10, wv (sk 10)), (ak 11, wv (sk 11)), (ak 12, wv (sk 12)), (ak 13, wv (sk 13))] := hD
    exact vx_widen (k := 2) (n := 12) (Nat.le_of_ble_eq_true rfl) (Nat.le_of_ble_eq_true rfl) (kx_out u hnt hlocks (obx_l hf) hP hK hD hN hS hc1 hc2 hc3 (Nat.le_refl _) (Nat.le_refl _))
  subst hz
  have hf := obx_r hf
  have hP : va_P G vwCl [(a_0, fv a_text a_window a_trial a_past a_firstSlot a_secondSlot a_equations a_looks), (a_window, wv s_window), (a_past, pv a_past_kept s_past), (a_past_kept, av_R cy 14 ak), (ak 0, wv (sk 0)), (ak 1, wv (sk 1)), (ak 2, wv (sk 2)), (ak 3, wv (sk 3)), (ak 4, wv (sk 4)), (ak 5, wv (sk 5)), (ak 6, wv (sk 6)), (ak 7, wv (sk 7)), (ak 8, wv (sk 8)), (ak 9, wv (sk 9)), (ak 10, wv (sk 10)), (ak 11, wv (sk 11)), (ak 12, wv (sk 12)), (ak 13, wv (sk 13))] H := hP
  have hD : va_D A [(a_0, fv a_text a_window a_trial a_past a_firstSlot a_secondSlot a_equations a_looks), (a_window, wv s_window), (a_past, pv a_past_kept s_past), (a_past_kept, av_R cy 14 ak), (ak 0, wv (sk 0)), (ak 1, wv (sk 1)), (ak 2, wv (sk 2)), (ak 3, wv (sk 3)), (ak 4, wv (sk 4)), (ak 5, wv (sk 5)), (ak 6, wv (sk 6)), (ak 7, wv (sk 7)), (ak 8, wv (sk 8)), (ak 9, wv (sk 9)), (ak 10, wv (sk 10)), (ak 11, wv (sk 11)), (ak 12, wv (sk 12)), (ak 13, wv (sk 13))] := hD
  refine lv_aload_n hx hb dX5_size_8 rfl (lv_at hl 0 rfl) ?_
  refine lv_iload_n hx hb dX5_size_9 rfl (lv_at hl 2 rfl) ?_
  refine lv_iconst (v := 2) hx hb dX5_size_10 (by decide) ?_
  refine lv_bipush (v := 8) hx hb dX5_size_11 (by decide) ?_
  obtain ⟨r_2, hh_r_2, hf⟩ := obx_some hf
  refine kx_v (w1 := fun (_ : Unit) => []) (wr := [(a_0, fv a_text a_window a_trial a_past a_firstSlot a_secondSlot a_equations a_looks), (a_window, wv s_window), (a_past, pv a_past_kept s_past), (a_past_kept, av_R cy 14 ak), (ak 0, wv (sk 0)), (ak 1, wv (sk 1)), (ak 2, wv (sk 2)), (ak 3, wv (sk 3)), (ak 4, wv (sk 4)), (ak 5, wv (sk 5)), (ak 6, wv (sk 6)), (ak 7, wv (sk 7)), (ak 8, wv (sk 8)), (ak 9, wv (sk 9)), (ak 10, wv (sk 10)), (ak 11, wv (sk 11)), (ak 12, wv (sk 12)), (ak 13, wv (sk 13))]) hP hD hS hA [] [0, 1, 2, 3, 4, 5, 6, 7, 8, 9, 10, 11, 12, 13, 14, 15, 16, 17] rfl rfl rfl (by decide) (vx_runV (As := [.int x2, .int 2, .int 8]) (rest := []) ⟨hx, hb, hml, hown, hts⟩ (c_X5_needRange (l := l) hfl G cy a_0 H.size x2 2 8  r_2 hh_r_2) (cwV 3 hts gX5_size_X5_needRange rfl rfl rfl ddV_X5_needRange ⟨Nat.le_of_ble_eq_true rfl, Nat.le_of_ble_eq_true rfl⟩) (preVX2 (ci := 5) (q0 := 0) rfl rfl hP (hE.kept hS.2.1) (va_free hD hS hA (wc := []) [] rfl) (hP.sub (ws' := []) [] rfl) hK (hD.sub (ws' := []) [] rfl rfl) hN) rfl rfl hl.1 rfl (lv_room (Nat.le_of_ble_eq_true rfl)) dX5_size_13 ⟨Nat.le_of_ble_eq_true rfl, Nat.le_of_ble_eq_true rfl⟩) (fun u ce q9 H locs hz hP hD hS hc1 hc2 hc3 => ?_) (fun u_2 H locs hz hP hD hS => ?_)
  · subst hz
    have hP : va_P G vwCl [(a_0, fv a_text a_window a_trial a_past a_firstSlot a_secondSlot a_equations a_looks), (a_window, wv s_window), (a_past, pv a_past_kept s_past), (a_past_kept, av_R cy 14 ak), (ak 0, wv (sk 0)), (ak 1, wv (sk 1)), (ak 2, wv (sk 2)), (ak 3, wv (sk 3)), (ak 4, wv (sk 4)), (ak 5, wv (sk 5)), (ak 6, wv (sk 6)), (ak 7, wv (sk 7)), (ak 8, wv (sk 8)), (ak 9, wv (sk 9)), (ak 10, wv (sk 10)), (ak 11, wv (sk 11)), (ak 12, wv (sk 12)), (ak 13, wv (sk 13))] H := hP
    have hD : va_D A [(a_0, fv a_text a_window a_trial a_past a_firstSlot a_secondSlot a_equations a_looks), (a_window, wv s_window), (a_past, pv a_past_kept s_past), (a_past_kept, av_R cy 14 ak), (ak 0, wv (sk 0)), (ak 1, wv (sk 1)), (ak 2, wv (sk 2)), (ak 3, wv (sk 3)), (ak 4, wv (sk 4)), (ak 5, wv (sk 5)), (ak 6, wv (sk 6)), (ak 7, wv (sk 7)), (ak 8, wv (sk 8)), (ak 9, wv (sk 9)), (ak 10, wv (sk 10)), (ak 11, wv (sk 11)), (ak 12, wv (sk 12)), (ak 13, wv (sk 13))] := hD
    exact vx_widen (k := 2) (n := 12) (Nat.le_of_ble_eq_true rfl) (Nat.le_of_ble_eq_true rfl) (kx_out u hnt hlocks (obx_l hf) hP hK hD hN hS hc1 hc2 hc3 (Nat.le_refl _) (Nat.le_refl _))
  subst hz
  have hf := obx_r hf
  have hP : va_P G vwCl [(a_0, fv a_text a_window a_trial a_past a_firstSlot a_secondSlot a_equations a_looks), (a_window, wv s_window), (a_past, pv a_past_kept s_past), (a_past_kept, av_R cy 14 ak), (ak 0, wv (sk 0)), (ak 1, wv (sk 1)), (ak 2, wv (sk 2)), (ak 3, wv (sk 3)), (ak 4, wv (sk 4)), (ak 5, wv (sk 5)), (ak 6, wv (sk 6)), (ak 7, wv (sk 7)), (ak 8, wv (sk 8)), (ak 9, wv (sk 9)), (ak 10, wv (sk 10)), (ak 11, wv (sk 11)), (ak 12, wv (sk 12)), (ak 13, wv (sk 13))] H := hP
  have hD : va_D A [(a_0, fv a_text a_window a_trial a_past a_firstSlot a_secondSlot a_equations a_looks), (a_window, wv s_window), (a_past, pv a_past_kept s_past), (a_past_kept, av_R cy 14 ak), (ak 0, wv (sk 0)), (ak 1, wv (sk 1)), (ak 2, wv (sk 2)), (ak 3, wv (sk 3)), (ak 4, wv (sk 4)), (ak 5, wv (sk 5)), (ak 6, wv (sk 6)), (ak 7, wv (sk 7)), (ak 8, wv (sk 8)), (ak 9, wv (sk 9)), (ak 10, wv (sk 10)), (ak 11, wv (sk 11)), (ak 12, wv (sk 12)), (ak 13, wv (sk 13))] := hD
  refine lv_aload_n hx hb dX5_size_16 rfl (lv_at hl 0 rfl) ?_
  refine va_get (D := G) (ci := 5) (v := .ref a_past) (C := RX5) (T := TX5) (N := 8) hx hb hts iw_X5_size_X5 hown hK hP 0 rfl rfl 3 (by decide) (hts (.fieldLink RX5 29 "PaneFrost" "past" "LPaneFrost$Past;") (by decide +kernel)) (fun _ h9 => h9) rfl dX5_size_17 ?_
  refine lv_aload_n hx hb dX5_size_20 rfl (lv_at hl 0 rfl) ?_
  refine va_get (D := G) (ci := 5) (v := .ref a_window) (C := RX5) (T := TX5) (N := 8) hx hb hts iw_X5_size_X5 hown hK hP 0 rfl rfl 1 (by decide) (hts (.fieldLink RX5 19 "PaneFrost" "window" "LPaneFrost$Window;") (by decide +kernel)) (fun _ h9 => h9) rfl dX5_size_21 ?_
  obtain ⟨r_3, hh_r_3⟩ : ∃ z, z = f_X1_remember s_past sk s_window := ⟨_, rfl⟩
  have hf := lt_e hh_r_3 hf
  refine kc_v (w1 := [(a_past, pv a_past_kept r_3.1), (a_past_kept, av_R cy 14 ak), (ak 0, wv (r_3.2 0)), (ak 1, wv (r_3.2 1)), (ak 2, wv (r_3.2 2)), (ak 3, wv (r_3.2 3)), (ak 4, wv (r_3.2 4)), (ak 5, wv (r_3.2 5)), (ak 6, wv (r_3.2 6)), (ak 7, wv (r_3.2 7)), (ak 8, wv (r_3.2 8)), (ak 9, wv (r_3.2 9)), (ak 10, wv (r_3.2 10)), (ak 11, wv (r_3.2 11)), (ak 12, wv (r_3.2 12)), (ak 13, wv (r_3.2 13)), (a_window, wv s_window)]) (wr := [(a_0, fv a_text a_window a_trial a_past a_firstSlot a_secondSlot a_equations a_looks)]) hP hD hS hA [2, 3, 4, 5, 6, 7, 8, 9, 10, 11, 12, 13, 14, 15, 16, 17, 1] [0] rfl rfl rfl (by decide) (va_runV (As := [.ref a_window]) (rest := []) ⟨hx, hb, hml, hown, hts⟩ (c_X1_remember (l := l) G cy a_past a_past_kept a_window ak H.size s_past sk s_window  r_3 hh_r_3.symm) (cwV 1 hts gX5_size_X1_remember rfl rfl rfl ddV_X1_remember ⟨Nat.le_of_ble_eq_true rfl, Nat.le_of_ble_eq_true rfl⟩) (preV_ (ci := 1) (q0 := 0) rfl rfl (hP.sub (ws' := [(a_past, pv a_past_kept s_past), (a_past_kept, av_R cy 14 ak), (ak 0, wv (sk 0)), (ak 1, wv (sk 1)), (ak 2, wv (sk 2)), (ak 3, wv (sk 3)), (ak 4, wv (sk 4)), (ak 5, wv (sk 5)), (ak 6, wv (sk 6)), (ak 7, wv (sk 7)), (ak 8, wv (sk 8)), (ak 9, wv (sk 9)), (ak 10, wv (sk 10)), (ak 11, wv (sk 11)), (ak 12, wv (sk 12)), (ak 13, wv (sk 13)), (a_window, wv s_window)]) [2, 3, 4, 5, 6, 7, 8, 9, 10, 11, 12, 13, 14, 15, 16, 17, 1] rfl) hK (hD.sub (ws' := [(a_past, pv a_past_kept s_past), (a_past_kept, av_R cy 14 ak), (ak 0, wv (sk 0)), (ak 1, wv (sk 1)), (ak 2, wv (sk 2)), (ak 3, wv (sk 3)), (ak 4, wv (sk 4)), (ak 5, wv (sk 5)), (ak 6, wv (sk 6)), (ak 7, wv (sk 7)), (ak 8, wv (sk 8)), (ak 9, wv (sk 9)), (ak 10, wv (sk 10)), (ak 11, wv (sk 11)), (ak 12, wv (sk 12)), (ak 13, wv (sk 13)), (a_window, wv s_window)]) [2, 3, 4, 5, 6, 7, 8, 9, 10, 11, 12, 13, 14, 15, 16, 17, 1] rfl rfl) hN) rfl rfl hl.1 rfl (lv_room (Nat.le_of_ble_eq_true rfl)) dX5_size_24 ⟨Nat.le_of_ble_eq_true rfl, Nat.le_of_ble_eq_true rfl⟩) (fun H locs hP hD hS => ?_)
  have hP : va_P G vwCl [(a_0, fv a_text a_window a_trial a_past a_firstSlot a_secondSlot a_equations a_looks), (a_past, pv a_past_kept r_3.1), (a_past_kept, av_R cy 14 ak), (ak 0, wv (r_3.2 0)), (ak 1, wv (r_3.2 1)), (ak 2, wv (r_3.2 2)), (ak 3, wv (r_3.2 3)), (ak 4, wv (r_3.2 4)), (ak 5, wv (r_3.2 5)), (ak 6, wv (r_3.2 6)), (ak 7, wv (r_3.2 7)), (ak 8, wv (r_3.2 8)), (ak 9, wv (r_3.2 9)), (ak 10, wv (r_3.2 10)), (ak 11, wv (r_3.2 11)), (ak 12, wv (r_3.2 12)), (ak 13, wv (r_3.2 13)), (a_window, wv s_window)] H := hP
  have hD : va_D A [(a_0, fv a_text a_window a_trial a_past a_firstSlot a_secondSlot a_equations a_looks), (a_past, pv a_past_kept r_3.1), (a_past_kept, av_R cy 14 ak), (ak 0, wv (r_3.2 0)), (ak 1, wv (r_3.2 1)), (ak 2, wv (r_3.2 2)), (ak 3, wv (r_3.2 3)), (ak 4, wv (r_3.2 4)), (ak 5, wv (r_3.2 5)), (ak 6, wv (r_3.2 6)), (ak 7, wv (r_3.2 7)), (ak 8, wv (r_3.2 8)), (ak 9, wv (r_3.2 9)), (ak 10, wv (r_3.2 10)), (ak 11, wv (r_3.2 11)), (ak 12, wv (r_3.2 12)), (ak 13, wv (r_3.2 13)), (a_window, wv s_window)] := hD
  refine lv_aload_n hx hb dX5_size_27 rfl (lv_at hl 0 rfl) ?_
  refine va_get (D := G) (ci := 5) (v := .ref a_window) (C := RX5) (T := TX5) (N := 8) hx hb hts iw_X5_size_X5 hown hK hP 0 rfl rfl 1 (by decide) (hts (.fieldLink RX5 19 "PaneFrost" "window" "LPaneFrost$Window;") (by decide +kernel)) (fun _ h9 => h9) rfl dX5_size_28 ?_
  refine lv_iload_n hx hb dX5_size_31 rfl (lv_at hl 1 rfl) ?_
  refine lv_iload_n hx hb dX5_size_32 rfl (lv_at hl 2 rfl) ?_
  obtain ⟨r_4, hh_r_4, hf⟩ := obd_some hf
  refine kc_v (w1 := [(a_window, wv r_4)]) (wr := [(a_0, fv a_text a_window a_trial a_past a_firstSlot a_secondSlot a_equations a_looks), (a_past, pv a_past_kept r_3.1), (a_past_kept, av_R cy 14 ak), (ak 0, wv (r_3.2 0)), (ak 1, wv (r_3.2 1)), (ak 2, wv (r_3.2 2)), (ak 3, wv (r_3.2 3)), (ak 4, wv (r_3.2 4)), (ak 5, wv (r_3.2 5)), (ak 6, wv (r_3.2 6)), (ak 7, wv (r_3.2 7)), (ak 8, wv (r_3.2 8)), (ak 9, wv (r_3.2 9)), (ak 10, wv (r_3.2 10)), (ak 11, wv (r_3.2 11)), (ak 12, wv (r_3.2 12)), (ak 13, wv (r_3.2 13))]) hP hD hS hA [17] [0, 1, 2, 3, 4, 5, 6, 7, 8, 9, 10, 11, 12, 13, 14, 15, 16] rfl rfl rfl (by decide) (va_runV (As := [.int x1, .int x2]) (rest := []) ⟨hx, hb, hml, hown, hts⟩ (c_X4_replace (l := l) G cy a_window H.size s_window x1 x2 n r_4 hh_r_4) (cwV 2 hts gX5_size_X4_replace rfl rfl rfl ddV_X4_replace ⟨Nat.le_of_ble_eq_true rfl, Nat.le_of_ble_eq_true rfl⟩) (preV_ (ci := 4) (q0 := 0) rfl rfl (hP.sub (ws' := [(a_window, wv s_window)]) [17] rfl) hK (hD.sub (ws' := [(a_window, wv s_window)]) [17] rfl rfl) hN) rfl rfl hl.1 rfl (lv_room (Nat.le_of_ble_eq_true rfl)) dX5_size_33 ⟨Nat.le_of_ble_eq_true rfl, Nat.le_of_ble_eq_true rfl⟩) (fun H locs hP hD hS => ?_)
  have hP : va_P G vwCl [(a_0, fv a_text a_window a_trial a_past a_firstSlot a_secondSlot a_equations a_looks), (a_past, pv a_past_kept r_3.1), (a_past_kept, av_R cy 14 ak), (ak 0, wv (r_3.2 0)), (ak 1, wv (r_3.2 1)), (ak 2, wv (r_3.2 2)), (ak 3, wv (r_3.2 3)), (ak 4, wv (r_3.2 4)), (ak 5, wv (r_3.2 5)), (ak 6, wv (r_3.2 6)), (ak 7, wv (r_3.2 7)), (ak 8, wv (r_3.2 8)), (ak 9, wv (r_3.2 9)), (ak 10, wv (r_3.2 10)), (ak 11, wv (r_3.2 11)), (ak 12, wv (r_3.2 12)), (ak 13, wv (r_3.2 13)), (a_window, wv r_4)] H := hP
  have hD : va_D A [(a_0, fv a_text a_window a_trial a_past a_firstSlot a_secondSlot a_equations a_looks), (a_past, pv a_past_kept r_3.1), (a_past_kept, av_R cy 14 ak), (ak 0, wv (r_3.2 0)), (ak 1, wv (r_3.2 1)), (ak 2, wv (r_3.2 2)), (ak 3, wv (r_3.2 3)), (ak 4, wv (r_3.2 4)), (ak 5, wv (r_3.2 5)), (ak 6, wv (r_3.2 6)), (ak 7, wv (r_3.2 7)), (ak 8, wv (r_3.2 8)), (ak 9, wv (r_3.2 9)), (ak 10, wv (r_3.2 10)), (ak 11, wv (r_3.2 11)), (ak 12, wv (r_3.2 12)), (ak 13, wv (r_3.2 13)), (a_window, wv r_4)] := hD
  refine lv_aload_n hx hb dX5_size_36 rfl (lv_at hl 0 rfl) ?_
  refine va_get (D := G) (ci := 5) (v := .ref a_window) (C := RX5) (T := TX5) (N := 8) hx hb hts iw_X5_size_X5 hown hK hP 0 rfl rfl 1 (by decide) (hts (.fieldLink RX5 19 "PaneFrost" "window" "LPaneFrost$Window;") (by decide +kernel)) (fun _ h9 => h9) rfl dX5_size_37 ?_
  refine kc_i (w1 := [(a_window, wv r_4)]) (wr := [(a_0, fv a_text a_window a_trial a_past a_firstSlot a_secondSlot a_equations a_looks), (a_past, pv a_past_kept r_3.1), (a_past_kept, av_R cy 14 ak), (ak 0, wv (r_3.2 0)), (ak 1, wv (r_3.2 1)), (ak 2, wv (r_3.2 2)), (ak 3, wv (r_3.2 3)), (ak 4, wv (r_3.2 4)), (ak 5, wv (r_3.2 5)), (ak 6, wv (r_3.2 6)), (ak 7, wv (r_3.2 7)), (ak 8, wv (r_3.2 8)), (ak 9, wv (r_3.2 9)), (ak 10, wv (r_3.2 10)), (ak 11, wv (r_3.2 11)), (ak 12, wv (r_3.2 12)), (ak 13, wv (r_3.2 13))]) hP hD hS hA [17] [0, 1, 2, 3, 4, 5, 6, 7, 8, 9, 10, 11, 12, 13, 14, 15, 16] rfl rfl rfl (by decide) (va_runV (As := []) (rest := []) ⟨hx, hb, hml, hown, hts⟩ (c_X4_count (l := l) G cy a_window H.size r_4  (f_X4_count r_4) rfl) (cwV 0 hts gX5_size_X4_count rfl rfl rfl ddV_X4_count ⟨Nat.le_of_ble_eq_true rfl, Nat.le_of_ble_eq_true rfl⟩) (preV_ (ci := 4) (q0 := 0) rfl rfl (hP.sub (ws' := [(a_window, wv r_4)]) [17] rfl) hK (hD.sub (ws' := [(a_window, wv r_4)]) [17] rfl rfl) hN) rfl rfl hl.1 rfl (lv_room (Nat.le_of_ble_eq_true rfl)) dX5_size_40 ⟨Nat.le_of_ble_eq_true rfl, Nat.le_of_ble_eq_true rfl⟩) (fun H locs hP hD hS => ?_)
  have hP : va_P G vwCl [(a_0, fv a_text a_window a_trial a_past a_firstSlot a_secondSlot a_equations a_looks), (a_past, pv a_past_kept r_3.1), (a_past_kept, av_R cy 14 ak), (ak 0, wv (r_3.2 0)), (ak 1, wv (r_3.2 1)), (ak 2, wv (r_3.2 2)), (ak 3, wv (r_3.2 3)), (ak 4, wv (r_3.2 4)), (ak 5, wv (r_3.2 5)), (ak 6, wv (r_3.2 6)), (ak 7, wv (r_3.2 7)), (ak 8, wv (r_3.2 8)), (ak 9, wv (r_3.2 9)), (ak 10, wv (r_3.2 10)), (ak 11, wv (r_3.2 11)), (ak 12, wv (r_3.2 12)), (ak 13, wv (r_3.2 13)), (a_window, wv r_4)] H := hP
  have hD : va_D A [(a_0, fv a_text a_window a_trial a_past a_firstSlot a_secondSlot a_equations a_looks), (a_past, pv a_past_kept r_3.1), (a_past_kept, av_R cy 14 ak), (ak 0, wv (r_3.2 0)), (ak 1, wv (r_3.2 1)), (ak 2, wv (r_3.2 2)), (ak 3, wv (r_3.2 3)), (ak 4, wv (r_3.2 4)), (ak 5, wv (r_3.2 5)), (ak 6, wv (r_3.2 6)), (ak 7, wv (r_3.2 7)), (ak 8, wv (r_3.2 8)), (ak 9, wv (r_3.2 9)), (ak 10, wv (r_3.2 10)), (ak 11, wv (r_3.2 11)), (ak 12, wv (r_3.2 12)), (ak 13, wv (r_3.2 13)), (a_window, wv r_4)] := hD
  exact kr_iX (u := ((f_X4_count r_4), r_4, r_3.1, r_3.2)) hx hb hr hlocks ((Option.some.inj hf).symm) (hP.sub (ws' := [(a_0, fv a_text a_window a_trial a_past a_firstSlot a_secondSlot a_equations a_looks), (a_window, wv r_4), (a_past, pv a_past_kept r_3.1), (a_past_kept, av_R cy 14 ak), (ak 0, wv (r_3.2 0)), (ak 1, wv (r_3.2 1)), (ak 2, wv (r_3.2 2)), (ak 3, wv (r_3.2 3)), (ak 4, wv (r_3.2 4)), (ak 5, wv (r_3.2 5)), (ak 6, wv (r_3.2 6)), (ak 7, wv (r_3.2 7)), (ak 8, wv (r_3.2 8)), (ak 9, wv (r_3.2 9)), (ak 10, wv (r_3.2 10)), (ak 11, wv (r_3.2 11)), (ak 12, wv (r_3.2 12)), (ak 13, wv (r_3.2 13))]) [0, 17, 1, 2, 3, 4, 5, 6, 7, 8, 9, 10, 11, 12, 13, 14, 15, 16] rfl) hK (hD.sub (ws' := [(a_0, fv a_text a_window a_trial a_past a_firstSlot a_secondSlot a_equations a_looks), (a_window, wv r_4), (a_past, pv a_past_kept r_3.1), (a_past_kept, av_R cy 14 ak), (ak 0, wv (r_3.2 0)), (ak 1, wv (r_3.2 1)), (ak 2, wv (r_3.2 2)), (ak 3, wv (r_3.2 3)), (ak 4, wv (r_3.2 4)), (ak 5, wv (r_3.2 5)), (ak 6, wv (r_3.2 6)), (ak 7, wv (r_3.2 7)), (ak 8, wv (r_3.2 8)), (ak 9, wv (r_3.2 9)), (ak 10, wv (r_3.2 10)), (ak 11, wv (r_3.2 11)), (ak 12, wv (r_3.2 12)), (ak 13, wv (r_3.2 13))]) [0, 17, 1, 2, 3, 4, 5, 6, 7, 8, 9, 10, 11, 12, 13, 14, 15, 16] rfl rfl) hN hS hS.2.2 dX5_size_43
set_option maxHeartbeats 4000000 in
set_option maxRecDepth 100000 in
theorem c_X5_flip {l : Launch} (hfl : l.stackTraces = false) (G : va_G) (cy : Nat → ClassId) (a_0 : Nat) (a_text : Nat) (a_window : Nat) (a_trial : Nat) (a_past : Nat) (a_past_kept : Nat) (a_firstSlot : Nat) (a_secondSlot : Nat) (a_equations : Nat) (a_looks : Nat) (ak : Nat → Nat) (sz : Nat) (s_window : WT) (s_past : PT) (sk : Nat → WT) (x1 : Int32)  (R : Nat ⊕ (Int32 × WT × PT × (Nat → WT))) (hf : f_X5_flip s_window s_past sk x1 = some R) : vx_Met l yX5_flip wsX5_flip ({ frames := 8, cells := 1, slots := 6, locals := 121 } : Room) (va_Pc [.ref a_0, .int x1] (pcX G cy [(a_0, fv a_text a_window a_trial a_past a_firstSlot a_secondSlot a_equations a_looks), (a_window, wv s_window), (a_past, pv a_past_kept s_past), (a_past_kept, av_R cy 14 ak), (ak 0, wv (sk 0)), (ak 1, wv (sk 1)), (ak 2, wv (sk 2)), (ak 3, wv (sk 3)), (ak 4, wv (sk 4)), (ak 5, wv (sk 5)), (ak 6, wv (sk 6)), (ak 7, wv (sk 7)), (ak 8, wv (sk 8)), (ak 9, wv (sk 9)), (ak 10, wv (sk 10)), (ak 11, wv (sk 11)), (ak 12, wv (sk 12)), (ak 13, wv (sk 13))] sz)) (va_Qi (fun r (u : Int32 × WT × PT × (Nat → WT)) => R = .inr u ∧ r = u.1) (fun u t => Wd G cy (va_A [(a_0, fv a_text a_window a_trial a_past a_firstSlot a_secondSlot a_equations a_looks), (a_window, wv s_window), (a_past, pv a_past_kept s_past), (a_past_kept, av_R cy 14 ak), (ak 0, wv (sk 0)), (ak 1, wv (sk 1)), (ak 2, wv (sk 2)), (ak 3, wv (sk 3)), (ak 4, wv (sk 4)), (ak 5, wv (sk 5)), (ak 6, wv (sk 6)), (ak 7, wv (sk 7)), (ak 8, wv (sk 8)), (ak 9, wv (sk 9)), (ak 10, wv (sk 10)), (ak 11, wv (sk 11)), (ak 12, wv (sk 12)), (ak 13, wv (sk 13))] sz) [(a_0, fv a_text a_window a_trial a_past a_firstSlot a_secondSlot a_equations a_looks), (a_window, wv u.2.1), (a_past, pv a_past_kept u.2.2.1), (a_past_kept, av_R cy 14 ak), (ak 0, wv (u.2.2.2 0)), (ak 1, wv (u.2.2.2 1)), (ak 2, wv (u.2.2.2 2)), (ak 3, wv (u.2.2.2 3)), (ak 4, wv (u.2.2.2 4)), (ak 5, wv (u.2.2.2 5)), (ak 6, wv (u.2.2.2 6)), (ak 7, wv (u.2.2.2 7)), (ak 8, wv (u.2.2.2 8)), (ak 9, wv (u.2.2.2 9)), (ak 10, wv (u.2.2.2 10)), (ak 11, wv (u.2.2.2 11)), (ak 12, wv (u.2.2.2 12)), (ak 13, wv (u.2.2.2 13))] t) (va_A [(a_0, fv a_text a_window a_trial a_past a_firstSlot a_secondSlot a_equations a_looks), (a_window, wv s_window), (a_past, pv a_past_kept s_past), (a_past_kept, av_R cy 14 ak), (ak 0, wv (sk 0)), (ak 1, wv (sk 1)), (ak 2, wv (sk 2)), (ak 3, wv (sk 3)), (ak 4, wv (sk 4)), (ak 5, wv (sk 5)), (ak 6, wv (sk 6)), (ak 7, wv (sk 7)), (ak 8, wv (sk 8)), (ak 9, wv (sk 9)), (ak 10, wv (sk 10)), (ak 11, wv (sk 11)), (ak 12, wv (sk 12)), (ak 13, wv (sk 13))] sz)) (vx_X (fun u : Nat => R = .inl u) (fun E u t => E = exN u ∧ va_P G vwCl [(a_0, fv a_text a_window a_trial a_past a_firstSlot a_secondSlot a_equations a_looks), (a_window, wv s_window), (a_past, pv a_past_kept s_past), (a_past_kept, av_R cy 14 ak), (ak 0, wv (sk 0)), (ak 1, wv (sk 1)), (ak 2, wv (sk 2)), (ak 3, wv (sk 3)), (ak 4, wv (sk 4)), (ak 5, wv (sk 5)), (ak 6, wv (sk 6)), (ak 7, wv (sk 7)), (ak 8, wv (sk 8)), (ak 9, wv (sk 9)), (ak 10, wv (sk 10)), (ak 11, wv (sk 11)), (ak 12, wv (sk 12)), (ak 13, wv (sk 13))] t.heap ∧ va_D (va_A [(a_0, fv a_text a_window a_trial a_past a_firstSlot a_secondSlot a_equations a_looks), (a_window, wv s_window), (a_past, pv a_past_kept s_past), (a_past_kept, av_R cy 14 ak), (ak 0, wv (sk 0)), (ak 1, wv (sk 1)), (ak 2, wv (sk 2)), (ak 3, wv (sk 3)), (ak 4, wv (sk 4)), (ak 5, wv (sk 5)), (ak 6, wv (sk 6)), (ak 7, wv (sk 7)), (ak 8, wv (sk 8)), (ak 9, wv (sk 9)), (ak 10, wv (sk 10)), (ak 11, wv (sk 11)), (ak 12, wv (sk 12)), (ak 13, wv (sk 13))] sz) [(a_0, fv a_text a_window a_trial a_past a_firstSlot a_secondSlot a_equations a_looks), (a_window, wv s_window), (a_past, pv a_past_kept s_past), (a_past_kept, av_R cy 14 ak), (ak 0, wv (sk 0)), (ak 1, wv (sk 1)), (ak 2, wv (sk 2)), (ak 3, wv (sk 3)), (ak 4, wv (sk 4)), (ak 5, wv (sk 5)), (ak 6, wv (sk 6)), (ak 7, wv (sk 7)), (ak 8, wv (sk 8)), (ak 9, wv (sk 9)), (ak 10, wv (sk 10)), (ak 11, wv (sk 11)), (ak 12, wv (sk 12)), (ak 13, wv (sk 13))]) (va_A [(a_0, fv a_text a_window a_trial a_past a_firstSlot a_secondSlot a_equations a_looks), (a_window, wv s_window), (a_past, pv a_past_kept s_past), (a_past_kept, av_R cy 14 ak), (ak 0, wv (sk 0)), (ak 1, wv (sk 1)), (ak 2, wv (sk 2)), (ak 3, wv (sk 3)), (ak 4, wv (sk 4)), (ak 5, wv (sk 5)), (ak 6, wv (sk 6)), (ak 7, wv (sk 7)), (ak 8, wv (sk 8)), (ak 9, wv (sk 9)), (ak 10, wv (sk 10)), (ak 11, wv (sk 11)), (ak 12, wv (sk 12)), (ak 13, wv (sk 13))] sz)) 1 6 (va_A [(a_0, fv a_text a_window a_trial a_past a_firstSlot a_secondSlot a_equations a_looks), (a_window, wv s_window), (a_past, pv a_past_kept s_past), (a_past_kept, av_R cy 14 ak), (ak 0, wv (sk 0)), (ak 1, wv (sk 1)), (ak 2, wv (sk 2)), (ak 3, wv (sk 3)), (ak 4, wv (sk 4)), (ak 5, wv (sk 5)), (ak 6, wv (sk 6)), (ak 7, wv (sk 7)), (ak 8, wv (sk 8)), (ak 9, wv (sk 9)), (ak 10, wv (sk 10)), (ak 11, wv (sk 11)), (ak 12, wv (sk 12)), (ak 13, wv (sk 13))] sz) := by
  refine vx_ofW (cc := cX5_flip) (maxL := 2) (ret := (some .int)) (by decide) rfl ?_
  intro p e s m args below meth c s₁ B hml hnt hv
  obtain ⟨rfl, ⟨hsz, hP, hK, hD0, hN⟩, hE⟩ := hv
  have hx := B.exec
  have hb := B.bytes
  have hr := B.returns
  have hts := atoms_spec (ws := wsX5_flip) B.pre
  have hown : s.vm.findClass RX5 = some m.cls := findClass_of_methodNamed B.named
  have hlocks := B.notSynchronized
  subst hsz
  have hD := hD0.self (sz := s.heap.size)
  generalize hAe : va_A [(a_0, fv a_text a_window a_trial a_past a_firstSlot a_secondSlot a_equations a_looks), (a_window, wv s_window), (a_past, pv a_past_kept s_past), (a_past_kept, av_R cy 14 ak), (ak 0, wv (sk 0)), (ak 1, wv (sk 1)), (ak 2, wv (sk 2)), (ak 3, wv (sk 3)), (ak 4, wv (sk 4)), (ak 5, wv (sk 5)), (ak 6, wv (sk 6)), (ak 7, wv (sk 7)), (ak 8, wv (sk 8)), (ak 9, wv (sk 9)), (ak 10, wv (sk 10)), (ak 11, wv (sk 11)), (ak 12, wv (sk 12)), (ak 13, wv (sk 13))] s.heap.size = A at hD hE ⊢
  have hA : ∀ q : Nat, s.heap.size ≤ q → A q := fun q h => by rw [← hAe]; exact Or.inr h
  have hS : va_S A s.heap s.heap [] := va_S.rf
  have hP : va_P G vwCl [(a_0, fv a_text a_window a_trial a_past a_firstSlot a_secondSlot a_equations a_looks), (a_window, wv s_window), (a_past, pv a_past_kept s_past), (a_past_kept, av_R cy 14 ak), (ak 0, wv (sk 0)), (ak 1, wv (sk 1)), (ak 2, wv (sk 2)), (ak 3, wv (sk 3)), (ak 4, wv (sk 4)), (ak 5, wv (sk 5)), (ak 6, wv (sk 6)), (ak 7, wv (sk 7)), (ak 8, wv (sk 8)), (ak 9, wv (sk 9)), (ak 10, wv (sk 10)), (ak 11, wv (sk 11)), (ak 12, wv (sk 12)), (ak 13, wv (sk 13))] s.heap := hP
  have hl := lv_entry [.ref a_0, .int x1] (n := 2) (Nat.le_of_ble_eq_true rfl)
  rw [lg_entry_eq]
  generalize (lg_sl [.ref a_0, .int x1] ++ List.replicate (2 - (lg_sl [.ref a_0, .int x1]).length) Slot.unset).toArray = ls at hl ⊢
  have hl : lv_has ls 2 [(0, .ref a_0), (1, .int x1)] := hl
  unfold f_X5_flip at hf
  refine lv_aload_n hx hb dX5_flip_0 rfl (lv_at hl 0 rfl) ?_
  refine lv_iload_n hx hb dX5_flip_1 rfl (lv_at hl 1 rfl) ?_
  obtain ⟨r_1, hh_r_1, hf⟩ := obx_some hf
  refine kx_v (w1 := fun (_ : Unit) => [(a_0, fv a_text a_window a_trial a_past a_firstSlot a_secondSlot a_equations a_looks), (a_window, wv s_window)]) (wr := [(a_past, pv a_past_kept s_past), (a_past_kept, av_R cy 14 ak), (ak 0, wv (sk 0)), (ak 1, wv (sk 1)), (ak 2, wv (sk 2)), (ak 3, wv (sk 3)), (ak 4, wv (sk 4)), (ak 5, wv (sk 5)), (ak 6, wv (sk 6)), (ak 7, wv (sk 7)), (ak 8, wv (sk 8)), (ak 9, wv (sk 9)), (ak 10, wv (sk 10)), (ak 11, wv (sk 11)), (ak 12, wv (sk 12)), (ak 13, wv (sk 13))]) hP hD hS hA [0, 1] [2, 3, 4, 5, 6, 7, 8, 9, 10, 11, 12, 13, 14, 15, 16, 17] rfl rfl rfl (by decide) (vx_runV (As := [.int x1]) (rest := []) ⟨hx, hb, hml, hown, hts⟩ (c_X5_needCell (l := l) hfl G cy a_0 a_text a_window a_trial a_past a_firstSlot a_secondSlot a_equations a_looks s.heap.size s_window x1  r_1 hh_r_1) (cwV 1 hts gX5_flip_X5_needCell rfl rfl rfl ddV_X5_needCell ⟨Nat.le_of_ble_eq_true rfl, Nat.le_of_ble_eq_true rfl⟩) (preVX (ci := 5) (q0 := 0) rfl rfl (hE.kept hS.2.1) (va_free hD hS hA (wc := [(a_0, fv a_text a_window a_trial a_past a_firstSlot a_secondSlot a_equations a_looks), (a_window, wv s_window)]) [0, 1] rfl) (hP.sub (ws' := [(a_0, fv a_text a_window a_trial a_past a_firstSlot a_secondSlot a_equations a_looks), (a_window, wv s_window)]) [0, 1] rfl) hK (hD.sub (ws' := [(a_0, fv a_text a_window a_trial a_past a_firstSlot a_secondSlot a_equations a_looks), (a_window, wv s_window)]) [0, 1] rfl rfl) hN) rfl rfl hl.1 rfl (lv_room (Nat.le_of_ble_eq_true rfl)) dX5_flip_2 ⟨Nat.le_of_ble_eq_true rfl, Nat.le_of_ble_eq_true rfl⟩) (fun u ce q9 H locs hz hP hD hS hc1 hc2 hc3 => ?_) (fun u_1 H locs hz hP hD hS => ?_)
  · subst hz
    have hP : va_P G vwCl [(a_past, pv a_past_kept s_past), (a_past_kept, av_R cy 14 ak), (ak 0, wv (sk 0)), (ak 1, wv (sk 1)), (ak 2, wv (sk 2)), (ak 3, wv (sk 3)), (ak 4, wv (sk 4)), (ak 5, wv (sk 5)), (ak 6, wv (sk 6)), (ak 7, wv (sk 7)), (ak 8, wv (sk 8)), (ak 9, wv (sk 9)), (ak 10, wv (sk 10)), (ak 11, wv (sk 11)), (ak 12, wv (sk 12)), (ak 13, wv (sk 13)), (a_0, fv a_text a_window a_trial a_past a_firstSlot a_secondSlot a_equations a_looks), (a_window, wv s_window)] H := hP
    have hD : va_D A [(a_past, pv a_past_kept s_past), (a_past_kept, av_R cy 14 ak), (ak 0, wv (sk 0)), (ak 1, wv (sk 1)), (ak 2, wv (sk 2)), (ak 3, wv (sk 3)), (ak 4, wv (sk 4)), (ak 5, wv (sk 5)), (ak 6, wv (sk 6)), (ak 7, wv (sk 7)), (ak 8, wv (sk 8)), (ak 9, wv (sk 9)), (ak 10, wv (sk 10)), (ak 11, wv (sk 11)), (ak 12, wv (sk 12)), (ak 13, wv (sk 13)), (a_0, fv a_text a_window a_trial a_past a_firstSlot a_secondSlot a_equations a_looks), (a_window, wv s_window)] := hD
    exact vx_widen (k := 1) (n := 6) (Nat.le_of_ble_eq_true rfl) (Nat.le_of_ble_eq_true rfl) (kx_out u hnt hlocks (obx_l hf) (hP.sub (ws' := [(a_0, fv a_text a_window a_trial a_past a_firstSlot a_secondSlot a_equations a_looks), (a_window, wv s_window), (a_past, pv a_past_kept s_past), (a_past_kept, av_R cy 14 ak), (ak 0, wv (sk 0)), (ak 1, wv (sk 1)), (ak 2, wv (sk 2)), (ak 3, wv (sk 3)), (ak 4, wv (sk 4)), (ak 5, wv (sk 5)), (ak 6, wv (sk 6)), (ak 7, wv (sk 7)), (ak 8, wv (sk 8)), (ak 9, wv (sk 9)), (ak 10, wv (sk 10)), (ak 11, wv (sk 11)), (ak 12, wv (sk 12)), (ak 13, wv (sk 13))]) [16, 17, 0, 1, 2, 3, 4, 5, 6, 7, 8, 9, 10, 11, 12, 13, 14, 15] rfl) hK (hD.sub (ws' := [(a_0, fv a_text a_window a_trial a_past a_firstSlot a_secondSlot a_equations a_looks), (a_window, wv s_window), (a_past, pv a_past_kept s_past), (a_past_kept, av_R cy 14 ak), (ak 0, wv (sk 0)), (ak 1, wv (sk 1)), (ak 2, wv (sk 2)), (ak 3, wv (sk 3)), (ak 4, wv (sk 4)), (ak 5, wv (sk 5)), (ak 6, wv (sk 6)), (ak 7, wv (sk 7)), (ak 8, wv (sk 8)), (ak 9, wv (sk 9)), (ak 10, wv (sk 10)), (ak 11, wv (sk 11)), (ak 12, wv (sk 12)), (ak 13, wv (sk 13))]) [16, 17, 0, 1, 2, 3, 4, 5, 6, 7, 8, 9, 10, 11, 12, 13, 14, 15] rfl rfl) hN hS hc1 hc2 hc3 (Nat.le_refl _) (Nat.le_refl _))
  subst hz
  have hf := obx_r hf
  have hP : va_P G vwCl [(a_past, pv a_past_kept s_past), (a_past_kept, av_R cy 14 ak), (ak 0, wv (sk 0)), (ak 1, wv (sk 1)), (ak 2, wv (sk 2)), (ak 3, wv (sk 3)), (ak 4, wv (sk 4)), (ak 5, wv (sk 5)), (ak 6, wv (sk 6)), (ak 7, wv (sk 7)), (ak 8, wv (sk 8)), (ak 9, wv (sk 9)), (ak 10, wv (sk 10)), (ak 11, wv (sk 11)), (ak 12, wv (sk 12)), (ak 13, wv (sk 13)), (a_0, fv a_text a_window a_trial a_past a_firstSlot a_secondSlot a_equations a_looks), (a_window, wv s_window)] H := hP
  have hD : va_D A [(a_past, pv a_past_kept s_past), (a_past_kept, av_R cy 14 ak), (ak 0, wv (sk 0)), (ak 1, wv (sk 1)), (ak 2, wv (sk 2)), (ak 3, wv (sk 3)), (ak 4, wv (sk 4)), (ak 5, wv (sk 5)), (ak 6, wv (sk 6)), (ak 7, wv (sk 7)), (ak 8, wv (sk 8)), (ak 9, wv (sk 9)), (ak 10, wv (sk 10)), (ak 11, wv (sk 11)), (ak 12, wv (sk 12)), (ak 13, wv (sk 13)), (a_0, fv a_text a_window a_trial a_past a_firstSlot a_secondSlot a_equations a_looks), (a_window, wv s_window)] := hD
  refine lv_aload_n hx hb dX5_flip_5 rfl (lv_at hl 0 rfl) ?_
  refine va_get (D := G) (ci := 5) (v := .ref a_past) (C := RX5) (T := TX5) (N := 8) hx hb hts iw_X5_flip_X5 hown hK hP 16 rfl rfl 3 (by decide) (hts (.fieldLink RX5 29 "PaneFrost" "past" "LPaneFrost$Past;") (by decide +kernel)) (fun _ h9 => h9) rfl dX5_flip_6 ?_
  refine lv_aload_n hx hb dX5_flip_9 rfl (lv_at hl 0 rfl) ?_
  refine va_get (D := G) (ci := 5) (v := .ref a_window) (C := RX5) (T := TX5) (N := 8) hx hb hts iw_X5_flip_X5 hown hK hP 16 rfl rfl 1 (by decide) (hts (.fieldLink RX5 19 "PaneFrost" "window" "LPaneFrost$Window;") (by decide +kernel)) (fun _ h9 => h9) rfl dX5_flip_10 ?_
  obtain ⟨r_2, hh_r_2⟩ : ∃ z, z = f_X1_remember s_past sk s_window := ⟨_, rfl⟩
  have hf := lt_e hh_r_2 hf
  refine kc_v (w1 := [(a_past, pv a_past_kept r_2.1), (a_past_kept, av_R cy 14 ak), (ak 0, wv (r_2.2 0)), (ak 1, wv (r_2.2 1)), (ak 2, wv (r_2.2 2)), (ak 3, wv (r_2.2 3)), (ak 4, wv (r_2.2 4)), (ak 5, wv (r_2.2 5)), (ak 6, wv (r_2.2 6)), (ak 7, wv (r_2.2 7)), (ak 8, wv (r_2.2 8)), (ak 9, wv (r_2.2 9)), (ak 10, wv (r_2.2 10)), (ak 11, wv (r_2.2 11)), (ak 12, wv (r_2.2 12)), (ak 13, wv (r_2.2 13)), (a_window, wv s_window)]) (wr := [(a_0, fv a_text a_window a_trial a_past a_firstSlot a_secondSlot a_equations a_looks)]) hP hD hS hA [0, 1, 2, 3, 4, 5, 6, 7, 8, 9, 10, 11, 12, 13, 14, 15, 17] [16] rfl rfl rfl (by decide) (va_runV (As := [.ref a_window]) (rest := []) ⟨hx, hb, hml, hown, hts⟩ (c_X1_remember (l := l) G cy a_past a_past_kept a_window ak H.size s_past sk s_window  r_2 hh_r_2.symm) (cwV 1 hts gX5_flip_X1_remember rfl rfl rfl ddV_X1_remember ⟨Nat.le_of_ble_eq_true rfl, Nat.le_of_ble_eq_true rfl⟩) (preV_ (ci := 1) (q0 := 0) rfl rfl (hP.sub (ws' := [(a_past, pv a_past_kept s_past), (a_past_kept, av_R cy 14 ak), (ak 0, wv (sk 0)), (ak 1, wv (sk 1)), (ak 2, wv (sk 2)), (ak 3, wv (sk 3)), (ak 4, wv (sk 4)), (ak 5, wv (sk 5)), (ak 6, wv (sk 6)), (ak 7, wv (sk 7)), (ak 8, wv (sk 8)), (ak 9, wv (sk 9)), (ak 10, wv (sk 10)), (ak 11, wv (sk 11)), (ak 12, wv (sk 12)), (ak 13, wv (sk 13)), (a_window, wv s_window)]) [0, 1, 2, 3, 4, 5, 6, 7, 8, 9, 10, 11, 12, 13, 14, 15, 17] rfl) hK (hD.sub (ws' := [(a_past, pv a_past_kept s_past), (a_past_kept, av_R cy 14 ak), (ak 0, wv (sk 0)), (ak 1, wv (sk 1)), (ak 2, wv (sk 2)), (ak 3, wv (sk 3)), (ak 4, wv (sk 4)), (ak 5, wv (sk 5)), (ak 6, wv (sk 6)), (ak 7, wv (sk 7)), (ak 8, wv (sk 8)), (ak 9, wv (sk 9)), (ak 10, wv (sk 10)), (ak 11, wv (sk 11)), (ak 12, wv (sk 12)), (ak 13, wv (sk 13)), (a_window, wv s_window)]) [0, 1, 2, 3, 4, 5, 6, 7, 8, 9, 10, 11, 12, 13, 14, 15, 17] rfl rfl) hN) rfl rfl hl.1 rfl (lv_room (Nat.le_of_ble_eq_true rfl)) dX5_flip_13 ⟨Nat.le_of_ble_eq_true rfl, Nat.le_of_ble_eq_true rfl⟩) (fun H locs hP hD hS => ?_)
  have hP : va_P G vwCl [(a_0, fv a_text a_window a_trial a_past a_firstSlot a_secondSlot a_equations a_looks), (a_past, pv a_past_kept r_2.1), (a_past_kept, av_R cy 14 ak), (ak 0, wv (r_2.2 0)), (ak 1, wv (r_2.2 1)), (ak 2, wv (r_2.2 2)), (ak 3, wv (r_2.2 3)), (ak 4, wv (r_2.2 4)), (ak 5, wv (r_2.2 5)), (ak 6, wv (r_2.2 6)), (ak 7, wv (r_2.2 7)), (ak 8, wv (r_2.2 8)), (ak 9, wv (r_2.2 9)), (ak 10, wv (r_2.2 10)), (ak 11, wv (r_2.2 11)), (ak 12, wv (r_2.2 12)), (ak 13, wv (r_2.2 13)), (a_window, wv s_window)] H := hP
  have hD : va_D A [(a_0, fv a_text a_window a_trial a_past a_firstSlot a_secondSlot a_equations a_looks), (a_past, pv a_past_kept r_2.1), (a_past_kept, av_R cy 14 ak), (ak 0, wv (r_2.2 0)), (ak 1, wv (r_2.2 1)), (ak 2, wv (r_2.2 2)), (ak 3, wv (r_2.2 3)), (ak 4, wv (r_2.2 4)), (ak 5, wv (r_2.2 5)), (ak 6, wv (r_2.2 6)), (ak 7, wv (r_2.2 7)), (ak 8, wv (r_2.2 8)), (ak 9, wv (r_2.2 9)), (ak 10, wv (r_2.2 10)), (ak 11, wv (r_2.2 11)), (ak 12, wv (r_2.2 12)), (ak 13, wv (r_2.2 13)), (a_window, wv s_window)] := hD
  refine lv_aload_n hx hb dX5_flip_16 rfl (lv_at hl 0 rfl) ?_
  refine va_get (D := G) (ci := 5) (v := .ref a_window) (C := RX5) (T := TX5) (N := 8) hx hb hts iw_X5_flip_X5 hown hK hP 0 rfl rfl 1 (by decide) (hts (.fieldLink RX5 19 "PaneFrost" "window" "LPaneFrost$Window;") (by decide +kernel)) (fun _ h9 => h9) rfl dX5_flip_17 ?_
  refine lv_iload_n hx hb dX5_flip_20 rfl (lv_at hl 1 rfl) ?_
  obtain ⟨r_3, hh_r_3⟩ : ∃ z, z = f_X4_turn s_window x1 := ⟨_, rfl⟩
  have hf := lt_e hh_r_3 hf
  refine kc_i (w1 := [(a_window, wv r_3.2)]) (wr := [(a_0, fv a_text a_window a_trial a_past a_firstSlot a_secondSlot a_equations a_looks), (a_past, pv a_past_kept r_2.1), (a_past_kept, av_R cy 14 ak), (ak 0, wv (r_2.2 0)), (ak 1, wv (r_2.2 1)), (ak 2, wv (r_2.2 2)), (ak 3, wv (r_2.2 3)), (ak 4, wv (r_2.2 4)), (ak 5, wv (r_2.2 5)), (ak 6, wv (r_2.2 6)), (ak 7, wv (r_2.2 7)), (ak 8, wv (r_2.2 8)), (ak 9, wv (r_2.2 9)), (ak 10, wv (r_2.2 10)), (ak 11, wv (r_2.2 11)), (ak 12, wv (r_2.2 12)), (ak 13, wv (r_2.2 13))]) hP hD hS hA [17] [0, 1, 2, 3, 4, 5, 6, 7, 8, 9, 10, 11, 12, 13, 14, 15, 16] rfl rfl rfl (by decide) (va_runV (As := [.int x1]) (rest := []) ⟨hx, hb, hml, hown, hts⟩ (c_X4_turn (l := l) G cy a_window H.size s_window x1  r_3 hh_r_3.symm) (cwV 1 hts gX5_flip_X4_turn rfl rfl rfl ddV_X4_turn ⟨Nat.le_of_ble_eq_true rfl, Nat.le_of_ble_eq_true rfl⟩) (preV_ (ci := 4) (q0 := 0) rfl rfl (hP.sub (ws' := [(a_window, wv s_window)]) [17] rfl) hK (hD.sub (ws' := [(a_window, wv s_window)]) [17] rfl rfl) hN) rfl rfl hl.1 rfl (lv_room (Nat.le_of_ble_eq_true rfl)) dX5_flip_21 ⟨Nat.le_of_ble_eq_true rfl, Nat.le_of_ble_eq_true rfl⟩) (fun H locs hP hD hS => ?_)
  have hP : va_P G vwCl [(a_0, fv a_text a_window a_trial a_past a_firstSlot a_secondSlot a_equations a_looks), (a_past, pv a_past_kept r_2.1), (a_past_kept, av_R cy 14 ak), (ak 0, wv (r_2.2 0)), (ak 1, wv (r_2.2 1)), (ak 2, wv (r_2.2 2)), (ak 3, wv (r_2.2 3)), (ak 4, wv (r_2.2 4)), (ak 5, wv (r_2.2 5)), (ak 6, wv (r_2.2 6)), (ak 7, wv (r_2.2 7)), (ak 8, wv (r_2.2 8)), (ak 9, wv (r_2.2 9)), (ak 10, wv (r_2.2 10)), (ak 11, wv (r_2.2 11)), (ak 12, wv (r_2.2 12)), (ak 13, wv (r_2.2 13)), (a_window, wv r_3.2)] H := hP
  have hD : va_D A [(a_0, fv a_text a_window a_trial a_past a_firstSlot a_secondSlot a_equations a_looks), (a_past, pv a_past_kept r_2.1), (a_past_kept, av_R cy 14 ak), (ak 0, wv (r_2.2 0)), (ak 1, wv (r_2.2 1)), (ak 2, wv (r_2.2 2)), (ak 3, wv (r_2.2 3)), (ak 4, wv (r_2.2 4)), (ak 5, wv (r_2.2 5)), (ak 6, wv (r_2.2 6)), (ak 7, wv (r_2.2 7)), (ak 8, wv (r_2.2 8)), (ak 9, wv (r_2.2 9)), (ak 10, wv (r_2.2 10)), (ak 11, wv (r_2.2 11)), (ak 12, wv (r_2.2 12)), (ak 13, wv (r_2.2 13)), (a_window, wv r_3.2)] := hD
  exact kr_iX (u := (r_3.1, r_3.2, r_2.1, r_2.2)) hx hb hr hlocks ((Option.some.inj hf).symm) (hP.sub (ws' := [(a_0, fv a_text a_window a_trial a_past a_firstSlot a_secondSlot a_equations a_looks), (a_window, wv r_3.2), (a_past, pv a_past_kept r_2.1), (a_past_kept, av_R cy 14 ak), (ak 0, wv (r_2.2 0)), (ak 1, wv (r_2.2 1)), (ak 2, wv (r_2.2 2)), (ak 3, wv (r_2.2 3)), (ak 4, wv (r_2.2 4)), (ak 5, wv (r_2.2 5)), (ak 6, wv (r_2.2 6)), (ak 7, wv (r_2.2 7)), (ak 8, wv (r_2.2 8)), (ak 9, wv (r_2.2 9)), (ak 10, wv (r_2.2 10)), (ak 11, wv (r_2.2 11)), (ak 12, wv (r_2.2 12)), (ak 13, wv (r_2.2 13))]) [0, 17, 1, 2, 3, 4, 5, 6, 7, 8, 9, 10, 11, 12, 13, 14, 15, 16] rfl) hK (hD.sub (ws' := [(a_0, fv a_text a_window a_trial a_past a_firstSlot a_secondSlot a_equations a_looks), (a_window, wv r_3.2), (a_past, pv a_past_kept r_2.1), (a_past_kept, av_R cy 14 ak), (ak 0, wv (r_2.2 0)), (ak 1, wv (r_2.2 1)), (ak 2, wv (r_2.2 2)), (ak 3, wv (r_2.2 3)), (ak 4, wv (r_2.2 4)), (ak 5, wv (r_2.2 5)), (ak 6, wv (r_2.2 6)), (ak 7, wv (r_2.2 7)), (ak 8, wv (r_2.2 8)), (ak 9, wv (r_2.2 9)), (ak 10, wv (r_2.2 10)), (ak 11, wv (r_2.2 11)), (ak 12, wv (r_2.2 12)), (ak 13, wv (r_2.2 13))]) [0, 17, 1, 2, 3, 4, 5, 6, 7, 8, 9, 10, 11, 12, 13, 14, 15, 16] rfl rfl) hN hS hS.2.2 dX5_flip_24
set_option maxHeartbeats 4000000 in
set_option maxRecDepth 100000 in
theorem c_X5_scratch {l : Launch} (hfl : l.stackTraces = false) (G : va_G) (cy : Nat → ClassId) (a_0 : Nat) (a_text : Nat) (a_window : Nat) (a_trial : Nat) (a_past : Nat) (a_past_kept : Nat) (a_firstSlot : Nat) (a_secondSlot : Nat) (a_equations : Nat) (a_looks : Nat) (ak : Nat → Nat) (sz : Nat) (s_window : WT) (s_past : PT) (sk : Nat → WT) (x1 : Int32) (x2 : Int32)  (R : Nat ⊕ (Int32 × WT × PT × (Nat → WT))) (hf : f_X5_scratch s_window s_past sk x1 x2 = some R) : vx_Met l yX5_scratch wsX5_scratch ({ frames := 8, cells := 3, slots := 18, locals := 123 } : Room) (va_Pc [.ref a_0, .int x1, .int x2] (pcX G cy [(a_0, fv a_text a_window a_trial a_past a_firstSlot a_secondSlot a_equations a_looks), (a_window, wv s_window), (a_past, pv a_past_kept s_past), (a_past_kept, av_R cy 14 ak), (ak 0, wv (sk 0)), (ak 1, wv (sk 1)), (ak 2, wv (sk 2)), (ak 3, wv (sk 3)), (ak 4, wv (sk 4)), (ak 5, wv (sk 5)), (ak 6, wv (sk 6)), (ak 7, wv (sk 7)), (ak 8, wv (sk 8)), (ak 9, wv (sk 9)), (ak 10, wv (sk 10)), (ak 11, wv (sk 11)), (ak 12, wv (sk 12)), (ak 13, wv (sk 13))] sz)) (va_Qi (fun r (u : Int32 × WT × PT × (Nat → WT)) => R = .inr u ∧ r = u.1) (fun u t => Wd G cy (va_A [(a_0, fv a_text a_window a_trial a_past a_firstSlot a_secondSlot a_equations a_looks), (a_window, wv s_window), (a_past, pv a_past_kept s_past), (a_past_kept, av_R cy 14 ak), (ak 0, wv (sk 0)), (ak 1, wv (sk 1)), (ak 2, wv (sk 2)), (ak 3, wv (sk 3)), (ak 4, wv (sk 4)), (ak 5, wv (sk 5)), (ak 6, wv (sk 6)), (ak 7, wv (sk 7)), (ak 8, wv (sk 8)), (ak 9, wv (sk 9)), (ak 10, wv (sk 10)), (ak 11, wv (sk 11)), (ak 12, wv (sk 12)), (ak 13, wv (sk 13))] sz) [(a_0, fv a_text a_window a_trial a_past a_firstSlot a_secondSlot a_equations a_looks), (a_window, wv u.2.1), (a_past, pv a_past_kept u.2.2.1), (a_past_kept, av_R cy 14 ak), (ak 0, wv (u.2.2.2 0)), (ak 1, wv (u.2.2.2 1)), (ak 2, wv (u.2.2.2 2)), (ak 3, wv (u.2.2.2 3)), (ak 4, wv (u.2.2.2 4)), (ak 5, wv (u.2.2.2 5)), (ak 6, wv (u.2.2.2 6)), (ak 7, wv (u.2.2.2 7)), (ak 8, wv (u.2.2.2 8)), (ak 9, wv (u.2.2.2 9)), (ak 10, wv (u.2.2.2 10)), (ak 11, wv (u.2.2.2 11)), (ak 12, wv (u.2.2.2 12)), (ak 13, wv (u.2.2.2 13))] t) (va_A [(a_0, fv a_text a_window a_trial a_past a_firstSlot a_secondSlot a_equations a_looks), (a_window, wv s_window), (a_past, pv a_past_kept s_past), (a_past_kept, av_R cy 14 ak), (ak 0, wv (sk 0)), (ak 1, wv (sk 1)), (ak 2, wv (sk 2)), (ak 3, wv (sk 3)), (ak 4, wv (sk 4)), (ak 5, wv (sk 5)), (ak 6, wv (sk 6)), (ak 7, wv (sk 7)), (ak 8, wv (sk 8)), (ak 9, wv (sk 9)), (ak 10, wv (sk 10)), (ak 11, wv (sk 11)), (ak 12, wv (sk 12)), (ak 13, wv (sk 13))] sz)) (vx_X (fun u : Nat => R = .inl u) (fun E u t => E = exN u ∧ va_P G vwCl [(a_0, fv a_text a_window a_trial a_past a_firstSlot a_secondSlot a_equations a_looks), (a_window, wv s_window), (a_past, pv a_past_kept s_past), (a_past_kept, av_R cy 14 ak), (ak 0, wv (sk 0)), (ak 1, wv (sk 1)), (ak 2, wv (sk 2)), (ak 3, wv (sk 3)), (ak 4, wv (sk 4)), (ak 5, wv (sk 5)), (ak 6, wv (sk 6)), (ak 7, wv (sk 7)), (ak 8, wv (sk 8)), (ak 9, wv (sk 9)), (ak 10, wv (sk 10)), (ak 11, wv (sk 11)), (ak 12, wv (sk 12)), (ak 13, wv (sk 13))] t.heap ∧ va_D (va_A [(a_0, fv a_text a_window a_trial a_past a_firstSlot a_secondSlot a_equations a_looks), (a_window, wv s_window), (a_past, pv a_past_kept s_past), (a_past_kept, av_R cy 14 ak), (ak 0, wv (sk 0)), (ak 1, wv (sk 1)), (ak 2, wv (sk 2)), (ak 3, wv (sk 3)), (ak 4, wv (sk 4)), (ak 5, wv (sk 5)), (ak 6, wv (sk 6)), (ak 7, wv (sk 7)), (ak 8, wv (sk 8)), (ak 9, wv (sk 9)), (ak 10, wv (sk 10)), (ak 11, wv (sk 11)), (ak 12, wv (sk 12)), (ak 13, wv (sk 13))] sz) [(a_0, fv a_text a_window a_trial a_past a_firstSlot a_secondSlot a_equations a_looks), (a_window, wv s_window), (a_past, pv a_past_kept s_past), (a_past_kept, av_R cy 14 ak), (ak 0, wv (sk 0)), (ak 1, wv (sk 1)), (ak 2, wv (sk 2)), (ak 3, wv (sk 3)), (ak 4, wv (sk 4)), (ak 5, wv (sk 5)), (ak 6, wv (sk 6)), (ak 7, wv (sk 7)), (ak 8, wv (sk 8)), (ak 9, wv (sk 9)), (ak 10, wv (sk 10)), (ak 11, wv (sk 11)), (ak 12, wv (sk 12)), (ak 13, wv (sk 13))]) (va_A [(a_0, fv a_text a_window a_trial a_past a_firstSlot a_secondSlot a_equations a_looks), (a_window, wv s_window), (a_past, pv a_past_kept s_past), (a_past_kept, av_R cy 14 ak), (ak 0, wv (sk 0)), (ak 1, wv (sk 1)), (ak 2, wv (sk 2)), (ak 3, wv (sk 3)), (ak 4, wv (sk 4)), (ak 5, wv (sk 5)), (ak 6, wv (sk 6)), (ak 7, wv (sk 7)), (ak 8, wv (sk 8)), (ak 9, wv (sk 9)), (ak 10, wv (sk 10)), (ak 11, wv (sk 11)), (ak 12, wv (sk 12)), (ak 13, wv (sk 13))] sz)) 3 18 (va_A [(a_0, fv a_text a_window a_trial a_past a_firstSlot a_secondSlot a_equations a_looks), (a_window, wv s_window), (a_past, pv a_past_kept s_past), (a_past_kept, av_R cy 14 ak), (ak 0, wv (sk 0)), (ak 1, wv (sk 1)), (ak 2, wv (sk 2)), (ak 3, wv (sk 3)), (ak 4, wv (sk 4)), (ak 5, wv (sk 5)), (ak 6, wv (sk 6)), (ak 7, wv (sk 7)), (ak 8, wv (sk 8)), (ak 9, wv (sk 9)), (ak 10, wv (sk 10)), (ak 11, wv (sk 11)), (ak 12, wv (sk 12)), (ak 13, wv (sk 13))] sz) := by
  refine vx_ofW (cc := cX5_scratch) (maxL := 3) (ret := (some .int)) (by decide) rfl ?_
  intro p e s m args below meth c s₁ B hml hnt hv
  obtain ⟨rfl, ⟨hsz, hP, hK, hD0, hN⟩, hE⟩ := hv
  have hx := B.exec
  have hb := B.bytes
  have hr := B.returns
  have hts := atoms_spec (ws := wsX5_scratch) B.pre
  have hown : s.vm.findClass RX5 = some m.cls := findClass_of_methodNamed B.named
  have hlocks := B.notSynchronized
  subst hsz
  have hD := hD0.self (sz := s.heap.size)
  generalize hAe : va_A [(a_0, fv a_text a_window a_trial a_past a_firstSlot a_secondSlot a_equations a_looks), (a_window, wv s_window), (a_past, pv a_past_kept s_past), (a_past_kept, av_R cy 14 ak), (ak 0, wv (sk 0)), (ak 1, wv (sk 1)), (ak 2, wv (sk 2)), (ak 3, wv (sk 3)), (ak 4, wv (sk 4)), (ak 5, wv (sk 5)), (ak 6, wv (sk 6)), (ak 7, wv (sk 7)), (ak 8, wv (sk 8)), (ak 9, wv (sk 9)), (ak 10, wv (sk 10)), (ak 11, wv (sk 11)), (ak 12, wv (sk 12)), (ak 13, wv (sk 13))] s.heap.size = A at hD hE ⊢
  have hA : ∀ q : Nat, s.heap.size ≤ q → A q := fun q h => by rw [← hAe]; exact Or.inr h
  have hS : va_S A s.heap s.heap [] := va_S.rf
  have hP : va_P G vwCl [(a_0, fv a_text a_window a_trial a_past a_firstSlot a_secondSlot a_equations a_looks), (a_window, wv s_window), (a_past, pv a_past_kept s_past), (a_past_kept, av_R cy 14 ak), (ak 0, wv (sk 0)), (ak 1, wv (sk 1)), (ak 2, wv (sk 2)), (ak 3, wv (sk 3)), (ak 4, wv (sk 4)), (ak 5, wv (sk 5)), (ak 6, wv (sk 6)), (ak 7, wv (sk 7)), (ak 8, wv (sk 8)), (ak 9, wv (sk 9)), (ak 10, wv (sk 10)), (ak 11, wv (sk 11)), (ak 12, wv (sk 12)), (ak 13, wv (sk 13))] s.heap := hP
  have hl := lv_entry [.ref a_0, .int x1, .int x2] (n := 3) (Nat.le_of_ble_eq_true rfl)
  rw [lg_entry_eq]
  generalize (lg_sl [.ref a_0, .int x1, .int x2] ++ List.replicate (3 - (lg_sl [.ref a_0, .int x1, .int x2]).length) Slot.unset).toArray = ls at hl ⊢
  have hl : lv_has ls 3 [(0, .ref a_0), (1, .int x1), (2, .int x2)] := hl
  unfold f_X5_scratch at hf
  refine lv_aload_n hx hb dX5_scratch_0 rfl (lv_at hl 0 rfl) ?_
  refine lv_iload_n hx hb dX5_scratch_1 rfl (lv_at hl 1 rfl) ?_
  obtain ⟨r_1, hh_r_1, hf⟩ := obx_some hf
  refine kx_v (w1 := fun (_ : Unit) => [(a_0, fv a_text a_window a_trial a_past a_firstSlot a_secondSlot a_equations a_looks), (a_window, wv s_window)]) (wr := [(a_past, pv a_past_kept s_past), (a_past_kept, av_R cy 14 ak), (ak 0, wv (sk 0)), (ak 1, wv (sk 1)), (ak 2, wv (sk 2)), (ak 3, wv (sk 3)), (ak 4, wv (sk 4)), (ak 5, wv (sk 5)), (ak 6, wv (sk 6)), (ak 7, wv (sk 7)), (ak 8, wv (sk 8)), (ak 9, wv (sk 9)), (ak 10, wv (sk 10)), (ak 11, wv (sk 11)), (ak 12, wv (sk 12)), (ak 13, wv (sk 13))]) hP hD hS hA [0, 1] [2, 3, 4, 5, 6, 7, 8, 9, 10, 11, 12, 13, 14, 15, 16, 17] rfl rfl rfl (by decide) (vx_runV (As := [.int x1]) (rest := []) ⟨hx, hb, hml, hown, hts⟩ (c_X5_needCell (l := l) hfl G cy a_0 a_text a_window a_trial a_past a_firstSlot a_secondSlot a_equations a_looks s.heap.size s_window x1  r_1 hh_r_1) (cwV 1 hts gX5_scratch_X5_needCell rfl rfl rfl ddV_X5_needCell ⟨Nat.le_of_ble_eq_true rfl, Nat.le_of_ble_eq_true rfl⟩) (preVX (ci := 5) (q0 := 0) rfl rfl (hE.kept hS.2.1) (va_free hD hS hA (wc := [(a_0, fv a_text a_window a_trial a_past a_firstSlot a_secondSlot a_equations a_looks), (a_window, wv s_window)]) [0, 1] rfl) (hP.sub (ws' := [(a_0, fv a_text a_window a_trial a_past a_firstSlot a_secondSlot a_equations a_looks), (a_window, wv s_window)]) [0, 1] rfl) hK (hD.sub (ws' := [(a_0, fv a_text a_window a_trial a_past a_firstSlot a_secondSlot a_equations a_looks), (a_window, wv s_window)]) [0, 1] rfl rfl) hN) rfl rfl hl.1 rfl (lv_room (Nat.le_of_ble_eq_true rfl)) dX5_scratch_2 ⟨Nat.le_of_ble_eq_true rfl, Nat.le_of_ble_eq_true rfl⟩) (fun u ce q9 H locs hz hP hD hS hc1 hc2 hc3 => ?_) (fun u_1 H locs hz hP hD hS => ?_)
  · subst hz
    have hP : va_P G vwCl [(a_past, pv a_past_kept s_past), (a_past_kept, av_R cy 14 ak), (ak 0, wv (sk 0)), (ak 1, wv (sk 1)), (ak 2, wv (sk 2)), (ak 3, wv (sk 3)), (ak 4, wv (sk 4)), (ak 5, wv (sk 5)), (ak 6, wv (sk 6)), (ak 7, wv (sk 7)), (ak 8, wv (sk 8)), (ak 9, wv (sk 9)), (ak 10, wv (sk 10)), (ak 11, wv (sk 11)), (ak 12, wv (sk 12)), (ak 13, wv (sk 13)), (a_0, fv a_text a_window a_trial a_past a_firstSlot a_secondSlot a_equations a_looks), (a_window, wv s_window)] H := hP
    have hD : va_D A [(a_past, pv a_past_kept s_past), (a_past_kept, av_R cy 14 ak), (ak 0, wv (sk 0)), (ak 1, wv (sk 1)), (ak 2, wv (sk 2)), (ak 3, wv (sk 3)), (ak 4, wv (sk 4)), (ak 5, wv (sk 5)), (ak 6, wv (sk 6)), (ak 7, wv (sk 7)), (ak 8, wv (sk 8)), (ak 9, wv (sk 9)), (ak 10, wv (sk 10)), (ak 11, wv (sk 11)), (ak 12, wv (sk 12)), (ak 13, wv (sk 13)), (a_0, fv a_text a_window a_trial a_past a_firstSlot a_secondSlot a_equations a_looks), (a_window, wv s_window)] := hD
    exact vx_widen (k := 3) (n := 18) (Nat.le_of_ble_eq_true rfl) (Nat.le_of_ble_eq_true rfl) (kx_out u hnt hlocks (obx_l hf) (hP.sub (ws' := [(a_0, fv a_text a_window a_trial a_past a_firstSlot a_secondSlot a_equations a_looks), (a_window, wv s_window), (a_past, pv a_past_kept s_past), (a_past_kept, av_R cy 14 ak), (ak 0, wv (sk 0)), (ak 1, wv (sk 1)), (ak 2, wv (sk 2)), (ak 3, wv (sk 3)), (ak 4, wv (sk 4)), (ak 5, wv (sk 5)), (ak 6, wv (sk 6)), (ak 7, wv (sk 7)), (ak 8, wv (sk 8)), (ak 9, wv (sk 9)), (ak 10, wv (sk 10)), (ak 11, wv (sk 11)), (ak 12, wv (sk 12)), (ak 13, wv (sk 13))]) [16, 17, 0, 1, 2, 3, 4, 5, 6, 7, 8, 9, 10, 11, 12, 13, 14, 15] rfl) hK (hD.sub (ws' := [(a_0, fv a_text a_window a_trial a_past a_firstSlot a_secondSlot a_equations a_looks), (a_window, wv s_window), (a_past, pv a_past_kept s_past), (a_past_kept, av_R cy 14 ak), (ak 0, wv (sk 0)), (ak 1, wv (sk 1)), (ak 2, wv (sk 2)), (ak 3, wv (sk 3)), (ak 4, wv (sk 4)), (ak 5, wv (sk 5)), (ak 6, wv (sk 6)), (ak 7, wv (sk 7)), (ak 8, wv (sk 8)), (ak 9, wv (sk 9)), (ak 10, wv (sk 10)), (ak 11, wv (sk 11)), (ak 12, wv (sk 12)), (ak 13, wv (sk 13))]) [16, 17, 0, 1, 2, 3, 4, 5, 6, 7, 8, 9, 10, 11, 12, 13, 14, 15] rfl rfl) hN hS hc1 hc2 hc3 (Nat.le_refl _) (Nat.le_refl _))
  subst hz
  have hf := obx_r hf
  have hP : va_P G vwCl [(a_past, pv a_past_kept s_past), (a_past_kept, av_R cy 14 ak), (ak 0, wv (sk 0)), (ak 1, wv (sk 1)), (ak 2, wv (sk 2)), (ak 3, wv (sk 3)), (ak 4, wv (sk 4)), (ak 5, wv (sk 5)), (ak 6, wv (sk 6)), (ak 7, wv (sk 7)), (ak 8, wv (sk 8)), (ak 9, wv (sk 9)), (ak 10, wv (sk 10)), (ak 11, wv (sk 11)), (ak 12, wv (sk 12)), (ak 13, wv (sk 13)), (a_0, fv a_text a_window a_trial a_past a_firstSlot a_secondSlot a_equations a_looks), (a_window, wv s_window)] H := hP
  have hD : va_D A [(a_past, pv a_past_kept s_past), (a_past_kept, av_R cy 14 ak), (ak 0, wv (sk 0)), (ak 1, wv (sk 1)), (ak 2, wv (sk 2)), (ak 3, wv (sk 3)), (ak 4, wv (sk 4)), (ak 5, wv (sk 5)), (ak 6, wv (sk 6)), (ak 7, wv (sk 7)), (ak 8, wv (sk 8)), (ak 9, wv (sk 9)), (ak 10, wv (sk 10)), (ak 11, wv (sk 11)), (ak 12, wv (sk 12)), (ak 13, wv (sk 13)), (a_0, fv a_text a_window a_trial a_past a_firstSlot a_secondSlot a_equations a_looks), (a_window, wv s_window)] := hD
  refine lv_aload_n hx hb dX5_scratch_5 rfl (lv_at hl 0 rfl) ?_
  refine lv_iload_n hx hb dX5_scratch_6 rfl (lv_at hl 2 rfl) ?_
  refine lv_iconst (v := 0) hx hb dX5_scratch_7 (by decide) ?_
  refine lv_iconst (v := 3) hx hb dX5_scratch_8 (by decide) ?_
  obtain ⟨r_2, hh_r_2, hf⟩ := obx_some hf
  refine kx_v (w1 := fun (_ : Unit) => []) (wr := [(a_past, pv a_past_kept s_past), (a_past_kept, av_R cy 14 ak), (ak 0, wv (sk 0)), (ak 1, wv (sk 1)), (ak 2, wv (sk 2)), (ak 3, wv (sk 3)), (ak 4, wv (sk 4)), (ak 5, wv (sk 5)), (ak 6, wv (sk 6)), (ak 7, wv (sk 7)), (ak 8, wv (sk 8)), (ak 9, wv (sk 9)), (ak 10, wv (sk 10)), (ak 11, wv (sk 11)), (ak 12, wv (sk 12)), (ak 13, wv (sk 13)), (a_0, fv a_text a_window a_trial a_past a_firstSlot a_secondSlot a_equations a_looks), (a_window, wv s_window)]) hP hD hS hA [] [0, 1, 2, 3, 4, 5, 6, 7, 8, 9, 10, 11, 12, 13, 14, 15, 16, 17] rfl rfl rfl (by decide) (vx_runV (As := [.int x2, .int 0, .int 3]) (rest := []) ⟨hx, hb, hml, hown, hts⟩ (c_X5_needRange (l := l) hfl G cy a_0 H.size x2 0 3  r_2 hh_r_2) (cwV 3 hts gX5_scratch_X5_needRange rfl rfl rfl ddV_X5_needRange ⟨Nat.le_of_ble_eq_true rfl, Nat.le_of_ble_eq_true rfl⟩) (preVX2 (ci := 5) (q0 := 16) rfl rfl hP (hE.kept hS.2.1) (va_free hD hS hA (wc := []) [] rfl) (hP.sub (ws' := []) [] rfl) hK (hD.sub (ws' := []) [] rfl rfl) hN) rfl rfl hl.1 rfl (lv_room (Nat.le_of_ble_eq_true rfl)) dX5_scratch_9 ⟨Nat.le_of_ble_eq_true rfl, Nat.le_of_ble_eq_true rfl⟩) (fun u ce q9 H locs hz hP hD hS hc1 hc2 hc3 => ?_) (fun u_2 H locs hz hP hD hS => ?_)
  · subst hz
    have hP : va_P G vwCl [(a_past, pv a_past_kept s_past), (a_past_kept, av_R cy 14 ak), (ak 0, wv (sk 0)), (ak 1, wv (sk 1)), (ak 2, wv (sk 2)), (ak 3, wv (sk 3)), (ak 4, wv (sk 4)), (ak 5, wv (sk 5)), (ak 6, wv (sk 6)), (ak 7, wv (sk 7)), (ak 8, wv (sk 8)), (ak 9, wv (sk 9)), (ak 10, wv (sk 10)), (ak 11, wv (sk 11)), (ak 12, wv (sk 12)), (ak 13, wv (sk 13)), (a_0, fv a_text a_window a_trial a_past a_firstSlot a_secondSlot a_equations a_looks), (a_window, wv s_window)] H := hP
    have hD : va_D A [(a_past, pv a_past_kept s_past), (a_past_kept, av_R cy 14 ak), (ak 0, wv (sk 0)), (ak 1, wv (sk 1)), (ak 2, wv (sk 2)), (ak 3, wv (sk 3)), (ak 4, wv (sk 4)), (ak 5, wv (sk 5)), (ak 6, wv (sk 6)), (ak 7, wv (sk 7)), (ak 8, wv (sk 8)), (ak 9, wv (sk 9)), (ak 10, wv (sk 10)), (ak 11, wv (sk 11)), (ak 12, wv (sk 12)), (ak 13, wv (sk 13)), (a_0, fv a_text a_window a_trial a_past a_firstSlot a_secondSlot a_equations a_looks), (a_window, wv s_window)] := hD
    exact vx_widen (k := 3) (n := 18) (Nat.le_of_ble_eq_true rfl) (Nat.le_of_ble_eq_true rfl) (kx_out u hnt hlocks (obx_l hf) (hP.sub (ws' := [(a_0, fv a_text a_window a_trial a_past a_firstSlot a_secondSlot a_equations a_looks), (a_window, wv s_window), (a_past, pv a_past_kept s_past), (a_past_kept, av_R cy 14 ak), (ak 0, wv (sk 0)), (ak 1, wv (sk 1)), (ak 2, wv (sk 2)), (ak 3, wv (sk 3)), (ak 4, wv (sk 4)), (ak 5, wv (sk 5)), (ak 6, wv (sk 6)), (ak 7, wv (sk 7)), (ak 8, wv (sk 8)), (ak 9, wv (sk 9)), (ak 10, wv (sk 10)), (ak 11, wv (sk 11)), (ak 12, wv (sk 12)), (ak 13, wv (sk 13))]) [16, 17, 0, 1, 2, 3, 4, 5, 6, 7, 8, 9, 10, 11, 12, 13, 14, 15] rfl) hK (hD.sub (ws' := [(a_0, fv a_text a_window a_trial a_past a_firstSlot a_secondSlot a_equations a_looks), (a_window, wv s_window), (a_past, pv a_past_kept s_past), (a_past_kept, av_R cy 14 ak), (ak 0, wv (sk 0)), (ak 1, wv (sk 1)), (ak 2, wv (sk 2)), (ak 3, wv (sk 3)), (ak 4, wv (sk 4)), (ak 5, wv (sk 5)), (ak 6, wv (sk 6)), (ak 7, wv (sk 7)), (ak 8, wv (sk 8)), (ak 9, wv (sk 9)), (ak 10, wv (sk 10)), (ak 11, wv (sk 11)), (ak 12, wv (sk 12)), (ak 13, wv (sk 13))]) [16, 17, 0, 1, 2, 3, 4, 5, 6, 7, 8, 9, 10, 11, 12, 13, 14, 15] rfl rfl) hN hS hc1 hc2 hc3 (Nat.le_refl _) (Nat.le_refl _))
  subst hz
  have hf := obx_r hf
  have hP : va_P G vwCl [(a_past, pv a_past_kept s_past), (a_past_kept, av_R cy 14 ak), (ak 0, wv (sk 0)), (ak 1, wv (sk 1)), (ak 2, wv (sk 2)), (ak 3, wv (sk 3)), (ak 4, wv (sk 4)), (ak 5, wv (sk 5)), (ak 6, wv (sk 6)), (ak 7, wv (sk 7)), (ak 8, wv (sk 8)), (ak 9, wv (sk 9)), (ak 10, wv (sk 10)), (ak 11, wv (sk 11)), (ak 12, wv (sk 12)), (ak 13, wv (sk 13)), (a_0, fv a_text a_window a_trial a_past a_firstSlot a_secondSlot a_equations a_looks), (a_window, wv s_window)] H := hP
  have hD : va_D A [(a_past, pv a_past_kept s_past), (a_past_kept, av_R cy 14 ak), (ak 0, wv (sk 0)), (ak 1, wv (sk 1)), (ak 2, wv (sk 2)), (ak 3, wv (sk 3)), (ak 4, wv (sk 4)), (ak 5, wv (sk 5)), (ak 6, wv (sk 6)), (ak 7, wv (sk 7)), (ak 8, wv (sk 8)), (ak 9, wv (sk 9)), (ak 10, wv (sk 10)), (ak 11, wv (sk 11)), (ak 12, wv (sk 12)), (ak 13, wv (sk 13)), (a_0, fv a_text a_window a_trial a_past a_firstSlot a_secondSlot a_equations a_looks), (a_window, wv s_window)] := hD
  refine lv_aload_n hx hb dX5_scratch_12 rfl (lv_at hl 0 rfl) ?_
  refine va_get (D := G) (ci := 5) (v := .ref a_window) (C := RX5) (T := TX5) (N := 8) hx hb hts iw_X5_scratch_X5 hown hK hP 16 rfl rfl 1 (by decide) (hts (.fieldLink RX5 19 "PaneFrost" "window" "LPaneFrost$Window;") (by decide +kernel)) (fun _ h9 => h9) rfl dX5_scratch_13 ?_
  refine lv_iload_n hx hb dX5_scratch_16 rfl (lv_at hl 1 rfl) ?_
  refine lv_iload_n hx hb dX5_scratch_17 rfl (lv_at hl 2 rfl) ?_
  refine kc_i (w1 := [(a_window, wv s_window)]) (wr := [(a_past, pv a_past_kept s_past), (a_past_kept, av_R cy 14 ak), (ak 0, wv (sk 0)), (ak 1, wv (sk 1)), (ak 2, wv (sk 2)), (ak 3, wv (sk 3)), (ak 4, wv (sk 4)), (ak 5, wv (sk 5)), (ak 6, wv (sk 6)), (ak 7, wv (sk 7)), (ak 8, wv (sk 8)), (ak 9, wv (sk 9)), (ak 10, wv (sk 10)), (ak 11, wv (sk 11)), (ak 12, wv (sk 12)), (ak 13, wv (sk 13)), (a_0, fv a_text a_window a_trial a_past a_firstSlot a_secondSlot a_equations a_looks)]) hP hD hS hA [17] [0, 1, 2, 3, 4, 5, 6, 7, 8, 9, 10, 11, 12, 13, 14, 15, 16] rfl rfl rfl (by decide) (va_runV (As := [.int x1, .int x2]) (rest := []) ⟨hx, hb, hml, hown, hts⟩ (c_X4_beside (l := l) G cy a_window H.size s_window x1 x2  (f_X4_beside s_window x1 x2) rfl) (cwV 2 hts gX5_scratch_X4_beside rfl rfl rfl ddV_X4_beside ⟨Nat.le_of_ble_eq_true rfl, Nat.le_of_ble_eq_true rfl⟩) (preV_ (ci := 4) (q0 := 0) rfl rfl (hP.sub (ws' := [(a_window, wv s_window)]) [17] rfl) hK (hD.sub (ws' := [(a_window, wv s_window)]) [17] rfl rfl) hN) rfl rfl hl.1 rfl (lv_room (Nat.le_of_ble_eq_true rfl)) dX5_scratch_18 ⟨Nat.le_of_ble_eq_true rfl, Nat.le_of_ble_eq_true rfl⟩) (fun H locs hP hD hS => ?_)
  have hP : va_P G vwCl [(a_past, pv a_past_kept s_past), (a_past_kept, av_R cy 14 ak), (ak 0, wv (sk 0)), (ak 1, wv (sk 1)), (ak 2, wv (sk 2)), (ak 3, wv (sk 3)), (ak 4, wv (sk 4)), (ak 5, wv (sk 5)), (ak 6, wv (sk 6)), (ak 7, wv (sk 7)), (ak 8, wv (sk 8)), (ak 9, wv (sk 9)), (ak 10, wv (sk 10)), (ak 11, wv (sk 11)), (ak 12, wv (sk 12)), (ak 13, wv (sk 13)), (a_0, fv a_text a_window a_trial a_past a_firstSlot a_secondSlot a_equations a_looks), (a_window, wv s_window)] H := hP
  have hD : va_D A [(a_past, pv a_past_kept s_past), (a_past_kept, av_R cy 14 ak), (ak 0, wv (sk 0)), (ak 1, wv (sk 1)), (ak 2, wv (sk 2)), (ak 3, wv (sk 3)), (ak 4, wv (sk 4)), (ak 5, wv (sk 5)), (ak 6, wv (sk 6)), (ak 7, wv (sk 7)), (ak 8, wv (sk 8)), (ak 9, wv (sk 9)), (ak 10, wv (sk 10)), (ak 11, wv (sk 11)), (ak 12, wv (sk 12)), (ak 13, wv (sk 13)), (a_0, fv a_text a_window a_trial a_past a_firstSlot a_secondSlot a_equations a_looks), (a_window, wv s_window)] := hD
  refine lv_iconst (v := (-1)) hx hb dX5_scratch_21 (by decide) ?_
  refine lv_icmp_ne (tgt := 35) hx hb dX5_scratch_22 (by decide) (fun h_3 => ?_) (fun h_3 => ?_)
  · have hf := in_ h_3 hf
    refine lv_aload_n hx hb dX5_scratch_35 rfl (lv_at hl 0 rfl) ?_
    refine va_get (D := G) (ci := 5) (v := .ref a_past) (C := RX5) (T := TX5) (N := 8) hx hb hts iw_X5_scratch_X5 hown hK hP 16 rfl rfl 3 (by decide) (hts (.fieldLink RX5 29 "PaneFrost" "past" "LPaneFrost$Past;") (by decide +kernel)) (fun _ h9 => h9) rfl dX5_scratch_36 ?_
    refine lv_aload_n hx hb dX5_scratch_39 rfl (lv_at hl 0 rfl) ?_
    refine va_get (D := G) (ci := 5) (v := .ref a_window) (C := RX5) (T := TX5) (N := 8) hx hb hts iw_X5_scratch_X5 hown hK hP 16 rfl rfl 1 (by decide) (hts (.fieldLink RX5 19 "PaneFrost" "window" "LPaneFrost$Window;") (by decide +kernel)) (fun _ h9 => h9) rfl dX5_scratch_40 ?_
    obtain ⟨r_4, hh_r_4⟩ : ∃ z, z = f_X1_remember s_past sk s_window := ⟨_, rfl⟩
    have hf := lt_e hh_r_4 hf
    refine kc_v (w1 := [(a_past, pv a_past_kept r_4.1), (a_past_kept, av_R cy 14 ak), (ak 0, wv (r_4.2 0)), (ak 1, wv (r_4.2 1)), (ak 2, wv (r_4.2 2)), (ak 3, wv (r_4.2 3)), (ak 4, wv (r_4.2 4)), (ak 5, wv (r_4.2 5)), (ak 6, wv (r_4.2 6)), (ak 7, wv (r_4.2 7)), (ak 8, wv (r_4.2 8)), (ak 9, wv (r_4.2 9)), (ak 10, wv (r_4.2 10)), (ak 11, wv (r_4.2 11)), (ak 12, wv (r_4.2 12)), (ak 13, wv (r_4.2 13)), (a_window, wv s_window)]) (wr := [(a_0, fv a_text a_window a_trial a_past a_firstSlot a_secondSlot a_equations a_looks)]) hP hD hS hA [0, 1, 2, 3, 4, 5, 6, 7, 8, 9, 10, 11, 12, 13, 14, 15, 17] [16] rfl rfl rfl (by decide) (va_runV (As := [.ref a_window]) (rest := []) ⟨hx, hb, hml, hown, hts⟩ (c_X1_remember (l := l) G cy a_past a_past_kept a_window ak H.size s_past sk s_window  r_4 hh_r_4.symm) (cwV 1 hts gX5_scratch_X1_remember rfl rfl rfl ddV_X1_remember ⟨Nat.le_of_ble_eq_true rfl, Nat.le_of_ble_eq_true rfl⟩) (preV_ (ci := 1) (q0 := 0) rfl rfl (hP.sub (ws' := [(a_past, pv a_past_kept s_past), (a_past_kept, av_R cy 14 ak), (ak 0, wv (sk 0)), (ak 1, wv (sk 1)), (ak 2, wv (sk 2)), (ak 3, wv (sk 3)), (ak 4, wv (sk 4)), (ak 5, wv (sk 5)), (ak 6, wv (sk 6)), (ak 7, wv (sk 7)), (ak 8, wv (sk 8)), (ak 9, wv (sk 9)), (ak 10, wv (sk 10)), (ak 11, wv (sk 11)), (ak 12, wv (sk 12)), (ak 13, wv (sk 13)), (a_window, wv s_window)]) [0, 1, 2, 3, 4, 5, 6, 7, 8, 9, 10, 11, 12, 13, 14, 15, 17] rfl) hK (hD.sub (ws' := [(a_past, pv a_past_kept s_past), (a_past_kept, av_R cy 14 ak), (ak 0, wv (sk 0)), (ak 1, wv (sk 1)), (ak 2, wv (sk 2)), (ak 3, wv (sk 3)), (ak 4, wv (sk 4)), (ak 5, wv (sk 5)), (ak 6, wv (sk 6)), (ak 7, wv (sk 7)), (ak 8, wv (sk 8)), (ak 9, wv (sk 9)), (ak 10, wv (sk 10)), (ak 11, wv (sk 11)), (ak 12, wv (sk 12)), (ak 13, wv (sk 13)), (a_window, wv s_window)]) [0, 1, 2, 3, 4, 5, 6, 7, 8, 9, 10, 11, 12, 13, 14, 15, 17] rfl rfl) hN) rfl rfl hl.1 rfl (lv_room (Nat.le_of_ble_eq_true rfl)) dX5_scratch_43 ⟨Nat.le_of_ble_eq_true rfl, Nat.le_of_ble_eq_true rfl⟩) (fun H locs hP hD hS => ?_)
    have hP : va_P G vwCl [(a_0, fv a_text a_window a_trial a_past a_firstSlot a_secondSlot a_equations a_looks), (a_past, pv a_past_kept r_4.1), (a_past_kept, av_R cy 14 ak), (ak 0, wv (r_4.2 0)), (ak 1, wv (r_4.2 1)), (ak 2, wv (r_4.2 2)), (ak 3, wv (r_4.2 3)), (ak 4, wv (r_4.2 4)), (ak 5, wv (r_4.2 5)), (ak 6, wv (r_4.2 6)), (ak 7, wv (r_4.2 7)), (ak 8, wv (r_4.2 8)), (ak 9, wv (r_4.2 9)), (ak 10, wv (r_4.2 10)), (ak 11, wv (r_4.2 11)), (ak 12, wv (r_4.2 12)), (ak 13, wv (r_4.2 13)), (a_window, wv s_window)] H := hP
    have hD : va_D A [(a_0, fv a_text a_window a_trial a_past a_firstSlot a_secondSlot a_equations a_looks), (a_past, pv a_past_kept r_4.1), (a_past_kept, av_R cy 14 ak), (ak 0, wv (r_4.2 0)), (ak 1, wv (r_4.2 1)), (ak 2, wv (r_4.2 2)), (ak 3, wv (r_4.2 3)), (ak 4, wv (r_4.2 4)), (ak 5, wv (r_4.2 5)), (ak 6, wv (r_4.2 6)), (ak 7, wv (r_4.2 7)), (ak 8, wv (r_4.2 8)), (ak 9, wv (r_4.2 9)), (ak 10, wv (r_4.2 10)), (ak 11, wv (r_4.2 11)), (ak 12, wv (r_4.2 12)), (ak 13, wv (r_4.2 13)), (a_window, wv s_window)] := hD
    refine lv_aload_n hx hb dX5_scratch_46 rfl (lv_at hl 0 rfl) ?_
    refine va_get (D := G) (ci := 5) (v := .ref a_window) (C := RX5) (T := TX5) (N := 8) hx hb hts iw_X5_scratch_X5 hown hK hP 0 rfl rfl 1 (by decide) (hts (.fieldLink RX5 19 "PaneFrost" "window" "LPaneFrost$Window;") (by decide +kernel)) (fun _ h9 => h9) rfl dX5_scratch_47 ?_
    refine lv_iload_n hx hb dX5_scratch_50 rfl (lv_at hl 1 rfl) ?_
    refine lv_iload_n hx hb dX5_scratch_51 rfl (lv_at hl 2 rfl) ?_
    obtain ⟨r_5, hh_r_5⟩ : ∃ z, z = f_X4_scrape s_window x1 x2 := ⟨_, rfl⟩
    have hf := lt_e hh_r_5 hf
    refine kc_i (w1 := [(a_window, wv r_5.2)]) (wr := [(a_0, fv a_text a_window a_trial a_past a_firstSlot a_secondSlot a_equations a_looks), (a_past, pv a_past_kept r_4.1), (a_past_kept, av_R cy 14 ak), (ak 0, wv (r_4.2 0)), (ak 1, wv (r_4.2 1)), (ak 2, wv (r_4.2 2)), (ak 3, wv (r_4.2 3)), (ak 4, wv (r_4.2 4)), (ak 5, wv (r_4.2 5)), (ak 6, wv (r_4.2 6)), (ak 7, wv (r_4.2 7)), (ak 8, wv (r_4.2 8)), (ak 9, wv (r_4.2 9)), (ak 10, wv (r_4.2 10)), (ak 11, wv (r_4.2 11)), (ak 12, wv (r_4.2 12)), (ak 13, wv (r_4.2 13))]) hP hD hS hA [17] [0, 1, 2, 3, 4, 5, 6, 7, 8, 9, 10, 11, 12, 13, 14, 15, 16] rfl rfl rfl (by decide) (va_runV (As := [.int x1, .int x2]) (rest := []) ⟨hx, hb, hml, hown, hts⟩ (c_X4_scrape (l := l) G cy a_window H.size s_window x1 x2  r_5 hh_r_5.symm) (cwV 2 hts gX5_scratch_X4_scrape rfl rfl rfl ddV_X4_scrape ⟨Nat.le_of_ble_eq_true rfl, Nat.le_of_ble_eq_true rfl⟩) (preV_ (ci := 4) (q0 := 0) rfl rfl (hP.sub (ws' := [(a_window, wv s_window)]) [17] rfl) hK (hD.sub (ws' := [(a_window, wv s_window)]) [17] rfl rfl) hN) rfl rfl hl.1 rfl (lv_room (Nat.le_of_ble_eq_true rfl)) dX5_scratch_52 ⟨Nat.le_of_ble_eq_true rfl, Nat.le_of_ble_eq_true rfl⟩) (fun H locs hP hD hS => ?_)
    have hP : va_P G vwCl [(a_0, fv a_text a_window a_trial a_past a_firstSlot a_secondSlot a_equations a_looks), (a_past, pv a_past_kept r_4.1), (a_past_kept, av_R cy 14 ak), (ak 0, wv (r_4.2 0)), (ak 1, wv (r_4.2 1)), (ak 2, wv (r_4.2 2)), (ak 3, wv (r_4.2 3)), (ak 4, wv (r_4.2 4)), (ak 5, wv (r_4.2 5)), (ak 6, wv (r_4.2 6)), (ak 7, wv (r_4.2 7)), (ak 8, wv (r_4.2 8)), (ak 9, wv (r_4.2 9)), (ak 10, wv (r_4.2 10)), (ak 11, wv (r_4.2 11)), (ak 12, wv (r_4.2 12)), (ak 13, wv (r_4.2 13)), (a_window, wv r_5.2)] H := hP
    have hD : va_D A [(a_0, fv a_text a_window a_trial a_past a_firstSlot a_secondSlot a_equations a_looks), (a_past, pv a_past_kept r_4.1), (a_past_kept, av_R cy 14 ak), (ak 0, wv (r_4.2 0)), (ak 1, wv (r_4.2 1)), (ak 2, wv (r_4.2 2)), (ak 3, wv (r_4.2 3)), (ak 4, wv (r_4.2 4)), (ak 5, wv (r_4.2 5)), (ak 6, wv (r_4.2 6)), (ak 7, wv (r_4.2 7)), (ak 8, wv (r_4.2 8)), (ak 9, wv (r_4.2 9)), (ak 10, wv (r_4.2 10)), (ak 11, wv (r_4.2 11)), (ak 12, wv (r_4.2 12)), (ak 13, wv (r_4.2 13)), (a_window, wv r_5.2)] := hD
    refine W.widen (k := 3) (n := 18) (Nat.le_of_ble_eq_true rfl) (Nat.le_of_ble_eq_true rfl) ?_
    exact kr_iX (u := (r_5.1, r_5.2, r_4.1, r_4.2)) hx hb hr hlocks ((Option.some.inj hf).symm) (hP.sub (ws' := [(a_0, fv a_text a_window a_trial a_past a_firstSlot a_secondSlot a_equations a_looks), (a_window, wv r_5.2), (a_past, pv a_past_kept r_4.1), (a_past_kept, av_R cy 14 ak), (ak 0, wv (r_4.2 0)), (ak 1, wv (r_4.2 1)), (ak 2, wv (r_4.2 2)), (ak 3, wv (r_4.2 3)), (ak 4, wv (r_4.2 4)), (ak 5, wv (r_4.2 5)), (ak 6, wv (r_4.2 6)), (ak 7, wv (r_4.2 7)), (ak 8, wv (r_4.2 8)), (ak 9, wv (r_4.2 9)), (ak 10, wv (r_4.2 10)), (ak 11, wv (r_4.2 11)), (ak 12, wv (r_4.2 12)), (ak 13, wv (r_4.2 13))]) [0, 17, 1, 2, 3, 4, 5, 6, 7, 8, 9, 10, 11, 12, 13, 14, 15, 16] rfl) hK (hD.sub (ws' := [(a_0, fv a_text a_window a_trial a_past a_firstSlot a_secondSlot a_equations a_looks), (a_window, wv r_5.2), (a_past, pv a_past_kept r_4.1), (a_past_kept, av_R cy 14 ak), (ak 0, wv (r_4.2 0)), (ak 1, wv (r_4.2 1)), (ak 2, wv (r_4.2 2)), (ak 3, wv (r_4.2 3)), (ak 4, wv (r_4.2 4)), (ak 5, wv (r_4.2 5)), (ak 6, wv (r_4.2 6)), (ak 7, wv (r_4.2 7)), (ak 8, wv (r_4.2 8)), (ak 9, wv (r_4.2 9)), (ak 10, wv (r_4.2 10)), (ak 11, wv (r_4.2 11)), (ak 12, wv (r_4.2 12)), (ak 13, wv (r_4.2 13))]) [0, 17, 1, 2, 3, 4, 5, 6, 7, 8, 9, 10, 11, 12, 13, 14, 15, 16] rfl rfl) hN hS hS.2.2 dX5_scratch_55
  · have hf := ip_ h_3 hf
    exact kt_S hx hb hfl (own := RX5) (X := "java/lang/IllegalStateException") (text := "no cell is the neighbour there") (names := xnm) (ik := 62) (is := 204) (ic := 66) hown (by decide +kernel) xnm_fit (hts (.classLink RX5 62 "java/lang/IllegalStateException") (by decide +kernel)) (hts (.initialized "java/lang/IllegalStateException") (by decide +kernel)) hE.2.2.2.2.2.2.2.1 (vx_hat (fun w hw => hts w (xm_X5_scratch_3 w hw)) xh_3 (xB_of hE.2.2.1 hE.2.2.1.2.2.2.2.2)) xg_3 hE (hP.sub (ws' := [(a_0, fv a_text a_window a_trial a_past a_firstSlot a_secondSlot a_equations a_looks), (a_window, wv s_window), (a_past, pv a_past_kept s_past), (a_past_kept, av_R cy 14 ak), (ak 0, wv (sk 0)), (ak 1, wv (sk 1)), (ak 2, wv (sk 2)), (ak 3, wv (sk 3)), (ak 4, wv (sk 4)), (ak 5, wv (sk 5)), (ak 6, wv (sk 6)), (ak 7, wv (sk 7)), (ak 8, wv (sk 8)), (ak 9, wv (sk 9)), (ak 10, wv (sk 10)), (ak 11, wv (sk 11)), (ak 12, wv (sk 12)), (ak 13, wv (sk 13))]) [16, 17, 0, 1, 2, 3, 4, 5, 6, 7, 8, 9, 10, 11, 12, 13, 14, 15] rfl) (hD.sub (ws' := [(a_0, fv a_text a_window a_trial a_past a_firstSlot a_secondSlot a_equations a_looks), (a_window, wv s_window), (a_past, pv a_past_kept s_past), (a_past_kept, av_R cy 14 ak), (ak 0, wv (sk 0)), (ak 1, wv (sk 1)), (ak 2, wv (sk 2)), (ak 3, wv (sk 3)), (ak 4, wv (sk 4)), (ak 5, wv (sk 5)), (ak 6, wv (sk 6)), (ak 7, wv (sk 7)), (ak 8, wv (sk 8)), (ak 9, wv (sk 9)), (ak 10, wv (sk 10)), (ak 11, wv (sk 11)), (ak 12, wv (sk 12)), (ak 13, wv (sk 13))]) [16, 17, 0, 1, 2, 3, 4, 5, 6, 7, 8, 9, 10, 11, 12, 13, 14, 15] rfl rfl) hS (hl.1.trans hml.symm) hnt hlocks dX5_scratch_25 dX5_scratch_28 dX5_scratch_29 dX5_scratch_31 dX5_scratch_34 (Nat.le_of_ble_eq_true rfl) (Nat.le_of_ble_eq_true rfl) (Nat.le_of_ble_eq_true rfl) (Nat.le_of_ble_eq_true rfl) (Nat.le_of_ble_eq_true rfl) (Nat.le_of_ble_eq_true rfl) 3 rfl ((Option.some.inj hf).symm)
set_option maxHeartbeats 4000000 in
set_option maxRecDepth 100000 in
theorem c_X5_border {l : Launch} (hfl : l.stackTraces = false) (G : va_G) (cy : Nat → ClassId) (a_0 : Nat) (a_text : Nat) (a_window : Nat) (a_trial : Nat) (a_past : Nat) (a_past_kept : Nat) (a_firstSlot : Nat) (a_secondSlot : Nat) (a_equations : Nat) (a_looks : Nat) (ak : Nat → Nat) (sz : Nat) (s_window : WT) (s_past : PT) (sk : Nat → WT) (x1 : Int32) (x2 : Int32)  (R : Nat ⊕ (Int32 × WT × PT × (Nat → WT))) (hf : f_X5_border s_window s_past sk x1 x2 = some R) : vx_Met l yX5_border wsX5_border ({ frames := 8, cells := 2, slots := 12, locals := 123 } : Room) (va_Pc [.ref a_0, .int x1, .int x2] (pcX G cy [(a_0, fv a_text a_window a_trial a_past a_firstSlot a_secondSlot a_equations a_looks), (a_window, wv s_window), (a_past, pv a_past_kept s_past), (a_past_kept, av_R cy 14 ak), (ak 0, wv (sk 0)), (ak 1, wv (sk 1)), (ak 2, wv (sk 2)), (ak 3, wv (sk 3)), (ak 4, wv (sk 4)), (ak 5, wv (sk 5)), (ak 6, wv (sk 6)), (ak 7, wv (sk 7)), (ak 8, wv (sk 8)), (ak 9, wv (sk 9)), (ak 10, wv (sk 10)), (ak 11, wv (sk 11)), (ak 12, wv (sk 12)), (ak 13, wv (sk 13))] sz)) (va_Qi (fun r (u : Int32 × WT × PT × (Nat → WT)) => R = .inr u ∧ r = u.1) (fun u t => Wd G cy (va_A [(a_0, fv a_text a_window a_trial a_past a_firstSlot a_secondSlot a_equations a_looks), (a_window, wv s_window), (a_past, pv a_past_kept s_past), (a_past_kept, av_R cy 14 ak), (ak 0, wv (sk 0)), (ak 1, wv (sk 1)), (ak 2, wv (sk 2)), (ak 3, wv (sk 3)), (ak 4, wv (sk 4)), (ak 5, wv (sk 5)), (ak 6, wv (sk 6)), (ak 7, wv (sk 7)), (ak 8, wv (sk 8)), (ak 9, wv (sk 9)), (ak 10, wv (sk 10)), (ak 11, wv (sk 11)), (ak 12, wv (sk 12)), (ak 13, wv (sk 13))] sz) [(a_0, fv a_text a_window a_trial a_past a_firstSlot a_secondSlot a_equations a_looks), (a_window, wv u.2.1), (a_past, pv a_past_kept u.2.2.1), (a_past_kept, av_R cy 14 ak), (ak 0, wv (u.2.2.2 0)), (ak 1, wv (u.2.2.2 1)), (ak 2, wv (u.2.2.2 2)), (ak 3, wv (u.2.2.2 3)), (ak 4, wv (u.2.2.2 4)), (ak 5, wv (u.2.2.2 5)), (ak 6, wv (u.2.2.2 6)), (ak 7, wv (u.2.2.2 7)), (ak 8, wv (u.2.2.2 8)), (ak 9, wv (u.2.2.2 9)), (ak 10, wv (u.2.2.2 10)), (ak 11, wv (u.2.2.2 11)), (ak 12, wv (u.2.2.2 12)), (ak 13, wv (u.2.2.2 13))] t) (va_A [(a_0, fv a_text a_window a_trial a_past a_firstSlot a_secondSlot a_equations a_looks), (a_window, wv s_window), (a_past, pv a_past_kept s_past), (a_past_kept, av_R cy 14 ak), (ak 0, wv (sk 0)), (ak 1, wv (sk 1)), (ak 2, wv (sk 2)), (ak 3, wv (sk 3)), (ak 4, wv (sk 4)), (ak 5, wv (sk 5)), (ak 6, wv (sk 6)), (ak 7, wv (sk 7)), (ak 8, wv (sk 8)), (ak 9, wv (sk 9)), (ak 10, wv (sk 10)), (ak 11, wv (sk 11)), (ak 12, wv (sk 12)), (ak 13, wv (sk 13))] sz)) (vx_X (fun u : Nat => R = .inl u) (fun E u t => E = exN u ∧ va_P G vwCl [(a_0, fv a_text a_window a_trial a_past a_firstSlot a_secondSlot a_equations a_looks), (a_window, wv s_window), (a_past, pv a_past_kept s_past), (a_past_kept, av_R cy 14 ak), (ak 0, wv (sk 0)), (ak 1, wv (sk 1)), (ak 2, wv (sk 2)), (ak 3, wv (sk 3)), (ak 4, wv (sk 4)), (ak 5, wv (sk 5)), (ak 6, wv (sk 6)), (ak 7, wv (sk 7)), (ak 8, wv (sk 8)), (ak 9, wv (sk 9)), (ak 10, wv (sk 10)), (ak 11, wv (sk 11)), (ak 12, wv (sk 12)), (ak 13, wv (sk 13))] t.heap ∧ va_D (va_A [(a_0, fv a_text a_window a_trial a_past a_firstSlot a_secondSlot a_equations a_looks), (a_window, wv s_window), (a_past, pv a_past_kept s_past), (a_past_kept, av_R cy 14 ak), (ak 0, wv (sk 0)), (ak 1, wv (sk 1)), (ak 2, wv (sk 2)), (ak 3, wv (sk 3)), (ak 4, wv (sk 4)), (ak 5, wv (sk 5)), (ak 6, wv (sk 6)), (ak 7, wv (sk 7)), (ak 8, wv (sk 8)), (ak 9, wv (sk 9)), (ak 10, wv (sk 10)), (ak 11, wv (sk 11)), (ak 12, wv (sk 12)), (ak 13, wv (sk 13))] sz) [(a_0, fv a_text a_window a_trial a_past a_firstSlot a_secondSlot a_equations a_looks), (a_window, wv s_window), (a_past, pv a_past_kept s_past), (a_past_kept, av_R cy 14 ak), (ak 0, wv (sk 0)), (ak 1, wv (sk 1)), (ak 2, wv (sk 2)), (ak 3, wv (sk 3)), (ak 4, wv (sk 4)), (ak 5, wv (sk 5)), (ak 6, wv (sk 6)), (ak 7, wv (sk 7)), (ak 8, wv (sk 8)), (ak 9, wv (sk 9)), (ak 10, wv (sk 10)), (ak 11, wv (sk 11)), (ak 12, wv (sk 12)), (ak 13, wv (sk 13))]) (va_A [(a_0, fv a_text a_window a_trial a_past a_firstSlot a_secondSlot a_equations a_looks), (a_window, wv s_window), (a_past, pv a_past_kept s_past), (a_past_kept, av_R cy 14 ak), (ak 0, wv (sk 0)), (ak 1, wv (sk 1)), (ak 2, wv (sk 2)), (ak 3, wv (sk 3)), (ak 4, wv (sk 4)), (ak 5, wv (sk 5)), (ak 6, wv (sk 6)), (ak 7, wv (sk 7)), (ak 8, wv (sk 8)), (ak 9, wv (sk 9)), (ak 10, wv (sk 10)), (ak 11, wv (sk 11)), (ak 12, wv (sk 12)), (ak 13, wv (sk 13))] sz)) 2 12 (va_A [(a_0, fv a_text a_window a_trial a_past a_firstSlot a_secondSlot a_equations a_looks), (a_window, wv s_window), (a_past, pv a_past_kept s_past), (a_past_kept, av_R cy 14 ak), (ak 0, wv (sk 0)), (ak 1, wv (sk 1)), (ak 2, wv (sk 2)), (ak 3, wv (sk 3)), (ak 4, wv (sk 4)), (ak 5, wv (sk 5)), (ak 6, wv (sk 6)), (ak 7, wv (sk 7)), (ak 8, wv (sk 8)), (ak 9, wv (sk 9)), (ak 10, wv (sk 10)), (ak 11, wv (sk 11)), (ak 12, wv (sk 12)), (ak 13, wv (sk 13))] sz) := by
  refine vx_ofW (cc := cX5_border) (maxL := 3) (ret := (some .int)) (by decide) rfl ?_
  intro p e s m args below meth c s₁ B hml hnt hv
  obtain ⟨rfl, ⟨hsz, hP, hK, hD0, hN⟩, hE⟩ := hv
  have hx := B.exec
  have hb := B.bytes
  have hr := B.returns
  have hts := atoms_spec (ws := wsX5_border) B.pre
  have hown : s.vm.findClass RX5 = some m.cls := findClass_of_methodNamed B.named
  have hlocks := B.notSynchronized
  subst hsz
  have hD := hD0.self (sz := s.heap.size)
  generalize hAe : va_A [(a_0, fv a_text a_window a_trial a_past a_firstSlot a_secondSlot a_equations a_looks), (a_window, wv s_window), (a_past, pv a_past_kept s_past), (a_past_kept, av_R cy 14 ak), (ak 0, wv (sk 0)), (ak 1, wv (sk 1)), (ak 2, wv (sk 2)), (ak 3, wv (sk 3)), (ak 4, wv (sk 4)), (ak 5, wv (sk 5)), (ak 6, wv (sk 6)), (ak 7, wv (sk 7)), (ak 8, wv (sk 8)), (ak 9, wv (sk 9)), (ak 10, wv (sk 10)), (ak 11, wv (sk 11)), (ak 12, wv (sk 12)), (ak 13, wv (sk 13))] s.heap.size = A at hD hE ⊢
  have hA : ∀ q : Nat, s.heap.size ≤ q → A q := fun q h => by rw [← hAe]; exact Or.inr h
  have hS : va_S A s.heap s.heap [] := va_S.rf
  have hP : va_P G vwCl [(a_0, fv a_text a_window a_trial a_past a_firstSlot a_secondSlot a_equations a_looks), (a_window, wv s_window), (a_past, pv a_past_kept s_past), (a_past_kept, av_R cy 14 ak), (ak 0, wv (sk 0)), (ak 1, wv (sk 1)), (ak 2, wv (sk 2)), (ak 3, wv (sk 3)), (ak 4, wv (sk 4)), (ak 5, wv (sk 5)), (ak 6, wv (sk 6)), (ak 7, wv (sk 7)), (ak 8, wv (sk 8)), (ak 9, wv (sk 9)), (ak 10, wv (sk 10)), (ak 11, wv (sk 11)), (ak 12, wv (sk 12)), (ak 13, wv (sk 13))] s.heap := hP
  have hl := lv_entry [.ref a_0, .int x1, .int x2] (n := 3) (Nat.le_of_ble_eq_true rfl)
  rw [lg_entry_eq]
  generalize (lg_sl [.ref a_0, .int x1, .int x2] ++ List.replicate (3 - (lg_sl [.ref a_0, .int x1, .int x2]).length) Slot.unset).toArray = ls at hl ⊢
  have hl : lv_has ls 3 [(0, .ref a_0), (1, .int x1), (2, .int x2)] := hl
  unfold f_X5_border at hf
  refine lv_aload_n hx hb dX5_border_0 rfl (lv_at hl 0 rfl) ?_
  refine lv_iload_n hx hb dX5_border_1 rfl (lv_at hl 1 rfl) ?_
  refine lv_iconst (v := 0) hx hb dX5_border_2 (by decide) ?_
  refine lv_iconst (v := 3) hx hb dX5_border_3 (by decide) ?_
  obtain ⟨r_1, hh_r_1, hf⟩ := obx_some hf
  refine kx_v (w1 := fun (_ : Unit) => []) (wr := [(a_0, fv a_text a_window a_trial a_past a_firstSlot a_secondSlot a_equations a_looks), (a_window, wv s_window), (a_past, pv a_past_kept s_past), (a_past_kept, av_R cy 14 ak), (ak 0, wv (sk 0)), (ak 1, wv (sk 1)), (ak 2, wv (sk 2)), (ak 3, wv (sk 3)), (ak 4, wv (sk 4)), (ak 5, wv (sk 5)), (ak 6, wv (sk 6)), (ak 7, wv (sk 7)), (ak 8, wv (sk 8)), (ak 9, wv (sk 9)), (ak 10, wv (sk 10)), (ak 11, wv (sk 11)), (ak 12, wv (sk 12)), (ak 13, wv (sk 13))]) hP hD hS hA [] [0, 1, 2, 3, 4, 5, 6, 7, 8, 9, 10, 11, 12, 13, 14, 15, 16, 17] rfl rfl rfl (by decide) (vx_runV (As := [.int x1, .int 0, .int 3]) (rest := []) ⟨hx, hb, hml, hown, hts⟩ (c_X5_needRange (l := l) hfl G cy a_0 s.heap.size x1 0 3  r_1 hh_r_1) (cwV 3 hts gX5_border_X5_needRange rfl rfl rfl ddV_X5_needRange ⟨Nat.le_of_ble_eq_true rfl, Nat.le_of_ble_eq_true rfl⟩) (preVX2 (ci := 5) (q0 := 0) rfl rfl hP (hE.kept hS.2.1) (va_free hD hS hA (wc := []) [] rfl) (hP.sub (ws' := []) [] rfl) hK (hD.sub (ws' := []) [] rfl rfl) hN) rfl rfl hl.1 rfl (lv_room (Nat.le_of_ble_eq_true rfl)) dX5_border_4 ⟨Nat.le_of_ble_eq_true rfl, Nat.le_of_ble_eq_true rfl⟩) (fun u ce q9 H locs hz hP hD hS hc1 hc2 hc3 => ?_) (fun u_1 H locs hz hP hD hS => ?_)
  · subst hz
    have hP : va_P G vwCl [(a_0, fv a_text a_window a_trial a_past a_firstSlot a_secondSlot a_equations a_looks), (a_window, wv s_window), (a_past, pv a_past_kept s_past), (a_past_kept, av_R cy 14 ak), (ak 0, wv (sk 0)), (ak 1, wv (sk 1)), (ak 2, wv (sk 2)), (ak 3, wv (sk 3)), (ak 4, wv (sk 4)), (ak 5, wv (sk 5)), (ak 6, wv (sk 6)), (ak 7, wv (sk 7)), (ak 8, wv (sk 8)), (ak 9, wv (sk 9)), (ak 10, wv (sk 10)), (ak 11, wv (sk 11)), (ak 12, wv (sk 12)), (ak 13, wv (sk 13))] H := hP
    have hD : va_D A [(a_0, fv a_text a_window a_trial a_past a_firstSlot a_secondSlot a_equations a_looks), (a_window, wv s_window), (a_past, pv a_past_kept s_past), (a_past_kept, av_R cy 14 ak), (ak 0, wv (sk 0)), (ak 1, wv (sk 1)), (ak 2, wv (sk 2)), (ak 3, wv (sk 3)), (ak 4, wv (sk 4)), (ak 5, wv (sk 5)), (ak 6, wv (sk 6)), (ak 7, wv (sk 7)), (ak 8, wv (sk 8)), (ak 9, wv (sk 9)), (ak 10, wv (sk 10)), (ak 11, wv (sk 11)), (ak 12, wv (sk 12)), (ak 13, wv (sk 13))] := hD
    exact vx_widen (k := 2) (n := 12) (Nat.le_of_ble_eq_true rfl) (Nat.le_of_ble_eq_true rfl) (kx_out u hnt hlocks (obx_l hf) hP hK hD hN hS hc1 hc2 hc3 (Nat.le_refl _) (Nat.le_refl _))
  subst hz
  have hf := obx_r hf
  have hP : va_P G vwCl [(a_0, fv a_text a_window a_trial a_past a_firstSlot a_secondSlot a_equations a_looks), (a_window, wv s_window), (a_past, pv a_past_kept s_past), (a_past_kept, av_R cy 14 ak), (ak 0, wv (sk 0)), (ak 1, wv (sk 1)), (ak 2, wv (sk 2)), (ak 3, wv (sk 3)), (ak 4, wv (sk 4)), (ak 5, wv (sk 5)), (ak 6, wv (sk 6)), (ak 7, wv (sk 7)), (ak 8, wv (sk 8)), (ak 9, wv (sk 9)), (ak 10, wv (sk 10)), (ak 11, wv (sk 11)), (ak 12, wv (sk 12)), (ak 13, wv (sk 13))] H := hP
  have hD : va_D A [(a_0, fv a_text a_window a_trial a_past a_firstSlot a_secondSlot a_equations a_looks), (a_window, wv s_window), (a_past, pv a_past_kept s_past), (a_past_kept, av_R cy 14 ak), (ak 0, wv (sk 0)), (ak 1, wv (sk 1)), (ak 2, wv (sk 2)), (ak 3, wv (sk 3)), (ak 4, wv (sk 4)), (ak 5, wv (sk 5)), (ak 6, wv (sk 6)), (ak 7, wv (sk 7)), (ak 8, wv (sk 8)), (ak 9, wv (sk 9)), (ak 10, wv (sk 10)), (ak 11, wv (sk 11)), (ak 12, wv (sk 12)), (ak 13, wv (sk 13))] := hD
  refine lv_aload_n hx hb dX5_border_7 rfl (lv_at hl 0 rfl) ?_
  refine lv_iload_n hx hb dX5_border_8 rfl (lv_at hl 2 rfl) ?_
  refine lv_iconst (v := 0) hx hb dX5_border_9 (by decide) ?_
  refine lv_iconst (v := 2) hx hb dX5_border_10 (by decide) ?_
  obtain ⟨r_2, hh_r_2, hf⟩ := obx_some hf
  refine kx_v (w1 := fun (_ : Unit) => []) (wr := [(a_0, fv a_text a_window a_trial a_past a_firstSlot a_secondSlot a_equations a_looks), (a_window, wv s_window), (a_past, pv a_past_kept s_past), (a_past_kept, av_R cy 14 ak), (ak 0, wv (sk 0)), (ak 1, wv (sk 1)), (ak 2, wv (sk 2)), (ak 3, wv (sk 3)), (ak 4, wv (sk 4)), (ak 5, wv (sk 5)), (ak 6, wv (sk 6)), (ak 7, wv (sk 7)), (ak 8, wv (sk 8)), (ak 9, wv (sk 9)), (ak 10, wv (sk 10)), (ak 11, wv (sk 11)), (ak 12, wv (sk 12)), (ak 13, wv (sk 13))]) hP hD hS hA [] [0, 1, 2, 3, 4, 5, 6, 7, 8, 9, 10, 11, 12, 13, 14, 15, 16, 17] rfl rfl rfl (by decide) (vx_runV (As := [.int x2, .int 0, .int 2]) (rest := []) ⟨hx, hb, hml, hown, hts⟩ (c_X5_needRange (l := l) hfl G cy a_0 H.size x2 0 2  r_2 hh_r_2) (cwV 3 hts gX5_border_X5_needRange rfl rfl rfl ddV_X5_needRange ⟨Nat.le_of_ble_eq_true rfl, Nat.le_of_ble_eq_true rfl⟩) (preVX2 (ci := 5) (q0 := 0) rfl rfl hP (hE.kept hS.2.1) (va_free hD hS hA (wc := []) [] rfl) (hP.sub (ws' := []) [] rfl) hK (hD.sub (ws' := []) [] rfl rfl) hN) rfl rfl hl.1 rfl (lv_room (Nat.le_of_ble_eq_true rfl)) dX5_border_11 ⟨Nat.le_of_ble_eq_true rfl, Nat.le_of_ble_eq_true rfl⟩) (fun u ce q9 H locs hz hP hD hS hc1 hc2 hc3 => ?_) (fun u_2 H locs hz hP hD hS => ?_)
  · subst hz
    have hP : va_P G vwCl [(a_0, fv a_text a_window a_trial a_past a_firstSlot a_secondSlot a_equations a_looks), (a_window, wv s_window), (a_past, pv a_past_kept s_past), (a_past_kept, av_R cy 14 ak), (ak 0, wv (sk 0)), (ak 1, wv (sk 1)), (ak 2, wv (sk 2)), (ak 3, wv (sk 3)), (ak 4, wv (sk 4)), (ak 5, wv (sk 5)), (ak 6, wv (sk 6)), (ak 7, wv (sk 7)), (ak 8, wv (sk 8)), (ak 9, wv (sk 9)), (ak 10, wv (sk 10)), (ak 11, wv (sk 11)), (ak 12, wv (sk 12)), (ak 13, wv (sk 13))] H := hP
    have hD : va_D A [(a_0, fv a_text a_window a_trial a_past a_firstSlot a_secondSlot a_equations a_looks), (a_window, wv s_window), (a_past, pv a_past_kept s_past), (a_past_kept, av_R cy 14 ak), (ak 0, wv (sk 0)), (ak 1, wv (sk 1)), (ak 2, wv (sk 2)), (ak 3, wv (sk 3)), (ak 4, wv (sk 4)), (ak 5, wv (sk 5)), (ak 6, wv (sk 6)), (ak 7, wv (sk 7)), (ak 8, wv (sk 8)), (ak 9, wv (sk 9)), (ak 10, wv (sk 10)), (ak 11, wv (sk 11)), (ak 12, wv (sk 12)), (ak 13, wv (sk 13))] := hD
    exact vx_widen (k := 2) (n := 12) (Nat.le_of_ble_eq_true rfl) (Nat.le_of_ble_eq_true rfl) (kx_out u hnt hlocks (obx_l hf) hP hK hD hN hS hc1 hc2 hc3 (Nat.le_refl _) (Nat.le_refl _))
  subst hz
  have hf := obx_r hf
  have hP : va_P G vwCl [(a_0, fv a_text a_window a_trial a_past a_firstSlot a_secondSlot a_equations a_looks), (a_window, wv s_window), (a_past, pv a_past_kept s_past), (a_past_kept, av_R cy 14 ak), (ak 0, wv (sk 0)), (ak 1, wv (sk 1)), (ak 2, wv (sk 2)), (ak 3, wv (sk 3)), (ak 4, wv (sk 4)), (ak 5, wv (sk 5)), (ak 6, wv (sk 6)), (ak 7, wv (sk 7)), (ak 8, wv (sk 8)), (ak 9, wv (sk 9)), (ak 10, wv (sk 10)), (ak 11, wv (sk 11)), (ak 12, wv (sk 12)), (ak 13, wv (sk 13))] H := hP
  have hD : va_D A [(a_0, fv a_text a_window a_trial a_past a_firstSlot a_secondSlot a_equations a_looks), (a_window, wv s_window), (a_past, pv a_past_kept s_past), (a_past_kept, av_R cy 14 ak), (ak 0, wv (sk 0)), (ak 1, wv (sk 1)), (ak 2, wv (sk 2)), (ak 3, wv (sk 3)), (ak 4, wv (sk 4)), (ak 5, wv (sk 5)), (ak 6, wv (sk 6)), (ak 7, wv (sk 7)), (ak 8, wv (sk 8)), (ak 9, wv (sk 9)), (ak 10, wv (sk 10)), (ak 11, wv (sk 11)), (ak 12, wv (sk 12)), (ak 13, wv (sk 13))] := hD
  refine lv_aload_n hx hb dX5_border_14 rfl (lv_at hl 0 rfl) ?_
  refine va_get (D := G) (ci := 5) (v := .ref a_past) (C := RX5) (T := TX5) (N := 8) hx hb hts iw_X5_border_X5 hown hK hP 0 rfl rfl 3 (by decide) (hts (.fieldLink RX5 29 "PaneFrost" "past" "LPaneFrost$Past;") (by decide +kernel)) (fun _ h9 => h9) rfl dX5_border_15 ?_
  refine lv_aload_n hx hb dX5_border_18 rfl (lv_at hl 0 rfl) ?_
  refine va_get (D := G) (ci := 5) (v := .ref a_window) (C := RX5) (T := TX5) (N := 8) hx hb hts iw_X5_border_X5 hown hK hP 0 rfl rfl 1 (by decide) (hts (.fieldLink RX5 19 "PaneFrost" "window" "LPaneFrost$Window;") (by decide +kernel)) (fun _ h9 => h9) rfl dX5_border_19 ?_
  obtain ⟨r_3, hh_r_3⟩ : ∃ z, z = f_X1_remember s_past sk s_window := ⟨_, rfl⟩
  have hf := lt_e hh_r_3 hf
  refine kc_v (w1 := [(a_past, pv a_past_kept r_3.1), (a_past_kept, av_R cy 14 ak), (ak 0, wv (r_3.2 0)), (ak 1, wv (r_3.2 1)), (ak 2, wv (r_3.2 2)), (ak 3, wv (r_3.2 3)), (ak 4, wv (r_3.2 4)), (ak 5, wv (r_3.2 5)), (ak 6, wv (r_3.2 6)), (ak 7, wv (r_3.2 7)), (ak 8, wv (r_3.2 8)), (ak 9, wv (r_3.2 9)), (ak 10, wv (r_3.2 10)), (ak 11, wv (r_3.2 11)), (ak 12, wv (r_3.2 12)), (ak 13, wv (r_3.2 13)), (a_window, wv s_window)]) (wr := [(a_0, fv a_text a_window a_trial a_past a_firstSlot a_secondSlot a_equations a_looks)]) hP hD hS hA [2, 3, 4, 5, 6, 7, 8, 9, 10, 11, 12, 13, 14, 15, 16, 17, 1] [0] rfl rfl rfl (by decide) (va_runV (As := [.ref a_window]) (rest := []) ⟨hx, hb, hml, hown, hts⟩ (c_X1_remember (l := l) G cy a_past a_past_kept a_window ak H.size s_past sk s_window  r_3 hh_r_3.symm) (cwV 1 hts gX5_border_X1_remember rfl rfl rfl ddV_X1_remember ⟨Nat.le_of_ble_eq_true rfl, Nat.le_of_ble_eq_true rfl⟩) (preV_ (ci := 1) (q0 := 0) rfl rfl (hP.sub (ws' := [(a_past, pv a_past_kept s_past), (a_past_kept, av_R cy 14 ak), (ak 0, wv (sk 0)), (ak 1, wv (sk 1)), (ak 2, wv (sk 2)), (ak 3, wv (sk 3)), (ak 4, wv (sk 4)), (ak 5, wv (sk 5)), (ak 6, wv (sk 6)), (ak 7, wv (sk 7)), (ak 8, wv (sk 8)), (ak 9, wv (sk 9)), (ak 10, wv (sk 10)), (ak 11, wv (sk 11)), (ak 12, wv (sk 12)), (ak 13, wv (sk 13)), (a_window, wv s_window)]) [2, 3, 4, 5, 6, 7, 8, 9, 10, 11, 12, 13, 14, 15, 16, 17, 1] rfl) hK (hD.sub (ws' := [(a_past, pv a_past_kept s_past), (a_past_kept, av_R cy 14 ak), (ak 0, wv (sk 0)), (ak 1, wv (sk 1)), (ak 2, wv (sk 2)), (ak 3, wv (sk 3)), (ak 4, wv (sk 4)), (ak 5, wv (sk 5)), (ak 6, wv (sk 6)), (ak 7, wv (sk 7)), (ak 8, wv (sk 8)), (ak 9, wv (sk 9)), (ak 10, wv (sk 10)), (ak 11, wv (sk 11)), (ak 12, wv (sk 12)), (ak 13, wv (sk 13)), (a_window, wv s_window)]) [2, 3, 4, 5, 6, 7, 8, 9, 10, 11, 12, 13, 14, 15, 16, 17, 1] rfl rfl) hN) rfl rfl hl.1 rfl (lv_room (Nat.le_of_ble_eq_true rfl)) dX5_border_22 ⟨Nat.le_of_ble_eq_true rfl, Nat.le_of_ble_eq_true rfl⟩) (fun H locs hP hD hS => ?_)
  have hP : va_P G vwCl [(a_0, fv a_text a_window a_trial a_past a_firstSlot a_secondSlot a_equations a_looks), (a_past, pv a_past_kept r_3.1), (a_past_kept, av_R cy 14 ak), (ak 0, wv (r_3.2 0)), (ak 1, wv (r_3.2 1)), (ak 2, wv (r_3.2 2)), (ak 3, wv (r_3.2 3)), (ak 4, wv (r_3.2 4)), (ak 5, wv (r_3.2 5)), (ak 6, wv (r_3.2 6)), (ak 7, wv (r_3.2 7)), (ak 8, wv (r_3.2 8)), (ak 9, wv (r_3.2 9)), (ak 10, wv (r_3.2 10)), (ak 11, wv (r_3.2 11)), (ak 12, wv (r_3.2 12)), (ak 13, wv (r_3.2 13)), (a_window, wv s_window)] H := hP
  have hD : va_D A [(a_0, fv a_text a_window a_trial a_past a_firstSlot a_secondSlot a_equations a_looks), (a_past, pv a_past_kept r_3.1), (a_past_kept, av_R cy 14 ak), (ak 0, wv (r_3.2 0)), (ak 1, wv (r_3.2 1)), (ak 2, wv (r_3.2 2)), (ak 3, wv (r_3.2 3)), (ak 4, wv (r_3.2 4)), (ak 5, wv (r_3.2 5)), (ak 6, wv (r_3.2 6)), (ak 7, wv (r_3.2 7)), (ak 8, wv (r_3.2 8)), (ak 9, wv (r_3.2 9)), (ak 10, wv (r_3.2 10)), (ak 11, wv (r_3.2 11)), (ak 12, wv (r_3.2 12)), (ak 13, wv (r_3.2 13)), (a_window, wv s_window)] := hD
  refine lv_aload_n hx hb dX5_border_25 rfl (lv_at hl 0 rfl) ?_
  refine va_get (D := G) (ci := 5) (v := .ref a_window) (C := RX5) (T := TX5) (N := 8) hx hb hts iw_X5_border_X5 hown hK hP 0 rfl rfl 1 (by decide) (hts (.fieldLink RX5 19 "PaneFrost" "window" "LPaneFrost$Window;") (by decide +kernel)) (fun _ h9 => h9) rfl dX5_border_26 ?_
  refine lv_iload_n hx hb dX5_border_29 rfl (lv_at hl 1 rfl) ?_
  refine lv_iload_n hx hb dX5_border_30 rfl (lv_at hl 2 rfl) ?_
  obtain ⟨r_4, hh_r_4⟩ : ∃ z, z = f_X4_putKind s_window x1 x2 := ⟨_, rfl⟩
  have hf := lt_e hh_r_4 hf
  refine kc_i (w1 := [(a_window, wv r_4.2)]) (wr := [(a_0, fv a_text a_window a_trial a_past a_firstSlot a_secondSlot a_equations a_looks), (a_past, pv a_past_kept r_3.1), (a_past_kept, av_R cy 14 ak), (ak 0, wv (r_3.2 0)), (ak 1, wv (r_3.2 1)), (ak 2, wv (r_3.2 2)), (ak 3, wv (r_3.2 3)), (ak 4, wv (r_3.2 4)), (ak 5, wv (r_3.2 5)), (ak 6, wv (r_3.2 6)), (ak 7, wv (r_3.2 7)), (ak 8, wv (r_3.2 8)), (ak 9, wv (r_3.2 9)), (ak 10, wv (r_3.2 10)), (ak 11, wv (r_3.2 11)), (ak 12, wv (r_3.2 12)), (ak 13, wv (r_3.2 13))]) hP hD hS hA [17] [0, 1, 2, 3, 4, 5, 6, 7, 8, 9, 10, 11, 12, 13, 14, 15, 16] rfl rfl rfl (by decide) (va_runV (As := [.int x1, .int x2]) (rest := []) ⟨hx, hb, hml, hown, hts⟩ (c_X4_putKind (l := l) G cy a_window H.size s_window x1 x2  r_4 hh_r_4.symm) (cwV 2 hts gX5_border_X4_putKind rfl rfl rfl ddV_X4_putKind ⟨Nat.le_of_ble_eq_true rfl, Nat.le_of_ble_eq_true rfl⟩) (preV_ (ci := 4) (q0 := 0) rfl rfl (hP.sub (ws' := [(a_window, wv s_window)]) [17] rfl) hK (hD.sub (ws' := [(a_window, wv s_window)]) [17] rfl rfl) hN) rfl rfl hl.1 rfl (lv_room (Nat.le_of_ble_eq_true rfl)) dX5_border_31 ⟨Nat.le_of_ble_eq_true rfl, Nat.le_of_ble_eq_true rfl⟩) (fun H locs hP hD hS => ?_)
  have hP : va_P G vwCl [(a_0, fv a_text a_window a_trial a_past a_firstSlot a_secondSlot a_equations a_looks), (a_past, pv a_past_kept r_3.1), (a_past_kept, av_R cy 14 ak), (ak 0, wv (r_3.2 0)), (ak 1, wv (r_3.2 1)), (ak 2, wv (r_3.2 2)), (ak 3, wv (r_3.2 3)), (ak 4, wv (r_3.2 4)), (ak 5, wv (r_3.2 5)), (ak 6, wv (r_3.2 6)), (ak 7, wv (r_3.2 7)), (ak 8, wv (r_3.2 8)), (ak 9, wv (r_3.2 9)), (ak 10, wv (r_3.2 10)), (ak 11, wv (r_3.2 11)), (ak 12, wv (r_3.2 12)), (ak 13, wv (r_3.2 13)), (a_window, wv r_4.2)] H := hP
  have hD : va_D A [(a_0, fv a_text a_window a_trial a_past a_firstSlot a_secondSlot a_equations a_looks), (a_past, pv a_past_kept r_3.1), (a_past_kept, av_R cy 14 ak), (ak 0, wv (r_3.2 0)), (ak 1, wv (r_3.2 1)), (ak 2, wv (r_3.2 2)), (ak 3, wv (r_3.2 3)), (ak 4, wv (r_3.2 4)), (ak 5, wv (r_3.2 5)), (ak 6, wv (r_3.2 6)), (ak 7, wv (r_3.2 7)), (ak 8, wv (r_3.2 8)), (ak 9, wv (r_3.2 9)), (ak 10, wv (r_3.2 10)), (ak 11, wv (r_3.2 11)), (ak 12, wv (r_3.2 12)), (ak 13, wv (r_3.2 13)), (a_window, wv r_4.2)] := hD
  exact kr_iX (u := (r_4.1, r_4.2, r_3.1, r_3.2)) hx hb hr hlocks ((Option.some.inj hf).symm) (hP.sub (ws' := [(a_0, fv a_text a_window a_trial a_past a_firstSlot a_secondSlot a_equations a_looks), (a_window, wv r_4.2), (a_past, pv a_past_kept r_3.1), (a_past_kept, av_R cy 14 ak), (ak 0, wv (r_3.2 0)), (ak 1, wv (r_3.2 1)), (ak 2, wv (r_3.2 2)), (ak 3, wv (r_3.2 3)), (ak 4, wv (r_3.2 4)), (ak 5, wv (r_3.2 5)), (ak 6, wv (r_3.2 6)), (ak 7, wv (r_3.2 7)), (ak 8, wv (r_3.2 8)), (ak 9, wv (r_3.2 9)), (ak 10, wv (r_3.2 10)), (ak 11, wv (r_3.2 11)), (ak 12, wv (r_3.2 12)), (ak 13, wv (r_3.2 13))]) [0, 17, 1, 2, 3, 4, 5, 6, 7, 8, 9, 10, 11, 12, 13, 14, 15, 16] rfl) hK (hD.sub (ws' := [(a_0, fv a_text a_window a_trial a_past a_firstSlot a_secondSlot a_equations a_looks), (a_window, wv r_4.2), (a_past, pv a_past_kept r_3.1), (a_past_kept, av_R cy 14 ak), (ak 0, wv (r_3.2 0)), (ak 1, wv (r_3.2 1)), (ak 2, wv (r_3.2 2)), (ak 3, wv (r_3.2 3)), (ak 4, wv (r_3.2 4)), (ak 5, wv (r_3.2 5)), (ak 6, wv (r_3.2 6)), (ak 7, wv (r_3.2 7)), (ak 8, wv (r_3.2 8)), (ak 9, wv (r_3.2 9)), (ak 10, wv (r_3.2 10)), (ak 11, wv (r_3.2 11)), (ak 12, wv (r_3.2 12)), (ak 13, wv (r_3.2 13))]) [0, 17, 1, 2, 3, 4, 5, 6, 7, 8, 9, 10, 11, 12, 13, 14, 15, 16] rfl rfl) hN hS hS.2.2 dX5_border_34
set_option maxHeartbeats 4000000 in
set_option maxRecDepth 100000 in
theorem c_X5_rule {l : Launch} (hfl : l.stackTraces = false) (G : va_G) (cy : Nat → ClassId) (a_0 : Nat) (a_text : Nat) (a_window : Nat) (a_trial : Nat) (a_past : Nat) (a_past_kept : Nat) (a_firstSlot : Nat) (a_secondSlot : Nat) (a_equations : Nat) (a_looks : Nat) (ak : Nat → Nat) (sz : Nat) (s_window : WT) (s_past : PT) (sk : Nat → WT) (x1 : Int32)  (R : Nat ⊕ (Int32 × WT × PT × (Nat → WT))) (hf : f_X5_rule s_window s_past sk x1 = some R) : vx_Met l yX5_rule wsX5_rule ({ frames := 8, cells := 1, slots := 6, locals := 123 } : Room) (va_Pc [.ref a_0, .int x1] (pcX G cy [(a_0, fv a_text a_window a_trial a_past a_firstSlot a_secondSlot a_equations a_looks), (a_window, wv s_window), (a_past, pv a_past_kept s_past), (a_past_kept, av_R cy 14 ak), (ak 0, wv (sk 0)), (ak 1, wv (sk 1)), (ak 2, wv (sk 2)), (ak 3, wv (sk 3)), (ak 4, wv (sk 4)), (ak 5, wv (sk 5)), (ak 6, wv (sk 6)), (ak 7, wv (sk 7)), (ak 8, wv (sk 8)), (ak 9, wv (sk 9)), (ak 10, wv (sk 10)), (ak 11, wv (sk 11)), (ak 12, wv (sk 12)), (ak 13, wv (sk 13))] sz)) (va_Qi (fun r (u : Int32 × WT × PT × (Nat → WT)) => R = .inr u ∧ r = u.1) (fun u t => Wd G cy (va_A [(a_0, fv a_text a_window a_trial a_past a_firstSlot a_secondSlot a_equations a_looks), (a_window, wv s_window), (a_past, pv a_past_kept s_past), (a_past_kept, av_R cy 14 ak), (ak 0, wv (sk 0)), (ak 1, wv (sk 1)), (ak 2, wv (sk 2)), (ak 3, wv (sk 3)), (ak 4, wv (sk 4)), (ak 5, wv (sk 5)), (ak 6, wv (sk 6)), (ak 7, wv (sk 7)), (ak 8, wv (sk 8)), (ak 9, wv (sk 9)), (ak 10, wv (sk 10)), (ak 11, wv (sk 11)), (ak 12, wv (sk 12)), (ak 13, wv (sk 13))] sz) [(a_0, fv a_text a_window a_trial a_past a_firstSlot a_secondSlot a_equations a_looks), (a_window, wv u.2.1), (a_past, pv a_past_kept u.2.2.1), (a_past_kept, av_R cy 14 ak), (ak 0, wv (u.2.2.2 0)), (ak 1, wv (u.2.2.2 1)), (ak 2, wv (u.2.2.2 2)), (ak 3, wv (u.2.2.2 3)), (ak 4, wv (u.2.2.2 4)), (ak 5, wv (u.2.2.2 5)), (ak 6, wv (u.2.2.2 6)), (ak 7, wv (u.2.2.2 7)), (ak 8, wv (u.2.2.2 8)), (ak 9, wv (u.2.2.2 9)), (ak 10, wv (u.2.2.2 10)), (ak 11, wv (u.2.2.2 11)), (ak 12, wv (u.2.2.2 12)), (ak 13, wv (u.2.2.2 13))] t) (va_A [(a_0, fv a_text a_window a_trial a_past a_firstSlot a_secondSlot a_equations a_looks), (a_window, wv s_window), (a_past, pv a_past_kept s_past), (a_past_kept, av_R cy 14 ak), (ak 0, wv (sk 0)), (ak 1, wv (sk 1)), (ak 2, wv (sk 2)), (ak 3, wv (sk 3)), (ak 4, wv (sk 4)), (ak 5, wv (sk 5)), (ak 6, wv (sk 6)), (ak 7, wv (sk 7)), (ak 8, wv (sk 8)), (ak 9, wv (sk 9)), (ak 10, wv (sk 10)), (ak 11, wv (sk 11)), (ak 12, wv (sk 12)), (ak 13, wv (sk 13))] sz)) (vx_X (fun u : Nat => R = .inl u) (fun E u t => E = exN u ∧ va_P G vwCl [(a_0, fv a_text a_window a_trial a_past a_firstSlot a_secondSlot a_equations a_looks), (a_window, wv s_window), (a_past, pv a_past_kept s_past), (a_past_kept, av_R cy 14 ak), (ak 0, wv (sk 0)), (ak 1, wv (sk 1)), (ak 2, wv (sk 2)), (ak 3, wv (sk 3)), (ak 4, wv (sk 4)), (ak 5, wv (sk 5)), (ak 6, wv (sk 6)), (ak 7, wv (sk 7)), (ak 8, wv (sk 8)), (ak 9, wv (sk 9)), (ak 10, wv (sk 10)), (ak 11, wv (sk 11)), (ak 12, wv (sk 12)), (ak 13, wv (sk 13))] t.heap ∧ va_D (va_A [(a_0, fv a_text a_window a_trial a_past a_firstSlot a_secondSlot a_equations a_looks), (a_window, wv s_window), (a_past, pv a_past_kept s_past), (a_past_kept, av_R cy 14 ak), (ak 0, wv (sk 0)), (ak 1, wv (sk 1)), (ak 2, wv (sk 2)), (ak 3, wv (sk 3)), (ak 4, wv (sk 4)), (ak 5, wv (sk 5)), (ak 6, wv (sk 6)), (ak 7, wv (sk 7)), (ak 8, wv (sk 8)), (ak 9, wv (sk 9)), (ak 10, wv (sk 10)), (ak 11, wv (sk 11)), (ak 12, wv (sk 12)), (ak 13, wv (sk 13))] sz) [(a_0, fv a_text a_window a_trial a_past a_firstSlot a_secondSlot a_equations a_looks), (a_window, wv s_window), (a_past, pv a_past_kept s_past), (a_past_kept, av_R cy 14 ak), (ak 0, wv (sk 0)), (ak 1, wv (sk 1)), (ak 2, wv (sk 2)), (ak 3, wv (sk 3)), (ak 4, wv (sk 4)), (ak 5, wv (sk 5)), (ak 6, wv (sk 6)), (ak 7, wv (sk 7)), (ak 8, wv (sk 8)), (ak 9, wv (sk 9)), (ak 10, wv (sk 10)), (ak 11, wv (sk 11)), (ak 12, wv (sk 12)), (ak 13, wv (sk 13))]) (va_A [(a_0, fv a_text a_window a_trial a_past a_firstSlot a_secondSlot a_equations a_looks), (a_window, wv s_window), (a_past, pv a_past_kept s_past), (a_past_kept, av_R cy 14 ak), (ak 0, wv (sk 0)), (ak 1, wv (sk 1)), (ak 2, wv (sk 2)), (ak 3, wv (sk 3)), (ak 4, wv (sk 4)), (ak 5, wv (sk 5)), (ak 6, wv (sk 6)), (ak 7, wv (sk 7)), (ak 8, wv (sk 8)), (ak 9, wv (sk 9)), (ak 10, wv (sk 10)), (ak 11, wv (sk 11)), (ak 12, wv (sk 12)), (ak 13, wv (sk 13))] sz)) 1 6 (va_A [(a_0, fv a_text a_window a_trial a_past a_firstSlot a_secondSlot a_equations a_looks), (a_window, wv s_window), (a_past, pv a_past_kept s_past), (a_past_kept, av_R cy 14 ak), (ak 0, wv (sk 0)), (ak 1, wv (sk 1)), (ak 2, wv (sk 2)), (ak 3, wv (sk 3)), (ak 4, wv (sk 4)), (ak 5, wv (sk 5)), (ak 6, wv (sk 6)), (ak 7, wv (sk 7)), (ak 8, wv (sk 8)), (ak 9, wv (sk 9)), (ak 10, wv (sk 10)), (ak 11, wv (sk 11)), (ak 12, wv (sk 12)), (ak 13, wv (sk 13))] sz) := by
  refine vx_ofW (cc := cX5_rule) (maxL := 2) (ret := (some .int)) (by decide) rfl ?_
  intro p e s m args below meth c s₁ B hml hnt hv
  obtain ⟨rfl, ⟨hsz, hP, hK, hD0, hN⟩, hE⟩ := hv
  have hx := B.exec
  have hb := B.bytes
  have hr := B.returns
  have hts := atoms_spec (ws := wsX5_rule) B.pre
  have hown : s.vm.findClass RX5 = some m.cls := findClass_of_methodNamed B.named
  have hlocks := B.notSynchronized
  subst hsz
  have hD := hD0.self (sz := s.heap.size)
  generalize hAe : va_A [(a_0, fv a_text a_window a_trial a_past a_firstSlot a_secondSlot a_equations a_looks), (a_window, wv s_window), (a_past, pv a_past_kept s_past), (a_past_kept, av_R cy 14 ak), (ak 0, wv (sk 0)), (ak 1, wv (sk 1)), (ak 2, wv (sk 2)), (ak 3, wv (sk 3)), (ak 4, wv (sk 4)), (ak 5, wv (sk 5)), (ak 6, wv (sk 6)), (ak 7, wv (sk 7)), (ak 8, wv (sk 8)), (ak 9, wv (sk 9)), (ak 10, wv (sk 10)), (ak 11, wv (sk 11)), (ak 12, wv (sk 12)), (ak 13, wv (sk 13))] s.heap.size = A at hD hE ⊢
  have hA : ∀ q : Nat, s.heap.size ≤ q → A q := fun q h => by rw [← hAe]; exact Or.inr h
  have hS : va_S A s.heap s.heap [] := va_S.rf
  have hP : va_P G vwCl [(a_0, fv a_text a_window a_trial a_past a_firstSlot a_secondSlot a_equations a_looks), (a_window, wv s_window), (a_past, pv a_past_kept s_past), (a_past_kept, av_R cy 14 ak), (ak 0, wv (sk 0)), (ak 1, wv (sk 1)), (ak 2, wv (sk 2)), (ak 3, wv (sk 3)), (ak 4, wv (sk 4)), (ak 5, wv (sk 5)), (ak 6, wv (sk 6)), (ak 7, wv (sk 7)), (ak 8, wv (sk 8)), (ak 9, wv (sk 9)), (ak 10, wv (sk 10)), (ak 11, wv (sk 11)), (ak 12, wv (sk 12)), (ak 13, wv (sk 13))] s.heap := hP
  have hl := lv_entry [.ref a_0, .int x1] (n := 2) (Nat.le_of_ble_eq_true rfl)
  rw [lg_entry_eq]
  generalize (lg_sl [.ref a_0, .int x1] ++ List.replicate (2 - (lg_sl [.ref a_0, .int x1]).length) Slot.unset).toArray = ls at hl ⊢
  have hl : lv_has ls 2 [(0, .ref a_0), (1, .int x1)] := hl
  unfold f_X5_rule at hf
  refine lv_aload_n hx hb dX5_rule_0 rfl (lv_at hl 0 rfl) ?_
  refine lv_iload_n hx hb dX5_rule_1 rfl (lv_at hl 1 rfl) ?_
  refine lv_iconst (v := 0) hx hb dX5_rule_2 (by decide) ?_
  refine lv_iconst (v := 2) hx hb dX5_rule_3 (by decide) ?_
  obtain ⟨r_1, hh_r_1, hf⟩ := obx_some hf
  refine kx_v (w1 := fun (_ : Unit) => []) (wr := [(a_0, fv a_text a_window a_trial a_past a_firstSlot a_secondSlot a_equations a_looks), (a_window, wv s_window), (a_past, pv a_past_kept s_past), (a_past_kept, av_R cy 14 ak), (ak 0, wv (sk 0)), (ak 1, wv (sk 1)), (ak 2, wv (sk 2)), (ak 3, wv (sk 3)), (ak 4, wv (sk 4)), (ak 5, wv (sk 5)), (ak 6, wv (sk 6)), (ak 7, wv (sk 7)), (ak 8, wv (sk 8)), (ak 9, wv (sk 9)), (ak 10, wv (sk 10)), (ak 11, wv (sk 11)), (ak 12, wv (sk 12)), (ak 13, wv (sk 13))]) hP hD hS hA [] [0, 1, 2, 3, 4, 5, 6, 7, 8, 9, 10, 11, 12, 13, 14, 15, 16, 17] rfl rfl rfl (by decide) (vx_runV (As := [.int x1, .int 0, .int 2]) (rest := []) ⟨hx, hb, hml, hown, hts⟩ (c_X5_needRange (l := l) hfl G cy a_0 s.heap.size x1 0 2  r_1 hh_r_1) (cwV 3 hts gX5_rule_X5_needRange rfl rfl rfl ddV_X5_needRange ⟨Nat.le_of_ble_eq_true rfl, Nat.le_of_ble_eq_true rfl⟩) (preVX2 (ci := 5) (q0 := 0) rfl rfl hP (hE.kept hS.2.1) (va_free hD hS hA (wc := []) [] rfl) (hP.sub (ws' := []) [] rfl) hK (hD.sub (ws' := []) [] rfl rfl) hN) rfl rfl hl.1 rfl (lv_room (Nat.le_of_ble_eq_true rfl)) dX5_rule_4 ⟨Nat.le_of_ble_eq_true rfl, Nat.le_of_ble_eq_true rfl⟩) (fun u ce q9 H locs hz hP hD hS hc1 hc2 hc3 => ?_) (fun u_1 H locs hz hP hD hS => ?_)
  · subst hz
    have hP : va_P G vwCl [(a_0, fv a_text a_window a_trial a_past a_firstSlot a_secondSlot a_equations a_looks), (a_window, wv s_window), (a_past, pv a_past_kept s_past), (a_past_kept, av_R cy 14 ak), (ak 0, wv (sk 0)), (ak 1, wv (sk 1)), (ak 2, wv (sk 2)), (ak 3, wv (sk 3)), (ak 4, wv (sk 4)), (ak 5, wv (sk 5)), (ak 6, wv (sk 6)), (ak 7, wv (sk 7)), (ak 8, wv (sk 8)), (ak 9, wv (sk 9)), (ak 10, wv (sk 10)), (ak 11, wv (sk 11)), (ak 12, wv (sk 12)), (ak 13, wv (sk 13))] H := hP
    have hD : va_D A [(a_0, fv a_text a_window a_trial a_past a_firstSlot a_secondSlot a_equations a_looks), (a_window, wv s_window), (a_past, pv a_past_kept s_past), (a_past_kept, av_R cy 14 ak), (ak 0, wv (sk 0)), (ak 1, wv (sk 1)), (ak 2, wv (sk 2)), (ak 3, wv (sk 3)), (ak 4, wv (sk 4)), (ak 5, wv (sk 5)), (ak 6, wv (sk 6)), (ak 7, wv (sk 7)), (ak 8, wv (sk 8)), (ak 9, wv (sk 9)), (ak 10, wv (sk 10)), (ak 11, wv (sk 11)), (ak 12, wv (sk 12)), (ak 13, wv (sk 13))] := hD
    exact vx_widen (k := 1) (n := 6) (Nat.le_of_ble_eq_true rfl) (Nat.le_of_ble_eq_true rfl) (kx_out u hnt hlocks (obx_l hf) hP hK hD hN hS hc1 hc2 hc3 (Nat.le_refl _) (Nat.le_refl _))
  subst hz
  have hf := obx_r hf
  have hP : va_P G vwCl [(a_0, fv a_text a_window a_trial a_past a_firstSlot a_secondSlot a_equations a_looks), (a_window, wv s_window), (a_past, pv a_past_kept s_past), (a_past_kept, av_R cy 14 ak), (ak 0, wv (sk 0)), (ak 1, wv (sk 1)), (ak 2, wv (sk 2)), (ak 3, wv (sk 3)), (ak 4, wv (sk 4)), (ak 5, wv (sk 5)), (ak 6, wv (sk 6)), (ak 7, wv (sk 7)), (ak 8, wv (sk 8)), (ak 9, wv (sk 9)), (ak 10, wv (sk 10)), (ak 11, wv (sk 11)), (ak 12, wv (sk 12)), (ak 13, wv (sk 13))] H := hP
  have hD : va_D A [(a_0, fv a_text a_window a_trial a_past a_firstSlot a_secondSlot a_equations a_looks), (a_window, wv s_window), (a_past, pv a_past_kept s_past), (a_past_kept, av_R cy 14 ak), (ak 0, wv (sk 0)), (ak 1, wv (sk 1)), (ak 2, wv (sk 2)), (ak 3, wv (sk 3)), (ak 4, wv (sk 4)), (ak 5, wv (sk 5)), (ak 6, wv (sk 6)), (ak 7, wv (sk 7)), (ak 8, wv (sk 8)), (ak 9, wv (sk 9)), (ak 10, wv (sk 10)), (ak 11, wv (sk 11)), (ak 12, wv (sk 12)), (ak 13, wv (sk 13))] := hD
  refine lv_aload_n hx hb dX5_rule_7 rfl (lv_at hl 0 rfl) ?_
  refine va_get (D := G) (ci := 5) (v := .ref a_past) (C := RX5) (T := TX5) (N := 8) hx hb hts iw_X5_rule_X5 hown hK hP 0 rfl rfl 3 (by decide) (hts (.fieldLink RX5 29 "PaneFrost" "past" "LPaneFrost$Past;") (by decide +kernel)) (fun _ h9 => h9) rfl dX5_rule_8 ?_
  refine lv_aload_n hx hb dX5_rule_11 rfl (lv_at hl 0 rfl) ?_
  refine va_get (D := G) (ci := 5) (v := .ref a_window) (C := RX5) (T := TX5) (N := 8) hx hb hts iw_X5_rule_X5 hown hK hP 0 rfl rfl 1 (by decide) (hts (.fieldLink RX5 19 "PaneFrost" "window" "LPaneFrost$Window;") (by decide +kernel)) (fun _ h9 => h9) rfl dX5_rule_12 ?_
  obtain ⟨r_2, hh_r_2⟩ : ∃ z, z = f_X1_remember s_past sk s_window := ⟨_, rfl⟩
  have hf := lt_e hh_r_2 hf
  refine kc_v (w1 := [(a_past, pv a_past_kept r_2.1), (a_past_kept, av_R cy 14 ak), (ak 0, wv (r_2.2 0)), (ak 1, wv (r_2.2 1)), (ak 2, wv (r_2.2 2)), (ak 3, wv (r_2.2 3)), (ak 4, wv (r_2.2 4)), (ak 5, wv (r_2.2 5)), (ak 6, wv (r_2.2 6)), (ak 7, wv (r_2.2 7)), (ak 8, wv (r_2.2 8)), (ak 9, wv (r_2.2 9)), (ak 10, wv (r_2.2 10)), (ak 11, wv (r_2.2 11)), (ak 12, wv (r_2.2 12)), (ak 13, wv (r_2.2 13)), (a_window, wv s_window)]) (wr := [(a_0, fv a_text a_window a_trial a_past a_firstSlot a_secondSlot a_equations a_looks)]) hP hD hS hA [2, 3, 4, 5, 6, 7, 8, 9, 10, 11, 12, 13, 14, 15, 16, 17, 1] [0] rfl rfl rfl (by decide) (va_runV (As := [.ref a_window]) (rest := []) ⟨hx, hb, hml, hown, hts⟩ (c_X1_remember (l := l) G cy a_past a_past_kept a_window ak H.size s_past sk s_window  r_2 hh_r_2.symm) (cwV 1 hts gX5_rule_X1_remember rfl rfl rfl ddV_X1_remember ⟨Nat.le_of_ble_eq_true rfl, Nat.le_of_ble_eq_true rfl⟩) (preV_ (ci := 1) (q0 := 0) rfl rfl (hP.sub (ws' := [(a_past, pv a_past_kept s_past), (a_past_kept, av_R cy 14 ak), (ak 0, wv (sk 0)), (ak 1, wv (sk 1)), (ak 2, wv (sk 2)), (ak 3, wv (sk 3)), (ak 4, wv (sk 4)), (ak 5, wv (sk 5)), (ak 6, wv (sk 6)), (ak 7, wv (sk 7)), (ak 8, wv (sk 8)), (ak 9, wv (sk 9)), (ak 10, wv (sk 10)), (ak 11, wv (sk 11)), (ak 12, wv (sk 12)), (ak 13, wv (sk 13)), (a_window, wv s_window)]) [2, 3, 4, 5, 6, 7, 8, 9, 10, 11, 12, 13, 14, 15, 16, 17, 1] rfl) hK (hD.sub (ws' := [(a_past, pv a_past_kept s_past), (a_past_kept, av_R cy 14 ak), (ak 0, wv (sk 0)), (ak 1, wv (sk 1)), (ak 2, wv (sk 2)), (ak 3, wv (sk 3)), (ak 4, wv (sk 4)), (ak 5, wv (sk 5)), (ak 6, wv (sk 6)), (ak 7, wv (sk 7)), (ak 8, wv (sk 8)), (ak 9, wv (sk 9)), (ak 10, wv (sk 10)), (ak 11, wv (sk 11)), (ak 12, wv (sk 12)), (ak 13, wv (sk 13)), (a_window, wv s_window)]) [2, 3, 4, 5, 6, 7, 8, 9, 10, 11, 12, 13, 14, 15, 16, 17, 1] rfl rfl) hN) rfl rfl hl.1 rfl (lv_room (Nat.le_of_ble_eq_true rfl)) dX5_rule_15 ⟨Nat.le_of_ble_eq_true rfl, Nat.le_of_ble_eq_true rfl⟩) (fun H locs hP hD hS => ?_)
  have hP : va_P G vwCl [(a_0, fv a_text a_window a_trial a_past a_firstSlot a_secondSlot a_equations a_looks), (a_past, pv a_past_kept r_2.1), (a_past_kept, av_R cy 14 ak), (ak 0, wv (r_2.2 0)), (ak 1, wv (r_2.2 1)), (ak 2, wv (r_2.2 2)), (ak 3, wv (r_2.2 3)), (ak 4, wv (r_2.2 4)), (ak 5, wv (r_2.2 5)), (ak 6, wv (r_2.2 6)), (ak 7, wv (r_2.2 7)), (ak 8, wv (r_2.2 8)), (ak 9, wv (r_2.2 9)), (ak 10, wv (r_2.2 10)), (ak 11, wv (r_2.2 11)), (ak 12, wv (r_2.2 12)), (ak 13, wv (r_2.2 13)), (a_window, wv s_window)] H := hP
  have hD : va_D A [(a_0, fv a_text a_window a_trial a_past a_firstSlot a_secondSlot a_equations a_looks), (a_past, pv a_past_kept r_2.1), (a_past_kept, av_R cy 14 ak), (ak 0, wv (r_2.2 0)), (ak 1, wv (r_2.2 1)), (ak 2, wv (r_2.2 2)), (ak 3, wv (r_2.2 3)), (ak 4, wv (r_2.2 4)), (ak 5, wv (r_2.2 5)), (ak 6, wv (r_2.2 6)), (ak 7, wv (r_2.2 7)), (ak 8, wv (r_2.2 8)), (ak 9, wv (r_2.2 9)), (ak 10, wv (r_2.2 10)), (ak 11, wv (r_2.2 11)), (ak 12, wv (r_2.2 12)), (ak 13, wv (r_2.2 13)), (a_window, wv s_window)] := hD
  refine lv_aload_n hx hb dX5_rule_18 rfl (lv_at hl 0 rfl) ?_
  refine va_get (D := G) (ci := 5) (v := .ref a_window) (C := RX5) (T := TX5) (N := 8) hx hb hts iw_X5_rule_X5 hown hK hP 0 rfl rfl 1 (by decide) (hts (.fieldLink RX5 19 "PaneFrost" "window" "LPaneFrost$Window;") (by decide +kernel)) (fun _ h9 => h9) rfl dX5_rule_19 ?_
  refine lv_iload_n hx hb dX5_rule_22 rfl (lv_at hl 1 rfl) ?_
  obtain ⟨r_3, hh_r_3⟩ : ∃ z, z = f_X4_putRule s_window x1 := ⟨_, rfl⟩
  have hf := lt_e hh_r_3 hf
  refine kc_i (w1 := [(a_window, wv r_3.2)]) (wr := [(a_0, fv a_text a_window a_trial a_past a_firstSlot a_secondSlot a_equations a_looks), (a_past, pv a_past_kept r_2.1), (a_past_kept, av_R cy 14 ak), (ak 0, wv (r_2.2 0)), (ak 1, wv (r_2.2 1)), (ak 2, wv (r_2.2 2)), (ak 3, wv (r_2.2 3)), (ak 4, wv (r_2.2 4)), (ak 5, wv (r_2.2 5)), (ak 6, wv (r_2.2 6)), (ak 7, wv (r_2.2 7)), (ak 8, wv (r_2.2 8)), (ak 9, wv (r_2.2 9)), (ak 10, wv (r_2.2 10)), (ak 11, wv (r_2.2 11)), (ak 12, wv (r_2.2 12)), (ak 13, wv (r_2.2 13))]) hP hD hS hA [17] [0, 1, 2, 3, 4, 5, 6, 7, 8, 9, 10, 11, 12, 13, 14, 15, 16] rfl rfl rfl (by decide) (va_runV (As := [.int x1]) (rest := []) ⟨hx, hb, hml, hown, hts⟩ (c_X4_putRule (l := l) G cy a_window H.size s_window x1  r_3 hh_r_3.symm) (cwV 1 hts gX5_rule_X4_putRule rfl rfl rfl ddV_X4_putRule ⟨Nat.le_of_ble_eq_true rfl, Nat.le_of_ble_eq_true rfl⟩) (preV_ (ci := 4) (q0 := 0) rfl rfl (hP.sub (ws' := [(a_window, wv s_window)]) [17] rfl) hK (hD.sub (ws' := [(a_window, wv s_window)]) [17] rfl rfl) hN) rfl rfl hl.1 rfl (lv_room (Nat.le_of_ble_eq_true rfl)) dX5_rule_23 ⟨Nat.le_of_ble_eq_true rfl, Nat.le_of_ble_eq_true rfl⟩) (fun H locs hP hD hS => ?_)
  have hP : va_P G vwCl [(a_0, fv a_text a_window a_trial a_past a_firstSlot a_secondSlot a_equations a_looks), (a_past, pv a_past_kept r_2.1), (a_past_kept, av_R cy 14 ak), (ak 0, wv (r_2.2 0)), (ak 1, wv (r_2.2 1)), (ak 2, wv (r_2.2 2)), (ak 3, wv (r_2.2 3)), (ak 4, wv (r_2.2 4)), (ak 5, wv (r_2.2 5)), (ak 6, wv (r_2.2 6)), (ak 7, wv (r_2.2 7)), (ak 8, wv (r_2.2 8)), (ak 9, wv (r_2.2 9)), (ak 10, wv (r_2.2 10)), (ak 11, wv (r_2.2 11)), (ak 12, wv (r_2.2 12)), (ak 13, wv (r_2.2 13)), (a_window, wv r_3.2)] H := hP
  have hD : va_D A [(a_0, fv a_text a_window a_trial a_past a_firstSlot a_secondSlot a_equations a_looks), (a_past, pv a_past_kept r_2.1), (a_past_kept, av_R cy 14 ak), (ak 0, wv (r_2.2 0)), (ak 1, wv (r_2.2 1)), (ak 2, wv (r_2.2 2)), (ak 3, wv (r_2.2 3)), (ak 4, wv (r_2.2 4)), (ak 5, wv (r_2.2 5)), (ak 6, wv (r_2.2 6)), (ak 7, wv (r_2.2 7)), (ak 8, wv (r_2.2 8)), (ak 9, wv (r_2.2 9)), (ak 10, wv (r_2.2 10)), (ak 11, wv (r_2.2 11)), (ak 12, wv (r_2.2 12)), (ak 13, wv (r_2.2 13)), (a_window, wv r_3.2)] := hD
  exact kr_iX (u := (r_3.1, r_3.2, r_2.1, r_2.2)) hx hb hr hlocks ((Option.some.inj hf).symm) (hP.sub (ws' := [(a_0, fv a_text a_window a_trial a_past a_firstSlot a_secondSlot a_equations a_looks), (a_window, wv r_3.2), (a_past, pv a_past_kept r_2.1), (a_past_kept, av_R cy 14 ak), (ak 0, wv (r_2.2 0)), (ak 1, wv (r_2.2 1)), (ak 2, wv (r_2.2 2)), (ak 3, wv (r_2.2 3)), (ak 4, wv (r_2.2 4)), (ak 5, wv (r_2.2 5)), (ak 6, wv (r_2.2 6)), (ak 7, wv (r_2.2 7)), (ak 8, wv (r_2.2 8)), (ak 9, wv (r_2.2 9)), (ak 10, wv (r_2.2 10)), (ak 11, wv (r_2.2 11)), (ak 12, wv (r_2.2 12)), (ak 13, wv (r_2.2 13))]) [0, 17, 1, 2, 3, 4, 5, 6, 7, 8, 9, 10, 11, 12, 13, 14, 15, 16] rfl) hK (hD.sub (ws' := [(a_0, fv a_text a_window a_trial a_past a_firstSlot a_secondSlot a_equations a_looks), (a_window, wv r_3.2), (a_past, pv a_past_kept r_2.1), (a_past_kept, av_R cy 14 ak), (ak 0, wv (r_2.2 0)), (ak 1, wv (r_2.2 1)), (ak 2, wv (r_2.2 2)), (ak 3, wv (r_2.2 3)), (ak 4, wv (r_2.2 4)), (ak 5, wv (r_2.2 5)), (ak 6, wv (r_2.2 6)), (ak 7, wv (r_2.2 7)), (ak 8, wv (r_2.2 8)), (ak 9, wv (r_2.2 9)), (ak 10, wv (r_2.2 10)), (ak 11, wv (r_2.2 11)), (ak 12, wv (r_2.2 12)), (ak 13, wv (r_2.2 13))]) [0, 17, 1, 2, 3, 4, 5, 6, 7, 8, 9, 10, 11, 12, 13, 14, 15, 16] rfl rfl) hN hS hS.2.2 dX5_rule_26
set_option maxHeartbeats 4000000 in
set_option maxRecDepth 100000 in
theorem c_X5_breathe {l : Launch} (hfl : l.stackTraces = false) (G : va_G) (cy : Nat → ClassId) (a_0 : Nat) (a_text : Nat) (a_window : Nat) (a_trial : Nat) (a_past : Nat) (a_past_kept : Nat) (a_firstSlot : Nat) (a_secondSlot : Nat) (a_equations : Nat) (a_looks : Nat) (ak : Nat → Nat) (sz : Nat) (s_window : WT) (s_past : PT) (sk : Nat → WT) (x1 : Int32) (x2 : Int32) (n : Nat) (R : Nat ⊕ (Int32 × WT × PT × (Nat → WT))) (hf : f_X5_breathe n s_window s_past sk x1 x2 = some R) : vx_Met l yX5_breathe wsX5_breathe ({ frames := 8, cells := 2, slots := 12, locals := 123 } : Room) (va_Pc [.ref a_0, .int x1, .int x2] (pcX G cy [(a_0, fv a_text a_window a_trial a_past a_firstSlot a_secondSlot a_equations a_looks), (a_window, wv s_window), (a_past, pv a_past_kept s_past), (a_past_kept, av_R cy 14 ak), (ak 0, wv (sk 0)), (ak 1, wv (sk 1)), (ak 2, wv (sk 2)), (ak 3, wv (sk 3)), (ak 4, wv (sk 4)), (ak 5, wv (sk 5)), (ak 6, wv (sk 6)), (ak 7, wv (sk 7)), (ak 8, wv (sk 8)), (ak 9, wv (sk 9)), (ak 10, wv (sk 10)), (ak 11, wv (sk 11)), (ak 12, wv (sk 12)), (ak 13, wv (sk 13))] sz)) (va_Qi (fun r (u : Int32 × WT × PT × (Nat → WT)) => R = .inr u ∧ r = u.1) (fun u t => Wd G cy (va_A [(a_0, fv a_text a_window a_trial a_past a_firstSlot a_secondSlot a_equations a_looks), (a_window, wv s_window), (a_past, pv a_past_kept s_past), (a_past_kept, av_R cy 14 ak), (ak 0, wv (sk 0)), (ak 1, wv (sk 1)), (ak 2, wv (sk 2)), (ak 3, wv (sk 3)), (ak 4, wv (sk 4)), (ak 5, wv (sk 5)), (ak 6, wv (sk 6)), (ak 7, wv (sk 7)), (ak 8, wv (sk 8)), (ak 9, wv (sk 9)), (ak 10, wv (sk 10)), (ak 11, wv (sk 11)), (ak 12, wv (sk 12)), (ak 13, wv (sk 13))] sz) [(a_0, fv a_text a_window a_trial a_past a_firstSlot a_secondSlot a_equations a_looks), (a_window, wv u.2.1), (a_past, pv a_past_kept u.2.2.1), (a_past_kept, av_R cy 14 ak), (ak 0, wv (u.2.2.2 0)), (ak 1, wv (u.2.2.2 1)), (ak 2, wv (u.2.2.2 2)), (ak 3, wv (u.2.2.2 3)), (ak 4, wv (u.2.2.2 4)), (ak 5, wv (u.2.2.2 5)), (ak 6, wv (u.2.2.2 6)), (ak 7, wv (u.2.2.2 7)), (ak 8, wv (u.2.2.2 8)), (ak 9, wv (u.2.2.2 9)), (ak 10, wv (u.2.2.2 10)), (ak 11, wv (u.2.2.2 11)), (ak 12, wv (u.2.2.2 12)), (ak 13, wv (u.2.2.2 13))] t) (va_A [(a_0, fv a_text a_window a_trial a_past a_firstSlot a_secondSlot a_equations a_looks), (a_window, wv s_window), (a_past, pv a_past_kept s_past), (a_past_kept, av_R cy 14 ak), (ak 0, wv (sk 0)), (ak 1, wv (sk 1)), (ak 2, wv (sk 2)), (ak 3, wv (sk 3)), (ak 4, wv (sk 4)), (ak 5, wv (sk 5)), (ak 6, wv (sk 6)), (ak 7, wv (sk 7)), (ak 8, wv (sk 8)), (ak 9, wv (sk 9)), (ak 10, wv (sk 10)), (ak 11, wv (sk 11)), (ak 12, wv (sk 12)), (ak 13, wv (sk 13))] sz)) (vx_X (fun u : Nat => R = .inl u) (fun E u t => E = exN u ∧ va_P G vwCl [(a_0, fv a_text a_window a_trial a_past a_firstSlot a_secondSlot a_equations a_looks), (a_window, wv s_window), (a_past, pv a_past_kept s_past), (a_past_kept, av_R cy 14 ak), (ak 0, wv (sk 0)), (ak 1, wv (sk 1)), (ak 2, wv (sk 2)), (ak 3, wv (sk 3)), (ak 4, wv (sk 4)), (ak 5, wv (sk 5)), (ak 6, wv (sk 6)), (ak 7, wv (sk 7)), (ak 8, wv (sk 8)), (ak 9, wv (sk 9)), (ak 10, wv (sk 10)), (ak 11, wv (sk 11)), (ak 12, wv (sk 12)), (ak 13, wv (sk 13))] t.heap ∧ va_D (va_A [(a_0, fv a_text a_window a_trial a_past a_firstSlot a_secondSlot a_equations a_looks), (a_window, wv s_window), (a_past, pv a_past_kept s_past), (a_past_kept, av_R cy 14 ak), (ak 0, wv (sk 0)), (ak 1, wv (sk 1)), (ak 2, wv (sk 2)), (ak 3, wv (sk 3)), (ak 4, wv (sk 4)), (ak 5, wv (sk 5)), (ak 6, wv (sk 6)), (ak 7, wv (sk 7)), (ak 8, wv (sk 8)), (ak 9, wv (sk 9)), (ak 10, wv (sk 10)), (ak 11, wv (sk 11)), (ak 12, wv (sk 12)), (ak 13, wv (sk 13))] sz) [(a_0, fv a_text a_window a_trial a_past a_firstSlot a_secondSlot a_equations a_looks), (a_window, wv s_window), (a_past, pv a_past_kept s_past), (a_past_kept, av_R cy 14 ak), (ak 0, wv (sk 0)), (ak 1, wv (sk 1)), (ak 2, wv (sk 2)), (ak 3, wv (sk 3)), (ak 4, wv (sk 4)), (ak 5, wv (sk 5)), (ak 6, wv (sk 6)), (ak 7, wv (sk 7)), (ak 8, wv (sk 8)), (ak 9, wv (sk 9)), (ak 10, wv (sk 10)), (ak 11, wv (sk 11)), (ak 12, wv (sk 12)), (ak 13, wv (sk 13))]) (va_A [(a_0, fv a_text a_window a_trial a_past a_firstSlot a_secondSlot a_equations a_looks), (a_window, wv s_window), (a_past, pv a_past_kept s_past), (a_past_kept, av_R cy 14 ak), (ak 0, wv (sk 0)), (ak 1, wv (sk 1)), (ak 2, wv (sk 2)), (ak 3, wv (sk 3)), (ak 4, wv (sk 4)), (ak 5, wv (sk 5)), (ak 6, wv (sk 6)), (ak 7, wv (sk 7)), (ak 8, wv (sk 8)), (ak 9, wv (sk 9)), (ak 10, wv (sk 10)), (ak 11, wv (sk 11)), (ak 12, wv (sk 12)), (ak 13, wv (sk 13))] sz)) 2 12 (va_A [(a_0, fv a_text a_window a_trial a_past a_firstSlot a_secondSlot a_equations a_looks), (a_window, wv s_window), (a_past, pv a_past_kept s_past), (a_past_kept, av_R cy 14 ak), (ak 0, wv (sk 0)), (ak 1, wv (sk 1)), (ak 2, wv (sk 2)), (ak 3, wv (sk 3)), (ak 4, wv (sk 4)), (ak 5, wv (sk 5)), (ak 6, wv (sk 6)), (ak 7, wv (sk 7)), (ak 8, wv (sk 8)), (ak 9, wv (sk 9)), (ak 10, wv (sk 10)), (ak 11, wv (sk 11)), (ak 12, wv (sk 12)), (ak 13, wv (sk 13))] sz) := by
  refine vx_ofW (cc := cX5_breathe) (maxL := 3) (ret := (some .int)) (by decide) rfl ?_
  intro p e s m args below meth c s₁ B hml hnt hv
  obtain ⟨rfl, ⟨hsz, hP, hK, hD0, hN⟩, hE⟩ := hv
  have hx := B.exec
  have hb := B.bytes
  have hr := B.returns
  have hts := atoms_spec (ws := wsX5_breathe) B.pre
  have hown : s.vm.findClass RX5 = some m.cls := findClass_of_methodNamed B.named
  have hlocks := B.notSynchronized
  subst hsz
  have hD := hD0.self (sz := s.heap.size)
  generalize hAe : va_A [(a_0, fv a_text a_window a_trial a_past a_firstSlot a_secondSlot a_equations a_looks), (a_window, wv s_window), (a_past, pv a_past_kept s_past), (a_past_kept, av_R cy 14 ak), (ak 0, wv (sk 0)), (ak 1, wv (sk 1)), (ak 2, wv (sk 2)), (ak 3, wv (sk 3)), (ak 4, wv (sk 4)), (ak 5, wv (sk 5)), (ak 6, wv (sk 6)), (ak 7, wv (sk 7)), (ak 8, wv (sk 8)), (ak 9, wv (sk 9)), (ak 10, wv (sk 10)), (ak 11, wv (sk 11)), (ak 12, wv (sk 12)), (ak 13, wv (sk 13))] s.heap.size = A at hD hE ⊢
  have hA : ∀ q : Nat, s.heap.size ≤ q → A q := fun q h => by rw [← hAe]; exact Or.inr h
  have hS : va_S A s.heap s.heap [] := va_S.rf
  have hP : va_P G vwCl [(a_0, fv a_text a_window a_trial a_past a_firstSlot a_secondSlot a_equations a_looks), (a_window, wv s_window), (a_past, pv a_past_kept s_past), (a_past_kept, av_R cy 14 ak), (ak 0, wv (sk 0)), (ak 1, wv (sk 1)), (ak 2, wv (sk 2)), (ak 3, wv (sk 3)), (ak 4, wv (sk 4)), (ak 5, wv (sk 5)), (ak 6, wv (sk 6)), (ak 7, wv (sk 7)), (ak 8, wv (sk 8)), (ak 9, wv (sk 9)), (ak 10, wv (sk 10)), (ak 11, wv (sk 11)), (ak 12, wv (sk 12)), (ak 13, wv (sk 13))] s.heap := hP
  have hl := lv_entry [.ref a_0, .int x1, .int x2] (n := 3) (Nat.le_of_ble_eq_true rfl)
  rw [lg_entry_eq]
  generalize (lg_sl [.ref a_0, .int x1, .int x2] ++ List.replicate (3 - (lg_sl [.ref a_0, .int x1, .int x2]).length) Slot.unset).toArray = ls at hl ⊢
  have hl : lv_has ls 3 [(0, .ref a_0), (1, .int x1), (2, .int x2)] := hl
  unfold f_X5_breathe at hf
  refine lv_aload_n hx hb dX5_breathe_0 rfl (lv_at hl 0 rfl) ?_
  refine lv_iload_n hx hb dX5_breathe_1 rfl (lv_at hl 1 rfl) ?_
  obtain ⟨r_1, hh_r_1, hf⟩ := obx_some hf
  refine kx_v (w1 := fun (_ : Unit) => [(a_0, fv a_text a_window a_trial a_past a_firstSlot a_secondSlot a_equations a_looks), (a_window, wv s_window)]) (wr := [(a_past, pv a_past_kept s_past), (a_past_kept, av_R cy 14 ak), (ak 0, wv (sk 0)), (ak 1, wv (sk 1)), (ak 2, wv (sk 2)), (ak 3, wv (sk 3)), (ak 4, wv (sk 4)), (ak 5, wv (sk 5)), (ak 6, wv (sk 6)), (ak 7, wv (sk 7)), (ak 8, wv (sk 8)), (ak 9, wv (sk 9)), (ak 10, wv (sk 10)), (ak 11, wv (sk 11)), (ak 12, wv (sk 12)), (ak 13, wv (sk 13))]) hP hD hS hA [0, 1] [2, 3, 4, 5, 6, 7, 8, 9, 10, 11, 12, 13, 14, 15, 16, 17] rfl rfl rfl (by decide) (vx_runV (As := [.int x1]) (rest := []) ⟨hx, hb, hml, hown, hts⟩ (c_X5_needCell (l := l) hfl G cy a_0 a_text a_window a_trial a_past a_firstSlot a_secondSlot a_equations a_looks s.heap.size s_window x1  r_1 hh_r_1) (cwV 1 hts gX5_breathe_X5_needCell rfl rfl rfl ddV_X5_needCell ⟨Nat.le_of_ble_eq_true rfl, Nat.le_of_ble_eq_true rfl⟩) (preVX (ci := 5) (q0 := 0) rfl rfl (hE.kept hS.2.1) (va_free hD hS hA (wc := [(a_0, fv a_text a_window a_trial a_past a_firstSlot a_secondSlot a_equations a_looks), (a_window, wv s_window)]) [0, 1] rfl) (hP.sub (ws' := [(a_0, fv a_text a_window a_trial a_past a_firstSlot a_secondSlot a_equations a_looks), (a_window, wv s_window)]) [0, 1] rfl) hK (hD.sub (ws' := [(a_0, fv a_text a_window a_trial a_past a_firstSlot a_secondSlot a_equations a_looks), (a_window, wv s_window)]) [0, 1] rfl rfl) hN) rfl rfl hl.1 rfl (lv_room (Nat.le_of_ble_eq_true rfl)) dX5_breathe_2 ⟨Nat.le_of_ble_eq_true rfl, Nat.le_of_ble_eq_true rfl⟩) (fun u ce q9 H locs hz hP hD hS hc1 hc2 hc3 => ?_) (fun u_1 H locs hz hP hD hS => ?_)
  · subst hz
    have hP : va_P G vwCl [(a_past, pv a_past_kept s_past), (a_past_kept, av_R cy 14 ak), (ak 0, wv (sk 0)), (ak 1, wv (sk 1)), (ak 2, wv (sk 2)), (ak 3, wv (sk 3)), (ak 4, wv (sk 4)), (ak 5, wv (sk 5)), (ak 6, wv (sk 6)), (ak 7, wv (sk 7)), (ak 8, wv (sk 8)), (ak 9, wv (sk 9)), (ak 10, wv (sk 10)), (ak 11, wv (sk 11)), (ak 12, wv (sk 12)), (ak 13, wv (sk 13)), (a_0, fv a_text a_window a_trial a_past a_firstSlot a_secondSlot a_equations a_looks), (a_window, wv s_window)] H := hP
    have hD : va_D A [(a_past, pv a_past_kept s_past), (a_past_kept, av_R cy 14 ak), (ak 0, wv (sk 0)), (ak 1, wv (sk 1)), (ak 2, wv (sk 2)), (ak 3, wv (sk 3)), (ak 4, wv (sk 4)), (ak 5, wv (sk 5)), (ak 6, wv (sk 6)), (ak 7, wv (sk 7)), (ak 8, wv (sk 8)), (ak 9, wv (sk 9)), (ak 10, wv (sk 10)), (ak 11, wv (sk 11)), (ak 12, wv (sk 12)), (ak 13, wv (sk 13)), (a_0, fv a_text a_window a_trial a_past a_firstSlot a_secondSlot a_equations a_looks), (a_window, wv s_window)] := hD
    exact vx_widen (k := 2) (n := 12) (Nat.le_of_ble_eq_true rfl) (Nat.le_of_ble_eq_true rfl) (kx_out u hnt hlocks (obx_l hf) (hP.sub (ws' := [(a_0, fv a_text a_window a_trial a_past a_firstSlot a_secondSlot a_equations a_looks), (a_window, wv s_window), (a_past, pv a_past_kept s_past), (a_past_kept, av_R cy 14 ak), (ak 0, wv (sk 0)), (ak 1, wv (sk 1)), (ak 2, wv (sk 2)), (ak 3, wv (sk 3)), (ak 4, wv (sk 4)), (ak 5, wv (sk 5)), (ak 6, wv (sk 6)), (ak 7, wv (sk 7)), (ak 8, wv (sk 8)), (ak 9, wv (sk 9)), (ak 10, wv (sk 10)), (ak 11, wv (sk 11)), (ak 12, wv (sk 12)), (ak 13, wv (sk 13))]) [16, 17, 0, 1, 2, 3, 4, 5, 6, 7, 8, 9, 10, 11, 12, 13, 14, 15] rfl) hK (hD.sub (ws' := [(a_0, fv a_text a_window a_trial a_past a_firstSlot a_secondSlot a_equations a_looks), (a_window, wv s_window), (a_past, pv a_past_kept s_past), (a_past_kept, av_R cy 14 ak), (ak 0, wv (sk 0)), (ak 1, wv (sk 1)), (ak 2, wv (sk 2)), (ak 3, wv (sk 3)), (ak 4, wv (sk 4)), (ak 5, wv (sk 5)), (ak 6, wv (sk 6)), (ak 7, wv (sk 7)), (ak 8, wv (sk 8)), (ak 9, wv (sk 9)), (ak 10, wv (sk 10)), (ak 11, wv (sk 11)), (ak 12, wv (sk 12)), (ak 13, wv (sk 13))]) [16, 17, 0, 1, 2, 3, 4, 5, 6, 7, 8, 9, 10, 11, 12, 13, 14, 15] rfl rfl) hN hS hc1 hc2 hc3 (Nat.le_refl _) (Nat.le_refl _))
  subst hz
  have hf := obx_r hf
  have hP : va_P G vwCl [(a_past, pv a_past_kept s_past), (a_past_kept, av_R cy 14 ak), (ak 0, wv (sk 0)), (ak 1, wv (sk 1)), (ak 2, wv (sk 2)), (ak 3, wv (sk 3)), (ak 4, wv (sk 4)), (ak 5, wv (sk 5)), (ak 6, wv (sk 6)), (ak 7, wv (sk 7)), (ak 8, wv (sk 8)), (ak 9, wv (sk 9)), (ak 10, wv (sk 10)), (ak 11, wv (sk 11)), (ak 12, wv (sk 12)), (ak 13, wv (sk 13)), (a_0, fv a_text a_window a_trial a_past a_firstSlot a_secondSlot a_equations a_looks), (a_window, wv s_window)] H := hP
  have hD : va_D A [(a_past, pv a_past_kept s_past), (a_past_kept, av_R cy 14 ak), (ak 0, wv (sk 0)), (ak 1, wv (sk 1)), (ak 2, wv (sk 2)), (ak 3, wv (sk 3)), (ak 4, wv (sk 4)), (ak 5, wv (sk 5)), (ak 6, wv (sk 6)), (ak 7, wv (sk 7)), (ak 8, wv (sk 8)), (ak 9, wv (sk 9)), (ak 10, wv (sk 10)), (ak 11, wv (sk 11)), (ak 12, wv (sk 12)), (ak 13, wv (sk 13)), (a_0, fv a_text a_window a_trial a_past a_firstSlot a_secondSlot a_equations a_looks), (a_window, wv s_window)] := hD
  refine lv_aload_n hx hb dX5_breathe_5 rfl (lv_at hl 0 rfl) ?_
  refine lv_iload_n hx hb dX5_breathe_6 rfl (lv_at hl 2 rfl) ?_
  refine lv_iconst (v := 0) hx hb dX5_breathe_7 (by decide) ?_
  refine lv_bipush (v := 9) hx hb dX5_breathe_8 (by decide) ?_
  obtain ⟨r_2, hh_r_2, hf⟩ := obx_some hf
  refine kx_v (w1 := fun (_ : Unit) => []) (wr := [(a_past, pv a_past_kept s_past), (a_past_kept, av_R cy 14 ak), (ak 0, wv (sk 0)), (ak 1, wv (sk 1)), (ak 2, wv (sk 2)), (ak 3, wv (sk 3)), (ak 4, wv (sk 4)), (ak 5, wv (sk 5)), (ak 6, wv (sk 6)), (ak 7, wv (sk 7)), (ak 8, wv (sk 8)), (ak 9, wv (sk 9)), (ak 10, wv (sk 10)), (ak 11, wv (sk 11)), (ak 12, wv (sk 12)), (ak 13, wv (sk 13)), (a_0, fv a_text a_window a_trial a_past a_firstSlot a_secondSlot a_equations a_looks), (a_window, wv s_window)]) hP hD hS hA [] [0, 1, 2, 3, 4, 5, 6, 7, 8, 9, 10, 11, 12, 13, 14, 15, 16, 17] rfl rfl rfl (by decide) (vx_runV (As := [.int x2, .int 0, .int 9]) (rest := []) ⟨hx, hb, hml, hown, hts⟩ (c_X5_needRange (l := l) hfl G cy a_0 H.size x2 0 9  r_2 hh_r_2) (cwV 3 hts gX5_breathe_X5_needRange rfl rfl rfl ddV_X5_needRange ⟨Nat.le_of_ble_eq_true rfl, Nat.le_of_ble_eq_true rfl⟩) (preVX2 (ci := 5) (q0 := 16) rfl rfl hP (hE.kept hS.2.1) (va_free hD hS hA (wc := []) [] rfl) (hP.sub (ws' := []) [] rfl) hK (hD.sub (ws' := []) [] rfl rfl) hN) rfl rfl hl.1 rfl (lv_room (Nat.le_of_ble_eq_true rfl)) dX5_breathe_10 ⟨Nat.le_of_ble_eq_true rfl, Nat.le_of_ble_eq_true rfl⟩) (fun u ce q9 H locs hz hP hD hS hc1 hc2 hc3 => ?_) (fun u_2 H locs hz hP hD hS => ?_)
  · subst hz
    have hP : va_P G vwCl [(a_past, pv a_past_kept s_past), (a_past_kept, av_R cy 14 ak), (ak 0, wv (sk 0)), (ak 1, wv (sk 1)), (ak 2, wv (sk 2)), (ak 3, wv (sk 3)), (ak 4, wv (sk 4)), (ak 5, wv (sk 5)), (ak 6, wv (sk 6)), (ak 7, wv (sk 7)), (ak 8, wv (sk 8)), (ak 9, wv (sk 9)), (ak 10, wv (sk 10)), (ak 11, wv (sk 11)), (ak 12, wv (sk 12)), (ak 13, wv (sk 13)), (a_0, fv a_text a_window a_trial a_past a_firstSlot a_secondSlot a_equations a_looks), (a_window, wv s_window)] H := hP
    have hD : va_D A [(a_past, pv a_past_kept s_past), (a_past_kept, av_R cy 14 ak), (ak 0, wv (sk 0)), (ak 1, wv (sk 1)), (ak 2, wv (sk 2)), (ak 3, wv (sk 3)), (ak 4, wv (sk 4)), (ak 5, wv (sk 5)), (ak 6, wv (sk 6)), (ak 7, wv (sk 7)), (ak 8, wv (sk 8)), (ak 9, wv (sk 9)), (ak 10, wv (sk 10)), (ak 11, wv (sk 11)), (ak 12, wv (sk 12)), (ak 13, wv (sk 13)), (a_0, fv a_text a_window a_trial a_past a_firstSlot a_secondSlot a_equations a_looks), (a_window, wv s_window)] := hD
    exact vx_widen (k := 2) (n := 12) (Nat.le_of_ble_eq_true rfl) (Nat.le_of_ble_eq_true rfl) (kx_out u hnt hlocks (obx_l hf) (hP.sub (ws' := [(a_0, fv a_text a_window a_trial a_past a_firstSlot a_secondSlot a_equations a_looks), (a_window, wv s_window), (a_past, pv a_past_kept s_past), (a_past_kept, av_R cy 14 ak), (ak 0, wv (sk 0)), (ak 1, wv (sk 1)), (ak 2, wv (sk 2)), (ak 3, wv (sk 3)), (ak 4, wv (sk 4)), (ak 5, wv (sk 5)), (ak 6, wv (sk 6)), (ak 7, wv (sk 7)), (ak 8, wv (sk 8)), (ak 9, wv (sk 9)), (ak 10, wv (sk 10)), (ak 11, wv (sk 11)), (ak 12, wv (sk 12)), (ak 13, wv (sk 13))]) [16, 17, 0, 1, 2, 3, 4, 5, 6, 7, 8, 9, 10, 11, 12, 13, 14, 15] rfl) hK (hD.sub (ws' := [(a_0, fv a_text a_window a_trial a_past a_firstSlot a_secondSlot a_equations a_looks), (a_window, wv s_window), (a_past, pv a_past_kept s_past), (a_past_kept, av_R cy 14 ak), (ak 0, wv (sk 0)), (ak 1, wv (sk 1)), (ak 2, wv (sk 2)), (ak 3, wv (sk 3)), (ak 4, wv (sk 4)), (ak 5, wv (sk 5)), (ak 6, wv (sk 6)), (ak 7, wv (sk 7)), (ak 8, wv (sk 8)), (ak 9, wv (sk 9)), (ak 10, wv (sk 10)), (ak 11, wv (sk 11)), (ak 12, wv (sk 12)), (ak 13, wv (sk 13))]) [16, 17, 0, 1, 2, 3, 4, 5, 6, 7, 8, 9, 10, 11, 12, 13, 14, 15] rfl rfl) hN hS hc1 hc2 hc3 (Nat.le_refl _) (Nat.le_refl _))
  subst hz
  have hf := obx_r hf
  have hP : va_P G vwCl [(a_past, pv a_past_kept s_past), (a_past_kept, av_R cy 14 ak), (ak 0, wv (sk 0)), (ak 1, wv (sk 1)), (ak 2, wv (sk 2)), (ak 3, wv (sk 3)), (ak 4, wv (sk 4)), (ak 5, wv (sk 5)), (ak 6, wv (sk 6)), (ak 7, wv (sk 7)), (ak 8, wv (sk 8)), (ak 9, wv (sk 9)), (ak 10, wv (sk 10)), (ak 11, wv (sk 11)), (ak 12, wv (sk 12)), (ak 13, wv (sk 13)), (a_0, fv a_text a_window a_trial a_past a_firstSlot a_secondSlot a_equations a_looks), (a_window, wv s_window)] H := hP
  have hD : va_D A [(a_past, pv a_past_kept s_past), (a_past_kept, av_R cy 14 ak), (ak 0, wv (sk 0)), (ak 1, wv (sk 1)), (ak 2, wv (sk 2)), (ak 3, wv (sk 3)), (ak 4, wv (sk 4)), (ak 5, wv (sk 5)), (ak 6, wv (sk 6)), (ak 7, wv (sk 7)), (ak 8, wv (sk 8)), (ak 9, wv (sk 9)), (ak 10, wv (sk 10)), (ak 11, wv (sk 11)), (ak 12, wv (sk 12)), (ak 13, wv (sk 13)), (a_0, fv a_text a_window a_trial a_past a_firstSlot a_secondSlot a_equations a_looks), (a_window, wv s_window)] := hD
  refine lv_aload_n hx hb dX5_breathe_13 rfl (lv_at hl 0 rfl) ?_
  refine va_get (D := G) (ci := 5) (v := .ref a_past) (C := RX5) (T := TX5) (N := 8) hx hb hts iw_X5_breathe_X5 hown hK hP 16 rfl rfl 3 (by decide) (hts (.fieldLink RX5 29 "PaneFrost" "past" "LPaneFrost$Past;") (by decide +kernel)) (fun _ h9 => h9) rfl dX5_breathe_14 ?_
  refine lv_aload_n hx hb dX5_breathe_17 rfl (lv_at hl 0 rfl) ?_
  refine va_get (D := G) (ci := 5) (v := .ref a_window) (C := RX5) (T := TX5) (N := 8) hx hb hts iw_X5_breathe_X5 hown hK hP 16 rfl rfl 1 (by decide) (hts (.fieldLink RX5 19 "PaneFrost" "window" "LPaneFrost$Window;") (by decide +kernel)) (fun _ h9 => h9) rfl dX5_breathe_18 ?_
  obtain ⟨r_3, hh_r_3⟩ : ∃ z, z = f_X1_remember s_past sk s_window := ⟨_, rfl⟩
  have hf := lt_e hh_r_3 hf
  refine kc_v (w1 := [(a_past, pv a_past_kept r_3.1), (a_past_kept, av_R cy 14 ak), (ak 0, wv (r_3.2 0)), (ak 1, wv (r_3.2 1)), (ak 2, wv (r_3.2 2)), (ak 3, wv (r_3.2 3)), (ak 4, wv (r_3.2 4)), (ak 5, wv (r_3.2 5)), (ak 6, wv (r_3.2 6)), (ak 7, wv (r_3.2 7)), (ak 8, wv (r_3.2 8)), (ak 9, wv (r_3.2 9)), (ak 10, wv (r_3.2 10)), (ak 11, wv (r_3.2 11)), (ak 12, wv (r_3.2 12)), (ak 13, wv (r_3.2 13)), (a_window, wv s_window)]) (wr := [(a_0, fv a_text a_window a_trial a_past a_firstSlot a_secondSlot a_equations a_looks)]) hP hD hS hA [0, 1, 2, 3, 4, 5, 6, 7, 8, 9, 10, 11, 12, 13, 14, 15, 17] [16] rfl rfl rfl (by decide) (va_runV (As := [.ref a_window]) (rest := []) ⟨hx, hb, hml, hown, hts⟩ (c_X1_remember (l := l) G cy a_past a_past_kept a_window ak H.size s_past sk s_window  r_3 hh_r_3.symm) (cwV 1 hts gX5_breathe_X1_remember rfl rfl rfl ddV_X1_remember ⟨Nat.le_of_ble_eq_true rfl, Nat.le_of_ble_eq_true rfl⟩) (preV_ (ci := 1) (q0 := 0) rfl rfl (hP.sub (ws' := [(a_past, pv a_past_kept s_past), (a_past_kept, av_R cy 14 ak), (ak 0, wv (sk 0)), (ak 1, wv (sk 1)), (ak 2, wv (sk 2)), (ak 3, wv (sk 3)), (ak 4, wv (sk 4)), (ak 5, wv (sk 5)), (ak 6, wv (sk 6)), (ak 7, wv (sk 7)), (ak 8, wv (sk 8)), (ak 9, wv (sk 9)), (ak 10, wv (sk 10)), (ak 11, wv (sk 11)), (ak 12, wv (sk 12)), (ak 13, wv (sk 13)), (a_window, wv s_window)]) [0, 1, 2, 3, 4, 5, 6, 7, 8, 9, 10, 11, 12, 13, 14, 15, 17] rfl) hK (hD.sub (ws' := [(a_past, pv a_past_kept s_past), (a_past_kept, av_R cy 14 ak), (ak 0, wv (sk 0)), (ak 1, wv (sk 1)), (ak 2, wv (sk 2)), (ak 3, wv (sk 3)), (ak 4, wv (sk 4)), (ak 5, wv (sk 5)), (ak 6, wv (sk 6)), (ak 7, wv (sk 7)), (ak 8, wv (sk 8)), (ak 9, wv (sk 9)), (ak 10, wv (sk 10)), (ak 11, wv (sk 11)), (ak 12, wv (sk 12)), (ak 13, wv (sk 13)), (a_window, wv s_window)]) [0, 1, 2, 3, 4, 5, 6, 7, 8, 9, 10, 11, 12, 13, 14, 15, 17] rfl rfl) hN) rfl rfl hl.1 rfl (lv_room (Nat.le_of_ble_eq_true rfl)) dX5_breathe_21 ⟨Nat.le_of_ble_eq_true rfl, Nat.le_of_ble_eq_true rfl⟩) (fun H locs hP hD hS => ?_)
  have hP : va_P G vwCl [(a_0, fv a_text a_window a_trial a_past a_firstSlot a_secondSlot a_equations a_looks), (a_past, pv a_past_kept r_3.1), (a_past_kept, av_R cy 14 ak), (ak 0, wv (r_3.2 0)), (ak 1, wv (r_3.2 1)), (ak 2, wv (r_3.2 2)), (ak 3, wv (r_3.2 3)), (ak 4, wv (r_3.2 4)), (ak 5, wv (r_3.2 5)), (ak 6, wv (r_3.2 6)), (ak 7, wv (r_3.2 7)), (ak 8, wv (r_3.2 8)), (ak 9, wv (r_3.2 9)), (ak 10, wv (r_3.2 10)), (ak 11, wv (r_3.2 11)), (ak 12, wv (r_3.2 12)), (ak 13, wv (r_3.2 13)), (a_window, wv s_window)] H := hP
  have hD : va_D A [(a_0, fv a_text a_window a_trial a_past a_firstSlot a_secondSlot a_equations a_looks), (a_past, pv a_past_kept r_3.1), (a_past_kept, av_R cy 14 ak), (ak 0, wv (r_3.2 0)), (ak 1, wv (r_3.2 1)), (ak 2, wv (r_3.2 2)), (ak 3, wv (r_3.2 3)), (ak 4, wv (r_3.2 4)), (ak 5, wv (r_3.2 5)), (ak 6, wv (r_3.2 6)), (ak 7, wv (r_3.2 7)), (ak 8, wv (r_3.2 8)), (ak 9, wv (r_3.2 9)), (ak 10, wv (r_3.2 10)), (ak 11, wv (r_3.2 11)), (ak 12, wv (r_3.2 12)), (ak 13, wv (r_3.2 13)), (a_window, wv s_window)] := hD
  refine lv_aload_n hx hb dX5_breathe_24 rfl (lv_at hl 0 rfl) ?_
  refine va_get (D := G) (ci := 5) (v := .ref a_window) (C := RX5) (T := TX5) (N := 8) hx hb hts iw_X5_breathe_X5 hown hK hP 0 rfl rfl 1 (by decide) (hts (.fieldLink RX5 19 "PaneFrost" "window" "LPaneFrost$Window;") (by decide +kernel)) (fun _ h9 => h9) rfl dX5_breathe_25 ?_
  refine lv_iload_n hx hb dX5_breathe_28 rfl (lv_at hl 1 rfl) ?_
  refine lv_iload_n hx hb dX5_breathe_29 rfl (lv_at hl 2 rfl) ?_
  obtain ⟨r_4, hh_r_4, hf⟩ := obd_some hf
  refine kc_i (w1 := [(a_window, wv r_4.2)]) (wr := [(a_0, fv a_text a_window a_trial a_past a_firstSlot a_secondSlot a_equations a_looks), (a_past, pv a_past_kept r_3.1), (a_past_kept, av_R cy 14 ak), (ak 0, wv (r_3.2 0)), (ak 1, wv (r_3.2 1)), (ak 2, wv (r_3.2 2)), (ak 3, wv (r_3.2 3)), (ak 4, wv (r_3.2 4)), (ak 5, wv (r_3.2 5)), (ak 6, wv (r_3.2 6)), (ak 7, wv (r_3.2 7)), (ak 8, wv (r_3.2 8)), (ak 9, wv (r_3.2 9)), (ak 10, wv (r_3.2 10)), (ak 11, wv (r_3.2 11)), (ak 12, wv (r_3.2 12)), (ak 13, wv (r_3.2 13))]) hP hD hS hA [17] [0, 1, 2, 3, 4, 5, 6, 7, 8, 9, 10, 11, 12, 13, 14, 15, 16] rfl rfl rfl (by decide) (va_runV (As := [.int x1, .int x2]) (rest := []) ⟨hx, hb, hml, hown, hts⟩ (c_X4_thaw (l := l) G cy a_window H.size s_window x1 x2 n r_4 hh_r_4) (cwV 2 hts gX5_breathe_X4_thaw rfl rfl rfl ddV_X4_thaw ⟨Nat.le_of_ble_eq_true rfl, Nat.le_of_ble_eq_true rfl⟩) (preV_ (ci := 4) (q0 := 0) rfl rfl (hP.sub (ws' := [(a_window, wv s_window)]) [17] rfl) hK (hD.sub (ws' := [(a_window, wv s_window)]) [17] rfl rfl) hN) rfl rfl hl.1 rfl (lv_room (Nat.le_of_ble_eq_true rfl)) dX5_breathe_30 ⟨Nat.le_of_ble_eq_true rfl, Nat.le_of_ble_eq_true rfl⟩) (fun H locs hP hD hS => ?_)
  have hP : va_P G vwCl [(a_0, fv a_text a_window a_trial a_past a_firstSlot a_secondSlot a_equations a_looks), (a_past, pv a_past_kept r_3.1), (a_past_kept, av_R cy 14 ak), (ak 0, wv (r_3.2 0)), (ak 1, wv (r_3.2 1)), (ak 2, wv (r_3.2 2)), (ak 3, wv (r_3.2 3)), (ak 4, wv (r_3.2 4)), (ak 5, wv (r_3.2 5)), (ak 6, wv (r_3.2 6)), (ak 7, wv (r_3.2 7)), (ak 8, wv (r_3.2 8)), (ak 9, wv (r_3.2 9)), (ak 10, wv (r_3.2 10)), (ak 11, wv (r_3.2 11)), (ak 12, wv (r_3.2 12)), (ak 13, wv (r_3.2 13)), (a_window, wv r_4.2)] H := hP
  have hD : va_D A [(a_0, fv a_text a_window a_trial a_past a_firstSlot a_secondSlot a_equations a_looks), (a_past, pv a_past_kept r_3.1), (a_past_kept, av_R cy 14 ak), (ak 0, wv (r_3.2 0)), (ak 1, wv (r_3.2 1)), (ak 2, wv (r_3.2 2)), (ak 3, wv (r_3.2 3)), (ak 4, wv (r_3.2 4)), (ak 5, wv (r_3.2 5)), (ak 6, wv (r_3.2 6)), (ak 7, wv (r_3.2 7)), (ak 8, wv (r_3.2 8)), (ak 9, wv (r_3.2 9)), (ak 10, wv (r_3.2 10)), (ak 11, wv (r_3.2 11)), (ak 12, wv (r_3.2 12)), (ak 13, wv (r_3.2 13)), (a_window, wv r_4.2)] := hD
  exact kr_iX (u := (r_4.1, r_4.2, r_3.1, r_3.2)) hx hb hr hlocks ((Option.some.inj hf).symm) (hP.sub (ws' := [(a_0, fv a_text a_window a_trial a_past a_firstSlot a_secondSlot a_equations a_looks), (a_window, wv r_4.2), (a_past, pv a_past_kept r_3.1), (a_past_kept, av_R cy 14 ak), (ak 0, wv (r_3.2 0)), (ak 1, wv (r_3.2 1)), (ak 2, wv (r_3.2 2)), (ak 3, wv (r_3.2 3)), (ak 4, wv (r_3.2 4)), (ak 5, wv (r_3.2 5)), (ak 6, wv (r_3.2 6)), (ak 7, wv (r_3.2 7)), (ak 8, wv (r_3.2 8)), (ak 9, wv (r_3.2 9)), (ak 10, wv (r_3.2 10)), (ak 11, wv (r_3.2 11)), (ak 12, wv (r_3.2 12)), (ak 13, wv (r_3.2 13))]) [0, 17, 1, 2, 3, 4, 5, 6, 7, 8, 9, 10, 11, 12, 13, 14, 15, 16] rfl) hK (hD.sub (ws' := [(a_0, fv a_text a_window a_trial a_past a_firstSlot a_secondSlot a_equations a_looks), (a_window, wv r_4.2), (a_past, pv a_past_kept r_3.1), (a_past_kept, av_R cy 14 ak), (ak 0, wv (r_3.2 0)), (ak 1, wv (r_3.2 1)), (ak 2, wv (r_3.2 2)), (ak 3, wv (r_3.2 3)), (ak 4, wv (r_3.2 4)), (ak 5, wv (r_3.2 5)), (ak 6, wv (r_3.2 6)), (ak 7, wv (r_3.2 7)), (ak 8, wv (r_3.2 8)), (ak 9, wv (r_3.2 9)), (ak 10, wv (r_3.2 10)), (ak 11, wv (r_3.2 11)), (ak 12, wv (r_3.2 12)), (ak 13, wv (r_3.2 13))]) [0, 17, 1, 2, 3, 4, 5, 6, 7, 8, 9, 10, 11, 12, 13, 14, 15, 16] rfl rfl) hN hS hS.2.2 dX5_breathe_33
set_option maxHeartbeats 4000000 in
set_option maxRecDepth 100000 in
theorem c_X5_nights {l : Launch} (hfl : l.stackTraces = false) (G : va_G) (cy : Nat → ClassId) (a_0 : Nat) (a_text : Nat) (a_window : Nat) (a_trial : Nat) (a_past : Nat) (a_past_kept : Nat) (a_firstSlot : Nat) (a_secondSlot : Nat) (a_equations : Nat) (a_looks : Nat) (ak : Nat → Nat) (sz : Nat) (s_window : WT) (s_past : PT) (sk : Nat → WT) (x1 : Int32) (n : Nat) (R : Nat ⊕ (Int32 × WT × PT × (Nat → WT))) (hf : f_X5_nights n s_window s_past sk x1 = some R) : vx_Met l yX5_nights wsX5_nights ({ frames := 8, cells := 1, slots := 6, locals := 123 } : Room) (va_Pc [.ref a_0, .int x1] (pcX G cy [(a_0, fv a_text a_window a_trial a_past a_firstSlot a_secondSlot a_equations a_looks), (a_window, wv s_window), (a_past, pv a_past_kept s_past), (a_past_kept, av_R cy 14 ak), (ak 0, wv (sk 0)), (ak 1, wv (sk 1)), (ak 2, wv (sk 2)), (ak 3, wv (sk 3)), (ak 4, wv (sk 4)), (ak 5, wv (sk 5)), (ak 6, wv (sk 6)), (ak 7, wv (sk 7)), (ak 8, wv (sk 8)), (ak 9, wv (sk 9)), (ak 10, wv (sk 10)), (ak 11, wv (sk 11)), (ak 12, wv (sk 12)), (ak 13, wv (sk 13))] sz)) (va_Qi (fun r (u : Int32 × WT × PT × (Nat → WT)) => R = .inr u ∧ r = u.1) (fun u t => Wd G cy (va_A [(a_0, fv a_text a_window a_trial a_past a_firstSlot a_secondSlot a_equations a_looks), (a_window, wv s_window), (a_past, pv a_past_kept s_past), (a_past_kept, av_R cy 14 ak), (ak 0, wv (sk 0)), (ak 1, wv (sk 1)), (ak 2, wv (sk 2)), (ak 3, wv (sk 3)), (ak 4, wv (sk 4)), (ak 5, wv (sk 5)), (ak 6, wv (sk 6)), (ak 7, wv (sk 7)), (ak 8, wv (sk 8)), (ak 9, wv (sk 9)), (ak 10, wv (sk 10)), (ak 11, wv (sk 11)), (ak 12, wv (sk 12)), (ak 13, wv (sk 13))] sz) [(a_0, fv a_text a_window a_trial a_past a_firstSlot a_secondSlot a_equations a_looks), (a_window, wv u.2.1), (a_past, pv a_past_kept u.2.2.1), (a_past_kept, av_R cy 14 ak), (ak 0, wv (u.2.2.2 0)), (ak 1, wv (u.2.2.2 1)), (ak 2, wv (u.2.2.2 2)), (ak 3, wv (u.2.2.2 3)), (ak 4, wv (u.2.2.2 4)), (ak 5, wv (u.2.2.2 5)), (ak 6, wv (u.2.2.2 6)), (ak 7, wv (u.2.2.2 7)), (ak 8, wv (u.2.2.2 8)), (ak 9, wv (u.2.2.2 9)), (ak 10, wv (u.2.2.2 10)), (ak 11, wv (u.2.2.2 11)), (ak 12, wv (u.2.2.2 12)), (ak 13, wv (u.2.2.2 13))] t) (va_A [(a_0, fv a_text a_window a_trial a_past a_firstSlot a_secondSlot a_equations a_looks), (a_window, wv s_window), (a_past, pv a_past_kept s_past), (a_past_kept, av_R cy 14 ak), (ak 0, wv (sk 0)), (ak 1, wv (sk 1)), (ak 2, wv (sk 2)), (ak 3, wv (sk 3)), (ak 4, wv (sk 4)), (ak 5, wv (sk 5)), (ak 6, wv (sk 6)), (ak 7, wv (sk 7)), (ak 8, wv (sk 8)), (ak 9, wv (sk 9)), (ak 10, wv (sk 10)), (ak 11, wv (sk 11)), (ak 12, wv (sk 12)), (ak 13, wv (sk 13))] sz)) (vx_X (fun u : Nat => R = .inl u) (fun E u t => E = exN u ∧ va_P G vwCl [(a_0, fv a_text a_window a_trial a_past a_firstSlot a_secondSlot a_equations a_looks), (a_window, wv s_window), (a_past, pv a_past_kept s_past), (a_past_kept, av_R cy 14 ak), (ak 0, wv (sk 0)), (ak 1, wv (sk 1)), (ak 2, wv (sk 2)), (ak 3, wv (sk 3)), (ak 4, wv (sk 4)), (ak 5, wv (sk 5)), (ak 6, wv (sk 6)), (ak 7, wv (sk 7)), (ak 8, wv (sk 8)), (ak 9, wv (sk 9)), (ak 10, wv (sk 10)), (ak 11, wv (sk 11)), (ak 12, wv (sk 12)), (ak 13, wv (sk 13))] t.heap ∧ va_D (va_A [(a_0, fv a_text a_window a_trial a_past a_firstSlot a_secondSlot a_equations a_looks), (a_window, wv s_window), (a_past, pv a_past_kept s_past), (a_past_kept, av_R cy 14 ak), (ak 0, wv (sk 0)), (ak 1, wv (sk 1)), (ak 2, wv (sk 2)), (ak 3, wv (sk 3)), (ak 4, wv (sk 4)), (ak 5, wv (sk 5)), (ak 6, wv (sk 6)), (ak 7, wv (sk 7)), (ak 8, wv (sk 8)), (ak 9, wv (sk 9)), (ak 10, wv (sk 10)), (ak 11, wv (sk 11)), (ak 12, wv (sk 12)), (ak 13, wv (sk 13))] sz) [(a_0, fv a_text a_window a_trial a_past a_firstSlot a_secondSlot a_equations a_looks), (a_window, wv s_window), (a_past, pv a_past_kept s_past), (a_past_kept, av_R cy 14 ak), (ak 0, wv (sk 0)), (ak 1, wv (sk 1)), (ak 2, wv (sk 2)), (ak 3, wv (sk 3)), (ak 4, wv (sk 4)), (ak 5, wv (sk 5)), (ak 6, wv (sk 6)), (ak 7, wv (sk 7)), (ak 8, wv (sk 8)), (ak 9, wv (sk 9)), (ak 10, wv (sk 10)), (ak 11, wv (sk 11)), (ak 12, wv (sk 12)), (ak 13, wv (sk 13))]) (va_A [(a_0, fv a_text a_window a_trial a_past a_firstSlot a_secondSlot a_equations a_looks), (a_window, wv s_window), (a_past, pv a_past_kept s_past), (a_past_kept, av_R cy 14 ak), (ak 0, wv (sk 0)), (ak 1, wv (sk 1)), (ak 2, wv (sk 2)), (ak 3, wv (sk 3)), (ak 4, wv (sk 4)), (ak 5, wv (sk 5)), (ak 6, wv (sk 6)), (ak 7, wv (sk 7)), (ak 8, wv (sk 8)), (ak 9, wv (sk 9)), (ak 10, wv (sk 10)), (ak 11, wv (sk 11)), (ak 12, wv (sk 12)), (ak 13, wv (sk 13))] sz)) 1 6 (va_A [(a_0, fv a_text a_window a_trial a_past a_firstSlot a_secondSlot a_equations a_looks), (a_window, wv s_window), (a_past, pv a_past_kept s_past), (a_past_kept, av_R cy 14 ak), (ak 0, wv (sk 0)), (ak 1, wv (sk 1)), (ak 2, wv (sk 2)), (ak 3, wv (sk 3)), (ak 4, wv (sk 4)), (ak 5, wv (sk 5)), (ak 6, wv (sk 6)), (ak 7, wv (sk 7)), (ak 8, wv (sk 8)), (ak 9, wv (sk 9)), (ak 10, wv (sk 10)), (ak 11, wv (sk 11)), (ak 12, wv (sk 12)), (ak 13, wv (sk 13))] sz) := by
  refine vx_ofW (cc := cX5_nights) (maxL := 2) (ret := (some .int)) (by decide) rfl ?_
  intro p e s m args below meth c s₁ B hml hnt hv
  obtain ⟨rfl, ⟨hsz, hP, hK, hD0, hN⟩, hE⟩ := hv
  have hx := B.exec
  have hb := B.bytes
  have hr := B.returns
  have hts := atoms_spec (ws := wsX5_nights) B.pre
  have hown : s.vm.findClass RX5 = some m.cls := findClass_of_methodNamed B.named
  have hlocks := B.notSynchronized
  subst hsz
  have hD := hD0.self (sz := s.heap.size)
  generalize hAe : va_A [(a_0, fv a_text a_window a_trial a_past a_firstSlot a_secondSlot a_equations a_looks), (a_window, wv s_window), (a_past, pv a_past_kept s_past), (a_past_kept, av_R cy 14 ak), (ak 0, wv (sk 0)), (ak 1, wv (sk 1)), (ak 2, wv (sk 2)), (ak 3, wv (sk 3)), (ak 4, wv (sk 4)), (ak 5, wv (sk 5)), (ak 6, wv (sk 6)), (ak 7, wv (sk 7)), (ak 8, wv (sk 8)), (ak 9, wv (sk 9)), (ak 10, wv (sk 10)), (ak 11, wv (sk 11)), (ak 12, wv (sk 12)), (ak 13, wv (sk 13))] s.heap.size = A at hD hE ⊢
  have hA : ∀ q : Nat, s.heap.size ≤ q → A q := fun q h => by rw [← hAe]; exact Or.inr h
  have hS : va_S A s.heap s.heap [] := va_S.rf
  have hP : va_P G vwCl [(a_0, fv a_text a_window a_trial a_past a_firstSlot a_secondSlot a_equations a_looks), (a_window, wv s_window), (a_past, pv a_past_kept s_past), (a_past_kept, av_R cy 14 ak), (ak 0, wv (sk 0)), (ak 1, wv (sk 1)), (ak 2, wv (sk 2)), (ak 3, wv (sk 3)), (ak 4, wv (sk 4)), (ak 5, wv (sk 5)), (ak 6, wv (sk 6)), (ak 7, wv (sk 7)), (ak 8, wv (sk 8)), (ak 9, wv (sk 9)), (ak 10, wv (sk 10)), (ak 11, wv (sk 11)), (ak 12, wv (sk 12)), (ak 13, wv (sk 13))] s.heap := hP
  have hl := lv_entry [.ref a_0, .int x1] (n := 2) (Nat.le_of_ble_eq_true rfl)
  rw [lg_entry_eq]
  generalize (lg_sl [.ref a_0, .int x1] ++ List.replicate (2 - (lg_sl [.ref a_0, .int x1]).length) Slot.unset).toArray = ls at hl ⊢
  have hl : lv_has ls 2 [(0, .ref a_0), (1, .int x1)] := hl
  unfold f_X5_nights at hf
  refine lv_aload_n hx hb dX5_nights_0 rfl (lv_at hl 0 rfl) ?_
  refine lv_iload_n hx hb dX5_nights_1 rfl (lv_at hl 1 rfl) ?_
  refine lv_iconst (v := 1) hx hb dX5_nights_2 (by decide) ?_
  refine lv_bipush (v := 60) hx hb dX5_nights_3 (by decide) ?_
  obtain ⟨r_1, hh_r_1, hf⟩ := obx_some hf
  refine kx_v (w1 := fun (_ : Unit) => []) (wr := [(a_0, fv a_text a_window a_trial a_past a_firstSlot a_secondSlot a_equations a_looks), (a_window, wv s_window), (a_past, pv a_past_kept s_past), (a_past_kept, av_R cy 14 ak), (ak 0, wv (sk 0)), (ak 1, wv (sk 1)), (ak 2, wv (sk 2)), (ak 3, wv (sk 3)), (ak 4, wv (sk 4)), (ak 5, wv (sk 5)), (ak 6, wv (sk 6)), (ak 7, wv (sk 7)), (ak 8, wv (sk 8)), (ak 9, wv (sk 9)), (ak 10, wv (sk 10)), (ak 11, wv (sk 11)), (ak 12, wv (sk 12)), (ak 13, wv (sk 13))]) hP hD hS hA [] [0, 1, 2, 3, 4, 5, 6, 7, 8, 9, 10, 11, 12, 13, 14, 15, 16, 17] rfl rfl rfl (by decide) (vx_runV (As := [.int x1, .int 1, .int 60]) (rest := []) ⟨hx, hb, hml, hown, hts⟩ (c_X5_needRange (l := l) hfl G cy a_0 s.heap.size x1 1 60  r_1 hh_r_1) (cwV 3 hts gX5_nights_X5_needRange rfl rfl rfl ddV_X5_needRange ⟨Nat.le_of_ble_eq_true rfl, Nat.le_of_ble_eq_true rfl⟩) (preVX2 (ci := 5) (q0 := 0) rfl rfl hP (hE.kept hS.2.1) (va_free hD hS hA (wc := []) [] rfl) (hP.sub (ws' := []) [] rfl) hK (hD.sub (ws' := []) [] rfl rfl) hN) rfl rfl hl.1 rfl (lv_room (Nat.le_of_ble_eq_true rfl)) dX5_nights_5 ⟨Nat.le_of_ble_eq_true rfl, Nat.le_of_ble_eq_true rfl⟩) (fun u ce q9 H locs hz hP hD hS hc1 hc2 hc3 => ?_) (fun u_1 H locs hz hP hD hS => ?_)
  · subst hz
    have hP : va_P G vwCl [(a_0, fv a_text a_window a_trial a_past a_firstSlot a_secondSlot a_equations a_looks), (a_window, wv s_window), (a_past, pv a_past_kept s_past), (a_past_kept, av_R cy 14 ak), (ak 0, wv (sk 0)), (ak 1, wv (sk 1)), (ak 2, wv (sk 2)), (ak 3, wv (sk 3)), (ak 4, wv (sk 4)), (ak 5, wv (sk 5)), (ak 6, wv (sk 6)), (ak 7, wv (sk 7)), (ak 8, wv (sk 8)), (ak 9, wv (sk 9)), (ak 10, wv (sk 10)), (ak 11, wv (sk 11)), (ak 12, wv (sk 12)), (ak 13, wv (sk 13))] H := hP
    have hD : va_D A [(a_0, fv a_text a_window a_trial a_past a_firstSlot a_secondSlot a_equations a_looks), (a_window, wv s_window), (a_past, pv a_past_kept s_past), (a_past_kept, av_R cy 14 ak), (ak 0, wv (sk 0)), (ak 1, wv (sk 1)), (ak 2, wv (sk 2)), (ak 3, wv (sk 3)), (ak 4, wv (sk 4)), (ak 5, wv (sk 5)), (ak 6, wv (sk 6)), (ak 7, wv (sk 7)), (ak 8, wv (sk 8)), (ak 9, wv (sk 9)), (ak 10, wv (sk 10)), (ak 11, wv (sk 11)), (ak 12, wv (sk 12)), (ak 13, wv (sk 13))] := hD
    exact vx_widen (k := 1) (n := 6) (Nat.le_of_ble_eq_true rfl) (Nat.le_of_ble_eq_true rfl) (kx_out u hnt hlocks (obx_l hf) hP hK hD hN hS hc1 hc2 hc3 (Nat.le_refl _) (Nat.le_refl _))
  subst hz
  have hf := obx_r hf
  have hP : va_P G vwCl [(a_0, fv a_text a_window a_trial a_past a_firstSlot a_secondSlot a_equations a_looks), (a_window, wv s_window), (a_past, pv a_past_kept s_past), (a_past_kept, av_R cy 14 ak), (ak 0, wv (sk 0)), (ak 1, wv (sk 1)), (ak 2, wv (sk 2)), (ak 3, wv (sk 3)), (ak 4, wv (sk 4)), (ak 5, wv (sk 5)), (ak 6, wv (sk 6)), (ak 7, wv (sk 7)), (ak 8, wv (sk 8)), (ak 9, wv (sk 9)), (ak 10, wv (sk 10)), (ak 11, wv (sk 11)), (ak 12, wv (sk 12)), (ak 13, wv (sk 13))] H := hP
  have hD : va_D A [(a_0, fv a_text a_window a_trial a_past a_firstSlot a_secondSlot a_equations a_looks), (a_window, wv s_window), (a_past, pv a_past_kept s_past), (a_past_kept, av_R cy 14 ak), (ak 0, wv (sk 0)), (ak 1, wv (sk 1)), (ak 2, wv (sk 2)), (ak 3, wv (sk 3)), (ak 4, wv (sk 4)), (ak 5, wv (sk 5)), (ak 6, wv (sk 6)), (ak 7, wv (sk 7)), (ak 8, wv (sk 8)), (ak 9, wv (sk 9)), (ak 10, wv (sk 10)), (ak 11, wv (sk 11)), (ak 12, wv (sk 12)), (ak 13, wv (sk 13))] := hD
  refine lv_aload_n hx hb dX5_nights_8 rfl (lv_at hl 0 rfl) ?_
  refine va_get (D := G) (ci := 5) (v := .ref a_past) (C := RX5) (T := TX5) (N := 8) hx hb hts iw_X5_nights_X5 hown hK hP 0 rfl rfl 3 (by decide) (hts (.fieldLink RX5 29 "PaneFrost" "past" "LPaneFrost$Past;") (by decide +kernel)) (fun _ h9 => h9) rfl dX5_nights_9 ?_
  refine lv_aload_n hx hb dX5_nights_12 rfl (lv_at hl 0 rfl) ?_
  refine va_get (D := G) (ci := 5) (v := .ref a_window) (C := RX5) (T := TX5) (N := 8) hx hb hts iw_X5_nights_X5 hown hK hP 0 rfl rfl 1 (by decide) (hts (.fieldLink RX5 19 "PaneFrost" "window" "LPaneFrost$Window;") (by decide +kernel)) (fun _ h9 => h9) rfl dX5_nights_13 ?_
  obtain ⟨r_2, hh_r_2⟩ : ∃ z, z = f_X1_remember s_past sk s_window := ⟨_, rfl⟩
  have hf := lt_e hh_r_2 hf
  refine kc_v (w1 := [(a_past, pv a_past_kept r_2.1), (a_past_kept, av_R cy 14 ak), (ak 0, wv (r_2.2 0)), (ak 1, wv (r_2.2 1)), (ak 2, wv (r_2.2 2)), (ak 3, wv (r_2.2 3)), (ak 4, wv (r_2.2 4)), (ak 5, wv (r_2.2 5)), (ak 6, wv (r_2.2 6)), (ak 7, wv (r_2.2 7)), (ak 8, wv (r_2.2 8)), (ak 9, wv (r_2.2 9)), (ak 10, wv (r_2.2 10)), (ak 11, wv (r_2.2 11)), (ak 12, wv (r_2.2 12)), (ak 13, wv (r_2.2 13)), (a_window, wv s_window)]) (wr := [(a_0, fv a_text a_window a_trial a_past a_firstSlot a_secondSlot a_equations a_looks)]) hP hD hS hA [2, 3, 4, 5, 6, 7, 8, 9, 10, 11, 12, 13, 14, 15, 16, 17, 1] [0] rfl rfl rfl (by decide) (va_runV (As := [.ref a_window]) (rest := []) ⟨hx, hb, hml, hown, hts⟩ (c_X1_remember (l := l) G cy a_past a_past_kept a_window ak H.size s_past sk s_window  r_2 hh_r_2.symm) (cwV 1 hts gX5_nights_X1_remember rfl rfl rfl ddV_X1_remember ⟨Nat.le_of_ble_eq_true rfl, Nat.le_of_ble_eq_true rfl⟩) (preV_ (ci := 1) (q0 := 0) rfl rfl (hP.sub (ws' := [(a_past, pv a_past_kept s_past), (a_past_kept, av_R cy 14 ak), (ak 0, wv (sk 0)), (ak 1, wv (sk 1)), (ak 2, wv (sk 2)), (ak 3, wv (sk 3)), (ak 4, wv (sk 4)), (ak 5, wv (sk 5)), (ak 6, wv (sk 6)), (ak 7, wv (sk 7)), (ak 8, wv (sk 8)), (ak 9, wv (sk 9)), (ak 10, wv (sk 10)), (ak 11, wv (sk 11)), (ak 12, wv (sk 12)), (ak 13, wv (sk 13)), (a_window, wv s_window)]) [2, 3, 4, 5, 6, 7, 8, 9, 10, 11, 12, 13, 14, 15, 16, 17, 1] rfl) hK (hD.sub (ws' := [(a_past, pv a_past_kept s_past), (a_past_kept, av_R cy 14 ak), (ak 0, wv (sk 0)), (ak 1, wv (sk 1)), (ak 2, wv (sk 2)), (ak 3, wv (sk 3)), (ak 4, wv (sk 4)), (ak 5, wv (sk 5)), (ak 6, wv (sk 6)), (ak 7, wv (sk 7)), (ak 8, wv (sk 8)), (ak 9, wv (sk 9)), (ak 10, wv (sk 10)), (ak 11, wv (sk 11)), (ak 12, wv (sk 12)), (ak 13, wv (sk 13)), (a_window, wv s_window)]) [2, 3, 4, 5, 6, 7, 8, 9, 10, 11, 12, 13, 14, 15, 16, 17, 1] rfl rfl) hN) rfl rfl hl.1 rfl (lv_room (Nat.le_of_ble_eq_true rfl)) dX5_nights_16 ⟨Nat.le_of_ble_eq_true rfl, Nat.le_of_ble_eq_true rfl⟩) (fun H locs hP hD hS => ?_)
  have hP : va_P G vwCl [(a_0, fv a_text a_window a_trial a_past a_firstSlot a_secondSlot a_equations a_looks), (a_past, pv a_past_kept r_2.1), (a_past_kept, av_R cy 14 ak), (ak 0, wv (r_2.2 0)), (ak 1, wv (r_2.2 1)), (ak 2, wv (r_2.2 2)), (ak 3, wv (r_2.2 3)), (ak 4, wv (r_2.2 4)), (ak 5, wv (r_2.2 5)), (ak 6, wv (r_2.2 6)), (ak 7, wv (r_2.2 7)), (ak 8, wv (r_2.2 8)), (ak 9, wv (r_2.2 9)), (ak 10, wv (r_2.2 10)), (ak 11, wv (r_2.2 11)), (ak 12, wv (r_2.2 12)), (ak 13, wv (r_2.2 13)), (a_window, wv s_window)] H := hP
  have hD : va_D A [(a_0, fv a_text a_window a_trial a_past a_firstSlot a_secondSlot a_equations a_looks), (a_past, pv a_past_kept r_2.1), (a_past_kept, av_R cy 14 ak), (ak 0, wv (r_2.2 0)), (ak 1, wv (r_2.2 1)), (ak 2, wv (r_2.2 2)), (ak 3, wv (r_2.2 3)), (ak 4, wv (r_2.2 4)), (ak 5, wv (r_2.2 5)), (ak 6, wv (r_2.2 6)), (ak 7, wv (r_2.2 7)), (ak 8, wv (r_2.2 8)), (ak 9, wv (r_2.2 9)), (ak 10, wv (r_2.2 10)), (ak 11, wv (r_2.2 11)), (ak 12, wv (r_2.2 12)), (ak 13, wv (r_2.2 13)), (a_window, wv s_window)] := hD
  refine lv_aload_n hx hb dX5_nights_19 rfl (lv_at hl 0 rfl) ?_
  refine va_get (D := G) (ci := 5) (v := .ref a_window) (C := RX5) (T := TX5) (N := 8) hx hb hts iw_X5_nights_X5 hown hK hP 0 rfl rfl 1 (by decide) (hts (.fieldLink RX5 19 "PaneFrost" "window" "LPaneFrost$Window;") (by decide +kernel)) (fun _ h9 => h9) rfl dX5_nights_20 ?_
  refine lv_iload_n hx hb dX5_nights_23 rfl (lv_at hl 1 rfl) ?_
  obtain ⟨r_3, hh_r_3, hf⟩ := obd_some hf
  refine kc_i (w1 := [(a_window, wv r_3.2)]) (wr := [(a_0, fv a_text a_window a_trial a_past a_firstSlot a_secondSlot a_equations a_looks), (a_past, pv a_past_kept r_2.1), (a_past_kept, av_R cy 14 ak), (ak 0, wv (r_2.2 0)), (ak 1, wv (r_2.2 1)), (ak 2, wv (r_2.2 2)), (ak 3, wv (r_2.2 3)), (ak 4, wv (r_2.2 4)), (ak 5, wv (r_2.2 5)), (ak 6, wv (r_2.2 6)), (ak 7, wv (r_2.2 7)), (ak 8, wv (r_2.2 8)), (ak 9, wv (r_2.2 9)), (ak 10, wv (r_2.2 10)), (ak 11, wv (r_2.2 11)), (ak 12, wv (r_2.2 12)), (ak 13, wv (r_2.2 13))]) hP hD hS hA [17] [0, 1, 2, 3, 4, 5, 6, 7, 8, 9, 10, 11, 12, 13, 14, 15, 16] rfl rfl rfl (by decide) (va_runV (As := [.int x1]) (rest := []) ⟨hx, hb, hml, hown, hts⟩ (c_X4_pass (l := l) G cy a_window H.size s_window x1 n r_3 hh_r_3) (cwV 1 hts gX5_nights_X4_pass rfl rfl rfl ddV_X4_pass ⟨Nat.le_of_ble_eq_true rfl, Nat.le_of_ble_eq_true rfl⟩) (preV_ (ci := 4) (q0 := 0) rfl rfl (hP.sub (ws' := [(a_window, wv s_window)]) [17] rfl) hK (hD.sub (ws' := [(a_window, wv s_window)]) [17] rfl rfl) hN) rfl rfl hl.1 rfl (lv_room (Nat.le_of_ble_eq_true rfl)) dX5_nights_24 ⟨Nat.le_of_ble_eq_true rfl, Nat.le_of_ble_eq_true rfl⟩) (fun H locs hP hD hS => ?_)
  have hP : va_P G vwCl [(a_0, fv a_text a_window a_trial a_past a_firstSlot a_secondSlot a_equations a_looks), (a_past, pv a_past_kept r_2.1), (a_past_kept, av_R cy 14 ak), (ak 0, wv (r_2.2 0)), (ak 1, wv (r_2.2 1)), (ak 2, wv (r_2.2 2)), (ak 3, wv (r_2.2 3)), (ak 4, wv (r_2.2 4)), (ak 5, wv (r_2.2 5)), (ak 6, wv (r_2.2 6)), (ak 7, wv (r_2.2 7)), (ak 8, wv (r_2.2 8)), (ak 9, wv (r_2.2 9)), (ak 10, wv (r_2.2 10)), (ak 11, wv (r_2.2 11)), (ak 12, wv (r_2.2 12)), (ak 13, wv (r_2.2 13)), (a_window, wv r_3.2)] H := hP
  have hD : va_D A [(a_0, fv a_text a_window a_trial a_past a_firstSlot a_secondSlot a_equations a_looks), (a_past, pv a_past_kept r_2.1), (a_past_kept, av_R cy 14 ak), (ak 0, wv (r_2.2 0)), (ak 1, wv (r_2.2 1)), (ak 2, wv (r_2.2 2)), (ak 3, wv (r_2.2 3)), (ak 4, wv (r_2.2 4)), (ak 5, wv (r_2.2 5)), (ak 6, wv (r_2.2 6)), (ak 7, wv (r_2.2 7)), (ak 8, wv (r_2.2 8)), (ak 9, wv (r_2.2 9)), (ak 10, wv (r_2.2 10)), (ak 11, wv (r_2.2 11)), (ak 12, wv (r_2.2 12)), (ak 13, wv (r_2.2 13)), (a_window, wv r_3.2)] := hD
  exact kr_iX (u := (r_3.1, r_3.2, r_2.1, r_2.2)) hx hb hr hlocks ((Option.some.inj hf).symm) (hP.sub (ws' := [(a_0, fv a_text a_window a_trial a_past a_firstSlot a_secondSlot a_equations a_looks), (a_window, wv r_3.2), (a_past, pv a_past_kept r_2.1), (a_past_kept, av_R cy 14 ak), (ak 0, wv (r_2.2 0)), (ak 1, wv (r_2.2 1)), (ak 2, wv (r_2.2 2)), (ak 3, wv (r_2.2 3)), (ak 4, wv (r_2.2 4)), (ak 5, wv (r_2.2 5)), (ak 6, wv (r_2.2 6)), (ak 7, wv (r_2.2 7)), (ak 8, wv (r_2.2 8)), (ak 9, wv (r_2.2 9)), (ak 10, wv (r_2.2 10)), (ak 11, wv (r_2.2 11)), (ak 12, wv (r_2.2 12)), (ak 13, wv (r_2.2 13))]) [0, 17, 1, 2, 3, 4, 5, 6, 7, 8, 9, 10, 11, 12, 13, 14, 15, 16] rfl) hK (hD.sub (ws' := [(a_0, fv a_text a_window a_trial a_past a_firstSlot a_secondSlot a_equations a_looks), (a_window, wv r_3.2), (a_past, pv a_past_kept r_2.1), (a_past_kept, av_R cy 14 ak), (ak 0, wv (r_2.2 0)), (ak 1, wv (r_2.2 1)), (ak 2, wv (r_2.2 2)), (ak 3, wv (r_2.2 3)), (ak 4, wv (r_2.2 4)), (ak 5, wv (r_2.2 5)), (ak 6, wv (r_2.2 6)), (ak 7, wv (r_2.2 7)), (ak 8, wv (r_2.2 8)), (ak 9, wv (r_2.2 9)), (ak 10, wv (r_2.2 10)), (ak 11, wv (r_2.2 11)), (ak 12, wv (r_2.2 12)), (ak 13, wv (r_2.2 13))]) [0, 17, 1, 2, 3, 4, 5, 6, 7, 8, 9, 10, 11, 12, 13, 14, 15, 16] rfl rfl) hN hS hS.2.2 dX5_nights_27
set_option maxHeartbeats 4000000 in
set_option maxRecDepth 100000 in
theorem c_X5_undo {l : Launch} (hfl : l.stackTraces = false) (G : va_G) (cy : Nat → ClassId) (a_0 : Nat) (a_text : Nat) (a_window : Nat) (a_trial : Nat) (a_past : Nat) (a_past_kept : Nat) (a_firstSlot : Nat) (a_secondSlot : Nat) (a_equations : Nat) (a_looks : Nat) (ak : Nat → Nat) (sz : Nat) (s_window : WT) (s_past : PT) (sk : Nat → WT)  (R : Nat ⊕ (Int32 × WT × PT)) (hf : f_X5_undo s_window s_past sk = some R) : vx_Met l yX5_undo wsX5_undo ({ frames := 7, cells := 1, slots := 6, locals := 100 } : Room) (va_Pc [.ref a_0] (pcX G cy [(a_0, fv a_text a_window a_trial a_past a_firstSlot a_secondSlot a_equations a_looks), (a_window, wv s_window), (a_past, pv a_past_kept s_past), (a_past_kept, av_R cy 14 ak), (ak 0, wv (sk 0)), (ak 1, wv (sk 1)), (ak 2, wv (sk 2)), (ak 3, wv (sk 3)), (ak 4, wv (sk 4)), (ak 5, wv (sk 5)), (ak 6, wv (sk 6)), (ak 7, wv (sk 7)), (ak 8, wv (sk 8)), (ak 9, wv (sk 9)), (ak 10, wv (sk 10)), (ak 11, wv (sk 11)), (ak 12, wv (sk 12)), (ak 13, wv (sk 13))] sz)) (va_Qi (fun r (u : Int32 × WT × PT) => R = .inr u ∧ r = u.1) (fun u t => Wd G cy (va_A [(a_0, fv a_text a_window a_trial a_past a_firstSlot a_secondSlot a_equations a_looks), (a_window, wv s_window), (a_past, pv a_past_kept s_past), (a_past_kept, av_R cy 14 ak), (ak 0, wv (sk 0)), (ak 1, wv (sk 1)), (ak 2, wv (sk 2)), (ak 3, wv (sk 3)), (ak 4, wv (sk 4)), (ak 5, wv (sk 5)), (ak 6, wv (sk 6)), (ak 7, wv (sk 7)), (ak 8, wv (sk 8)), (ak 9, wv (sk 9)), (ak 10, wv (sk 10)), (ak 11, wv (sk 11)), (ak 12, wv (sk 12)), (ak 13, wv (sk 13))] sz) [(a_0, fv a_text a_window a_trial a_past a_firstSlot a_secondSlot a_equations a_looks), (a_window, wv u.2.1), (a_past, pv a_past_kept u.2.2), (a_past_kept, av_R cy 14 ak), (ak 0, wv (sk 0)), (ak 1, wv (sk 1)), (ak 2, wv (sk 2)), (ak 3, wv (sk 3)), (ak 4, wv (sk 4)), (ak 5, wv (sk 5)), (ak 6, wv (sk 6)), (ak 7, wv (sk 7)), (ak 8, wv (sk 8)), (ak 9, wv (sk 9)), (ak 10, wv (sk 10)), (ak 11, wv (sk 11)), (ak 12, wv (sk 12)), (ak 13, wv (sk 13))] t) (va_A [(a_0, fv a_text a_window a_trial a_past a_firstSlot a_secondSlot a_equations a_looks), (a_window, wv s_window), (a_past, pv a_past_kept s_past), (a_past_kept, av_R cy 14 ak), (ak 0, wv (sk 0)), (ak 1, wv (sk 1)), (ak 2, wv (sk 2)), (ak 3, wv (sk 3)), (ak 4, wv (sk 4)), (ak 5, wv (sk 5)), (ak 6, wv (sk 6)), (ak 7, wv (sk 7)), (ak 8, wv (sk 8)), (ak 9, wv (sk 9)), (ak 10, wv (sk 10)), (ak 11, wv (sk 11)), (ak 12, wv (sk 12)), (ak 13, wv (sk 13))] sz)) (vx_X (fun u : Nat => R = .inl u) (fun E u t => E = exN u ∧ va_P G vwCl [(a_0, fv a_text a_window a_trial a_past a_firstSlot a_secondSlot a_equations a_looks), (a_window, wv s_window), (a_past, pv a_past_kept s_past), (a_past_kept, av_R cy 14 ak), (ak 0, wv (sk 0)), (ak 1, wv (sk 1)), (ak 2, wv (sk 2)), (ak 3, wv (sk 3)), (ak 4, wv (sk 4)), (ak 5, wv (sk 5)), (ak 6, wv (sk 6)), (ak 7, wv (sk 7)), (ak 8, wv (sk 8)), (ak 9, wv (sk 9)), (ak 10, wv (sk 10)), (ak 11, wv (sk 11)), (ak 12, wv (sk 12)), (ak 13, wv (sk 13))] t.heap ∧ va_D (va_A [(a_0, fv a_text a_window a_trial a_past a_firstSlot a_secondSlot a_equations a_looks), (a_window, wv s_window), (a_past, pv a_past_kept s_past), (a_past_kept, av_R cy 14 ak), (ak 0, wv (sk 0)), (ak 1, wv (sk 1)), (ak 2, wv (sk 2)), (ak 3, wv (sk 3)), (ak 4, wv (sk 4)), (ak 5, wv (sk 5)), (ak 6, wv (sk 6)), (ak 7, wv (sk 7)), (ak 8, wv (sk 8)), (ak 9, wv (sk 9)), (ak 10, wv (sk 10)), (ak 11, wv (sk 11)), (ak 12, wv (sk 12)), (ak 13, wv (sk 13))] sz) [(a_0, fv a_text a_window a_trial a_past a_firstSlot a_secondSlot a_equations a_looks), (a_window, wv s_window), (a_past, pv a_past_kept s_past), (a_past_kept, av_R cy 14 ak), (ak 0, wv (sk 0)), (ak 1, wv (sk 1)), (ak 2, wv (sk 2)), (ak 3, wv (sk 3)), (ak 4, wv (sk 4)), (ak 5, wv (sk 5)), (ak 6, wv (sk 6)), (ak 7, wv (sk 7)), (ak 8, wv (sk 8)), (ak 9, wv (sk 9)), (ak 10, wv (sk 10)), (ak 11, wv (sk 11)), (ak 12, wv (sk 12)), (ak 13, wv (sk 13))]) (va_A [(a_0, fv a_text a_window a_trial a_past a_firstSlot a_secondSlot a_equations a_looks), (a_window, wv s_window), (a_past, pv a_past_kept s_past), (a_past_kept, av_R cy 14 ak), (ak 0, wv (sk 0)), (ak 1, wv (sk 1)), (ak 2, wv (sk 2)), (ak 3, wv (sk 3)), (ak 4, wv (sk 4)), (ak 5, wv (sk 5)), (ak 6, wv (sk 6)), (ak 7, wv (sk 7)), (ak 8, wv (sk 8)), (ak 9, wv (sk 9)), (ak 10, wv (sk 10)), (ak 11, wv (sk 11)), (ak 12, wv (sk 12)), (ak 13, wv (sk 13))] sz)) 1 6 (va_A [(a_0, fv a_text a_window a_trial a_past a_firstSlot a_secondSlot a_equations a_looks), (a_window, wv s_window), (a_past, pv a_past_kept s_past), (a_past_kept, av_R cy 14 ak), (ak 0, wv (sk 0)), (ak 1, wv (sk 1)), (ak 2, wv (sk 2)), (ak 3, wv (sk 3)), (ak 4, wv (sk 4)), (ak 5, wv (sk 5)), (ak 6, wv (sk 6)), (ak 7, wv (sk 7)), (ak 8, wv (sk 8)), (ak 9, wv (sk 9)), (ak 10, wv (sk 10)), (ak 11, wv (sk 11)), (ak 12, wv (sk 12)), (ak 13, wv (sk 13))] sz) := by
  refine vx_ofW (cc := cX5_undo) (maxL := 1) (ret := (some .int)) (by decide) rfl ?_
  intro p e s m args below meth c s₁ B hml hnt hv
  obtain ⟨rfl, ⟨hsz, hP, hK, hD0, hN⟩, hE⟩ := hv
  have hx := B.exec
  have hb := B.bytes
  have hr := B.returns
  have hts := atoms_spec (ws := wsX5_undo) B.pre
  have hown : s.vm.findClass RX5 = some m.cls := findClass_of_methodNamed B.named
  have hlocks := B.notSynchronized
  subst hsz
  have hD := hD0.self (sz := s.heap.size)
  generalize hAe : va_A [(a_0, fv a_text a_window a_trial a_past a_firstSlot a_secondSlot a_equations a_looks), (a_window, wv s_window), (a_past, pv a_past_kept s_past), (a_past_kept, av_R cy 14 ak), (ak 0, wv (sk 0)), (ak 1, wv (sk 1)), (ak 2, wv (sk 2)), (ak 3, wv (sk 3)), (ak 4, wv (sk 4)), (ak 5, wv (sk 5)), (ak 6, wv (sk 6)), (ak 7, wv (sk 7)), (ak 8, wv (sk 8)), (ak 9, wv (sk 9)), (ak 10, wv (sk 10)), (ak 11, wv (sk 11)), (ak 12, wv (sk 12)), (ak 13, wv (sk 13))] s.heap.size = A at hD hE ⊢
  have hA : ∀ q : Nat, s.heap.size ≤ q → A q := fun q h => by rw [← hAe]; exact Or.inr h
  have hS : va_S A s.heap s.heap [] := va_S.rf
  have hP : va_P G vwCl [(a_0, fv a_text a_window a_trial a_past a_firstSlot a_secondSlot a_equations a_looks), (a_window, wv s_window), (a_past, pv a_past_kept s_past), (a_past_kept, av_R cy 14 ak), (ak 0, wv (sk 0)), (ak 1, wv (sk 1)), (ak 2, wv (sk 2)), (ak 3, wv (sk 3)), (ak 4, wv (sk 4)), (ak 5, wv (sk 5)), (ak 6, wv (sk 6)), (ak 7, wv (sk 7)), (ak 8, wv (sk 8)), (ak 9, wv (sk 9)), (ak 10, wv (sk 10)), (ak 11, wv (sk 11)), (ak 12, wv (sk 12)), (ak 13, wv (sk 13))] s.heap := hP
  have hl := lv_entry [.ref a_0] (n := 1) (Nat.le_of_ble_eq_true rfl)
  rw [lg_entry_eq]
  generalize (lg_sl [.ref a_0] ++ List.replicate (1 - (lg_sl [.ref a_0]).length) Slot.unset).toArray = ls at hl ⊢
  have hl : lv_has ls 1 [(0, .ref a_0)] := hl
  unfold f_X5_undo at hf
  refine lv_aload_n hx hb dX5_undo_0 rfl (lv_at hl 0 rfl) ?_
  refine va_get (D := G) (ci := 5) (v := .ref a_past) (C := RX5) (T := TX5) (N := 8) hx hb hts iw_X5_undo_X5 hown hK hP 0 rfl rfl 3 (by decide) (hts (.fieldLink RX5 29 "PaneFrost" "past" "LPaneFrost$Past;") (by decide +kernel)) (fun _ h9 => h9) rfl dX5_undo_1 ?_
  refine va_get (D := G) (ci := 1) (v := .int (p_count s_past)) (C := RX1) (T := TX1) (N := 3) hx hb hts iw_X5_undo_X1 hown hK hP 2 rfl rfl 0 (by decide) (hts (.fieldLink RX5 206 "PaneFrost$Past" "count" "I") (by decide +kernel)) (fun _ h9 => h9) rfl dX5_undo_4 ?_
  refine lv_if_ne (tgt := 20) hx hb dX5_undo_7 (by decide) (fun h_1 => ?_) (fun h_1 => ?_)
  · have hf := in_ h_1 hf
    refine lv_aload_n hx hb dX5_undo_20 rfl (lv_at hl 0 rfl) ?_
    refine va_get (D := G) (ci := 5) (v := .ref a_past) (C := RX5) (T := TX5) (N := 8) hx hb hts iw_X5_undo_X5 hown hK hP 0 rfl rfl 3 (by decide) (hts (.fieldLink RX5 29 "PaneFrost" "past" "LPaneFrost$Past;") (by decide +kernel)) (fun _ h9 => h9) rfl dX5_undo_21 ?_
    refine lv_aload_n hx hb dX5_undo_24 rfl (lv_at hl 0 rfl) ?_
    refine va_get (D := G) (ci := 5) (v := .ref a_window) (C := RX5) (T := TX5) (N := 8) hx hb hts iw_X5_undo_X5 hown hK hP 0 rfl rfl 1 (by decide) (hts (.fieldLink RX5 19 "PaneFrost" "window" "LPaneFrost$Window;") (by decide +kernel)) (fun _ h9 => h9) rfl dX5_undo_25 ?_
    obtain ⟨r_2, hh_r_2⟩ : ∃ z, z = f_X1_takeBack s_past sk s_window := ⟨_, rfl⟩
    have hf := lt_e hh_r_2 hf
    refine kc_v (w1 := [(a_past, pv a_past_kept r_2.1), (a_past_kept, av_R cy 14 ak), (ak 0, wv (sk 0)), (ak 1, wv (sk 1)), (ak 2, wv (sk 2)), (ak 3, wv (sk 3)), (ak 4, wv (sk 4)), (ak 5, wv (sk 5)), (ak 6, wv (sk 6)), (ak 7, wv (sk 7)), (ak 8, wv (sk 8)), (ak 9, wv (sk 9)), (ak 10, wv (sk 10)), (ak 11, wv (sk 11)), (ak 12, wv (sk 12)), (ak 13, wv (sk 13)), (a_window, wv r_2.2)]) (wr := [(a_0, fv a_text a_window a_trial a_past a_firstSlot a_secondSlot a_equations a_looks)]) hP hD hS hA [2, 3, 4, 5, 6, 7, 8, 9, 10, 11, 12, 13, 14, 15, 16, 17, 1] [0] rfl rfl rfl (by decide) (va_runV (As := [.ref a_window]) (rest := []) ⟨hx, hb, hml, hown, hts⟩ (c_X1_takeBack (l := l) G cy a_past a_past_kept a_window ak s.heap.size s_past sk s_window  r_2 hh_r_2.symm) (cwV 1 hts gX5_undo_X1_takeBack rfl rfl rfl ddV_X1_takeBack ⟨Nat.le_of_ble_eq_true rfl, Nat.le_of_ble_eq_true rfl⟩) (preV_ (ci := 1) (q0 := 0) rfl rfl (hP.sub (ws' := [(a_past, pv a_past_kept s_past), (a_past_kept, av_R cy 14 ak), (ak 0, wv (sk 0)), (ak 1, wv (sk 1)), (ak 2, wv (sk 2)), (ak 3, wv (sk 3)), (ak 4, wv (sk 4)), (ak 5, wv (sk 5)), (ak 6, wv (sk 6)), (ak 7, wv (sk 7)), (ak 8, wv (sk 8)), (ak 9, wv (sk 9)), (ak 10, wv (sk 10)), (ak 11, wv (sk 11)), (ak 12, wv (sk 12)), (ak 13, wv (sk 13)), (a_window, wv s_window)]) [2, 3, 4, 5, 6, 7, 8, 9, 10, 11, 12, 13, 14, 15, 16, 17, 1] rfl) hK (hD.sub (ws' := [(a_past, pv a_past_kept s_past), (a_past_kept, av_R cy 14 ak), (ak 0, wv (sk 0)), (ak 1, wv (sk 1)), (ak 2, wv (sk 2)), (ak 3, wv (sk 3)), (ak 4, wv (sk 4)), (ak 5, wv (sk 5)), (ak 6, wv (sk 6)), (ak 7, wv (sk 7)), (ak 8, wv (sk 8)), (ak 9, wv (sk 9)), (ak 10, wv (sk 10)), (ak 11, wv (sk 11)), (ak 12, wv (sk 12)), (ak 13, wv (sk 13)), (a_window, wv s_window)]) [2, 3, 4, 5, 6, 7, 8, 9, 10, 11, 12, 13, 14, 15, 16, 17, 1] rfl rfl) hN) rfl rfl hl.1 rfl (lv_room (Nat.le_of_ble_eq_true rfl)) dX5_undo_28 ⟨Nat.le_of_ble_eq_true rfl, Nat.le_of_ble_eq_true rfl⟩) (fun H locs hP hD hS => ?_)
    have hP : va_P G vwCl [(a_0, fv a_text a_window a_trial a_past a_firstSlot a_secondSlot a_equations a_looks), (a_past, pv a_past_kept r_2.1), (a_past_kept, av_R cy 14 ak), (ak 0, wv (sk 0)), (ak 1, wv (sk 1)), (ak 2, wv (sk 2)), (ak 3, wv (sk 3)), (ak 4, wv (sk 4)), (ak 5, wv (sk 5)), (ak 6, wv (sk 6)), (ak 7, wv (sk 7)), (ak 8, wv (sk 8)), (ak 9, wv (sk 9)), (ak 10, wv (sk 10)), (ak 11, wv (sk 11)), (ak 12, wv (sk 12)), (ak 13, wv (sk 13)), (a_window, wv r_2.2)] H := hP
    have hD : va_D A [(a_0, fv a_text a_window a_trial a_past a_firstSlot a_secondSlot a_equations a_looks), (a_past, pv a_past_kept r_2.1), (a_past_kept, av_R cy 14 ak), (ak 0, wv (sk 0)), (ak 1, wv (sk 1)), (ak 2, wv (sk 2)), (ak 3, wv (sk 3)), (ak 4, wv (sk 4)), (ak 5, wv (sk 5)), (ak 6, wv (sk 6)), (ak 7, wv (sk 7)), (ak 8, wv (sk 8)), (ak 9, wv (sk 9)), (ak 10, wv (sk 10)), (ak 11, wv (sk 11)), (ak 12, wv (sk 12)), (ak 13, wv (sk 13)), (a_window, wv r_2.2)] := hD
    refine lv_aload_n hx hb dX5_undo_31 rfl (lv_at hl 0 rfl) ?_
    refine va_get (D := G) (ci := 5) (v := .ref a_past) (C := RX5) (T := TX5) (N := 8) hx hb hts iw_X5_undo_X5 hown hK hP 0 rfl rfl 3 (by decide) (hts (.fieldLink RX5 29 "PaneFrost" "past" "LPaneFrost$Past;") (by decide +kernel)) (fun _ h9 => h9) rfl dX5_undo_32 ?_
    refine va_get (D := G) (ci := 1) (v := .int (p_count r_2.1)) (C := RX1) (T := TX1) (N := 3) hx hb hts iw_X5_undo_X1 hown hK hP 1 rfl rfl 0 (by decide) (hts (.fieldLink RX5 206 "PaneFrost$Past" "count" "I") (by decide +kernel)) (fun _ h9 => h9) rfl dX5_undo_35 ?_
    refine W.widen (k := 1) (n := 6) (Nat.le_of_ble_eq_true rfl) (Nat.le_of_ble_eq_true rfl) ?_
    exact kr_iX (u := ((p_count r_2.1), r_2.2, r_2.1)) hx hb hr hlocks ((Option.some.inj hf).symm) (hP.sub (ws' := [(a_0, fv a_text a_window a_trial a_past a_firstSlot a_secondSlot a_equations a_looks), (a_window, wv r_2.2), (a_past, pv a_past_kept r_2.1), (a_past_kept, av_R cy 14 ak), (ak 0, wv (sk 0)), (ak 1, wv (sk 1)), (ak 2, wv (sk 2)), (ak 3, wv (sk 3)), (ak 4, wv (sk 4)), (ak 5, wv (sk 5)), (ak 6, wv (sk 6)), (ak 7, wv (sk 7)), (ak 8, wv (sk 8)), (ak 9, wv (sk 9)), (ak 10, wv (sk 10)), (ak 11, wv (sk 11)), (ak 12, wv (sk 12)), (ak 13, wv (sk 13))]) [0, 17, 1, 2, 3, 4, 5, 6, 7, 8, 9, 10, 11, 12, 13, 14, 15, 16] rfl) hK (hD.sub (ws' := [(a_0, fv a_text a_window a_trial a_past a_firstSlot a_secondSlot a_equations a_looks), (a_window, wv r_2.2), (a_past, pv a_past_kept r_2.1), (a_past_kept, av_R cy 14 ak), (ak 0, wv (sk 0)), (ak 1, wv (sk 1)), (ak 2, wv (sk 2)), (ak 3, wv (sk 3)), (ak 4, wv (sk 4)), (ak 5, wv (sk 5)), (ak 6, wv (sk 6)), (ak 7, wv (sk 7)), (ak 8, wv (sk 8)), (ak 9, wv (sk 9)), (ak 10, wv (sk 10)), (ak 11, wv (sk 11)), (ak 12, wv (sk 12)), (ak 13, wv (sk 13))]) [0, 17, 1, 2, 3, 4, 5, 6, 7, 8, 9, 10, 11, 12, 13, 14, 15, 16] rfl rfl) hN hS hS.2.2 dX5_undo_38
  · have hf := ip_ h_1 hf
    exact kt_S hx hb hfl (own := RX5) (X := "java/lang/IllegalStateException") (text := "no state is remembered") (names := xnm) (ik := 62) (is := 208) (ic := 66) hown (by decide +kernel) xnm_fit (hts (.classLink RX5 62 "java/lang/IllegalStateException") (by decide +kernel)) (hts (.initialized "java/lang/IllegalStateException") (by decide +kernel)) hE.2.2.2.2.2.2.2.2.1 (vx_hat (fun w hw => hts w (xm_X5_undo_3 w hw)) xh_3 (xB_of hE.2.2.1 hE.2.2.1.2.2.2.2.2)) xg_3 hE hP hD hS (hl.1.trans hml.symm) hnt hlocks dX5_undo_10 dX5_undo_13 dX5_undo_14 dX5_undo_16 dX5_undo_19 (Nat.le_of_ble_eq_true rfl) (Nat.le_of_ble_eq_true rfl) (Nat.le_of_ble_eq_true rfl) (Nat.le_of_ble_eq_true rfl) (Nat.le_of_ble_eq_true rfl) (Nat.le_of_ble_eq_true rfl) 3 rfl ((Option.some.inj hf).symm)
set_option maxHeartbeats 4000000 in
set_option maxRecDepth 100000 in
theorem c_X5_coming {l : Launch} (hfl : l.stackTraces = false) (G : va_G) (cy : Nat → ClassId) (a_0 : Nat) (a_text : Nat) (a_window : Nat) (a_trial : Nat) (a_past : Nat) (a_firstSlot : Nat) (a_secondSlot : Nat) (a_equations : Nat) (a_looks : Nat) (sz : Nat) (s_window : WT) (x1 : Int32) (n : Nat) (R : Nat ⊕ (Int64)) (hf : f_X5_coming n s_window x1 = some R) : vx_Met l yX5_coming wsX5_coming ({ frames := 8, cells := 1, slots := 6, locals := 123 } : Room) (va_Pc [.ref a_0, .int x1] (pcX G cy [(a_0, fv a_text a_window a_trial a_past a_firstSlot a_secondSlot a_equations a_looks), (a_window, wv s_window)] sz)) (va_Ql (fun r (u : Int64) => R = .inr u ∧ r = u) (fun u t => Wd G cy (va_A [(a_0, fv a_text a_window a_trial a_past a_firstSlot a_secondSlot a_equations a_looks), (a_window, wv s_window)] sz) [(a_0, fv a_text a_window a_trial a_past a_firstSlot a_secondSlot a_equations a_looks), (a_window, wv s_window)] t) (va_A [(a_0, fv a_text a_window a_trial a_past a_firstSlot a_secondSlot a_equations a_looks), (a_window, wv s_window)] sz)) (vx_X (fun u : Nat => R = .inl u) (fun E u t => E = exN u ∧ va_P G vwCl [(a_0, fv a_text a_window a_trial a_past a_firstSlot a_secondSlot a_equations a_looks), (a_window, wv s_window)] t.heap ∧ va_D (va_A [(a_0, fv a_text a_window a_trial a_past a_firstSlot a_secondSlot a_equations a_looks), (a_window, wv s_window)] sz) [(a_0, fv a_text a_window a_trial a_past a_firstSlot a_secondSlot a_equations a_looks), (a_window, wv s_window)]) (va_A [(a_0, fv a_text a_window a_trial a_past a_firstSlot a_secondSlot a_equations a_looks), (a_window, wv s_window)] sz)) 1 6 (va_A [(a_0, fv a_text a_window a_trial a_past a_firstSlot a_secondSlot a_equations a_looks), (a_window, wv s_window)] sz) := by
  refine vx_ofW (cc := cX5_coming) (maxL := 5) (ret := (some .long)) (by decide) rfl ?_
  intro p e s m args below meth c s₁ B hml hnt hv
  obtain ⟨rfl, ⟨hsz, hP, hK, hD0, hN⟩, hE⟩ := hv
  have hx := B.exec
  have hb := B.bytes
  have hr := B.returns
  have hts := atoms_spec (ws := wsX5_coming) B.pre
  have hown : s.vm.findClass RX5 = some m.cls := findClass_of_methodNamed B.named
  have hlocks := B.notSynchronized
  subst hsz
  have hD := hD0.self (sz := s.heap.size)
  generalize hAe : va_A [(a_0, fv a_text a_window a_trial a_past a_firstSlot a_secondSlot a_equations a_looks), (a_window, wv s_window)] s.heap.size = A at hD hE ⊢
  have hA : ∀ q : Nat, s.heap.size ≤ q → A q := fun q h => by rw [← hAe]; exact Or.inr h
  have hS : va_S A s.heap s.heap [] := va_S.rf
  have hP : va_P G vwCl [(a_0, fv a_text a_window a_trial a_past a_firstSlot a_secondSlot a_equations a_looks), (a_window, wv s_window)] s.heap := hP
  have bl_20 : ∀ (y1 : Int32), ∀ (k : Nat), ∀ (y2 : Int64) (y4 : Int32) (H : Heap) (locs : List Loc), f_X5_coming_b20 n s_window y1 k y2 y4 = some R → va_P G vwCl [(a_0, fv a_text a_window a_trial a_past a_firstSlot a_secondSlot a_equations a_looks), (a_window, wv s_window)] H → va_D A [(a_0, fv a_text a_window a_trial a_past a_firstSlot a_secondSlot a_equations a_looks), (a_window, wv s_window)] → va_S A s.heap H locs → ∀ (ls : Array Slot), lv_has ls 5 [(0, .ref a_0), (1, .int y1), (2, .long y2), (4, .int y4)] → W p l e ({ frames := 8, cells := 1, slots := 6, locals := 123 } : Room) s m [.ref a_0, .int x1].toArray below meth c H locs 1 6 (vx_MQ below (va_Ql (fun r (u : Int64) => R = .inr u ∧ r = u) (fun u t => Wd G cy A [(a_0, fv a_text a_window a_trial a_past a_firstSlot a_secondSlot a_equations a_looks), (a_window, wv s_window)] t) A) (vx_X (fun u : Nat => R = .inl u) (fun E u t => E = exN u ∧ va_P G vwCl [(a_0, fv a_text a_window a_trial a_past a_firstSlot a_secondSlot a_equations a_looks), (a_window, wv s_window)] t.heap ∧ va_D A [(a_0, fv a_text a_window a_trial a_past a_firstSlot a_secondSlot a_equations a_looks), (a_window, wv s_window)]) A) [.ref a_0, .int x1].toArray s 1 6 A) (F0 m 20 ls []) := by
    intro y1
    intro k
    induction k with
    | zero =>
      intro y2 y4 H locs hf; cases hf
    | succ k ih =>
      intro y2 y4 H locs hf hP hD hS ls hl
      have hf := (f_X5_coming_b20_s n s_window y1 k y2 y4).symm.trans hf
      refine lv_iload hx hb dX5_coming_20 (lv_at hl 3 rfl) ?_
      refine lv_iload_n hx hb dX5_coming_22 rfl (lv_at hl 1 rfl) ?_
      refine lv_icmp_ge (tgt := 41) hx hb dX5_coming_23 (by decide) (fun h_1 => ?_) (fun h_1 => ?_)
      · have hf := ip_ h_1 hf
        refine lv_lload_n hx hb dX5_coming_41 rfl (lv_at hl 2 rfl) ?_
        exact kr_lX (u := y2) hx hb hr hlocks ((Option.some.inj hf).symm) hP hK hD hN hS hS.2.2 dX5_coming_42
      · have hf := in_ h_1 hf
        refine lv_aload_n hx hb dX5_coming_26 rfl (lv_at hl 0 rfl) ?_
        refine va_get (D := G) (ci := 5) (v := .ref a_window) (C := RX5) (T := TX5) (N := 8) hx hb hts iw_X5_coming_X5 hown hK hP 0 rfl rfl 1 (by decide) (hts (.fieldLink RX5 19 "PaneFrost" "window" "LPaneFrost$Window;") (by decide +kernel)) (fun _ h9 => h9) rfl dX5_coming_27 ?_
        refine lv_lload_n hx hb dX5_coming_30 rfl (lv_at hl 2 rfl) ?_
        refine kc_l (w1 := [(a_window, wv s_window)]) (wr := [(a_0, fv a_text a_window a_trial a_past a_firstSlot a_secondSlot a_equations a_looks)]) hP hD hS hA [1] [0] rfl rfl rfl (by decide) (va_runV (As := [.long y2]) (rest := []) ⟨hx, hb, hml, hown, hts⟩ (c_X4_after (l := l) G cy a_window H.size s_window y2  (f_X4_after s_window y2) rfl) (cwV 1 hts gX5_coming_X4_after rfl rfl rfl ddV_X4_after ⟨Nat.le_of_ble_eq_true rfl, Nat.le_of_ble_eq_true rfl⟩) (preV_ (ci := 4) (q0 := 0) rfl rfl (hP.sub (ws' := [(a_window, wv s_window)]) [1] rfl) hK (hD.sub (ws' := [(a_window, wv s_window)]) [1] rfl rfl) hN) rfl rfl hl.1 rfl (lv_room (Nat.le_of_ble_eq_true rfl)) dX5_coming_31 ⟨Nat.le_of_ble_eq_true rfl, Nat.le_of_ble_eq_true rfl⟩) (fun H locs hP hD hS => ?_)
        have hP : va_P G vwCl [(a_0, fv a_text a_window a_trial a_past a_firstSlot a_secondSlot a_equations a_looks), (a_window, wv s_window)] H := hP
        have hD : va_D A [(a_0, fv a_text a_window a_trial a_past a_firstSlot a_secondSlot a_equations a_looks), (a_window, wv s_window)] := hD
        refine lv_lstore_n (lv' := [(2, .long (f_X4_after s_window y2)), (0, .ref a_0), (1, .int y1), (4, .int y4)]) hx hb dX5_coming_34 rfl hl (by decide) rfl (fun ls hl => ?_)
        refine lv_iinc (v := (y4 + 1)) (lv' := [(4, .int (y4 + 1)), (2, .long (f_X4_after s_window y2)), (0, .ref a_0), (1, .int y1)]) hx hb dX5_coming_35 hl (k := 3) rfl rfl (by decide) rfl (fun ls hl => ?_)
        refine lv_goto (tgt := 20) hx hb dX5_coming_38 (by decide) ?_
        exact ih (f_X4_after s_window y2) (y4 + 1) _ _ hf hP hD hS ls (lv_sub hl [2, 3, 1, 0] rfl)
  have hl := lv_entry [.ref a_0, .int x1] (n := 5) (Nat.le_of_ble_eq_true rfl)
  rw [lg_entry_eq]
  generalize (lg_sl [.ref a_0, .int x1] ++ List.replicate (5 - (lg_sl [.ref a_0, .int x1]).length) Slot.unset).toArray = ls at hl ⊢
  have hl : lv_has ls 5 [(0, .ref a_0), (1, .int x1)] := hl
  unfold f_X5_coming at hf
  refine lv_aload_n hx hb dX5_coming_0 rfl (lv_at hl 0 rfl) ?_
  refine lv_iload_n hx hb dX5_coming_1 rfl (lv_at hl 1 rfl) ?_
  refine lv_iconst (v := 1) hx hb dX5_coming_2 (by decide) ?_
  refine lv_sipush (v := 200) hx hb dX5_coming_3 (by decide) ?_
  obtain ⟨r_2, hh_r_2, hf⟩ := obx_some hf
  refine kx_v (w1 := fun (_ : Unit) => []) (wr := [(a_0, fv a_text a_window a_trial a_past a_firstSlot a_secondSlot a_equations a_looks), (a_window, wv s_window)]) hP hD hS hA [] [0, 1] rfl rfl rfl (by decide) (vx_runV (As := [.int x1, .int 1, .int 200]) (rest := []) ⟨hx, hb, hml, hown, hts⟩ (c_X5_needRange (l := l) hfl G cy a_0 s.heap.size x1 1 200  r_2 hh_r_2) (cwV 3 hts gX5_coming_X5_needRange rfl rfl rfl ddV_X5_needRange ⟨Nat.le_of_ble_eq_true rfl, Nat.le_of_ble_eq_true rfl⟩) (preVX2 (ci := 5) (q0 := 0) rfl rfl hP (hE.kept hS.2.1) (va_free hD hS hA (wc := []) [] rfl) (hP.sub (ws' := []) [] rfl) hK (hD.sub (ws' := []) [] rfl rfl) hN) rfl rfl hl.1 rfl (lv_room (Nat.le_of_ble_eq_true rfl)) dX5_coming_6 ⟨Nat.le_of_ble_eq_true rfl, Nat.le_of_ble_eq_true rfl⟩) (fun u ce q9 H locs hz hP hD hS hc1 hc2 hc3 => ?_) (fun u_2 H locs hz hP hD hS => ?_)
  · subst hz
    have hP : va_P G vwCl [(a_0, fv a_text a_window a_trial a_past a_firstSlot a_secondSlot a_equations a_looks), (a_window, wv s_window)] H := hP
    have hD : va_D A [(a_0, fv a_text a_window a_trial a_past a_firstSlot a_secondSlot a_equations a_looks), (a_window, wv s_window)] := hD
    exact vx_widen (k := 1) (n := 6) (Nat.le_of_ble_eq_true rfl) (Nat.le_of_ble_eq_true rfl) (kx_out u hnt hlocks (obx_l hf) hP hK hD hN hS hc1 hc2 hc3 (Nat.le_refl _) (Nat.le_refl _))
  subst hz
  have hf := obx_r hf
  have hP : va_P G vwCl [(a_0, fv a_text a_window a_trial a_past a_firstSlot a_secondSlot a_equations a_looks), (a_window, wv s_window)] H := hP
  have hD : va_D A [(a_0, fv a_text a_window a_trial a_past a_firstSlot a_secondSlot a_equations a_looks), (a_window, wv s_window)] := hD
  refine lv_aload_n hx hb dX5_coming_9 rfl (lv_at hl 0 rfl) ?_
  refine va_get (D := G) (ci := 5) (v := .ref a_window) (C := RX5) (T := TX5) (N := 8) hx hb hts iw_X5_coming_X5 hown hK hP 0 rfl rfl 1 (by decide) (hts (.fieldLink RX5 19 "PaneFrost" "window" "LPaneFrost$Window;") (by decide +kernel)) (fun _ h9 => h9) rfl dX5_coming_10 ?_
  refine va_get (D := G) (ci := 4) (v := .long (w_frozen s_window)) (C := RX4) (T := TX4) (N := 12) hx hb hts iw_X5_coming_X4 hown hK hP 1 rfl rfl 4 (by decide) (hts (.fieldLink RX5 138 "PaneFrost$Window" "frozen" "J") (by decide +kernel)) (fun _ h9 => h9) rfl dX5_coming_13 ?_
  refine lv_lstore_n (lv' := [(2, .long (w_frozen s_window)), (0, .ref a_0), (1, .int x1)]) hx hb dX5_coming_16 rfl hl (by decide) rfl (fun ls hl => ?_)
  refine lv_iconst (v := 0) hx hb dX5_coming_17 (by decide) ?_
  refine lv_istore (lv' := [(4, .int 0), (2, .long (w_frozen s_window)), (0, .ref a_0), (1, .int x1)]) hx hb dX5_coming_18 hl (by decide) rfl (fun ls hl => ?_)
  exact bl_20 x1 n (w_frozen s_window) 0 _ _ hf hP hD hS ls (lv_sub hl [2, 3, 1, 0] rfl)
set_option maxHeartbeats 4000000 in
set_option maxRecDepth 100000 in
theorem c_X5_lookAhead {l : Launch} (G : va_G) (cy : Nat → ClassId) (a_0 : Nat) (a_text : Nat) (a_window : Nat) (a_trial : Nat) (a_past : Nat) (a_firstSlot : Nat) (a_secondSlot : Nat) (a_equations : Nat) (a_looks : Nat) (sz : Nat) (s_window : WT) (g_looks : Nat → Int64) (n : Nat) (R : (Nat → Int64)) (hf : f_X5_lookAhead n s_window g_looks = some R) : Met l yX5_lookAhead wsX5_lookAhead ({ frames := 4, cells := 0, slots := 0, locals := 96 } : Room) (va_Pc [.ref a_0] (pcW G cy [(a_0, fv a_text a_window a_trial a_past a_firstSlot a_secondSlot a_equations a_looks), (a_window, wv s_window), (a_looks, av_J cy 301 g_looks)] sz)) (va_Qv (fun _ : Unit => True) (fun _ t => Wd G cy (va_A [(a_0, fv a_text a_window a_trial a_past a_firstSlot a_secondSlot a_equations a_looks), (a_window, wv s_window), (a_looks, av_J cy 301 g_looks)] sz) [(a_0, fv a_text a_window a_trial a_past a_firstSlot a_secondSlot a_equations a_looks), (a_window, wv s_window), (a_looks, av_J cy 301 R)] t) (va_A [(a_0, fv a_text a_window a_trial a_past a_firstSlot a_secondSlot a_equations a_looks), (a_window, wv s_window), (a_looks, av_J cy 301 g_looks)] sz)) 0 0 (va_A [(a_0, fv a_text a_window a_trial a_past a_firstSlot a_secondSlot a_equations a_looks), (a_window, wv s_window), (a_looks, av_J cy 301 g_looks)] sz) := by
  refine Met.ofW (cc := cX5_lookAhead) (maxL := 4) (ret := none) (by decide) rfl ?_
  intro p e s m args below meth c s₁ B hml hv
  obtain ⟨rfl, hsz, hP, hK, hD0, hN⟩ := hv
  have hx := B.exec
  have hb := B.bytes
  have hr := B.returns
  have hts := atoms_spec (ws := wsX5_lookAhead) B.pre
  have hown : s.vm.findClass RX5 = some m.cls := findClass_of_methodNamed B.named
  have hlocks := B.notSynchronized
  subst hsz
  have hD := hD0.self (sz := s.heap.size)
  generalize hAe : va_A [(a_0, fv a_text a_window a_trial a_past a_firstSlot a_secondSlot a_equations a_looks), (a_window, wv s_window), (a_looks, av_J cy 301 g_looks)] s.heap.size = A at hD ⊢
  have hA : ∀ q : Nat, s.heap.size ≤ q → A q := fun q h => by rw [← hAe]; exact Or.inr h
  have hS : va_S A s.heap s.heap [] := va_S.rf
  have hP : va_P G vwCl [(a_0, fv a_text a_window a_trial a_past a_firstSlot a_secondSlot a_equations a_looks), (a_window, wv s_window), (a_looks, av_J cy 301 g_looks)] s.heap := hP
  have bl_10 : ∀ (k : Nat), ∀ (c_g_looks : Nat → Int64) (y1 : Int64) (y3 : Int32) (H : Heap) (locs : List Loc), f_X5_lookAhead_b10 n s_window k c_g_looks y1 y3 = some R → va_P G vwCl [(a_0, fv a_text a_window a_trial a_past a_firstSlot a_secondSlot a_equations a_looks), (a_window, wv s_window), (a_looks, av_J cy 301 c_g_looks)] H → va_D A [(a_0, fv a_text a_window a_trial a_past a_firstSlot a_secondSlot a_equations a_looks), (a_window, wv s_window), (a_looks, av_J cy 301 c_g_looks)] → va_S A s.heap H locs → ∀ (ls : Array Slot), lv_has ls 4 [(0, .ref a_0), (1, .long y1), (3, .int y3)] → W p l e ({ frames := 4, cells := 0, slots := 0, locals := 96 } : Room) s m [.ref a_0].toArray below meth c H locs 0 0 (MQ below (va_Qv (fun _ : Unit => True) (fun _ t => Wd G cy A [(a_0, fv a_text a_window a_trial a_past a_firstSlot a_secondSlot a_equations a_looks), (a_window, wv s_window), (a_looks, av_J cy 301 R)] t) A) [.ref a_0].toArray s 0 0 A) (F0 m 10 ls []) := by
    intro k
    induction k with
    | zero =>
      intro c_g_looks y1 y3 H locs hf; cases hf
    | succ k ih =>
      intro c_g_looks y1 y3 H locs hf hP hD hS ls hl
      have hf := (f_X5_lookAhead_b10_s n s_window k c_g_looks y1 y3).symm.trans hf
      refine lv_iload_n hx hb dX5_lookAhead_10 rfl (lv_at hl 2 rfl) ?_
      refine lv_aload_n hx hb dX5_lookAhead_11 rfl (lv_at hl 0 rfl) ?_
      refine va_get (D := G) (ci := 5) (v := .ref a_looks) (C := RX5) (T := TX5) (N := 8) hx hb hts iw_X5_lookAhead_X5 hown hK hP 0 rfl rfl 7 (by decide) (hts (.fieldLink RX5 50 "PaneFrost" "looks" "[J") (by decide +kernel)) (fun _ h9 => h9) rfl dX5_lookAhead_12 ?_
      refine va_alen (v := 301) hx hb hK hP 2 1 rfl rfl rfl dX5_lookAhead_15 ?_
      refine lv_icmp_ge (tgt := 41) hx hb dX5_lookAhead_16 (by decide) (fun h_1 => ?_) (fun h_1 => ?_)
      · have hf := ip_ h_1 hf
        obtain rfl := Option.some.inj hf
        exact kr_v hx hb hr hlocks hP hK hD hN hS hS.2.2 dX5_lookAhead_41
      · have hf := in_ h_1 hf
        refine lv_aload_n hx hb dX5_lookAhead_19 rfl (lv_at hl 0 rfl) ?_
        refine va_get (D := G) (ci := 5) (v := .ref a_looks) (C := RX5) (T := TX5) (N := 8) hx hb hts iw_X5_lookAhead_X5 hown hK hP 0 rfl rfl 7 (by decide) (hts (.fieldLink RX5 50 "PaneFrost" "looks" "[J") (by decide +kernel)) (fun _ h9 => h9) rfl dX5_lookAhead_20 ?_
        refine lv_iload_n hx hb dX5_lookAhead_23 rfl (lv_at hl 2 rfl) ?_
        refine lv_lload_n hx hb dX5_lookAhead_24 rfl (lv_at hl 1 rfl) ?_
        by_cases q_2 : y3 < 0 ∨ 301 ≤ y3.toNatClampNeg
        · have hf := ip_ q_2 hf; cases hf
        have hf := in_ q_2 hf
        refine vz_last rfl hx hb hK hP hD hS 2 1 rfl rfl (vin q_2) dX5_lookAhead_25 (fun H locs hP hD hS => ?_)
        have hP : va_P G vwCl [(a_0, fv a_text a_window a_trial a_past a_firstSlot a_secondSlot a_equations a_looks), (a_window, wv s_window), (a_looks, av_J cy 301 (vp_updL c_g_looks y3.toNatClampNeg y1))] H := hP
        have hD : va_D A [(a_0, fv a_text a_window a_trial a_past a_firstSlot a_secondSlot a_equations a_looks), (a_window, wv s_window), (a_looks, av_J cy 301 (vp_updL c_g_looks y3.toNatClampNeg y1))] := hD
        refine lv_aload_n hx hb dX5_lookAhead_26 rfl (lv_at hl 0 rfl) ?_
        refine va_get (D := G) (ci := 5) (v := .ref a_window) (C := RX5) (T := TX5) (N := 8) hx hb hts iw_X5_lookAhead_X5 hown hK hP 0 rfl rfl 1 (by decide) (hts (.fieldLink RX5 19 "PaneFrost" "window" "LPaneFrost$Window;") (by decide +kernel)) (fun _ h9 => h9) rfl dX5_lookAhead_27 ?_
        refine lv_lload_n hx hb dX5_lookAhead_30 rfl (lv_at hl 1 rfl) ?_
        refine kc_l (w1 := [(a_window, wv s_window)]) (wr := [(a_0, fv a_text a_window a_trial a_past a_firstSlot a_secondSlot a_equations a_looks), (a_looks, av_J cy 301 (vp_updL c_g_looks y3.toNatClampNeg y1))]) hP hD hS hA [1] [0, 2] rfl rfl rfl (by decide) (va_runV (As := [.long y1]) (rest := []) ⟨hx, hb, hml, hown, hts⟩ (c_X4_after (l := l) G cy a_window H.size s_window y1  (f_X4_after s_window y1) rfl) (cwV 1 hts gX5_lookAhead_X4_after rfl rfl rfl ddV_X4_after ⟨Nat.le_of_ble_eq_true rfl, Nat.le_of_ble_eq_true rfl⟩) (preV_ (ci := 4) (q0 := 0) rfl rfl (hP.sub (ws' := [(a_window, wv s_window)]) [1] rfl) hK (hD.sub (ws' := [(a_window, wv s_window)]) [1] rfl rfl) hN) rfl rfl hl.1 rfl (lv_room (Nat.le_of_ble_eq_true rfl)) dX5_lookAhead_31 ⟨Nat.le_of_ble_eq_true rfl, Nat.le_of_ble_eq_true rfl⟩) (fun H locs hP hD hS => ?_)
        have hP : va_P G vwCl [(a_0, fv a_text a_window a_trial a_past a_firstSlot a_secondSlot a_equations a_looks), (a_looks, av_J cy 301 (vp_updL c_g_looks y3.toNatClampNeg y1)), (a_window, wv s_window)] H := hP
        have hD : va_D A [(a_0, fv a_text a_window a_trial a_past a_firstSlot a_secondSlot a_equations a_looks), (a_looks, av_J cy 301 (vp_updL c_g_looks y3.toNatClampNeg y1)), (a_window, wv s_window)] := hD
        refine lv_lstore_n (lv' := [(1, .long (f_X4_after s_window y1)), (0, .ref a_0), (3, .int y3)]) hx hb dX5_lookAhead_34 rfl hl (by decide) rfl (fun ls hl => ?_)
        refine lv_iinc (v := (y3 + 1)) (lv' := [(3, .int (y3 + 1)), (1, .long (f_X4_after s_window y1)), (0, .ref a_0)]) hx hb dX5_lookAhead_35 hl (k := 2) rfl rfl (by decide) rfl (fun ls hl => ?_)
        refine lv_goto (tgt := 10) hx hb dX5_lookAhead_38 (by decide) ?_
        exact ih (vp_updL c_g_looks y3.toNatClampNeg y1) (f_X4_after s_window y1) (y3 + 1) _ _ hf (hP.sub (ws' := [(a_0, fv a_text a_window a_trial a_past a_firstSlot a_secondSlot a_equations a_looks), (a_window, wv s_window), (a_looks, av_J cy 301 (vp_updL c_g_looks y3.toNatClampNeg y1))]) [0, 2, 1] rfl) (hD.sub (ws' := [(a_0, fv a_text a_window a_trial a_past a_firstSlot a_secondSlot a_equations a_looks), (a_window, wv s_window), (a_looks, av_J cy 301 (vp_updL c_g_looks y3.toNatClampNeg y1))]) [0, 2, 1] rfl rfl) hS ls (lv_sub hl [2, 1, 0] rfl)
  have hl := lv_entry [.ref a_0] (n := 4) (Nat.le_of_ble_eq_true rfl)
  rw [lg_entry_eq]
  generalize (lg_sl [.ref a_0] ++ List.replicate (4 - (lg_sl [.ref a_0]).length) Slot.unset).toArray = ls at hl ⊢
  have hl : lv_has ls 4 [(0, .ref a_0)] := hl
  unfold f_X5_lookAhead at hf
  refine lv_aload_n hx hb dX5_lookAhead_0 rfl (lv_at hl 0 rfl) ?_
  refine va_get (D := G) (ci := 5) (v := .ref a_window) (C := RX5) (T := TX5) (N := 8) hx hb hts iw_X5_lookAhead_X5 hown hK hP 0 rfl rfl 1 (by decide) (hts (.fieldLink RX5 19 "PaneFrost" "window" "LPaneFrost$Window;") (by decide +kernel)) (fun _ h9 => h9) rfl dX5_lookAhead_1 ?_
  refine va_get (D := G) (ci := 4) (v := .long (w_frozen s_window)) (C := RX4) (T := TX4) (N := 12) hx hb hts iw_X5_lookAhead_X4 hown hK hP 1 rfl rfl 4 (by decide) (hts (.fieldLink RX5 138 "PaneFrost$Window" "frozen" "J") (by decide +kernel)) (fun _ h9 => h9) rfl dX5_lookAhead_4 ?_
  refine lv_lstore_n (lv' := [(1, .long (w_frozen s_window)), (0, .ref a_0)]) hx hb dX5_lookAhead_7 rfl hl (by decide) rfl (fun ls hl => ?_)
  refine lv_iconst (v := 0) hx hb dX5_lookAhead_8 (by decide) ?_
  refine lv_istore_n (lv' := [(3, .int 0), (1, .long (w_frozen s_window)), (0, .ref a_0)]) hx hb dX5_lookAhead_9 rfl hl (by decide) rfl (fun ls hl => ?_)
  exact bl_10 n g_looks (w_frozen s_window) 0 _ _ hf hP hD hS ls (lv_sub hl [2, 1, 0] rfl)
set_option maxHeartbeats 4000000 in
set_option maxRecDepth 100000 in
theorem c_X5_look {l : Launch} (G : va_G) (cy : Nat → ClassId) (a_0 : Nat) (a_text : Nat) (a_window : Nat) (a_trial : Nat) (a_past : Nat) (a_firstSlot : Nat) (a_secondSlot : Nat) (a_equations : Nat) (a_looks : Nat) (sz : Nat) (g_looks : Nat → Int64) (x1 : Int32)  (R : Int64) (hf : f_X5_look g_looks x1 = some R) : Met l yX5_look wsX5_look ({ frames := 0, cells := 0, slots := 0, locals := 0 } : Room) (va_Pc [.ref a_0, .int x1] (pcW G cy [(a_0, fv a_text a_window a_trial a_past a_firstSlot a_secondSlot a_equations a_looks), (a_looks, av_J cy 301 g_looks)] sz)) (va_Ql (fun r (_ : Unit) => r = R) (fun _ t => Wd G cy (va_A [(a_0, fv a_text a_window a_trial a_past a_firstSlot a_secondSlot a_equations a_looks), (a_looks, av_J cy 301 g_looks)] sz) [(a_0, fv a_text a_window a_trial a_past a_firstSlot a_secondSlot a_equations a_looks), (a_looks, av_J cy 301 g_looks)] t) (va_A [(a_0, fv a_text a_window a_trial a_past a_firstSlot a_secondSlot a_equations a_looks), (a_looks, av_J cy 301 g_looks)] sz)) 0 0 (va_A [(a_0, fv a_text a_window a_trial a_past a_firstSlot a_secondSlot a_equations a_looks), (a_looks, av_J cy 301 g_looks)] sz) := by
  refine Met.ofW (cc := cX5_look) (maxL := 2) (ret := (some .long)) (by decide) rfl ?_
  intro p e s m args below meth c s₁ B hml hv
  obtain ⟨rfl, hsz, hP, hK, hD0, hN⟩ := hv
  have hx := B.exec
  have hb := B.bytes
  have hr := B.returns
  have hts := atoms_spec (ws := wsX5_look) B.pre
  have hown : s.vm.findClass RX5 = some m.cls := findClass_of_methodNamed B.named
  have hlocks := B.notSynchronized
  subst hsz
  have hD := hD0.self (sz := s.heap.size)
  generalize hAe : va_A [(a_0, fv a_text a_window a_trial a_past a_firstSlot a_secondSlot a_equations a_looks), (a_looks, av_J cy 301 g_looks)] s.heap.size = A at hD ⊢
  have hA : ∀ q : Nat, s.heap.size ≤ q → A q := fun q h => by rw [← hAe]; exact Or.inr h
  have hS : va_S A s.heap s.heap [] := va_S.rf
  have hP : va_P G vwCl [(a_0, fv a_text a_window a_trial a_past a_firstSlot a_secondSlot a_equations a_looks), (a_looks, av_J cy 301 g_looks)] s.heap := hP
  have hl := lv_entry [.ref a_0, .int x1] (n := 2) (Nat.le_of_ble_eq_true rfl)
  rw [lg_entry_eq]
  generalize (lg_sl [.ref a_0, .int x1] ++ List.replicate (2 - (lg_sl [.ref a_0, .int x1]).length) Slot.unset).toArray = ls at hl ⊢
  have hl : lv_has ls 2 [(0, .ref a_0), (1, .int x1)] := hl
  unfold f_X5_look at hf
  refine lv_iload_n hx hb dX5_look_0 rfl (lv_at hl 1 rfl) ?_
  refine lv_if_lt (tgt := 22) hx hb dX5_look_1 (by decide) (fun h_1 => ?_) (fun h_1 => ?_)
  · have hf := ip_ h_1 hf
    refine lv_lconst (v := 0) hx hb dX5_look_22 rfl ?_
    obtain rfl := Option.some.inj hf
    exact kr_l hx hb hr hlocks rfl hP hK hD hN hS hS.2.2 dX5_look_23
  · have hf := in_ h_1 hf
    refine lv_iload_n hx hb dX5_look_4 rfl (lv_at hl 1 rfl) ?_
    refine lv_aload_n hx hb dX5_look_5 rfl (lv_at hl 0 rfl) ?_
    refine va_get (D := G) (ci := 5) (v := .ref a_looks) (C := RX5) (T := TX5) (N := 8) hx hb hts iw_X5_look_X5 hown hK hP 0 rfl rfl 7 (by decide) (hts (.fieldLink RX5 50 "PaneFrost" "looks" "[J") (by decide +kernel)) (fun _ h9 => h9) rfl dX5_look_6 ?_
    refine va_alen (v := 301) hx hb hK hP 1 1 rfl rfl rfl dX5_look_9 ?_
    refine lv_icmp_ge (tgt := 22) hx hb dX5_look_10 (by decide) (fun h_2 => ?_) (fun h_2 => ?_)
    · have hf := ip_ h_2 hf
      refine lv_lconst (v := 0) hx hb dX5_look_22 rfl ?_
      obtain rfl := Option.some.inj hf
      exact kr_l hx hb hr hlocks rfl hP hK hD hN hS hS.2.2 dX5_look_23
    · have hf := in_ h_2 hf
      refine lv_aload_n hx hb dX5_look_13 rfl (lv_at hl 0 rfl) ?_
      refine va_get (D := G) (ci := 5) (v := .ref a_looks) (C := RX5) (T := TX5) (N := 8) hx hb hts iw_X5_look_X5 hown hK hP 0 rfl rfl 7 (by decide) (hts (.fieldLink RX5 50 "PaneFrost" "looks" "[J") (by decide +kernel)) (fun _ h9 => h9) rfl dX5_look_14 ?_
      refine lv_iload_n hx hb dX5_look_17 rfl (lv_at hl 1 rfl) ?_
      by_cases q_3 : x1 < 0 ∨ 301 ≤ x1.toNatClampNeg
      · have hf := ip_ q_3 hf; cases hf
      have hf := in_ q_3 hf
      refine vz_lald rfl hx hb hK hP 1 1 rfl rfl (vin q_3) dX5_look_18 ?_
      refine lv_goto (tgt := 23) hx hb dX5_look_19 (by decide) ?_
      obtain rfl := Option.some.inj hf
      exact kr_l hx hb hr hlocks rfl hP hK hD hN hS hS.2.2 dX5_look_23
set_option maxHeartbeats 4000000 in
set_option maxRecDepth 100000 in
theorem c_X5_period {l : Launch} (G : va_G) (cy : Nat → ClassId) (a_0 : Nat) (a_text : Nat) (a_window : Nat) (a_trial : Nat) (a_past : Nat) (a_firstSlot : Nat) (a_secondSlot : Nat) (a_equations : Nat) (a_looks : Nat) (sz : Nat) (g_looks : Nat → Int64) (n : Nat) (R : Int32) (hf : f_X5_period n g_looks = some R) : Met l yX5_period wsX5_period ({ frames := 1, cells := 0, slots := 0, locals := 21 } : Room) (va_Pc [.ref a_0] (pcW G cy [(a_0, fv a_text a_window a_trial a_past a_firstSlot a_secondSlot a_equations a_looks), (a_looks, av_J cy 301 g_looks)] sz)) (va_Qi (fun r (_ : Unit) => r = R) (fun _ t => Wd G cy (va_A [(a_0, fv a_text a_window a_trial a_past a_firstSlot a_secondSlot a_equations a_looks), (a_looks, av_J cy 301 g_looks)] sz) [(a_0, fv a_text a_window a_trial a_past a_firstSlot a_secondSlot a_equations a_looks), (a_looks, av_J cy 301 g_looks)] t) (va_A [(a_0, fv a_text a_window a_trial a_past a_firstSlot a_secondSlot a_equations a_looks), (a_looks, av_J cy 301 g_looks)] sz)) 0 0 (va_A [(a_0, fv a_text a_window a_trial a_past a_firstSlot a_secondSlot a_equations a_looks), (a_looks, av_J cy 301 g_looks)] sz) := by
  refine Met.ofW (cc := cX5_period) (maxL := 4) (ret := (some .int)) (by decide) rfl ?_
  intro p e s m args below meth c s₁ B hml hv
  obtain ⟨rfl, hsz, hP, hK, hD0, hN⟩ := hv
  have hx := B.exec
  have hb := B.bytes
  have hr := B.returns
  have hts := atoms_spec (ws := wsX5_period) B.pre
  have hown : s.vm.findClass RX5 = some m.cls := findClass_of_methodNamed B.named
  have hlocks := B.notSynchronized
  subst hsz
  have hD := hD0.self (sz := s.heap.size)
  generalize hAe : va_A [(a_0, fv a_text a_window a_trial a_past a_firstSlot a_secondSlot a_equations a_looks), (a_looks, av_J cy 301 g_looks)] s.heap.size = A at hD ⊢
  have hA : ∀ q : Nat, s.heap.size ≤ q → A q := fun q h => by rw [← hAe]; exact Or.inr h
  have hS : va_S A s.heap s.heap [] := va_S.rf
  have hP : va_P G vwCl [(a_0, fv a_text a_window a_trial a_past a_firstSlot a_secondSlot a_equations a_looks), (a_looks, av_J cy 301 g_looks)] s.heap := hP
  have bl_10 : ∀ (y1 : Int64), ∀ (k : Nat), ∀ (y3 : Int32) (H : Heap) (locs : List Loc), f_X5_period_b10 n g_looks y1 k y3 = some R → va_P G vwCl [(a_0, fv a_text a_window a_trial a_past a_firstSlot a_secondSlot a_equations a_looks), (a_looks, av_J cy 301 g_looks)] H → va_D A [(a_0, fv a_text a_window a_trial a_past a_firstSlot a_secondSlot a_equations a_looks), (a_looks, av_J cy 301 g_looks)] → va_S A s.heap H locs → ∀ (ls : Array Slot), lv_has ls 4 [(0, .ref a_0), (1, .long y1), (3, .int y3)] → W p l e ({ frames := 1, cells := 0, slots := 0, locals := 21 } : Room) s m [.ref a_0].toArray below meth c H locs 0 0 (MQ below (va_Qi (fun r (_ : Unit) => r = R) (fun _ t => Wd G cy A [(a_0, fv a_text a_window a_trial a_past a_firstSlot a_secondSlot a_equations a_looks), (a_looks, av_J cy 301 g_looks)] t) A) [.ref a_0].toArray s 0 0 A) (F0 m 10 ls []) := by
    intro y1
    intro k
    induction k with
    | zero =>
      intro y3 H locs hf; cases hf
    | succ k ih =>
      intro y3 H locs hf hP hD hS ls hl
      have hf := (f_X5_period_b10_s n g_looks y1 k y3).symm.trans hf
      refine lv_iload_n hx hb dX5_period_10 rfl (lv_at hl 2 rfl) ?_
      refine lv_sipush (v := 300) hx hb dX5_period_11 (by decide) ?_
      refine lv_icmp_gt (tgt := 39) hx hb dX5_period_14 (by decide) (fun h_1 => ?_) (fun h_1 => ?_)
      · have hf := ip_ h_1 hf
        refine lv_iconst (v := (-1)) hx hb dX5_period_39 (by decide) ?_
        obtain rfl := Option.some.inj hf
        exact kr_i hx hb hr hlocks rfl hP hK hD hN hS hS.2.2 dX5_period_40
      · have hf := in_ h_1 hf
        refine lv_aload_n hx hb dX5_period_17 rfl (lv_at hl 0 rfl) ?_
        refine lv_sipush (v := 300) hx hb dX5_period_18 (by decide) ?_
        refine lv_iload_n hx hb dX5_period_21 rfl (lv_at hl 2 rfl) ?_
        refine lv_isub hx hb dX5_period_22 ?_
        obtain ⟨r_2, hh_r_2, hf⟩ := obd_some hf
        refine kc_l (w1 := [(a_0, fv a_text a_window a_trial a_past a_firstSlot a_secondSlot a_equations a_looks), (a_looks, av_J cy 301 g_looks)]) (wr := []) hP hD hS hA [0, 1] [] rfl rfl rfl (by decide) (va_runV (As := [.int (300 - y3)]) (rest := []) ⟨hx, hb, hml, hown, hts⟩ (c_X5_look (l := l) G cy a_0 a_text a_window a_trial a_past a_firstSlot a_secondSlot a_equations a_looks H.size g_looks (300 - y3)  r_2 hh_r_2) (cwV 1 hts gX5_period_X5_look rfl rfl rfl ddV_X5_look ⟨Nat.le_of_ble_eq_true rfl, Nat.le_of_ble_eq_true rfl⟩) (preV_ (ci := 5) (q0 := 0) rfl rfl hP hK hD hN) rfl rfl hl.1 rfl (lv_room (Nat.le_of_ble_eq_true rfl)) dX5_period_23 ⟨Nat.le_of_ble_eq_true rfl, Nat.le_of_ble_eq_true rfl⟩) (fun H locs hP hD hS => ?_)
        have hP : va_P G vwCl [(a_0, fv a_text a_window a_trial a_past a_firstSlot a_secondSlot a_equations a_looks), (a_looks, av_J cy 301 g_looks)] H := hP
        have hD : va_D A [(a_0, fv a_text a_window a_trial a_past a_firstSlot a_secondSlot a_equations a_looks), (a_looks, av_J cy 301 g_looks)] := hD
        refine lv_lload_n hx hb dX5_period_26 rfl (lv_at hl 1 rfl) ?_
        refine W.lcmp hx hb dX5_period_27 ?_
        refine lv_if_ne (tgt := 33) hx hb dX5_period_28 (by decide) (fun h_3 => ?_) (fun h_3 => ?_)
        · have hf := in_ (fun q => h_3 (lgc_eq.mpr q)) hf
          refine lv_iinc (v := (y3 + 1)) (lv' := [(3, .int (y3 + 1)), (0, .ref a_0), (1, .long y1)]) hx hb dX5_period_33 hl (k := 2) rfl rfl (by decide) rfl (fun ls hl => ?_)
          refine lv_goto (tgt := 10) hx hb dX5_period_36 (by decide) ?_
          exact ih (y3 + 1) _ _ hf hP hD hS ls (lv_sub hl [1, 2, 0] rfl)
        · have hf := ip_ (lgc_eq.mp h_3) hf
          refine lv_iload_n hx hb dX5_period_31 rfl (lv_at hl 2 rfl) ?_
          obtain rfl := Option.some.inj hf
          exact kr_i hx hb hr hlocks rfl hP hK hD hN hS hS.2.2 dX5_period_32
  have hl := lv_entry [.ref a_0] (n := 4) (Nat.le_of_ble_eq_true rfl)
  rw [lg_entry_eq]
  generalize (lg_sl [.ref a_0] ++ List.replicate (4 - (lg_sl [.ref a_0]).length) Slot.unset).toArray = ls at hl ⊢
  have hl : lv_has ls 4 [(0, .ref a_0)] := hl
  unfold f_X5_period at hf
  refine lv_aload_n hx hb dX5_period_0 rfl (lv_at hl 0 rfl) ?_
  refine lv_sipush (v := 300) hx hb dX5_period_1 (by decide) ?_
  obtain ⟨r_4, hh_r_4, hf⟩ := obd_some hf
  refine kc_l (w1 := [(a_0, fv a_text a_window a_trial a_past a_firstSlot a_secondSlot a_equations a_looks), (a_looks, av_J cy 301 g_looks)]) (wr := []) hP hD hS hA [0, 1] [] rfl rfl rfl (by decide) (va_runV (As := [.int 300]) (rest := []) ⟨hx, hb, hml, hown, hts⟩ (c_X5_look (l := l) G cy a_0 a_text a_window a_trial a_past a_firstSlot a_secondSlot a_equations a_looks s.heap.size g_looks 300  r_4 hh_r_4) (cwV 1 hts gX5_period_X5_look rfl rfl rfl ddV_X5_look ⟨Nat.le_of_ble_eq_true rfl, Nat.le_of_ble_eq_true rfl⟩) (preV_ (ci := 5) (q0 := 0) rfl rfl hP hK hD hN) rfl rfl hl.1 rfl (lv_room (Nat.le_of_ble_eq_true rfl)) dX5_period_4 ⟨Nat.le_of_ble_eq_true rfl, Nat.le_of_ble_eq_true rfl⟩) (fun H locs hP hD hS => ?_)
  have hP : va_P G vwCl [(a_0, fv a_text a_window a_trial a_past a_firstSlot a_secondSlot a_equations a_looks), (a_looks, av_J cy 301 g_looks)] H := hP
  have hD : va_D A [(a_0, fv a_text a_window a_trial a_past a_firstSlot a_secondSlot a_equations a_looks), (a_looks, av_J cy 301 g_looks)] := hD
  refine lv_lstore_n (lv' := [(1, .long r_4), (0, .ref a_0)]) hx hb dX5_period_7 rfl hl (by decide) rfl (fun ls hl => ?_)
  refine lv_iconst (v := 1) hx hb dX5_period_8 (by decide) ?_
  refine lv_istore_n (lv' := [(3, .int 1), (1, .long r_4), (0, .ref a_0)]) hx hb dX5_period_9 rfl hl (by decide) rfl (fun ls hl => ?_)
  exact bl_10 r_4 n 1 _ _ hf hP hD hS ls (lv_sub hl [2, 1, 0] rfl)
set_option maxHeartbeats 4000000 in
set_option maxRecDepth 100000 in
theorem c_X5_firstOfPeriod {l : Launch} (G : va_G) (cy : Nat → ClassId) (a_0 : Nat) (a_text : Nat) (a_window : Nat) (a_trial : Nat) (a_past : Nat) (a_firstSlot : Nat) (a_secondSlot : Nat) (a_equations : Nat) (a_looks : Nat) (sz : Nat) (g_looks : Nat → Int64) (x1 : Int32) (n : Nat) (R : Int32) (hf : f_X5_firstOfPeriod n g_looks x1 = some R) : Met l yX5_firstOfPeriod wsX5_firstOfPeriod ({ frames := 1, cells := 0, slots := 0, locals := 21 } : Room) (va_Pc [.ref a_0, .int x1] (pcW G cy [(a_0, fv a_text a_window a_trial a_past a_firstSlot a_secondSlot a_equations a_looks), (a_looks, av_J cy 301 g_looks)] sz)) (va_Qi (fun r (_ : Unit) => r = R) (fun _ t => Wd G cy (va_A [(a_0, fv a_text a_window a_trial a_past a_firstSlot a_secondSlot a_equations a_looks), (a_looks, av_J cy 301 g_looks)] sz) [(a_0, fv a_text a_window a_trial a_past a_firstSlot a_secondSlot a_equations a_looks), (a_looks, av_J cy 301 g_looks)] t) (va_A [(a_0, fv a_text a_window a_trial a_past a_firstSlot a_secondSlot a_equations a_looks), (a_looks, av_J cy 301 g_looks)] sz)) 0 0 (va_A [(a_0, fv a_text a_window a_trial a_past a_firstSlot a_secondSlot a_equations a_looks), (a_looks, av_J cy 301 g_looks)] sz) := by
  refine Met.ofW (cc := cX5_firstOfPeriod) (maxL := 3) (ret := (some .int)) (by decide) rfl ?_
  intro p e s m args below meth c s₁ B hml hv
  obtain ⟨rfl, hsz, hP, hK, hD0, hN⟩ := hv
  have hx := B.exec
  have hb := B.bytes
  have hr := B.returns
  have hts := atoms_spec (ws := wsX5_firstOfPeriod) B.pre
  have hown : s.vm.findClass RX5 = some m.cls := findClass_of_methodNamed B.named
  have hlocks := B.notSynchronized
  subst hsz
  have hD := hD0.self (sz := s.heap.size)
  generalize hAe : va_A [(a_0, fv a_text a_window a_trial a_past a_firstSlot a_secondSlot a_equations a_looks), (a_looks, av_J cy 301 g_looks)] s.heap.size = A at hD ⊢
  have hA : ∀ q : Nat, s.heap.size ≤ q → A q := fun q h => by rw [← hAe]; exact Or.inr h
  have hS : va_S A s.heap s.heap [] := va_S.rf
  have hP : va_P G vwCl [(a_0, fv a_text a_window a_trial a_past a_firstSlot a_secondSlot a_equations a_looks), (a_looks, av_J cy 301 g_looks)] s.heap := hP
  have bl_2 : ∀ (y1 : Int32), ∀ (k : Nat), ∀ (y2 : Int32) (H : Heap) (locs : List Loc), f_X5_firstOfPeriod_b2 n g_looks y1 k y2 = some R → va_P G vwCl [(a_0, fv a_text a_window a_trial a_past a_firstSlot a_secondSlot a_equations a_looks), (a_looks, av_J cy 301 g_looks)] H → va_D A [(a_0, fv a_text a_window a_trial a_past a_firstSlot a_secondSlot a_equations a_looks), (a_looks, av_J cy 301 g_looks)] → va_S A s.heap H locs → ∀ (ls : Array Slot), lv_has ls 3 [(0, .ref a_0), (1, .int y1), (2, .int y2)] → W p l e ({ frames := 1, cells := 0, slots := 0, locals := 21 } : Room) s m [.ref a_0, .int x1].toArray below meth c H locs 0 0 (MQ below (va_Qi (fun r (_ : Unit) => r = R) (fun _ t => Wd G cy A [(a_0, fv a_text a_window a_trial a_past a_firstSlot a_secondSlot a_equations a_looks), (a_looks, av_J cy 301 g_looks)] t) A) [.ref a_0, .int x1].toArray s 0 0 A) (F0 m 2 ls []) := by
    intro y1
    intro k
    induction k with
    | zero =>
      intro y2 H locs hf; cases hf
    | succ k ih =>
      intro y2 H locs hf hP hD hS ls hl
      have hf := (f_X5_firstOfPeriod_b2_s n g_looks y1 k y2).symm.trans hf
      refine lv_iload_n hx hb dX5_firstOfPeriod_2 rfl (lv_at hl 2 rfl) ?_
      refine lv_iload_n hx hb dX5_firstOfPeriod_3 rfl (lv_at hl 1 rfl) ?_
      refine lv_iadd hx hb dX5_firstOfPeriod_4 ?_
      refine lv_sipush (v := 300) hx hb dX5_firstOfPeriod_5 (by decide) ?_
      refine lv_icmp_gt (tgt := 35) hx hb dX5_firstOfPeriod_8 (by decide) (fun h_1 => ?_) (fun h_1 => ?_)
      · have hf := ip_ h_1 hf
        refine lv_iconst (v := (-1)) hx hb dX5_firstOfPeriod_35 (by decide) ?_
        obtain rfl := Option.some.inj hf
        exact kr_i hx hb hr hlocks rfl hP hK hD hN hS hS.2.2 dX5_firstOfPeriod_36
      · have hf := in_ h_1 hf
        refine lv_aload_n hx hb dX5_firstOfPeriod_11 rfl (lv_at hl 0 rfl) ?_
        refine lv_iload_n hx hb dX5_firstOfPeriod_12 rfl (lv_at hl 2 rfl) ?_
        obtain ⟨r_2, hh_r_2, hf⟩ := obd_some hf
        refine kc_l (w1 := [(a_0, fv a_text a_window a_trial a_past a_firstSlot a_secondSlot a_equations a_looks), (a_looks, av_J cy 301 g_looks)]) (wr := []) hP hD hS hA [0, 1] [] rfl rfl rfl (by decide) (va_runV (As := [.int y2]) (rest := []) ⟨hx, hb, hml, hown, hts⟩ (c_X5_look (l := l) G cy a_0 a_text a_window a_trial a_past a_firstSlot a_secondSlot a_equations a_looks H.size g_looks y2  r_2 hh_r_2) (cwV 1 hts gX5_firstOfPeriod_X5_look rfl rfl rfl ddV_X5_look ⟨Nat.le_of_ble_eq_true rfl, Nat.le_of_ble_eq_true rfl⟩) (preV_ (ci := 5) (q0 := 0) rfl rfl hP hK hD hN) rfl rfl hl.1 rfl (lv_room (Nat.le_of_ble_eq_true rfl)) dX5_firstOfPeriod_13 ⟨Nat.le_of_ble_eq_true rfl, Nat.le_of_ble_eq_true rfl⟩) (fun H locs hP hD hS => ?_)
        have hP : va_P G vwCl [(a_0, fv a_text a_window a_trial a_past a_firstSlot a_secondSlot a_equations a_looks), (a_looks, av_J cy 301 g_looks)] H := hP
        have hD : va_D A [(a_0, fv a_text a_window a_trial a_past a_firstSlot a_secondSlot a_equations a_looks), (a_looks, av_J cy 301 g_looks)] := hD
        refine lv_aload_n hx hb dX5_firstOfPeriod_16 rfl (lv_at hl 0 rfl) ?_
        refine lv_iload_n hx hb dX5_firstOfPeriod_17 rfl (lv_at hl 2 rfl) ?_
        refine lv_iload_n hx hb dX5_firstOfPeriod_18 rfl (lv_at hl 1 rfl) ?_
        refine lv_iadd hx hb dX5_firstOfPeriod_19 ?_
        obtain ⟨r_3, hh_r_3, hf⟩ := obd_some hf
        refine kc_l (w1 := [(a_0, fv a_text a_window a_trial a_past a_firstSlot a_secondSlot a_equations a_looks), (a_looks, av_J cy 301 g_looks)]) (wr := []) hP hD hS hA [0, 1] [] rfl rfl rfl (by decide) (va_runV (As := [.int (y2 + y1)]) (rest := [.long r_2]) ⟨hx, hb, hml, hown, hts⟩ (c_X5_look (l := l) G cy a_0 a_text a_window a_trial a_past a_firstSlot a_secondSlot a_equations a_looks H.size g_looks (y2 + y1)  r_3 hh_r_3) (cwV 1 hts gX5_firstOfPeriod_X5_look rfl rfl rfl ddV_X5_look ⟨Nat.le_of_ble_eq_true rfl, Nat.le_of_ble_eq_true rfl⟩) (preV_ (ci := 5) (q0 := 0) rfl rfl hP hK hD hN) rfl rfl hl.1 rfl (lv_room (Nat.le_of_ble_eq_true rfl)) dX5_firstOfPeriod_20 ⟨Nat.le_of_ble_eq_true rfl, Nat.le_of_ble_eq_true rfl⟩) (fun H locs hP hD hS => ?_)
        have hP : va_P G vwCl [(a_0, fv a_text a_window a_trial a_past a_firstSlot a_secondSlot a_equations a_looks), (a_looks, av_J cy 301 g_looks)] H := hP
        have hD : va_D A [(a_0, fv a_text a_window a_trial a_past a_firstSlot a_secondSlot a_equations a_looks), (a_looks, av_J cy 301 g_looks)] := hD
        refine W.lcmp hx hb dX5_firstOfPeriod_23 ?_
        refine lv_if_ne (tgt := 29) hx hb dX5_firstOfPeriod_24 (by decide) (fun h_4 => ?_) (fun h_4 => ?_)
        · have hf := in_ (fun q => h_4 (lgc_eq.mpr q)) hf
          refine lv_iinc (v := (y2 + 1)) (lv' := [(2, .int (y2 + 1)), (0, .ref a_0), (1, .int y1)]) hx hb dX5_firstOfPeriod_29 hl (k := 2) rfl rfl (by decide) rfl (fun ls hl => ?_)
          refine lv_goto (tgt := 2) hx hb dX5_firstOfPeriod_32 (by decide) ?_
          exact ih (y2 + 1) _ _ hf hP hD hS ls (lv_sub hl [1, 2, 0] rfl)
        · have hf := ip_ (lgc_eq.mp h_4) hf
          refine lv_iload_n hx hb dX5_firstOfPeriod_27 rfl (lv_at hl 2 rfl) ?_
          obtain rfl := Option.some.inj hf
          exact kr_i hx hb hr hlocks rfl hP hK hD hN hS hS.2.2 dX5_firstOfPeriod_28
  have hl := lv_entry [.ref a_0, .int x1] (n := 3) (Nat.le_of_ble_eq_true rfl)
  rw [lg_entry_eq]
  generalize (lg_sl [.ref a_0, .int x1] ++ List.replicate (3 - (lg_sl [.ref a_0, .int x1]).length) Slot.unset).toArray = ls at hl ⊢
  have hl : lv_has ls 3 [(0, .ref a_0), (1, .int x1)] := hl
  unfold f_X5_firstOfPeriod at hf
  refine lv_iconst (v := 0) hx hb dX5_firstOfPeriod_0 (by decide) ?_
  refine lv_istore_n (lv' := [(2, .int 0), (0, .ref a_0), (1, .int x1)]) hx hb dX5_firstOfPeriod_1 rfl hl (by decide) rfl (fun ls hl => ?_)
  exact bl_2 x1 n 0 _ _ hf hP hD hS ls (lv_sub hl [1, 2, 0] rfl)
set_option maxHeartbeats 4000000 in
set_option maxRecDepth 100000 in
theorem c_X5_again {l : Launch} (hfl : l.stackTraces = false) (G : va_G) (cy : Nat → ClassId) (a_0 : Nat) (a_text : Nat) (a_window : Nat) (a_trial : Nat) (a_past : Nat) (a_firstSlot : Nat) (a_secondSlot : Nat) (a_equations : Nat) (a_looks : Nat) (sz : Nat) (s_window : WT) (g_looks : Nat → Int64) (x1 : Int32) (n : Nat) (R : Nat ⊕ (Int32 × (Nat → Int64))) (hf : f_X5_again n s_window g_looks x1 = some R) : vx_Met l yX5_again wsX5_again ({ frames := 8, cells := 1, slots := 6, locals := 123 } : Room) (va_Pc [.ref a_0, .int x1] (pcX G cy [(a_0, fv a_text a_window a_trial a_past a_firstSlot a_secondSlot a_equations a_looks), (a_window, wv s_window), (a_looks, av_J cy 301 g_looks)] sz)) (va_Qi (fun r (u : Int32 × (Nat → Int64)) => R = .inr u ∧ r = u.1) (fun u t => Wd G cy (va_A [(a_0, fv a_text a_window a_trial a_past a_firstSlot a_secondSlot a_equations a_looks), (a_window, wv s_window), (a_looks, av_J cy 301 g_looks)] sz) [(a_0, fv a_text a_window a_trial a_past a_firstSlot a_secondSlot a_equations a_looks), (a_window, wv s_window), (a_looks, av_J cy 301 u.2)] t) (va_A [(a_0, fv a_text a_window a_trial a_past a_firstSlot a_secondSlot a_equations a_looks), (a_window, wv s_window), (a_looks, av_J cy 301 g_looks)] sz)) (vx_X (fun u : Nat => R = .inl u) (fun E u t => E = exN u ∧ va_P G vwCl [(a_0, fv a_text a_window a_trial a_past a_firstSlot a_secondSlot a_equations a_looks), (a_window, wv s_window), (a_looks, av_J cy 301 g_looks)] t.heap ∧ va_D (va_A [(a_0, fv a_text a_window a_trial a_past a_firstSlot a_secondSlot a_equations a_looks), (a_window, wv s_window), (a_looks, av_J cy 301 g_looks)] sz) [(a_0, fv a_text a_window a_trial a_past a_firstSlot a_secondSlot a_equations a_looks), (a_window, wv s_window), (a_looks, av_J cy 301 g_looks)]) (va_A [(a_0, fv a_text a_window a_trial a_past a_firstSlot a_secondSlot a_equations a_looks), (a_window, wv s_window), (a_looks, av_J cy 301 g_looks)] sz)) 1 6 (va_A [(a_0, fv a_text a_window a_trial a_past a_firstSlot a_secondSlot a_equations a_looks), (a_window, wv s_window), (a_looks, av_J cy 301 g_looks)] sz) := by
  refine vx_ofW (cc := cX5_again) (maxL := 3) (ret := (some .int)) (by decide) rfl ?_
  intro p e s m args below meth c s₁ B hml hnt hv
  obtain ⟨rfl, ⟨hsz, hP, hK, hD0, hN⟩, hE⟩ := hv
  have hx := B.exec
  have hb := B.bytes
  have hr := B.returns
  have hts := atoms_spec (ws := wsX5_again) B.pre
  have hown : s.vm.findClass RX5 = some m.cls := findClass_of_methodNamed B.named
  have hlocks := B.notSynchronized
  subst hsz
  have hD := hD0.self (sz := s.heap.size)
  generalize hAe : va_A [(a_0, fv a_text a_window a_trial a_past a_firstSlot a_secondSlot a_equations a_looks), (a_window, wv s_window), (a_looks, av_J cy 301 g_looks)] s.heap.size = A at hD hE ⊢
  have hA : ∀ q : Nat, s.heap.size ≤ q → A q := fun q h => by rw [← hAe]; exact Or.inr h
  have hS : va_S A s.heap s.heap [] := va_S.rf
  have hP : va_P G vwCl [(a_0, fv a_text a_window a_trial a_past a_firstSlot a_secondSlot a_equations a_looks), (a_window, wv s_window), (a_looks, av_J cy 301 g_looks)] s.heap := hP
  have hl := lv_entry [.ref a_0, .int x1] (n := 3) (Nat.le_of_ble_eq_true rfl)
  rw [lg_entry_eq]
  generalize (lg_sl [.ref a_0, .int x1] ++ List.replicate (3 - (lg_sl [.ref a_0, .int x1]).length) Slot.unset).toArray = ls at hl ⊢
  have hl : lv_has ls 3 [(0, .ref a_0), (1, .int x1)] := hl
  unfold f_X5_again at hf
  refine lv_aload_n hx hb dX5_again_0 rfl (lv_at hl 0 rfl) ?_
  refine lv_iload_n hx hb dX5_again_1 rfl (lv_at hl 1 rfl) ?_
  refine lv_iconst (v := 0) hx hb dX5_again_2 (by decide) ?_
  refine lv_iconst (v := 1) hx hb dX5_again_3 (by decide) ?_
  obtain ⟨r_1, hh_r_1, hf⟩ := obx_some hf
  refine kx_v (w1 := fun (_ : Unit) => []) (wr := [(a_0, fv a_text a_window a_trial a_past a_firstSlot a_secondSlot a_equations a_looks), (a_window, wv s_window), (a_looks, av_J cy 301 g_looks)]) hP hD hS hA [] [0, 1, 2] rfl rfl rfl (by decide) (vx_runV (As := [.int x1, .int 0, .int 1]) (rest := []) ⟨hx, hb, hml, hown, hts⟩ (c_X5_needRange (l := l) hfl G cy a_0 s.heap.size x1 0 1  r_1 hh_r_1) (cwV 3 hts gX5_again_X5_needRange rfl rfl rfl ddV_X5_needRange ⟨Nat.le_of_ble_eq_true rfl, Nat.le_of_ble_eq_true rfl⟩) (preVX2 (ci := 5) (q0 := 0) rfl rfl hP (hE.kept hS.2.1) (va_free hD hS hA (wc := []) [] rfl) (hP.sub (ws' := []) [] rfl) hK (hD.sub (ws' := []) [] rfl rfl) hN) rfl rfl hl.1 rfl (lv_room (Nat.le_of_ble_eq_true rfl)) dX5_again_4 ⟨Nat.le_of_ble_eq_true rfl, Nat.le_of_ble_eq_true rfl⟩) (fun u ce q9 H locs hz hP hD hS hc1 hc2 hc3 => ?_) (fun u_1 H locs hz hP hD hS => ?_)
  · subst hz
    have hP : va_P G vwCl [(a_0, fv a_text a_window a_trial a_past a_firstSlot a_secondSlot a_equations a_looks), (a_window, wv s_window), (a_looks, av_J cy 301 g_looks)] H := hP
    have hD : va_D A [(a_0, fv a_text a_window a_trial a_past a_firstSlot a_secondSlot a_equations a_looks), (a_window, wv s_window), (a_looks, av_J cy 301 g_looks)] := hD
    exact vx_widen (k := 1) (n := 6) (Nat.le_of_ble_eq_true rfl) (Nat.le_of_ble_eq_true rfl) (kx_out u hnt hlocks (obx_l hf) hP hK hD hN hS hc1 hc2 hc3 (Nat.le_refl _) (Nat.le_refl _))
  subst hz
  have hf := obx_r hf
  have hP : va_P G vwCl [(a_0, fv a_text a_window a_trial a_past a_firstSlot a_secondSlot a_equations a_looks), (a_window, wv s_window), (a_looks, av_J cy 301 g_looks)] H := hP
  have hD : va_D A [(a_0, fv a_text a_window a_trial a_past a_firstSlot a_secondSlot a_equations a_looks), (a_window, wv s_window), (a_looks, av_J cy 301 g_looks)] := hD
  refine lv_aload_n hx hb dX5_again_7 rfl (lv_at hl 0 rfl) ?_
  obtain ⟨r_2, hh_r_2, hf⟩ := obd_some hf
  refine kc_v (w1 := [(a_0, fv a_text a_window a_trial a_past a_firstSlot a_secondSlot a_equations a_looks), (a_window, wv s_window), (a_looks, av_J cy 301 r_2)]) (wr := []) hP hD hS hA [0, 1, 2] [] rfl rfl rfl (by decide) (va_runV (As := []) (rest := []) ⟨hx, hb, hml, hown, hts⟩ (c_X5_lookAhead (l := l) G cy a_0 a_text a_window a_trial a_past a_firstSlot a_secondSlot a_equations a_looks H.size s_window g_looks n r_2 hh_r_2) (cwV 0 hts gX5_again_X5_lookAhead rfl rfl rfl ddV_X5_lookAhead ⟨Nat.le_of_ble_eq_true rfl, Nat.le_of_ble_eq_true rfl⟩) (preV_ (ci := 5) (q0 := 0) rfl rfl hP hK hD hN) rfl rfl hl.1 rfl (lv_room (Nat.le_of_ble_eq_true rfl)) dX5_again_8 ⟨Nat.le_of_ble_eq_true rfl, Nat.le_of_ble_eq_true rfl⟩) (fun H locs hP hD hS => ?_)
  have hP : va_P G vwCl [(a_0, fv a_text a_window a_trial a_past a_firstSlot a_secondSlot a_equations a_looks), (a_window, wv s_window), (a_looks, av_J cy 301 r_2)] H := hP
  have hD : va_D A [(a_0, fv a_text a_window a_trial a_past a_firstSlot a_secondSlot a_equations a_looks), (a_window, wv s_window), (a_looks, av_J cy 301 r_2)] := hD
  refine lv_aload_n hx hb dX5_again_11 rfl (lv_at hl 0 rfl) ?_
  obtain ⟨r_3, hh_r_3, hf⟩ := obd_some hf
  refine kc_i (w1 := [(a_0, fv a_text a_window a_trial a_past a_firstSlot a_secondSlot a_equations a_looks), (a_looks, av_J cy 301 r_2)]) (wr := [(a_window, wv s_window)]) hP hD hS hA [0, 2] [1] rfl rfl rfl (by decide) (va_runV (As := []) (rest := []) ⟨hx, hb, hml, hown, hts⟩ (c_X5_period (l := l) G cy a_0 a_text a_window a_trial a_past a_firstSlot a_secondSlot a_equations a_looks H.size r_2 n r_3 hh_r_3) (cwV 0 hts gX5_again_X5_period rfl rfl rfl ddV_X5_period ⟨Nat.le_of_ble_eq_true rfl, Nat.le_of_ble_eq_true rfl⟩) (preV_ (ci := 5) (q0 := 0) rfl rfl (hP.sub (ws' := [(a_0, fv a_text a_window a_trial a_past a_firstSlot a_secondSlot a_equations a_looks), (a_looks, av_J cy 301 r_2)]) [0, 2] rfl) hK (hD.sub (ws' := [(a_0, fv a_text a_window a_trial a_past a_firstSlot a_secondSlot a_equations a_looks), (a_looks, av_J cy 301 r_2)]) [0, 2] rfl rfl) hN) rfl rfl hl.1 rfl (lv_room (Nat.le_of_ble_eq_true rfl)) dX5_again_12 ⟨Nat.le_of_ble_eq_true rfl, Nat.le_of_ble_eq_true rfl⟩) (fun H locs hP hD hS => ?_)
  have hP : va_P G vwCl [(a_window, wv s_window), (a_0, fv a_text a_window a_trial a_past a_firstSlot a_secondSlot a_equations a_looks), (a_looks, av_J cy 301 r_2)] H := hP
  have hD : va_D A [(a_window, wv s_window), (a_0, fv a_text a_window a_trial a_past a_firstSlot a_secondSlot a_equations a_looks), (a_looks, av_J cy 301 r_2)] := hD
  refine lv_istore_n (lv' := [(2, .int r_3), (0, .ref a_0), (1, .int x1)]) hx hb dX5_again_15 rfl hl (by decide) rfl (fun ls hl => ?_)
  refine lv_iload_n hx hb dX5_again_16 rfl (lv_at hl 0 rfl) ?_
  refine lv_iconst (v := (-1)) hx hb dX5_again_17 (by decide) ?_
  refine lv_icmp_eq (tgt := 26) hx hb dX5_again_18 (by decide) (fun h_4 => ?_) (fun h_4 => ?_)
  · have hf := ip_ h_4 hf
    refine lv_iload_n hx hb dX5_again_26 rfl (lv_at hl 0 rfl) ?_
    exact kr_iX (u := (r_3, r_2)) hx hb hr hlocks ((Option.some.inj hf).symm) (hP.sub (ws' := [(a_0, fv a_text a_window a_trial a_past a_firstSlot a_secondSlot a_equations a_looks), (a_window, wv s_window), (a_looks, av_J cy 301 r_2)]) [1, 0, 2] rfl) hK (hD.sub (ws' := [(a_0, fv a_text a_window a_trial a_past a_firstSlot a_secondSlot a_equations a_looks), (a_window, wv s_window), (a_looks, av_J cy 301 r_2)]) [1, 0, 2] rfl rfl) hN hS hS.2.2 dX5_again_27
  · have hf := in_ h_4 hf
    refine lv_iload_n hx hb dX5_again_21 rfl (lv_at hl 2 rfl) ?_
    refine lv_iconst (v := 1) hx hb dX5_again_22 (by decide) ?_
    refine lv_icmp_ne (tgt := 28) hx hb dX5_again_23 (by decide) (fun h_5 => ?_) (fun h_5 => ?_)
    · have hf := in_ h_5 hf
      refine lv_aload_n hx hb dX5_again_28 rfl (lv_at hl 1 rfl) ?_
      refine lv_iload_n hx hb dX5_again_29 rfl (lv_at hl 0 rfl) ?_
      obtain ⟨r_6, hh_r_6, hf⟩ := obd_some hf
      refine kc_i (w1 := [(a_0, fv a_text a_window a_trial a_past a_firstSlot a_secondSlot a_equations a_looks), (a_looks, av_J cy 301 r_2)]) (wr := [(a_window, wv s_window)]) hP hD hS hA [1, 2] [0] rfl rfl rfl (by decide) (va_runV (As := [.int r_3]) (rest := []) ⟨hx, hb, hml, hown, hts⟩ (c_X5_firstOfPeriod (l := l) G cy a_0 a_text a_window a_trial a_past a_firstSlot a_secondSlot a_equations a_looks H.size r_2 r_3 n r_6 hh_r_6) (cwV 1 hts gX5_again_X5_firstOfPeriod rfl rfl rfl ddV_X5_firstOfPeriod ⟨Nat.le_of_ble_eq_true rfl, Nat.le_of_ble_eq_true rfl⟩) (preV_ (ci := 5) (q0 := 0) rfl rfl (hP.sub (ws' := [(a_0, fv a_text a_window a_trial a_past a_firstSlot a_secondSlot a_equations a_looks), (a_looks, av_J cy 301 r_2)]) [1, 2] rfl) hK (hD.sub (ws' := [(a_0, fv a_text a_window a_trial a_past a_firstSlot a_secondSlot a_equations a_looks), (a_looks, av_J cy 301 r_2)]) [1, 2] rfl rfl) hN) rfl rfl hl.1 rfl (lv_room (Nat.le_of_ble_eq_true rfl)) dX5_again_30 ⟨Nat.le_of_ble_eq_true rfl, Nat.le_of_ble_eq_true rfl⟩) (fun H locs hP hD hS => ?_)
      have hP : va_P G vwCl [(a_window, wv s_window), (a_0, fv a_text a_window a_trial a_past a_firstSlot a_secondSlot a_equations a_looks), (a_looks, av_J cy 301 r_2)] H := hP
      have hD : va_D A [(a_window, wv s_window), (a_0, fv a_text a_window a_trial a_past a_firstSlot a_secondSlot a_equations a_looks), (a_looks, av_J cy 301 r_2)] := hD
      exact kr_iX (u := (r_6, r_2)) hx hb hr hlocks ((Option.some.inj hf).symm) (hP.sub (ws' := [(a_0, fv a_text a_window a_trial a_past a_firstSlot a_secondSlot a_equations a_looks), (a_window, wv s_window), (a_looks, av_J cy 301 r_2)]) [1, 0, 2] rfl) hK (hD.sub (ws' := [(a_0, fv a_text a_window a_trial a_past a_firstSlot a_secondSlot a_equations a_looks), (a_window, wv s_window), (a_looks, av_J cy 301 r_2)]) [1, 0, 2] rfl rfl) hN hS hS.2.2 dX5_again_33
    · have hf := ip_ h_5 hf
      refine lv_iload_n hx hb dX5_again_26 rfl (lv_at hl 0 rfl) ?_
      exact kr_iX (u := (r_3, r_2)) hx hb hr hlocks ((Option.some.inj hf).symm) (hP.sub (ws' := [(a_0, fv a_text a_window a_trial a_past a_firstSlot a_secondSlot a_equations a_looks), (a_window, wv s_window), (a_looks, av_J cy 301 r_2)]) [1, 0, 2] rfl) hK (hD.sub (ws' := [(a_0, fv a_text a_window a_trial a_past a_firstSlot a_secondSlot a_equations a_looks), (a_window, wv s_window), (a_looks, av_J cy 301 r_2)]) [1, 0, 2] rfl rfl) hN hS hS.2.2 dX5_again_27
set_option maxHeartbeats 4000000 in
set_option maxRecDepth 100000 in
theorem c_X5_needLinearRule {l : Launch} (hfl : l.stackTraces = false) (G : va_G) (cy : Nat → ClassId) (a_0 : Nat) (a_text : Nat) (a_window : Nat) (a_trial : Nat) (a_past : Nat) (a_firstSlot : Nat) (a_secondSlot : Nat) (a_equations : Nat) (a_looks : Nat) (sz : Nat) (s_window : WT)  (R : Nat ⊕ (Unit)) (hf : f_X5_needLinearRule s_window = some R) : vx_Met l yX5_needLinearRule wsX5_needLinearRule ({ frames := 7, cells := 1, slots := 6, locals := 100 } : Room) (va_Pc [.ref a_0] (pcX G cy [(a_0, fv a_text a_window a_trial a_past a_firstSlot a_secondSlot a_equations a_looks), (a_window, wv s_window)] sz)) (va_Qv (fun (u : Unit) => R = .inr u) (fun u t => Wd G cy (va_A [(a_0, fv a_text a_window a_trial a_past a_firstSlot a_secondSlot a_equations a_looks), (a_window, wv s_window)] sz) [(a_0, fv a_text a_window a_trial a_past a_firstSlot a_secondSlot a_equations a_looks), (a_window, wv s_window)] t) (va_A [(a_0, fv a_text a_window a_trial a_past a_firstSlot a_secondSlot a_equations a_looks), (a_window, wv s_window)] sz)) (vx_X (fun u : Nat => R = .inl u) (fun E u t => E = exN u ∧ va_P G vwCl [(a_0, fv a_text a_window a_trial a_past a_firstSlot a_secondSlot a_equations a_looks), (a_window, wv s_window)] t.heap ∧ va_D (va_A [(a_0, fv a_text a_window a_trial a_past a_firstSlot a_secondSlot a_equations a_looks), (a_window, wv s_window)] sz) [(a_0, fv a_text a_window a_trial a_past a_firstSlot a_secondSlot a_equations a_looks), (a_window, wv s_window)]) (va_A [(a_0, fv a_text a_window a_trial a_past a_firstSlot a_secondSlot a_equations a_looks), (a_window, wv s_window)] sz)) 1 6 (va_A [(a_0, fv a_text a_window a_trial a_past a_firstSlot a_secondSlot a_equations a_looks), (a_window, wv s_window)] sz) := by
  refine vx_ofW (cc := cX5_needLinearRule) (maxL := 1) (ret := none) (by decide) rfl ?_
  intro p e s m args below meth c s₁ B hml hnt hv
  obtain ⟨rfl, ⟨hsz, hP, hK, hD0, hN⟩, hE⟩ := hv
  have hx := B.exec
  have hb := B.bytes
  have hr := B.returns
  have hts := atoms_spec (ws := wsX5_needLinearRule) B.pre
  have hown : s.vm.findClass RX5 = some m.cls := findClass_of_methodNamed B.named
  have hlocks := B.notSynchronized
  subst hsz
  have hD := hD0.self (sz := s.heap.size)
  generalize hAe : va_A [(a_0, fv a_text a_window a_trial a_past a_firstSlot a_secondSlot a_equations a_looks), (a_window, wv s_window)] s.heap.size = A at hD hE ⊢
  have hA : ∀ q : Nat, s.heap.size ≤ q → A q := fun q h => by rw [← hAe]; exact Or.inr h
  have hS : va_S A s.heap s.heap [] := va_S.rf
  have hP : va_P G vwCl [(a_0, fv a_text a_window a_trial a_past a_firstSlot a_secondSlot a_equations a_looks), (a_window, wv s_window)] s.heap := hP
  have hl := lv_entry [.ref a_0] (n := 1) (Nat.le_of_ble_eq_true rfl)
  rw [lg_entry_eq]
  generalize (lg_sl [.ref a_0] ++ List.replicate (1 - (lg_sl [.ref a_0]).length) Slot.unset).toArray = ls at hl ⊢
  have hl : lv_has ls 1 [(0, .ref a_0)] := hl
  unfold f_X5_needLinearRule at hf
  refine lv_aload_n hx hb dX5_needLinearRule_0 rfl (lv_at hl 0 rfl) ?_
  refine va_get (D := G) (ci := 5) (v := .ref a_window) (C := RX5) (T := TX5) (N := 8) hx hb hts iw_X5_needLinearRule_X5 hown hK hP 0 rfl rfl 1 (by decide) (hts (.fieldLink RX5 19 "PaneFrost" "window" "LPaneFrost$Window;") (by decide +kernel)) (fun _ h9 => h9) rfl dX5_needLinearRule_1 ?_
  refine va_get (D := G) (ci := 4) (v := .int (w_rule s_window)) (C := RX4) (T := TX4) (N := 12) hx hb hts iw_X5_needLinearRule_X4 hown hK hP 1 rfl rfl 2 (by decide) (hts (.fieldLink RX5 151 "PaneFrost$Window" "rule" "I") (by decide +kernel)) (fun _ h9 => h9) rfl dX5_needLinearRule_4 ?_
  refine lv_if_ne (tgt := 21) hx hb dX5_needLinearRule_7 (by decide) (fun h_1 => ?_) (fun h_1 => ?_)
  · have hf := in_ h_1 hf
    refine W.widen (k := 1) (n := 6) (Nat.le_of_ble_eq_true rfl) (Nat.le_of_ble_eq_true rfl) ?_
    exact kr_vX (u := ()) hx hb hr hlocks ((Option.some.inj hf).symm) hP hK hD hN hS hS.2.2 dX5_needLinearRule_21
  · have hf := ip_ h_1 hf
    exact kt_SW hx hb hfl (own := RX5) (X := "java/lang/IllegalStateException") (text := "the rule is 0") (names := xnm) (ik := 62) (is := 319) (ic := 66) hown (by decide +kernel) xnm_fit (hts (.classLink RX5 62 "java/lang/IllegalStateException") (by decide +kernel)) (hts (.initialized "java/lang/IllegalStateException") (by decide +kernel)) hE.2.2.2.2.2.2.2.2.2.2.2.2.2.2 (vx_hat (fun w hw => hts w (xm_X5_needLinearRule_3 w hw)) xh_3 (xB_of hE.2.2.1 hE.2.2.1.2.2.2.2.2)) xg_3 hE hP hD hS (hl.1.trans hml.symm) hnt hlocks dX5_needLinearRule_10 dX5_needLinearRule_13 dX5_needLinearRule_14 dX5_needLinearRule_17 dX5_needLinearRule_20 (Nat.le_of_ble_eq_true rfl) (Nat.le_of_ble_eq_true rfl) (Nat.le_of_ble_eq_true rfl) (Nat.le_of_ble_eq_true rfl) (Nat.le_of_ble_eq_true rfl) (Nat.le_of_ble_eq_true rfl) 3 rfl ((Option.some.inj hf).symm)
set_option maxHeartbeats 4000000 in
set_option maxRecDepth 100000 in
theorem c_X5_befores {l : Launch} (hfl : l.stackTraces = false) (G : va_G) (cy : Nat → ClassId) (a_0 : Nat) (a_text : Nat) (a_window : Nat) (a_trial : Nat) (a_past : Nat) (a_firstSlot : Nat) (a_secondSlot : Nat) (a_equations : Nat) (a_equations_terms : Nat) (a_looks : Nat) (sz : Nat) (s_window : WT) (s_equations : ET) (g_equations_terms : Nat → Int64) (n : Nat) (R : Nat ⊕ (Int32 × ET × (Nat → Int64))) (hf : f_X5_befores n s_window s_equations g_equations_terms = some R) : vx_Met l yX5_befores wsX5_befores ({ frames := 8, cells := 1, slots := 6, locals := 143 } : Room) (va_Pc [.ref a_0] (pcX G cy [(a_0, fv a_text a_window a_trial a_past a_firstSlot a_secondSlot a_equations a_looks), (a_window, wv s_window), (a_equations, ev a_equations_terms s_equations), (a_equations_terms, av_J cy 64 g_equations_terms)] sz)) (va_Qi (fun r (u : Int32 × ET × (Nat → Int64)) => R = .inr u ∧ r = u.1) (fun u t => Wd G cy (va_A [(a_0, fv a_text a_window a_trial a_past a_firstSlot a_secondSlot a_equations a_looks), (a_window, wv s_window), (a_equations, ev a_equations_terms s_equations), (a_equations_terms, av_J cy 64 g_equations_terms)] sz) [(a_0, fv a_text a_window a_trial a_past a_firstSlot a_secondSlot a_equations a_looks), (a_window, wv s_window), (a_equations, ev a_equations_terms u.2.1), (a_equations_terms, av_J cy 64 u.2.2)] t) (va_A [(a_0, fv a_text a_window a_trial a_past a_firstSlot a_secondSlot a_equations a_looks), (a_window, wv s_window), (a_equations, ev a_equations_terms s_equations), (a_equations_terms, av_J cy 64 g_equations_terms)] sz)) (vx_X (fun u : Nat => R = .inl u) (fun E u t => E = exN u ∧ va_P G vwCl [(a_0, fv a_text a_window a_trial a_past a_firstSlot a_secondSlot a_equations a_looks), (a_window, wv s_window), (a_equations, ev a_equations_terms s_equations), (a_equations_terms, av_J cy 64 g_equations_terms)] t.heap ∧ va_D (va_A [(a_0, fv a_text a_window a_trial a_past a_firstSlot a_secondSlot a_equations a_looks), (a_window, wv s_window), (a_equations, ev a_equations_terms s_equations), (a_equations_terms, av_J cy 64 g_equations_terms)] sz) [(a_0, fv a_text a_window a_trial a_past a_firstSlot a_secondSlot a_equations a_looks), (a_window, wv s_window), (a_equations, ev a_equations_terms s_equations), (a_equations_terms, av_J cy 64 g_equations_terms)]) (va_A [(a_0, fv a_text a_window a_trial a_past a_firstSlot a_secondSlot a_equations a_looks), (a_window, wv s_window), (a_equations, ev a_equations_terms s_equations), (a_equations_terms, av_J cy 64 g_equations_terms)] sz)) 1 6 (va_A [(a_0, fv a_text a_window a_trial a_past a_firstSlot a_secondSlot a_equations a_looks), (a_window, wv s_window), (a_equations, ev a_equations_terms s_equations), (a_equations_terms, av_J cy 64 g_equations_terms)] sz) := by
  refine vx_ofW (cc := cX5_befores) (maxL := 1) (ret := (some .int)) (by decide) rfl ?_
  intro p e s m args below meth c s₁ B hml hnt hv
  obtain ⟨rfl, ⟨hsz, hP, hK, hD0, hN⟩, hE⟩ := hv
  have hx := B.exec
  have hb := B.bytes
  have hr := B.returns
  have hts := atoms_spec (ws := wsX5_befores) B.pre
  have hown : s.vm.findClass RX5 = some m.cls := findClass_of_methodNamed B.named
  have hlocks := B.notSynchronized
  subst hsz
  have hD := hD0.self (sz := s.heap.size)
  generalize hAe : va_A [(a_0, fv a_text a_window a_trial a_past a_firstSlot a_secondSlot a_equations a_looks), (a_window, wv s_window), (a_equations, ev a_equations_terms s_equations), (a_equations_terms, av_J cy 64 g_equations_terms)] s.heap.size = A at hD hE ⊢
  have hA : ∀ q : Nat, s.heap.size ≤ q → A q := fun q h => by rw [← hAe]; exact Or.inr h
  have hS : va_S A s.heap s.heap [] := va_S.rf
  have hP : va_P G vwCl [(a_0, fv a_text a_window a_trial a_past a_firstSlot a_secondSlot a_equations a_looks), (a_window, wv s_window), (a_equations, ev a_equations_terms s_equations), (a_equations_terms, av_J cy 64 g_equations_terms)] s.heap := hP
  have hl := lv_entry [.ref a_0] (n := 1) (Nat.le_of_ble_eq_true rfl)
  rw [lg_entry_eq]
  generalize (lg_sl [.ref a_0] ++ List.replicate (1 - (lg_sl [.ref a_0]).length) Slot.unset).toArray = ls at hl ⊢
  have hl : lv_has ls 1 [(0, .ref a_0)] := hl
  unfold f_X5_befores at hf
  refine lv_aload_n hx hb dX5_befores_0 rfl (lv_at hl 0 rfl) ?_
  obtain ⟨r_1, hh_r_1, hf⟩ := obx_some hf
  refine kx_v (w1 := fun (_ : Unit) => [(a_0, fv a_text a_window a_trial a_past a_firstSlot a_secondSlot a_equations a_looks), (a_window, wv s_window)]) (wr := [(a_equations, ev a_equations_terms s_equations), (a_equations_terms, av_J cy 64 g_equations_terms)]) hP hD hS hA [0, 1] [2, 3] rfl rfl rfl (by decide) (vx_runV (As := []) (rest := []) ⟨hx, hb, hml, hown, hts⟩ (c_X5_needLinearRule (l := l) hfl G cy a_0 a_text a_window a_trial a_past a_firstSlot a_secondSlot a_equations a_looks s.heap.size s_window  r_1 hh_r_1) (cwV 0 hts gX5_befores_X5_needLinearRule rfl rfl rfl ddV_X5_needLinearRule ⟨Nat.le_of_ble_eq_true rfl, Nat.le_of_ble_eq_true rfl⟩) (preVX (ci := 5) (q0 := 0) rfl rfl (hE.kept hS.2.1) (va_free hD hS hA (wc := [(a_0, fv a_text a_window a_trial a_past a_firstSlot a_secondSlot a_equations a_looks), (a_window, wv s_window)]) [0, 1] rfl) (hP.sub (ws' := [(a_0, fv a_text a_window a_trial a_past a_firstSlot a_secondSlot a_equations a_looks), (a_window, wv s_window)]) [0, 1] rfl) hK (hD.sub (ws' := [(a_0, fv a_text a_window a_trial a_past a_firstSlot a_secondSlot a_equations a_looks), (a_window, wv s_window)]) [0, 1] rfl rfl) hN) rfl rfl hl.1 rfl (lv_room (Nat.le_of_ble_eq_true rfl)) dX5_befores_1 ⟨Nat.le_of_ble_eq_true rfl, Nat.le_of_ble_eq_true rfl⟩) (fun u ce q9 H locs hz hP hD hS hc1 hc2 hc3 => ?_) (fun u_1 H locs hz hP hD hS => ?_)
  · subst hz
    have hP : va_P G vwCl [(a_equations, ev a_equations_terms s_equations), (a_equations_terms, av_J cy 64 g_equations_terms), (a_0, fv a_text a_window a_trial a_past a_firstSlot a_secondSlot a_equations a_looks), (a_window, wv s_window)] H := hP
    have hD : va_D A [(a_equations, ev a_equations_terms s_equations), (a_equations_terms, av_J cy 64 g_equations_terms), (a_0, fv a_text a_window a_trial a_past a_firstSlot a_secondSlot a_equations a_looks), (a_window, wv s_window)] := hD
    exact vx_widen (k := 1) (n := 6) (Nat.le_of_ble_eq_true rfl) (Nat.le_of_ble_eq_true rfl) (kx_out u hnt hlocks (obx_l hf) (hP.sub (ws' := [(a_0, fv a_text a_window a_trial a_past a_firstSlot a_secondSlot a_equations a_looks), (a_window, wv s_window), (a_equations, ev a_equations_terms s_equations), (a_equations_terms, av_J cy 64 g_equations_terms)]) [2, 3, 0, 1] rfl) hK (hD.sub (ws' := [(a_0, fv a_text a_window a_trial a_past a_firstSlot a_secondSlot a_equations a_looks), (a_window, wv s_window), (a_equations, ev a_equations_terms s_equations), (a_equations_terms, av_J cy 64 g_equations_terms)]) [2, 3, 0, 1] rfl rfl) hN hS hc1 hc2 hc3 (Nat.le_refl _) (Nat.le_refl _))
  subst hz
  have hf := obx_r hf
  have hP : va_P G vwCl [(a_equations, ev a_equations_terms s_equations), (a_equations_terms, av_J cy 64 g_equations_terms), (a_0, fv a_text a_window a_trial a_past a_firstSlot a_secondSlot a_equations a_looks), (a_window, wv s_window)] H := hP
  have hD : va_D A [(a_equations, ev a_equations_terms s_equations), (a_equations_terms, av_J cy 64 g_equations_terms), (a_0, fv a_text a_window a_trial a_past a_firstSlot a_secondSlot a_equations a_looks), (a_window, wv s_window)] := hD
  refine lv_aload_n hx hb dX5_befores_4 rfl (lv_at hl 0 rfl) ?_
  refine va_get (D := G) (ci := 5) (v := .ref a_equations) (C := RX5) (T := TX5) (N := 8) hx hb hts iw_X5_befores_X5 hown hK hP 2 rfl rfl 6 (by decide) (hts (.fieldLink RX5 46 "PaneFrost" "equations" "LPaneFrost$Equations;") (by decide +kernel)) (fun _ h9 => h9) rfl dX5_befores_5 ?_
  refine lv_aload_n hx hb dX5_befores_8 rfl (lv_at hl 0 rfl) ?_
  refine va_get (D := G) (ci := 5) (v := .ref a_window) (C := RX5) (T := TX5) (N := 8) hx hb hts iw_X5_befores_X5 hown hK hP 2 rfl rfl 1 (by decide) (hts (.fieldLink RX5 19 "PaneFrost" "window" "LPaneFrost$Window;") (by decide +kernel)) (fun _ h9 => h9) rfl dX5_befores_9 ?_
  obtain ⟨r_2, hh_r_2, hf⟩ := obd_some hf
  refine kc_v (w1 := [(a_equations, ev a_equations_terms r_2.1), (a_equations_terms, av_J cy 64 r_2.2), (a_window, wv s_window)]) (wr := [(a_0, fv a_text a_window a_trial a_past a_firstSlot a_secondSlot a_equations a_looks)]) hP hD hS hA [0, 1, 3] [2] rfl rfl rfl (by decide) (va_runV (As := [.ref a_window]) (rest := []) ⟨hx, hb, hml, hown, hts⟩ (c_X0_solve (l := l) G cy a_equations a_equations_terms a_window H.size s_equations g_equations_terms s_window n r_2 hh_r_2) (cwV 1 hts gX5_befores_X0_solve rfl rfl rfl ddV_X0_solve ⟨Nat.le_of_ble_eq_true rfl, Nat.le_of_ble_eq_true rfl⟩) (preV_ (ci := 0) (q0 := 0) rfl rfl (hP.sub (ws' := [(a_equations, ev a_equations_terms s_equations), (a_equations_terms, av_J cy 64 g_equations_terms), (a_window, wv s_window)]) [0, 1, 3] rfl) hK (hD.sub (ws' := [(a_equations, ev a_equations_terms s_equations), (a_equations_terms, av_J cy 64 g_equations_terms), (a_window, wv s_window)]) [0, 1, 3] rfl rfl) hN) rfl rfl hl.1 rfl (lv_room (Nat.le_of_ble_eq_true rfl)) dX5_befores_12 ⟨Nat.le_of_ble_eq_true rfl, Nat.le_of_ble_eq_true rfl⟩) (fun H locs hP hD hS => ?_)
  have hP : va_P G vwCl [(a_0, fv a_text a_window a_trial a_past a_firstSlot a_secondSlot a_equations a_looks), (a_equations, ev a_equations_terms r_2.1), (a_equations_terms, av_J cy 64 r_2.2), (a_window, wv s_window)] H := hP
  have hD : va_D A [(a_0, fv a_text a_window a_trial a_past a_firstSlot a_secondSlot a_equations a_looks), (a_equations, ev a_equations_terms r_2.1), (a_equations_terms, av_J cy 64 r_2.2), (a_window, wv s_window)] := hD
  refine lv_aload_n hx hb dX5_befores_15 rfl (lv_at hl 0 rfl) ?_
  refine va_get (D := G) (ci := 5) (v := .ref a_equations) (C := RX5) (T := TX5) (N := 8) hx hb hts iw_X5_befores_X5 hown hK hP 0 rfl rfl 6 (by decide) (hts (.fieldLink RX5 46 "PaneFrost" "equations" "LPaneFrost$Equations;") (by decide +kernel)) (fun _ h9 => h9) rfl dX5_befores_16 ?_
  refine kc_i (w1 := [(a_equations, ev a_equations_terms r_2.1)]) (wr := [(a_0, fv a_text a_window a_trial a_past a_firstSlot a_secondSlot a_equations a_looks), (a_equations_terms, av_J cy 64 r_2.2), (a_window, wv s_window)]) hP hD hS hA [1] [0, 2, 3] rfl rfl rfl (by decide) (va_runV (As := []) (rest := []) ⟨hx, hb, hml, hown, hts⟩ (c_X0_isSolved (l := l) G cy a_equations a_equations_terms H.size r_2.1  (f_X0_isSolved r_2.1) rfl) (cwV 0 hts gX5_befores_X0_isSolved rfl rfl rfl ddV_X0_isSolved ⟨Nat.le_of_ble_eq_true rfl, Nat.le_of_ble_eq_true rfl⟩) (preV_ (ci := 0) (q0 := 0) rfl rfl (hP.sub (ws' := [(a_equations, ev a_equations_terms r_2.1)]) [1] rfl) hK (hD.sub (ws' := [(a_equations, ev a_equations_terms r_2.1)]) [1] rfl rfl) hN) rfl rfl hl.1 rfl (lv_room (Nat.le_of_ble_eq_true rfl)) dX5_befores_19 ⟨Nat.le_of_ble_eq_true rfl, Nat.le_of_ble_eq_true rfl⟩) (fun H locs hP hD hS => ?_)
  have hP : va_P G vwCl [(a_0, fv a_text a_window a_trial a_past a_firstSlot a_secondSlot a_equations a_looks), (a_equations_terms, av_J cy 64 r_2.2), (a_window, wv s_window), (a_equations, ev a_equations_terms r_2.1)] H := hP
  have hD : va_D A [(a_0, fv a_text a_window a_trial a_past a_firstSlot a_secondSlot a_equations a_looks), (a_equations_terms, av_J cy 64 r_2.2), (a_window, wv s_window), (a_equations, ev a_equations_terms r_2.1)] := hD
  refine lv_if_eq (tgt := 35) hx hb dX5_befores_22 (by decide) (fun h_3 => ?_) (fun h_3 => ?_)
  · have hf := in_ (bI_0 h_3) hf
    refine lv_iconst (v := (-1)) hx hb dX5_befores_35 (by decide) ?_
    exact kr_iX (u := ((-1), r_2.1, r_2.2)) hx hb hr hlocks ((Option.some.inj hf).symm) (hP.sub (ws' := [(a_0, fv a_text a_window a_trial a_past a_firstSlot a_secondSlot a_equations a_looks), (a_window, wv s_window), (a_equations, ev a_equations_terms r_2.1), (a_equations_terms, av_J cy 64 r_2.2)]) [0, 2, 3, 1] rfl) hK (hD.sub (ws' := [(a_0, fv a_text a_window a_trial a_past a_firstSlot a_secondSlot a_equations a_looks), (a_window, wv s_window), (a_equations, ev a_equations_terms r_2.1), (a_equations_terms, av_J cy 64 r_2.2)]) [0, 2, 3, 1] rfl rfl) hN hS hS.2.2 dX5_befores_36
  · have hf := ip_ (bI_n0 h_3) hf
    refine lv_aload_n hx hb dX5_befores_25 rfl (lv_at hl 0 rfl) ?_
    refine va_get (D := G) (ci := 5) (v := .ref a_equations) (C := RX5) (T := TX5) (N := 8) hx hb hts iw_X5_befores_X5 hown hK hP 0 rfl rfl 6 (by decide) (hts (.fieldLink RX5 46 "PaneFrost" "equations" "LPaneFrost$Equations;") (by decide +kernel)) (fun _ h9 => h9) rfl dX5_befores_26 ?_
    refine kc_i (w1 := [(a_equations, ev a_equations_terms r_2.1)]) (wr := [(a_0, fv a_text a_window a_trial a_past a_firstSlot a_secondSlot a_equations a_looks), (a_equations_terms, av_J cy 64 r_2.2), (a_window, wv s_window)]) hP hD hS hA [3] [0, 1, 2] rfl rfl rfl (by decide) (va_runV (As := []) (rest := []) ⟨hx, hb, hml, hown, hts⟩ (c_X0_free (l := l) G cy a_equations a_equations_terms H.size r_2.1  (f_X0_free r_2.1) rfl) (cwV 0 hts gX5_befores_X0_free rfl rfl rfl ddV_X0_free ⟨Nat.le_of_ble_eq_true rfl, Nat.le_of_ble_eq_true rfl⟩) (preV_ (ci := 0) (q0 := 0) rfl rfl (hP.sub (ws' := [(a_equations, ev a_equations_terms r_2.1)]) [3] rfl) hK (hD.sub (ws' := [(a_equations, ev a_equations_terms r_2.1)]) [3] rfl rfl) hN) rfl rfl hl.1 rfl (lv_room (Nat.le_of_ble_eq_true rfl)) dX5_befores_29 ⟨Nat.le_of_ble_eq_true rfl, Nat.le_of_ble_eq_true rfl⟩) (fun H locs hP hD hS => ?_)
    have hP : va_P G vwCl [(a_0, fv a_text a_window a_trial a_past a_firstSlot a_secondSlot a_equations a_looks), (a_equations_terms, av_J cy 64 r_2.2), (a_window, wv s_window), (a_equations, ev a_equations_terms r_2.1)] H := hP
    have hD : va_D A [(a_0, fv a_text a_window a_trial a_past a_firstSlot a_secondSlot a_equations a_looks), (a_equations_terms, av_J cy 64 r_2.2), (a_window, wv s_window), (a_equations, ev a_equations_terms r_2.1)] := hD
    refine lv_goto (tgt := 36) hx hb dX5_befores_32 (by decide) ?_
    exact kr_iX (u := ((f_X0_free r_2.1), r_2.1, r_2.2)) hx hb hr hlocks ((Option.some.inj hf).symm) (hP.sub (ws' := [(a_0, fv a_text a_window a_trial a_past a_firstSlot a_secondSlot a_equations a_looks), (a_window, wv s_window), (a_equations, ev a_equations_terms r_2.1), (a_equations_terms, av_J cy 64 r_2.2)]) [0, 2, 3, 1] rfl) hK (hD.sub (ws' := [(a_0, fv a_text a_window a_trial a_past a_firstSlot a_secondSlot a_equations a_looks), (a_window, wv s_window), (a_equations, ev a_equations_terms r_2.1), (a_equations_terms, av_J cy 64 r_2.2)]) [0, 2, 3, 1] rfl rfl) hN hS hS.2.2 dX5_befores_36
set_option maxHeartbeats 4000000 in
set_option maxRecDepth 100000 in
theorem c_X5_before {l : Launch} (hfl : l.stackTraces = false) (G : va_G) (cy : Nat → ClassId) (a_0 : Nat) (a_text : Nat) (a_window : Nat) (a_trial : Nat) (a_past : Nat) (a_firstSlot : Nat) (a_secondSlot : Nat) (a_equations : Nat) (a_equations_terms : Nat) (a_looks : Nat) (sz : Nat) (s_window : WT) (s_equations : ET) (g_equations_terms : Nat → Int64) (n : Nat) (R : Nat ⊕ (Int64 × ET × (Nat → Int64))) (hf : f_X5_before n s_window s_equations g_equations_terms = some R) : vx_Met l yX5_before wsX5_before ({ frames := 8, cells := 1, slots := 6, locals := 143 } : Room) (va_Pc [.ref a_0] (pcX G cy [(a_0, fv a_text a_window a_trial a_past a_firstSlot a_secondSlot a_equations a_looks), (a_window, wv s_window), (a_equations, ev a_equations_terms s_equations), (a_equations_terms, av_J cy 64 g_equations_terms)] sz)) (va_Ql (fun r (u : Int64 × ET × (Nat → Int64)) => R = .inr u ∧ r = u.1) (fun u t => Wd G cy (va_A [(a_0, fv a_text a_window a_trial a_past a_firstSlot a_secondSlot a_equations a_looks), (a_window, wv s_window), (a_equations, ev a_equations_terms s_equations), (a_equations_terms, av_J cy 64 g_equations_terms)] sz) [(a_0, fv a_text a_window a_trial a_past a_firstSlot a_secondSlot a_equations a_looks), (a_window, wv s_window), (a_equations, ev a_equations_terms u.2.1), (a_equations_terms, av_J cy 64 u.2.2)] t) (va_A [(a_0, fv a_text a_window a_trial a_past a_firstSlot a_secondSlot a_equations a_looks), (a_window, wv s_window), (a_equations, ev a_equations_terms s_equations), (a_equations_terms, av_J cy 64 g_equations_terms)] sz)) (vx_X (fun u : Nat => R = .inl u) (fun E u t => E = exN u ∧ va_P G vwCl [(a_0, fv a_text a_window a_trial a_past a_firstSlot a_secondSlot a_equations a_looks), (a_window, wv s_window), (a_equations, ev a_equations_terms s_equations), (a_equations_terms, av_J cy 64 g_equations_terms)] t.heap ∧ va_D (va_A [(a_0, fv a_text a_window a_trial a_past a_firstSlot a_secondSlot a_equations a_looks), (a_window, wv s_window), (a_equations, ev a_equations_terms s_equations), (a_equations_terms, av_J cy 64 g_equations_terms)] sz) [(a_0, fv a_text a_window a_trial a_past a_firstSlot a_secondSlot a_equations a_looks), (a_window, wv s_window), (a_equations, ev a_equations_terms s_equations), (a_equations_terms, av_J cy 64 g_equations_terms)]) (va_A [(a_0, fv a_text a_window a_trial a_past a_firstSlot a_secondSlot a_equations a_looks), (a_window, wv s_window), (a_equations, ev a_equations_terms s_equations), (a_equations_terms, av_J cy 64 g_equations_terms)] sz)) 1 6 (va_A [(a_0, fv a_text a_window a_trial a_past a_firstSlot a_secondSlot a_equations a_looks), (a_window, wv s_window), (a_equations, ev a_equations_terms s_equations), (a_equations_terms, av_J cy 64 g_equations_terms)] sz) := by
  refine vx_ofW (cc := cX5_before) (maxL := 1) (ret := (some .long)) (by decide) rfl ?_
  intro p e s m args below meth c s₁ B hml hnt hv
  obtain ⟨rfl, ⟨hsz, hP, hK, hD0, hN⟩, hE⟩ := hv
  have hx := B.exec
  have hb := B.bytes
  have hr := B.returns
  have hts := atoms_spec (ws := wsX5_before) B.pre
  have hown : s.vm.findClass RX5 = some m.cls := findClass_of_methodNamed B.named
  have hlocks := B.notSynchronized
  subst hsz
  have hD := hD0.self (sz := s.heap.size)
  generalize hAe : va_A [(a_0, fv a_text a_window a_trial a_past a_firstSlot a_secondSlot a_equations a_looks), (a_window, wv s_window), (a_equations, ev a_equations_terms s_equations), (a_equations_terms, av_J cy 64 g_equations_terms)] s.heap.size = A at hD hE ⊢
  have hA : ∀ q : Nat, s.heap.size ≤ q → A q := fun q h => by rw [← hAe]; exact Or.inr h
  have hS : va_S A s.heap s.heap [] := va_S.rf
  have hP : va_P G vwCl [(a_0, fv a_text a_window a_trial a_past a_firstSlot a_secondSlot a_equations a_looks), (a_window, wv s_window), (a_equations, ev a_equations_terms s_equations), (a_equations_terms, av_J cy 64 g_equations_terms)] s.heap := hP
  have hl := lv_entry [.ref a_0] (n := 1) (Nat.le_of_ble_eq_true rfl)
  rw [lg_entry_eq]
  generalize (lg_sl [.ref a_0] ++ List.replicate (1 - (lg_sl [.ref a_0]).length) Slot.unset).toArray = ls at hl ⊢
  have hl : lv_has ls 1 [(0, .ref a_0)] := hl
  unfold f_X5_before at hf
  refine lv_aload_n hx hb dX5_before_0 rfl (lv_at hl 0 rfl) ?_
  obtain ⟨r_1, hh_r_1, hf⟩ := obx_some hf
  refine kx_v (w1 := fun (_ : Unit) => [(a_0, fv a_text a_window a_trial a_past a_firstSlot a_secondSlot a_equations a_looks), (a_window, wv s_window)]) (wr := [(a_equations, ev a_equations_terms s_equations), (a_equations_terms, av_J cy 64 g_equations_terms)]) hP hD hS hA [0, 1] [2, 3] rfl rfl rfl (by decide) (vx_runV (As := []) (rest := []) ⟨hx, hb, hml, hown, hts⟩ (c_X5_needLinearRule (l := l) hfl G cy a_0 a_text a_window a_trial a_past a_firstSlot a_secondSlot a_equations a_looks s.heap.size s_window  r_1 hh_r_1) (cwV 0 hts gX5_before_X5_needLinearRule rfl rfl rfl ddV_X5_needLinearRule ⟨Nat.le_of_ble_eq_true rfl, Nat.le_of_ble_eq_true rfl⟩) (preVX (ci := 5) (q0 := 0) rfl rfl (hE.kept hS.2.1) (va_free hD hS hA (wc := [(a_0, fv a_text a_window a_trial a_past a_firstSlot a_secondSlot a_equations a_looks), (a_window, wv s_window)]) [0, 1] rfl) (hP.sub (ws' := [(a_0, fv a_text a_window a_trial a_past a_firstSlot a_secondSlot a_equations a_looks), (a_window, wv s_window)]) [0, 1] rfl) hK (hD.sub (ws' := [(a_0, fv a_text a_window a_trial a_past a_firstSlot a_secondSlot a_equations a_looks), (a_window, wv s_window)]) [0, 1] rfl rfl) hN) rfl rfl hl.1 rfl (lv_room (Nat.le_of_ble_eq_true rfl)) dX5_before_1 ⟨Nat.le_of_ble_eq_true rfl, Nat.le_of_ble_eq_true rfl⟩) (fun u ce q9 H locs hz hP hD hS hc1 hc2 hc3 => ?_) (fun u_1 H locs hz hP hD hS => ?_)
  · subst hz
    have hP : va_P G vwCl [(a_equations, ev a_equations_terms s_equations), (a_equations_terms, av_J cy 64 g_equations_terms), (a_0, fv a_text a_window a_trial a_past a_firstSlot a_secondSlot a_equations a_looks), (a_window, wv s_window)] H := hP
    have hD : va_D A [(a_equations, ev a_equations_terms s_equations), (a_equations_terms, av_J cy 64 g_equations_terms), (a_0, fv a_text a_window a_trial a_past a_firstSlot a_secondSlot a_equations a_looks), (a_window, wv s_window)] := hD
    exact vx_widen (k := 1) (n := 6) (Nat.le_of_ble_eq_true rfl) (Nat.le_of_ble_eq_true rfl) (kx_out u hnt hlocks (obx_l hf) (hP.sub (ws' := [(a_0, fv a_text a_window a_trial a_past a_firstSlot a_secondSlot a_equations a_looks), (a_window, wv s_window), (a_equations, ev a_equations_terms s_equations), (a_equations_terms, av_J cy 64 g_equations_terms)]) [2, 3, 0, 1] rfl) hK (hD.sub (ws' := [(a_0, fv a_text a_window a_trial a_past a_firstSlot a_secondSlot a_equations a_looks), (a_window, wv s_window), (a_equations, ev a_equations_terms s_equations), (a_equations_terms, av_J cy 64 g_equations_terms)]) [2, 3, 0, 1] rfl rfl) hN hS hc1 hc2 hc3 (Nat.le_refl _) (Nat.le_refl _))
  subst hz
  have hf := obx_r hf
  have hP : va_P G vwCl [(a_equations, ev a_equations_terms s_equations), (a_equations_terms, av_J cy 64 g_equations_terms), (a_0, fv a_text a_window a_trial a_past a_firstSlot a_secondSlot a_equations a_looks), (a_window, wv s_window)] H := hP
  have hD : va_D A [(a_equations, ev a_equations_terms s_equations), (a_equations_terms, av_J cy 64 g_equations_terms), (a_0, fv a_text a_window a_trial a_past a_firstSlot a_secondSlot a_equations a_looks), (a_window, wv s_window)] := hD
  refine lv_aload_n hx hb dX5_before_4 rfl (lv_at hl 0 rfl) ?_
  refine va_get (D := G) (ci := 5) (v := .ref a_equations) (C := RX5) (T := TX5) (N := 8) hx hb hts iw_X5_before_X5 hown hK hP 2 rfl rfl 6 (by decide) (hts (.fieldLink RX5 46 "PaneFrost" "equations" "LPaneFrost$Equations;") (by decide +kernel)) (fun _ h9 => h9) rfl dX5_before_5 ?_
  refine lv_aload_n hx hb dX5_before_8 rfl (lv_at hl 0 rfl) ?_
  refine va_get (D := G) (ci := 5) (v := .ref a_window) (C := RX5) (T := TX5) (N := 8) hx hb hts iw_X5_before_X5 hown hK hP 2 rfl rfl 1 (by decide) (hts (.fieldLink RX5 19 "PaneFrost" "window" "LPaneFrost$Window;") (by decide +kernel)) (fun _ h9 => h9) rfl dX5_before_9 ?_
  obtain ⟨r_2, hh_r_2, hf⟩ := obd_some hf
  refine kc_v (w1 := [(a_equations, ev a_equations_terms r_2.1), (a_equations_terms, av_J cy 64 r_2.2), (a_window, wv s_window)]) (wr := [(a_0, fv a_text a_window a_trial a_past a_firstSlot a_secondSlot a_equations a_looks)]) hP hD hS hA [0, 1, 3] [2] rfl rfl rfl (by decide) (va_runV (As := [.ref a_window]) (rest := []) ⟨hx, hb, hml, hown, hts⟩ (c_X0_solve (l := l) G cy a_equations a_equations_terms a_window H.size s_equations g_equations_terms s_window n r_2 hh_r_2) (cwV 1 hts gX5_before_X0_solve rfl rfl rfl ddV_X0_solve ⟨Nat.le_of_ble_eq_true rfl, Nat.le_of_ble_eq_true rfl⟩) (preV_ (ci := 0) (q0 := 0) rfl rfl (hP.sub (ws' := [(a_equations, ev a_equations_terms s_equations), (a_equations_terms, av_J cy 64 g_equations_terms), (a_window, wv s_window)]) [0, 1, 3] rfl) hK (hD.sub (ws' := [(a_equations, ev a_equations_terms s_equations), (a_equations_terms, av_J cy 64 g_equations_terms), (a_window, wv s_window)]) [0, 1, 3] rfl rfl) hN) rfl rfl hl.1 rfl (lv_room (Nat.le_of_ble_eq_true rfl)) dX5_before_12 ⟨Nat.le_of_ble_eq_true rfl, Nat.le_of_ble_eq_true rfl⟩) (fun H locs hP hD hS => ?_)
  have hP : va_P G vwCl [(a_0, fv a_text a_window a_trial a_past a_firstSlot a_secondSlot a_equations a_looks), (a_equations, ev a_equations_terms r_2.1), (a_equations_terms, av_J cy 64 r_2.2), (a_window, wv s_window)] H := hP
  have hD : va_D A [(a_0, fv a_text a_window a_trial a_past a_firstSlot a_secondSlot a_equations a_looks), (a_equations, ev a_equations_terms r_2.1), (a_equations_terms, av_J cy 64 r_2.2), (a_window, wv s_window)] := hD
  refine lv_aload_n hx hb dX5_before_15 rfl (lv_at hl 0 rfl) ?_
  refine va_get (D := G) (ci := 5) (v := .ref a_equations) (C := RX5) (T := TX5) (N := 8) hx hb hts iw_X5_before_X5 hown hK hP 0 rfl rfl 6 (by decide) (hts (.fieldLink RX5 46 "PaneFrost" "equations" "LPaneFrost$Equations;") (by decide +kernel)) (fun _ h9 => h9) rfl dX5_before_16 ?_
  refine kc_i (w1 := [(a_equations, ev a_equations_terms r_2.1)]) (wr := [(a_0, fv a_text a_window a_trial a_past a_firstSlot a_secondSlot a_equations a_looks), (a_equations_terms, av_J cy 64 r_2.2), (a_window, wv s_window)]) hP hD hS hA [1] [0, 2, 3] rfl rfl rfl (by decide) (va_runV (As := []) (rest := []) ⟨hx, hb, hml, hown, hts⟩ (c_X0_isSolved (l := l) G cy a_equations a_equations_terms H.size r_2.1  (f_X0_isSolved r_2.1) rfl) (cwV 0 hts gX5_before_X0_isSolved rfl rfl rfl ddV_X0_isSolved ⟨Nat.le_of_ble_eq_true rfl, Nat.le_of_ble_eq_true rfl⟩) (preV_ (ci := 0) (q0 := 0) rfl rfl (hP.sub (ws' := [(a_equations, ev a_equations_terms r_2.1)]) [1] rfl) hK (hD.sub (ws' := [(a_equations, ev a_equations_terms r_2.1)]) [1] rfl rfl) hN) rfl rfl hl.1 rfl (lv_room (Nat.le_of_ble_eq_true rfl)) dX5_before_19 ⟨Nat.le_of_ble_eq_true rfl, Nat.le_of_ble_eq_true rfl⟩) (fun H locs hP hD hS => ?_)
  have hP : va_P G vwCl [(a_0, fv a_text a_window a_trial a_past a_firstSlot a_secondSlot a_equations a_looks), (a_equations_terms, av_J cy 64 r_2.2), (a_window, wv s_window), (a_equations, ev a_equations_terms r_2.1)] H := hP
  have hD : va_D A [(a_0, fv a_text a_window a_trial a_past a_firstSlot a_secondSlot a_equations a_looks), (a_equations_terms, av_J cy 64 r_2.2), (a_window, wv s_window), (a_equations, ev a_equations_terms r_2.1)] := hD
  refine lv_if_eq (tgt := 35) hx hb dX5_before_22 (by decide) (fun h_3 => ?_) (fun h_3 => ?_)
  · have hf := in_ (bI_0 h_3) hf
    refine lv_lconst (v := 0) hx hb dX5_before_35 rfl ?_
    exact kr_lX (u := (0, r_2.1, r_2.2)) hx hb hr hlocks ((Option.some.inj hf).symm) (hP.sub (ws' := [(a_0, fv a_text a_window a_trial a_past a_firstSlot a_secondSlot a_equations a_looks), (a_window, wv s_window), (a_equations, ev a_equations_terms r_2.1), (a_equations_terms, av_J cy 64 r_2.2)]) [0, 2, 3, 1] rfl) hK (hD.sub (ws' := [(a_0, fv a_text a_window a_trial a_past a_firstSlot a_secondSlot a_equations a_looks), (a_window, wv s_window), (a_equations, ev a_equations_terms r_2.1), (a_equations_terms, av_J cy 64 r_2.2)]) [0, 2, 3, 1] rfl rfl) hN hS hS.2.2 dX5_before_36
  · have hf := ip_ (bI_n0 h_3) hf
    refine lv_aload_n hx hb dX5_before_25 rfl (lv_at hl 0 rfl) ?_
    refine va_get (D := G) (ci := 5) (v := .ref a_equations) (C := RX5) (T := TX5) (N := 8) hx hb hts iw_X5_before_X5 hown hK hP 0 rfl rfl 6 (by decide) (hts (.fieldLink RX5 46 "PaneFrost" "equations" "LPaneFrost$Equations;") (by decide +kernel)) (fun _ h9 => h9) rfl dX5_before_26 ?_
    obtain ⟨r_4, hh_r_4, hf⟩ := obd_some hf
    refine kc_l (w1 := [(a_equations, ev a_equations_terms r_2.1), (a_equations_terms, av_J cy 64 r_2.2)]) (wr := [(a_0, fv a_text a_window a_trial a_past a_firstSlot a_secondSlot a_equations a_looks), (a_window, wv s_window)]) hP hD hS hA [3, 1] [0, 2] rfl rfl rfl (by decide) (va_runV (As := []) (rest := []) ⟨hx, hb, hml, hown, hts⟩ (c_X0_leastSolution (l := l) G cy a_equations a_equations_terms H.size r_2.1 r_2.2 n r_4 hh_r_4) (cwV 0 hts gX5_before_X0_leastSolution rfl rfl rfl ddV_X0_leastSolution ⟨Nat.le_of_ble_eq_true rfl, Nat.le_of_ble_eq_true rfl⟩) (preV_ (ci := 0) (q0 := 0) rfl rfl (hP.sub (ws' := [(a_equations, ev a_equations_terms r_2.1), (a_equations_terms, av_J cy 64 r_2.2)]) [3, 1] rfl) hK (hD.sub (ws' := [(a_equations, ev a_equations_terms r_2.1), (a_equations_terms, av_J cy 64 r_2.2)]) [3, 1] rfl rfl) hN) rfl rfl hl.1 rfl (lv_room (Nat.le_of_ble_eq_true rfl)) dX5_before_29 ⟨Nat.le_of_ble_eq_true rfl, Nat.le_of_ble_eq_true rfl⟩) (fun H locs hP hD hS => ?_)
    have hP : va_P G vwCl [(a_0, fv a_text a_window a_trial a_past a_firstSlot a_secondSlot a_equations a_looks), (a_window, wv s_window), (a_equations, ev a_equations_terms r_2.1), (a_equations_terms, av_J cy 64 r_2.2)] H := hP
    have hD : va_D A [(a_0, fv a_text a_window a_trial a_past a_firstSlot a_secondSlot a_equations a_looks), (a_window, wv s_window), (a_equations, ev a_equations_terms r_2.1), (a_equations_terms, av_J cy 64 r_2.2)] := hD
    refine lv_goto (tgt := 36) hx hb dX5_before_32 (by decide) ?_
    exact kr_lX (u := (r_4, r_2.1, r_2.2)) hx hb hr hlocks ((Option.some.inj hf).symm) hP hK hD hN hS hS.2.2 dX5_before_36
set_option maxHeartbeats 4000000 in
set_option maxRecDepth 100000 in
theorem c_X5_freezesIn {l : Launch} (hfl : l.stackTraces = false) (G : va_G) (cy : Nat → ClassId) (a_0 : Nat) (a_text : Nat) (a_window : Nat) (a_trial : Nat) (a_past : Nat) (a_firstSlot : Nat) (a_secondSlot : Nat) (a_equations : Nat) (a_looks : Nat) (sz : Nat) (s_window : WT) (x1 : Int32) (n : Nat) (R : Nat ⊕ (Int32)) (hf : f_X5_freezesIn n s_window x1 = some R) : vx_Met l yX5_freezesIn wsX5_freezesIn ({ frames := 8, cells := 1, slots := 6, locals := 121 } : Room) (va_Pc [.ref a_0, .int x1] (pcX G cy [(a_0, fv a_text a_window a_trial a_past a_firstSlot a_secondSlot a_equations a_looks), (a_window, wv s_window)] sz)) (va_Qi (fun r (u : Int32) => R = .inr u ∧ r = u) (fun u t => Wd G cy (va_A [(a_0, fv a_text a_window a_trial a_past a_firstSlot a_secondSlot a_equations a_looks), (a_window, wv s_window)] sz) [(a_0, fv a_text a_window a_trial a_past a_firstSlot a_secondSlot a_equations a_looks), (a_window, wv s_window)] t) (va_A [(a_0, fv a_text a_window a_trial a_past a_firstSlot a_secondSlot a_equations a_looks), (a_window, wv s_window)] sz)) (vx_X (fun u : Nat => R = .inl u) (fun E u t => E = exN u ∧ va_P G vwCl [(a_0, fv a_text a_window a_trial a_past a_firstSlot a_secondSlot a_equations a_looks), (a_window, wv s_window)] t.heap ∧ va_D (va_A [(a_0, fv a_text a_window a_trial a_past a_firstSlot a_secondSlot a_equations a_looks), (a_window, wv s_window)] sz) [(a_0, fv a_text a_window a_trial a_past a_firstSlot a_secondSlot a_equations a_looks), (a_window, wv s_window)]) (va_A [(a_0, fv a_text a_window a_trial a_past a_firstSlot a_secondSlot a_equations a_looks), (a_window, wv s_window)] sz)) 1 6 (va_A [(a_0, fv a_text a_window a_trial a_past a_firstSlot a_secondSlot a_equations a_looks), (a_window, wv s_window)] sz) := by
  refine vx_ofW (cc := cX5_freezesIn) (maxL := 5) (ret := (some .int)) (by decide) rfl ?_
  intro p e s m args below meth c s₁ B hml hnt hv
  obtain ⟨rfl, ⟨hsz, hP, hK, hD0, hN⟩, hE⟩ := hv
  have hx := B.exec
  have hb := B.bytes
  have hr := B.returns
  have hts := atoms_spec (ws := wsX5_freezesIn) B.pre
  have hown : s.vm.findClass RX5 = some m.cls := findClass_of_methodNamed B.named
  have hlocks := B.notSynchronized
  subst hsz
  have hD := hD0.self (sz := s.heap.size)
  generalize hAe : va_A [(a_0, fv a_text a_window a_trial a_past a_firstSlot a_secondSlot a_equations a_looks), (a_window, wv s_window)] s.heap.size = A at hD hE ⊢
  have hA : ∀ q : Nat, s.heap.size ≤ q → A q := fun q h => by rw [← hAe]; exact Or.inr h
  have hS : va_S A s.heap s.heap [] := va_S.rf
  have hP : va_P G vwCl [(a_0, fv a_text a_window a_trial a_past a_firstSlot a_secondSlot a_equations a_looks), (a_window, wv s_window)] s.heap := hP
  have bl_16 : ∀ (y1 : Int32), ∀ (k : Nat), ∀ (y2 : Int64) (y4 : Int32) (H : Heap) (locs : List Loc), f_X5_freezesIn_b16 n s_window y1 k y2 y4 = some R → va_P G vwCl [(a_0, fv a_text a_window a_trial a_past a_firstSlot a_secondSlot a_equations a_looks), (a_window, wv s_window)] H → va_D A [(a_0, fv a_text a_window a_trial a_past a_firstSlot a_secondSlot a_equations a_looks), (a_window, wv s_window)] → va_S A s.heap H locs → ∀ (ls : Array Slot), lv_has ls 5 [(0, .ref a_0), (1, .int y1), (2, .long y2), (4, .int y4)] → W p l e ({ frames := 8, cells := 1, slots := 6, locals := 121 } : Room) s m [.ref a_0, .int x1].toArray below meth c H locs 1 6 (vx_MQ below (va_Qi (fun r (u : Int32) => R = .inr u ∧ r = u) (fun u t => Wd G cy A [(a_0, fv a_text a_window a_trial a_past a_firstSlot a_secondSlot a_equations a_looks), (a_window, wv s_window)] t) A) (vx_X (fun u : Nat => R = .inl u) (fun E u t => E = exN u ∧ va_P G vwCl [(a_0, fv a_text a_window a_trial a_past a_firstSlot a_secondSlot a_equations a_looks), (a_window, wv s_window)] t.heap ∧ va_D A [(a_0, fv a_text a_window a_trial a_past a_firstSlot a_secondSlot a_equations a_looks), (a_window, wv s_window)]) A) [.ref a_0, .int x1].toArray s 1 6 A) (F0 m 16 ls []) := by
    intro y1
    intro k
    induction k with
    | zero =>
      intro y2 y4 H locs hf; cases hf
    | succ k ih =>
      intro y2 y4 H locs hf hP hD hS ls hl
      have hf := (f_X5_freezesIn_b16_s n s_window y1 k y2 y4).symm.trans hf
      refine lv_iload hx hb dX5_freezesIn_16 (lv_at hl 3 rfl) ?_
      refine lv_bipush (v := 100) hx hb dX5_freezesIn_18 (by decide) ?_
      refine lv_icmp_gt (tgt := 49) hx hb dX5_freezesIn_20 (by decide) (fun h_1 => ?_) (fun h_1 => ?_)
      · have hf := ip_ h_1 hf
        refine lv_iconst (v := (-1)) hx hb dX5_freezesIn_49 (by decide) ?_
        exact kr_iX (u := (-1)) hx hb hr hlocks ((Option.some.inj hf).symm) hP hK hD hN hS hS.2.2 dX5_freezesIn_50
      · have hf := in_ h_1 hf
        refine lv_lload_n hx hb dX5_freezesIn_23 rfl (lv_at hl 2 rfl) ?_
        refine lv_iload_n hx hb dX5_freezesIn_24 rfl (lv_at hl 1 rfl) ?_
        refine kc_i (w1 := []) (wr := [(a_0, fv a_text a_window a_trial a_past a_firstSlot a_secondSlot a_equations a_looks), (a_window, wv s_window)]) hP hD hS hA [] [0, 1] rfl rfl rfl (by decide) (va_runS (As := [.long y2, .int y1]) (rest := []) ⟨hx, hb, hml, hown, hts⟩ (c_X5_holds (l := l) G cy  H.size y2 y1  (f_X5_holds y2 y1) rfl) (va_cwS 2 hts gX5_freezesIn_X5_holds rfl rfl rfl ddN_X5_holds ⟨Nat.le_of_ble_eq_true rfl, Nat.le_of_ble_eq_true rfl⟩) (preS_ (hP.sub (ws' := []) [] rfl) hK (hD.sub (ws' := []) [] rfl rfl) hN) rfl rfl hl.1 rfl (lv_room (Nat.le_of_ble_eq_true rfl)) dX5_freezesIn_25 ⟨Nat.le_of_ble_eq_true rfl, Nat.le_of_ble_eq_true rfl⟩) (fun H locs hP hD hS => ?_)
        have hP : va_P G vwCl [(a_0, fv a_text a_window a_trial a_past a_firstSlot a_secondSlot a_equations a_looks), (a_window, wv s_window)] H := hP
        have hD : va_D A [(a_0, fv a_text a_window a_trial a_past a_firstSlot a_secondSlot a_equations a_looks), (a_window, wv s_window)] := hD
        refine lv_if_eq (tgt := 34) hx hb dX5_freezesIn_28 (by decide) (fun h_2 => ?_) (fun h_2 => ?_)
        · have hf := in_ (bI_0 h_2) hf
          refine lv_aload_n hx hb dX5_freezesIn_34 rfl (lv_at hl 0 rfl) ?_
          refine va_get (D := G) (ci := 5) (v := .ref a_window) (C := RX5) (T := TX5) (N := 8) hx hb hts iw_X5_freezesIn_X5 hown hK hP 0 rfl rfl 1 (by decide) (hts (.fieldLink RX5 19 "PaneFrost" "window" "LPaneFrost$Window;") (by decide +kernel)) (fun _ h9 => h9) rfl dX5_freezesIn_35 ?_
          refine lv_lload_n hx hb dX5_freezesIn_38 rfl (lv_at hl 2 rfl) ?_
          refine kc_l (w1 := [(a_window, wv s_window)]) (wr := [(a_0, fv a_text a_window a_trial a_past a_firstSlot a_secondSlot a_equations a_looks)]) hP hD hS hA [1] [0] rfl rfl rfl (by decide) (va_runV (As := [.long y2]) (rest := []) ⟨hx, hb, hml, hown, hts⟩ (c_X4_after (l := l) G cy a_window H.size s_window y2  (f_X4_after s_window y2) rfl) (cwV 1 hts gX5_freezesIn_X4_after rfl rfl rfl ddV_X4_after ⟨Nat.le_of_ble_eq_true rfl, Nat.le_of_ble_eq_true rfl⟩) (preV_ (ci := 4) (q0 := 0) rfl rfl (hP.sub (ws' := [(a_window, wv s_window)]) [1] rfl) hK (hD.sub (ws' := [(a_window, wv s_window)]) [1] rfl rfl) hN) rfl rfl hl.1 rfl (lv_room (Nat.le_of_ble_eq_true rfl)) dX5_freezesIn_39 ⟨Nat.le_of_ble_eq_true rfl, Nat.le_of_ble_eq_true rfl⟩) (fun H locs hP hD hS => ?_)
          have hP : va_P G vwCl [(a_0, fv a_text a_window a_trial a_past a_firstSlot a_secondSlot a_equations a_looks), (a_window, wv s_window)] H := hP
          have hD : va_D A [(a_0, fv a_text a_window a_trial a_past a_firstSlot a_secondSlot a_equations a_looks), (a_window, wv s_window)] := hD
          refine lv_lstore_n (lv' := [(2, .long (f_X4_after s_window y2)), (0, .ref a_0), (1, .int y1), (4, .int y4)]) hx hb dX5_freezesIn_42 rfl hl (by decide) rfl (fun ls hl => ?_)
          refine lv_iinc (v := (y4 + 1)) (lv' := [(4, .int (y4 + 1)), (2, .long (f_X4_after s_window y2)), (0, .ref a_0), (1, .int y1)]) hx hb dX5_freezesIn_43 hl (k := 3) rfl rfl (by decide) rfl (fun ls hl => ?_)
          refine lv_goto (tgt := 16) hx hb dX5_freezesIn_46 (by decide) ?_
          exact ih (f_X4_after s_window y2) (y4 + 1) _ _ hf hP hD hS ls (lv_sub hl [2, 3, 1, 0] rfl)
        · have hf := ip_ (bI_n0 h_2) hf
          refine lv_iload hx hb dX5_freezesIn_31 (lv_at hl 3 rfl) ?_
          exact kr_iX (u := y4) hx hb hr hlocks ((Option.some.inj hf).symm) hP hK hD hN hS hS.2.2 dX5_freezesIn_33
  have hl := lv_entry [.ref a_0, .int x1] (n := 5) (Nat.le_of_ble_eq_true rfl)
  rw [lg_entry_eq]
  generalize (lg_sl [.ref a_0, .int x1] ++ List.replicate (5 - (lg_sl [.ref a_0, .int x1]).length) Slot.unset).toArray = ls at hl ⊢
  have hl : lv_has ls 5 [(0, .ref a_0), (1, .int x1)] := hl
  unfold f_X5_freezesIn at hf
  refine lv_aload_n hx hb dX5_freezesIn_0 rfl (lv_at hl 0 rfl) ?_
  refine lv_iload_n hx hb dX5_freezesIn_1 rfl (lv_at hl 1 rfl) ?_
  obtain ⟨r_3, hh_r_3, hf⟩ := obx_some hf
  refine kx_v (w1 := fun (_ : Unit) => [(a_0, fv a_text a_window a_trial a_past a_firstSlot a_secondSlot a_equations a_looks), (a_window, wv s_window)]) (wr := []) hP hD hS hA [0, 1] [] rfl rfl rfl (by decide) (vx_runV (As := [.int x1]) (rest := []) ⟨hx, hb, hml, hown, hts⟩ (c_X5_needCell (l := l) hfl G cy a_0 a_text a_window a_trial a_past a_firstSlot a_secondSlot a_equations a_looks s.heap.size s_window x1  r_3 hh_r_3) (cwV 1 hts gX5_freezesIn_X5_needCell rfl rfl rfl ddV_X5_needCell ⟨Nat.le_of_ble_eq_true rfl, Nat.le_of_ble_eq_true rfl⟩) (preVX (ci := 5) (q0 := 0) rfl rfl (hE.kept hS.2.1) (va_free hD hS hA (wc := [(a_0, fv a_text a_window a_trial a_past a_firstSlot a_secondSlot a_equations a_looks), (a_window, wv s_window)]) [0, 1] rfl) hP hK hD hN) rfl rfl hl.1 rfl (lv_room (Nat.le_of_ble_eq_true rfl)) dX5_freezesIn_2 ⟨Nat.le_of_ble_eq_true rfl, Nat.le_of_ble_eq_true rfl⟩) (fun u ce q9 H locs hz hP hD hS hc1 hc2 hc3 => ?_) (fun u_3 H locs hz hP hD hS => ?_)
  · subst hz
    have hP : va_P G vwCl [(a_0, fv a_text a_window a_trial a_past a_firstSlot a_secondSlot a_equations a_looks), (a_window, wv s_window)] H := hP
    have hD : va_D A [(a_0, fv a_text a_window a_trial a_past a_firstSlot a_secondSlot a_equations a_looks), (a_window, wv s_window)] := hD
    exact vx_widen (k := 1) (n := 6) (Nat.le_of_ble_eq_true rfl) (Nat.le_of_ble_eq_true rfl) (kx_out u hnt hlocks (obx_l hf) hP hK hD hN hS hc1 hc2 hc3 (Nat.le_refl _) (Nat.le_refl _))
  subst hz
  have hf := obx_r hf
  have hP : va_P G vwCl [(a_0, fv a_text a_window a_trial a_past a_firstSlot a_secondSlot a_equations a_looks), (a_window, wv s_window)] H := hP
  have hD : va_D A [(a_0, fv a_text a_window a_trial a_past a_firstSlot a_secondSlot a_equations a_looks), (a_window, wv s_window)] := hD
  refine lv_aload_n hx hb dX5_freezesIn_5 rfl (lv_at hl 0 rfl) ?_
  refine va_get (D := G) (ci := 5) (v := .ref a_window) (C := RX5) (T := TX5) (N := 8) hx hb hts iw_X5_freezesIn_X5 hown hK hP 0 rfl rfl 1 (by decide) (hts (.fieldLink RX5 19 "PaneFrost" "window" "LPaneFrost$Window;") (by decide +kernel)) (fun _ h9 => h9) rfl dX5_freezesIn_6 ?_
  refine va_get (D := G) (ci := 4) (v := .long (w_frozen s_window)) (C := RX4) (T := TX4) (N := 12) hx hb hts iw_X5_freezesIn_X4 hown hK hP 1 rfl rfl 4 (by decide) (hts (.fieldLink RX5 138 "PaneFrost$Window" "frozen" "J") (by decide +kernel)) (fun _ h9 => h9) rfl dX5_freezesIn_9 ?_
  refine lv_lstore_n (lv' := [(2, .long (w_frozen s_window)), (0, .ref a_0), (1, .int x1)]) hx hb dX5_freezesIn_12 rfl hl (by decide) rfl (fun ls hl => ?_)
  refine lv_iconst (v := 0) hx hb dX5_freezesIn_13 (by decide) ?_
  refine lv_istore (lv' := [(4, .int 0), (2, .long (w_frozen s_window)), (0, .ref a_0), (1, .int x1)]) hx hb dX5_freezesIn_14 hl (by decide) rfl (fun ls hl => ?_)
  exact bl_16 x1 n (w_frozen s_window) 0 _ _ hf hP hD hS ls (lv_sub hl [2, 3, 1, 0] rfl)
set_option maxHeartbeats 4000000 in
set_option maxRecDepth 100000 in
theorem c_X5_canBeTried {l : Launch} (G : va_G) (cy : Nat → ClassId) (a_0 : Nat) (a_text : Nat) (a_window : Nat) (a_trial : Nat) (a_past : Nat) (a_firstSlot : Nat) (a_secondSlot : Nat) (a_equations : Nat) (a_looks : Nat) (sz : Nat) (s_window : WT) (x1 : Int32) (x2 : Int32)  (R : Bool) (hf : f_X5_canBeTried s_window x1 x2 = R) : Met l yX5_canBeTried wsX5_canBeTried ({ frames := 4, cells := 0, slots := 0, locals := 87 } : Room) (va_Pc [.ref a_0, .int x1, .int x2] (pcW G cy [(a_0, fv a_text a_window a_trial a_past a_firstSlot a_secondSlot a_equations a_looks), (a_window, wv s_window)] sz)) (va_Qi (fun r (_ : Unit) => r = bI R) (fun _ t => Wd G cy (va_A [(a_0, fv a_text a_window a_trial a_past a_firstSlot a_secondSlot a_equations a_looks), (a_window, wv s_window)] sz) [(a_0, fv a_text a_window a_trial a_past a_firstSlot a_secondSlot a_equations a_looks), (a_window, wv s_window)] t) (va_A [(a_0, fv a_text a_window a_trial a_past a_firstSlot a_secondSlot a_equations a_looks), (a_window, wv s_window)] sz)) 0 0 (va_A [(a_0, fv a_text a_window a_trial a_past a_firstSlot a_secondSlot a_equations a_looks), (a_window, wv s_window)] sz) := by
  refine Met.ofW (cc := cX5_canBeTried) (maxL := 3) (ret := (some .boolean)) (by decide) rfl ?_
  intro p e s m args below meth c s₁ B hml hv
  obtain ⟨rfl, hsz, hP, hK, hD0, hN⟩ := hv
  have hx := B.exec
  have hb := B.bytes
  have hr := B.returns
  have hts := atoms_spec (ws := wsX5_canBeTried) B.pre
  have hown : s.vm.findClass RX5 = some m.cls := findClass_of_methodNamed B.named
  have hlocks := B.notSynchronized
  subst hsz
  have hD := hD0.self (sz := s.heap.size)
  generalize hAe : va_A [(a_0, fv a_text a_window a_trial a_past a_firstSlot a_secondSlot a_equations a_looks), (a_window, wv s_window)] s.heap.size = A at hD ⊢
  have hA : ∀ q : Nat, s.heap.size ≤ q → A q := fun q h => by rw [← hAe]; exact Or.inr h
  have hS : va_S A s.heap s.heap [] := va_S.rf
  have hP : va_P G vwCl [(a_0, fv a_text a_window a_trial a_past a_firstSlot a_secondSlot a_equations a_looks), (a_window, wv s_window)] s.heap := hP
  have hl := lv_entry [.ref a_0, .int x1, .int x2] (n := 3) (Nat.le_of_ble_eq_true rfl)
  rw [lg_entry_eq]
  generalize (lg_sl [.ref a_0, .int x1, .int x2] ++ List.replicate (3 - (lg_sl [.ref a_0, .int x1, .int x2]).length) Slot.unset).toArray = ls at hl ⊢
  have hl : lv_has ls 3 [(0, .ref a_0), (1, .int x1), (2, .int x2)] := hl
  unfold f_X5_canBeTried at hf
  refine lv_aload_n hx hb dX5_canBeTried_0 rfl (lv_at hl 0 rfl) ?_
  refine va_get (D := G) (ci := 5) (v := .ref a_window) (C := RX5) (T := TX5) (N := 8) hx hb hts iw_X5_canBeTried_X5 hown hK hP 0 rfl rfl 1 (by decide) (hts (.fieldLink RX5 19 "PaneFrost" "window" "LPaneFrost$Window;") (by decide +kernel)) (fun _ h9 => h9) rfl dX5_canBeTried_1 ?_
  refine lv_iload_n hx hb dX5_canBeTried_4 rfl (lv_at hl 1 rfl) ?_
  refine lv_iload_n hx hb dX5_canBeTried_5 rfl (lv_at hl 2 rfl) ?_
  refine kc_i (w1 := [(a_window, wv s_window)]) (wr := [(a_0, fv a_text a_window a_trial a_past a_firstSlot a_secondSlot a_equations a_looks)]) hP hD hS hA [1] [0] rfl rfl rfl (by decide) (va_runV (As := [.int x1, .int x2]) (rest := []) ⟨hx, hb, hml, hown, hts⟩ (c_X4_beside (l := l) G cy a_window s.heap.size s_window x1 x2  (f_X4_beside s_window x1 x2) rfl) (cwV 2 hts gX5_canBeTried_X4_beside rfl rfl rfl ddV_X4_beside ⟨Nat.le_of_ble_eq_true rfl, Nat.le_of_ble_eq_true rfl⟩) (preV_ (ci := 4) (q0 := 0) rfl rfl (hP.sub (ws' := [(a_window, wv s_window)]) [1] rfl) hK (hD.sub (ws' := [(a_window, wv s_window)]) [1] rfl rfl) hN) rfl rfl hl.1 rfl (lv_room (Nat.le_of_ble_eq_true rfl)) dX5_canBeTried_6 ⟨Nat.le_of_ble_eq_true rfl, Nat.le_of_ble_eq_true rfl⟩) (fun H locs hP hD hS => ?_)
  have hP : va_P G vwCl [(a_0, fv a_text a_window a_trial a_past a_firstSlot a_secondSlot a_equations a_looks), (a_window, wv s_window)] H := hP
  have hD : va_D A [(a_0, fv a_text a_window a_trial a_past a_firstSlot a_secondSlot a_equations a_looks), (a_window, wv s_window)] := hD
  refine lv_iload_n hx hb dX5_canBeTried_9 rfl (lv_at hl 1 rfl) ?_
  refine lv_icmp_le (tgt := 29) hx hb dX5_canBeTried_10 (by decide) (fun h_1 => ?_) (fun h_1 => ?_)
  · have hf := ip_ h_1 hf
    refine lv_iconst (v := 0) hx hb dX5_canBeTried_29 (by decide) ?_
    subst hf
    exact kr_z (V := bI false) hx hb hr hlocks (bI_nar _) rfl hP hK hD hN hS hS.2.2 dX5_canBeTried_30
  · have hf := in_ h_1 hf
    refine lv_aload_n hx hb dX5_canBeTried_13 rfl (lv_at hl 0 rfl) ?_
    refine va_get (D := G) (ci := 5) (v := .ref a_window) (C := RX5) (T := TX5) (N := 8) hx hb hts iw_X5_canBeTried_X5 hown hK hP 0 rfl rfl 1 (by decide) (hts (.fieldLink RX5 19 "PaneFrost" "window" "LPaneFrost$Window;") (by decide +kernel)) (fun _ h9 => h9) rfl dX5_canBeTried_14 ?_
    refine lv_iload_n hx hb dX5_canBeTried_17 rfl (lv_at hl 1 rfl) ?_
    refine lv_iload_n hx hb dX5_canBeTried_18 rfl (lv_at hl 2 rfl) ?_
    refine kc_i (w1 := [(a_window, wv s_window)]) (wr := [(a_0, fv a_text a_window a_trial a_past a_firstSlot a_secondSlot a_equations a_looks)]) hP hD hS hA [1] [0] rfl rfl rfl (by decide) (va_runV (As := [.int x1, .int x2]) (rest := []) ⟨hx, hb, hml, hown, hts⟩ (c_X4_isScratched (l := l) G cy a_window H.size s_window x1 x2  (f_X4_isScratched s_window x1 x2) rfl) (cwV 2 hts gX5_canBeTried_X4_isScratched rfl rfl rfl ddV_X4_isScratched ⟨Nat.le_of_ble_eq_true rfl, Nat.le_of_ble_eq_true rfl⟩) (preV_ (ci := 4) (q0 := 0) rfl rfl (hP.sub (ws' := [(a_window, wv s_window)]) [1] rfl) hK (hD.sub (ws' := [(a_window, wv s_window)]) [1] rfl rfl) hN) rfl rfl hl.1 rfl (lv_room (Nat.le_of_ble_eq_true rfl)) dX5_canBeTried_19 ⟨Nat.le_of_ble_eq_true rfl, Nat.le_of_ble_eq_true rfl⟩) (fun H locs hP hD hS => ?_)
    have hP : va_P G vwCl [(a_0, fv a_text a_window a_trial a_past a_firstSlot a_secondSlot a_equations a_looks), (a_window, wv s_window)] H := hP
    have hD : va_D A [(a_0, fv a_text a_window a_trial a_past a_firstSlot a_secondSlot a_equations a_looks), (a_window, wv s_window)] := hD
    refine lv_if_ne (tgt := 29) hx hb dX5_canBeTried_22 (by decide) (fun h_2 => ?_) (fun h_2 => ?_)
    · have hf := ip_ (bI_n0 h_2) hf
      refine lv_iconst (v := 0) hx hb dX5_canBeTried_29 (by decide) ?_
      subst hf
      exact kr_z (V := bI false) hx hb hr hlocks (bI_nar _) rfl hP hK hD hN hS hS.2.2 dX5_canBeTried_30
    · have hf := in_ (bI_0 h_2) hf
      refine lv_iconst (v := 1) hx hb dX5_canBeTried_25 (by decide) ?_
      refine lv_goto (tgt := 30) hx hb dX5_canBeTried_26 (by decide) ?_
      subst hf
      exact kr_z (V := bI true) hx hb hr hlocks (bI_nar _) rfl hP hK hD hN hS hS.2.2 dX5_canBeTried_30
set_option maxHeartbeats 4000000 in
set_option maxRecDepth 100000 in
theorem c_X5_wouldKeep {l : Launch} (G : va_G) (cy : Nat → ClassId) (a_0 : Nat) (a_text : Nat) (a_window : Nat) (a_trial : Nat) (a_past : Nat) (a_firstSlot : Nat) (a_secondSlot : Nat) (a_equations : Nat) (a_looks : Nat) (sz : Nat) (s_trial : WT) (x1 : Int32) (x2 : Int32) (x3 : Int32) (x4 : Int32) (n : Nat) (R : Bool × WT) (hf : f_X5_wouldKeep n s_trial x1 x2 x3 x4 = some R) : Met l yX5_wouldKeep wsX5_wouldKeep ({ frames := 5, cells := 0, slots := 0, locals := 121 } : Room) (va_Pc [.ref a_0, .int x1, .int x2, .int x3, .int x4] (pcW G cy [(a_0, fv a_text a_window a_trial a_past a_firstSlot a_secondSlot a_equations a_looks), (a_trial, wv s_trial)] sz)) (va_Qi (fun r (_ : Unit) => r = bI R.1) (fun _ t => Wd G cy (va_A [(a_0, fv a_text a_window a_trial a_past a_firstSlot a_secondSlot a_equations a_looks), (a_trial, wv s_trial)] sz) [(a_0, fv a_text a_window a_trial a_past a_firstSlot a_secondSlot a_equations a_looks), (a_trial, wv R.2)] t) (va_A [(a_0, fv a_text a_window a_trial a_past a_firstSlot a_secondSlot a_equations a_looks), (a_trial, wv s_trial)] sz)) 0 0 (va_A [(a_0, fv a_text a_window a_trial a_past a_firstSlot a_secondSlot a_equations a_looks), (a_trial, wv s_trial)] sz) := by
  refine Met.ofW (cc := cX5_wouldKeep) (maxL := 6) (ret := (some .boolean)) (by decide) rfl ?_
  intro p e s m args below meth c s₁ B hml hv
  obtain ⟨rfl, hsz, hP, hK, hD0, hN⟩ := hv
  have hx := B.exec
  have hb := B.bytes
  have hr := B.returns
  have hts := atoms_spec (ws := wsX5_wouldKeep) B.pre
  have hown : s.vm.findClass RX5 = some m.cls := findClass_of_methodNamed B.named
  have hlocks := B.notSynchronized
  subst hsz
  have hD := hD0.self (sz := s.heap.size)
  generalize hAe : va_A [(a_0, fv a_text a_window a_trial a_past a_firstSlot a_secondSlot a_equations a_looks), (a_trial, wv s_trial)] s.heap.size = A at hD ⊢
  have hA : ∀ q : Nat, s.heap.size ≤ q → A q := fun q h => by rw [← hAe]; exact Or.inr h
  have hS : va_S A s.heap s.heap [] := va_S.rf
  have hP : va_P G vwCl [(a_0, fv a_text a_window a_trial a_past a_firstSlot a_secondSlot a_equations a_looks), (a_trial, wv s_trial)] s.heap := hP
  have hl := lv_entry [.ref a_0, .int x1, .int x2, .int x3, .int x4] (n := 6) (Nat.le_of_ble_eq_true rfl)
  rw [lg_entry_eq]
  generalize (lg_sl [.ref a_0, .int x1, .int x2, .int x3, .int x4] ++ List.replicate (6 - (lg_sl [.ref a_0, .int x1, .int x2, .int x3, .int x4]).length) Slot.unset).toArray = ls at hl ⊢
  have hl : lv_has ls 6 [(0, .ref a_0), (1, .int x1), (2, .int x2), (3, .int x3), (4, .int x4)] := hl
  unfold f_X5_wouldKeep at hf
  refine lv_aload_n hx hb dX5_wouldKeep_0 rfl (lv_at hl 0 rfl) ?_
  refine va_get (D := G) (ci := 5) (v := .ref a_trial) (C := RX5) (T := TX5) (N := 8) hx hb hts iw_X5_wouldKeep_X5 hown hK hP 0 rfl rfl 2 (by decide) (hts (.fieldLink RX5 23 "PaneFrost" "trial" "LPaneFrost$Window;") (by decide +kernel)) (fun _ h9 => h9) rfl dX5_wouldKeep_1 ?_
  refine lv_iload_n hx hb dX5_wouldKeep_4 rfl (lv_at hl 1 rfl) ?_
  refine lv_iload_n hx hb dX5_wouldKeep_5 rfl (lv_at hl 2 rfl) ?_
  obtain ⟨r_1, hh_r_1⟩ : ∃ z, z = f_X4_scrape s_trial x1 x2 := ⟨_, rfl⟩
  have hf := lt_e hh_r_1 hf
  refine kc_i (w1 := [(a_trial, wv r_1.2)]) (wr := [(a_0, fv a_text a_window a_trial a_past a_firstSlot a_secondSlot a_equations a_looks)]) hP hD hS hA [1] [0] rfl rfl rfl (by decide) (va_runV (As := [.int x1, .int x2]) (rest := []) ⟨hx, hb, hml, hown, hts⟩ (c_X4_scrape (l := l) G cy a_trial s.heap.size s_trial x1 x2  r_1 hh_r_1.symm) (cwV 2 hts gX5_wouldKeep_X4_scrape rfl rfl rfl ddV_X4_scrape ⟨Nat.le_of_ble_eq_true rfl, Nat.le_of_ble_eq_true rfl⟩) (preV_ (ci := 4) (q0 := 0) rfl rfl (hP.sub (ws' := [(a_trial, wv s_trial)]) [1] rfl) hK (hD.sub (ws' := [(a_trial, wv s_trial)]) [1] rfl rfl) hN) rfl rfl hl.1 rfl (lv_room (Nat.le_of_ble_eq_true rfl)) dX5_wouldKeep_6 ⟨Nat.le_of_ble_eq_true rfl, Nat.le_of_ble_eq_true rfl⟩) (fun H locs hP hD hS => ?_)
  have hP : va_P G vwCl [(a_0, fv a_text a_window a_trial a_past a_firstSlot a_secondSlot a_equations a_looks), (a_trial, wv r_1.2)] H := hP
  have hD : va_D A [(a_0, fv a_text a_window a_trial a_past a_firstSlot a_secondSlot a_equations a_looks), (a_trial, wv r_1.2)] := hD
  refine lv_pop hx hb dX5_wouldKeep_9 rfl ?_
  refine lv_aload_n hx hb dX5_wouldKeep_10 rfl (lv_at hl 0 rfl) ?_
  refine va_get (D := G) (ci := 5) (v := .ref a_trial) (C := RX5) (T := TX5) (N := 8) hx hb hts iw_X5_wouldKeep_X5 hown hK hP 0 rfl rfl 2 (by decide) (hts (.fieldLink RX5 23 "PaneFrost" "trial" "LPaneFrost$Window;") (by decide +kernel)) (fun _ h9 => h9) rfl dX5_wouldKeep_11 ?_
  refine lv_iload_n hx hb dX5_wouldKeep_14 rfl (lv_at hl 3 rfl) ?_
  refine lv_iload hx hb dX5_wouldKeep_15 (lv_at hl 4 rfl) ?_
  obtain ⟨r_2, hh_r_2, hf⟩ := obd_some hf
  refine kc_i (w1 := [(a_trial, wv r_1.2)]) (wr := [(a_0, fv a_text a_window a_trial a_past a_firstSlot a_secondSlot a_equations a_looks)]) hP hD hS hA [1] [0] rfl rfl rfl (by decide) (va_runV (As := [.int x3, .int x4]) (rest := []) ⟨hx, hb, hml, hown, hts⟩ (c_X4_staysClear (l := l) G cy a_trial H.size r_1.2 x3 x4 n r_2 hh_r_2) (cwV 2 hts gX5_wouldKeep_X4_staysClear rfl rfl rfl ddV_X4_staysClear ⟨Nat.le_of_ble_eq_true rfl, Nat.le_of_ble_eq_true rfl⟩) (preV_ (ci := 4) (q0 := 0) rfl rfl (hP.sub (ws' := [(a_trial, wv r_1.2)]) [1] rfl) hK (hD.sub (ws' := [(a_trial, wv r_1.2)]) [1] rfl rfl) hN) rfl rfl hl.1 rfl (lv_room (Nat.le_of_ble_eq_true rfl)) dX5_wouldKeep_17 ⟨Nat.le_of_ble_eq_true rfl, Nat.le_of_ble_eq_true rfl⟩) (fun H locs hP hD hS => ?_)
  have hP : va_P G vwCl [(a_0, fv a_text a_window a_trial a_past a_firstSlot a_secondSlot a_equations a_looks), (a_trial, wv r_1.2)] H := hP
  have hD : va_D A [(a_0, fv a_text a_window a_trial a_past a_firstSlot a_secondSlot a_equations a_looks), (a_trial, wv r_1.2)] := hD
  refine lv_istore (lv' := [(5, .int (bI r_2)), (0, .ref a_0), (1, .int x1), (2, .int x2), (3, .int x3), (4, .int x4)]) hx hb dX5_wouldKeep_20 hl (by decide) rfl (fun ls hl => ?_)
  refine lv_aload_n hx hb dX5_wouldKeep_22 rfl (lv_at hl 1 rfl) ?_
  refine va_get (D := G) (ci := 5) (v := .ref a_trial) (C := RX5) (T := TX5) (N := 8) hx hb hts iw_X5_wouldKeep_X5 hown hK hP 0 rfl rfl 2 (by decide) (hts (.fieldLink RX5 23 "PaneFrost" "trial" "LPaneFrost$Window;") (by decide +kernel)) (fun _ h9 => h9) rfl dX5_wouldKeep_23 ?_
  refine lv_iload_n hx hb dX5_wouldKeep_26 rfl (lv_at hl 2 rfl) ?_
  refine lv_iload_n hx hb dX5_wouldKeep_27 rfl (lv_at hl 3 rfl) ?_
  obtain ⟨r_3, hh_r_3⟩ : ∃ z, z = f_X4_scrape r_1.2 x1 x2 := ⟨_, rfl⟩
  have hf := lt_e hh_r_3 hf
  refine kc_i (w1 := [(a_trial, wv r_3.2)]) (wr := [(a_0, fv a_text a_window a_trial a_past a_firstSlot a_secondSlot a_equations a_looks)]) hP hD hS hA [1] [0] rfl rfl rfl (by decide) (va_runV (As := [.int x1, .int x2]) (rest := []) ⟨hx, hb, hml, hown, hts⟩ (c_X4_scrape (l := l) G cy a_trial H.size r_1.2 x1 x2  r_3 hh_r_3.symm) (cwV 2 hts gX5_wouldKeep_X4_scrape rfl rfl rfl ddV_X4_scrape ⟨Nat.le_of_ble_eq_true rfl, Nat.le_of_ble_eq_true rfl⟩) (preV_ (ci := 4) (q0 := 0) rfl rfl (hP.sub (ws' := [(a_trial, wv r_1.2)]) [1] rfl) hK (hD.sub (ws' := [(a_trial, wv r_1.2)]) [1] rfl rfl) hN) rfl rfl hl.1 rfl (lv_room (Nat.le_of_ble_eq_true rfl)) dX5_wouldKeep_28 ⟨Nat.le_of_ble_eq_true rfl, Nat.le_of_ble_eq_true rfl⟩) (fun H locs hP hD hS => ?_)
  have hP : va_P G vwCl [(a_0, fv a_text a_window a_trial a_past a_firstSlot a_secondSlot a_equations a_looks), (a_trial, wv r_3.2)] H := hP
  have hD : va_D A [(a_0, fv a_text a_window a_trial a_past a_firstSlot a_secondSlot a_equations a_looks), (a_trial, wv r_3.2)] := hD
  refine lv_pop hx hb dX5_wouldKeep_31 rfl ?_
  refine lv_iload hx hb dX5_wouldKeep_32 (lv_at hl 0 rfl) ?_
  obtain rfl := Option.some.inj hf
  exact kr_z (V := bI r_2) hx hb hr hlocks (bI_nar _) rfl hP hK hD hN hS hS.2.2 dX5_wouldKeep_34
set_option maxHeartbeats 4000000 in
set_option maxRecDepth 100000 in
theorem c_X5_keeps {l : Launch} (hfl : l.stackTraces = false) (G : va_G) (cy : Nat → ClassId) (a_0 : Nat) (a_text : Nat) (a_window : Nat) (a_trial : Nat) (a_past : Nat) (a_firstSlot : Nat) (a_secondSlot : Nat) (a_equations : Nat) (a_looks : Nat) (sz : Nat) (s_window : WT) (s_trial : WT) (x1 : Int32) (x2 : Int32) (n : Nat) (R : Nat ⊕ (Int32 × WT)) (hf : f_X5_keeps n s_window s_trial x1 x2 = some R) : vx_Met l yX5_keeps wsX5_keeps ({ frames := 8, cells := 2, slots := 12, locals := 146 } : Room) (va_Pc [.ref a_0, .int x1, .int x2] (pcX G cy [(a_0, fv a_text a_window a_trial a_past a_firstSlot a_secondSlot a_equations a_looks), (a_window, wv s_window), (a_trial, wv s_trial)] sz)) (va_Qi (fun r (u : Int32 × WT) => R = .inr u ∧ r = u.1) (fun u t => Wd G cy (va_A [(a_0, fv a_text a_window a_trial a_past a_firstSlot a_secondSlot a_equations a_looks), (a_window, wv s_window), (a_trial, wv s_trial)] sz) [(a_0, fv a_text a_window a_trial a_past a_firstSlot a_secondSlot a_equations a_looks), (a_window, wv s_window), (a_trial, wv u.2)] t) (va_A [(a_0, fv a_text a_window a_trial a_past a_firstSlot a_secondSlot a_equations a_looks), (a_window, wv s_window), (a_trial, wv s_trial)] sz)) (vx_X (fun u : Nat => R = .inl u) (fun E u t => E = exN u ∧ va_P G vwCl [(a_0, fv a_text a_window a_trial a_past a_firstSlot a_secondSlot a_equations a_looks), (a_window, wv s_window), (a_trial, wv s_trial)] t.heap ∧ va_D (va_A [(a_0, fv a_text a_window a_trial a_past a_firstSlot a_secondSlot a_equations a_looks), (a_window, wv s_window), (a_trial, wv s_trial)] sz) [(a_0, fv a_text a_window a_trial a_past a_firstSlot a_secondSlot a_equations a_looks), (a_window, wv s_window), (a_trial, wv s_trial)]) (va_A [(a_0, fv a_text a_window a_trial a_past a_firstSlot a_secondSlot a_equations a_looks), (a_window, wv s_window), (a_trial, wv s_trial)] sz)) 2 12 (va_A [(a_0, fv a_text a_window a_trial a_past a_firstSlot a_secondSlot a_equations a_looks), (a_window, wv s_window), (a_trial, wv s_trial)] sz) := by
  refine vx_ofW (cc := cX5_keeps) (maxL := 6) (ret := (some .int)) (by decide) rfl ?_
  intro p e s m args below meth c s₁ B hml hnt hv
  obtain ⟨rfl, ⟨hsz, hP, hK, hD0, hN⟩, hE⟩ := hv
  have hx := B.exec
  have hb := B.bytes
  have hr := B.returns
  have hts := atoms_spec (ws := wsX5_keeps) B.pre
  have hown : s.vm.findClass RX5 = some m.cls := findClass_of_methodNamed B.named
  have hlocks := B.notSynchronized
  subst hsz
  have hD := hD0.self (sz := s.heap.size)
  generalize hAe : va_A [(a_0, fv a_text a_window a_trial a_past a_firstSlot a_secondSlot a_equations a_looks), (a_window, wv s_window), (a_trial, wv s_trial)] s.heap.size = A at hD hE ⊢
  have hA : ∀ q : Nat, s.heap.size ≤ q → A q := fun q h => by rw [← hAe]; exact Or.inr h
  have hS : va_S A s.heap s.heap [] := va_S.rf
  have hP : va_P G vwCl [(a_0, fv a_text a_window a_trial a_past a_firstSlot a_secondSlot a_equations a_looks), (a_window, wv s_window), (a_trial, wv s_trial)] s.heap := hP
  have bl_44 : ∀ (y1 : Int32), ∀ (y2 : Int32), ∀ (y3 : Int32), ∀ (y4 : Int32), ∀ (K35 : WT → Int32 → Option (Nat ⊕ (Int32 × WT))), (∀ (c_s_trial : WT) (y4 : Int32) (H : Heap) (locs : List Loc), K35 c_s_trial y4 = some R → va_P G vwCl [(a_0, fv a_text a_window a_trial a_past a_firstSlot a_secondSlot a_equations a_looks), (a_window, wv s_window), (a_trial, wv c_s_trial)] H → va_D A [(a_0, fv a_text a_window a_trial a_past a_firstSlot a_secondSlot a_equations a_looks), (a_window, wv s_window), (a_trial, wv c_s_trial)] → va_S A s.heap H locs → ∀ (ls : Array Slot), lv_has ls 6 [(0, .ref a_0), (1, .int y1), (2, .int y2), (3, .int y3), (4, .int y4)] → W p l e ({ frames := 8, cells := 2, slots := 12, locals := 146 } : Room) s m [.ref a_0, .int x1, .int x2].toArray below meth c H locs 2 12 (vx_MQ below (va_Qi (fun r (u : Int32 × WT) => R = .inr u ∧ r = u.1) (fun u t => Wd G cy A [(a_0, fv a_text a_window a_trial a_past a_firstSlot a_secondSlot a_equations a_looks), (a_window, wv s_window), (a_trial, wv u.2)] t) A) (vx_X (fun u : Nat => R = .inl u) (fun E u t => E = exN u ∧ va_P G vwCl [(a_0, fv a_text a_window a_trial a_past a_firstSlot a_secondSlot a_equations a_looks), (a_window, wv s_window), (a_trial, wv s_trial)] t.heap ∧ va_D A [(a_0, fv a_text a_window a_trial a_past a_firstSlot a_secondSlot a_equations a_looks), (a_window, wv s_window), (a_trial, wv s_trial)]) A) [.ref a_0, .int x1, .int x2].toArray s 2 12 A) (F0 m 35 ls [])) → ∀ (k : Nat), ∀ (c_s_trial : WT) (y5 : Int32) (H : Heap) (locs : List Loc), f_X5_keeps_b44 n s_window y1 y2 y3 y4 K35 k c_s_trial y5 = some R → va_P G vwCl [(a_0, fv a_text a_window a_trial a_past a_firstSlot a_secondSlot a_equations a_looks), (a_window, wv s_window), (a_trial, wv c_s_trial)] H → va_D A [(a_0, fv a_text a_window a_trial a_past a_firstSlot a_secondSlot a_equations a_looks), (a_window, wv s_window), (a_trial, wv c_s_trial)] → va_S A s.heap H locs → ∀ (ls : Array Slot), lv_has ls 6 [(0, .ref a_0), (1, .int y1), (2, .int y2), (3, .int y3), (4, .int y4), (5, .int y5)] → W p l e ({ frames := 8, cells := 2, slots := 12, locals := 146 } : Room) s m [.ref a_0, .int x1, .int x2].toArray below meth c H locs 2 12 (vx_MQ below (va_Qi (fun r (u : Int32 × WT) => R = .inr u ∧ r = u.1) (fun u t => Wd G cy A [(a_0, fv a_text a_window a_trial a_past a_firstSlot a_secondSlot a_equations a_looks), (a_window, wv s_window), (a_trial, wv u.2)] t) A) (vx_X (fun u : Nat => R = .inl u) (fun E u t => E = exN u ∧ va_P G vwCl [(a_0, fv a_text a_window a_trial a_past a_firstSlot a_secondSlot a_equations a_looks), (a_window, wv s_window), (a_trial, wv s_trial)] t.heap ∧ va_D A [(a_0, fv a_text a_window a_trial a_past a_firstSlot a_secondSlot a_equations a_looks), (a_window, wv s_window), (a_trial, wv s_trial)]) A) [.ref a_0, .int x1, .int x2].toArray s 2 12 A) (F0 m 44 ls []) := by
    intro y1
    intro y2
    intro y3
    intro y4
    intro K35 hK35
    intro k
    induction k with
    | zero =>
      intro c_s_trial y5 H locs hf; cases hf
    | succ k ih =>
      intro c_s_trial y5 H locs hf hP hD hS ls hl
      have hf := (f_X5_keeps_b44_s n s_window y1 y2 y3 y4 K35 k c_s_trial y5).symm.trans hf
      refine lv_iload hx hb dX5_keeps_44 (lv_at hl 5 rfl) ?_
      refine lv_iconst (v := 3) hx hb dX5_keeps_46 (by decide) ?_
      refine lv_icmp_gt (tgt := 88) hx hb dX5_keeps_47 (by decide) (fun h_1 => ?_) (fun h_1 => ?_)
      · have hf := ip_ h_1 hf
        refine lv_iinc (v := (y4 + 1)) (lv' := [(4, .int (y4 + 1)), (0, .ref a_0), (1, .int y1), (2, .int y2), (3, .int y3), (5, .int y5)]) hx hb dX5_keeps_88 hl (k := 4) rfl rfl (by decide) rfl (fun ls hl => ?_)
        refine lv_goto (tgt := 35) hx hb dX5_keeps_91 (by decide) ?_
        exact hK35 c_s_trial (y4 + 1) _ _ hf hP hD hS ls (lv_sub hl [1, 2, 3, 4, 0] rfl)
      · have hf := in_ h_1 hf
        refine lv_aload_n hx hb dX5_keeps_50 rfl (lv_at hl 0 rfl) ?_
        refine lv_iload hx hb dX5_keeps_51 (lv_at hl 4 rfl) ?_
        refine lv_iload hx hb dX5_keeps_53 (lv_at hl 5 rfl) ?_
        refine kc_i (w1 := [(a_0, fv a_text a_window a_trial a_past a_firstSlot a_secondSlot a_equations a_looks), (a_window, wv s_window)]) (wr := [(a_trial, wv c_s_trial)]) hP hD hS hA [0, 1] [2] rfl rfl rfl (by decide) (va_runV (As := [.int y4, .int y5]) (rest := []) ⟨hx, hb, hml, hown, hts⟩ (c_X5_canBeTried (l := l) G cy a_0 a_text a_window a_trial a_past a_firstSlot a_secondSlot a_equations a_looks H.size s_window y4 y5  (f_X5_canBeTried s_window y4 y5) rfl) (cwV 2 hts gX5_keeps_X5_canBeTried rfl rfl rfl ddV_X5_canBeTried ⟨Nat.le_of_ble_eq_true rfl, Nat.le_of_ble_eq_true rfl⟩) (preV_ (ci := 5) (q0 := 0) rfl rfl (hP.sub (ws' := [(a_0, fv a_text a_window a_trial a_past a_firstSlot a_secondSlot a_equations a_looks), (a_window, wv s_window)]) [0, 1] rfl) hK (hD.sub (ws' := [(a_0, fv a_text a_window a_trial a_past a_firstSlot a_secondSlot a_equations a_looks), (a_window, wv s_window)]) [0, 1] rfl rfl) hN) rfl rfl hl.1 rfl (lv_room (Nat.le_of_ble_eq_true rfl)) dX5_keeps_55 ⟨Nat.le_of_ble_eq_true rfl, Nat.le_of_ble_eq_true rfl⟩) (fun H locs hP hD hS => ?_)
        have hP : va_P G vwCl [(a_trial, wv c_s_trial), (a_0, fv a_text a_window a_trial a_past a_firstSlot a_secondSlot a_equations a_looks), (a_window, wv s_window)] H := hP
        have hD : va_D A [(a_trial, wv c_s_trial), (a_0, fv a_text a_window a_trial a_past a_firstSlot a_secondSlot a_equations a_looks), (a_window, wv s_window)] := hD
        refine lv_if_eq (tgt := 82) hx hb dX5_keeps_58 (by decide) (fun h_2 => ?_) (fun h_2 => ?_)
        · have hf := in_ (bI_0 h_2) hf
          refine lv_iinc (v := (y5 + 1)) (lv' := [(5, .int (y5 + 1)), (0, .ref a_0), (1, .int y1), (2, .int y2), (3, .int y3), (4, .int y4)]) hx hb dX5_keeps_82 hl (k := 5) rfl rfl (by decide) rfl (fun ls hl => ?_)
          refine lv_goto (tgt := 44) hx hb dX5_keeps_85 (by decide) ?_
          exact ih c_s_trial (y5 + 1) _ _ hf (hP.sub (ws' := [(a_0, fv a_text a_window a_trial a_past a_firstSlot a_secondSlot a_equations a_looks), (a_window, wv s_window), (a_trial, wv c_s_trial)]) [1, 2, 0] rfl) (hD.sub (ws' := [(a_0, fv a_text a_window a_trial a_past a_firstSlot a_secondSlot a_equations a_looks), (a_window, wv s_window), (a_trial, wv c_s_trial)]) [1, 2, 0] rfl rfl) hS ls (lv_sub hl [1, 2, 3, 4, 5, 0] rfl)
        · have hf := ip_ (bI_n0 h_2) hf
          refine lv_aload_n hx hb dX5_keeps_61 rfl (lv_at hl 0 rfl) ?_
          refine lv_iload hx hb dX5_keeps_62 (lv_at hl 4 rfl) ?_
          refine lv_iload hx hb dX5_keeps_64 (lv_at hl 5 rfl) ?_
          refine lv_iload_n hx hb dX5_keeps_66 rfl (lv_at hl 1 rfl) ?_
          refine lv_iload_n hx hb dX5_keeps_67 rfl (lv_at hl 2 rfl) ?_
          obtain ⟨r_3, hh_r_3, hf⟩ := obd_some hf
          refine kc_i (w1 := [(a_0, fv a_text a_window a_trial a_past a_firstSlot a_secondSlot a_equations a_looks), (a_trial, wv r_3.2)]) (wr := [(a_window, wv s_window)]) hP hD hS hA [1, 0] [2] rfl rfl rfl (by decide) (va_runV (As := [.int y4, .int y5, .int y1, .int y2]) (rest := []) ⟨hx, hb, hml, hown, hts⟩ (c_X5_wouldKeep (l := l) G cy a_0 a_text a_window a_trial a_past a_firstSlot a_secondSlot a_equations a_looks H.size c_s_trial y4 y5 y1 y2 n r_3 hh_r_3) (cwV 4 hts gX5_keeps_X5_wouldKeep rfl rfl rfl ddV_X5_wouldKeep ⟨Nat.le_of_ble_eq_true rfl, Nat.le_of_ble_eq_true rfl⟩) (preV_ (ci := 5) (q0 := 0) rfl rfl (hP.sub (ws' := [(a_0, fv a_text a_window a_trial a_past a_firstSlot a_secondSlot a_equations a_looks), (a_trial, wv c_s_trial)]) [1, 0] rfl) hK (hD.sub (ws' := [(a_0, fv a_text a_window a_trial a_past a_firstSlot a_secondSlot a_equations a_looks), (a_trial, wv c_s_trial)]) [1, 0] rfl rfl) hN) rfl rfl hl.1 rfl (lv_room (Nat.le_of_ble_eq_true rfl)) dX5_keeps_68 ⟨Nat.le_of_ble_eq_true rfl, Nat.le_of_ble_eq_true rfl⟩) (fun H locs hP hD hS => ?_)
          have hP : va_P G vwCl [(a_window, wv s_window), (a_0, fv a_text a_window a_trial a_past a_firstSlot a_secondSlot a_equations a_looks), (a_trial, wv r_3.2)] H := hP
          have hD : va_D A [(a_window, wv s_window), (a_0, fv a_text a_window a_trial a_past a_firstSlot a_secondSlot a_equations a_looks), (a_trial, wv r_3.2)] := hD
          refine lv_if_eq (tgt := 82) hx hb dX5_keeps_71 (by decide) (fun h_4 => ?_) (fun h_4 => ?_)
          · have hf := in_ (bI_0 h_4) hf
            refine lv_iinc (v := (y5 + 1)) (lv' := [(5, .int (y5 + 1)), (0, .ref a_0), (1, .int y1), (2, .int y2), (3, .int y3), (4, .int y4)]) hx hb dX5_keeps_82 hl (k := 5) rfl rfl (by decide) rfl (fun ls hl => ?_)
            refine lv_goto (tgt := 44) hx hb dX5_keeps_85 (by decide) ?_
            exact ih r_3.2 (y5 + 1) _ _ hf (hP.sub (ws' := [(a_0, fv a_text a_window a_trial a_past a_firstSlot a_secondSlot a_equations a_looks), (a_window, wv s_window), (a_trial, wv r_3.2)]) [1, 0, 2] rfl) (hD.sub (ws' := [(a_0, fv a_text a_window a_trial a_past a_firstSlot a_secondSlot a_equations a_looks), (a_window, wv s_window), (a_trial, wv r_3.2)]) [1, 0, 2] rfl rfl) hS ls (lv_sub hl [1, 2, 3, 4, 5, 0] rfl)
          · have hf := ip_ (bI_n0 h_4) hf
            refine lv_iconst (v := 4) hx hb dX5_keeps_74 (by decide) ?_
            refine lv_iload hx hb dX5_keeps_75 (lv_at hl 4 rfl) ?_
            refine lv_imul hx hb dX5_keeps_77 ?_
            refine lv_iload hx hb dX5_keeps_78 (lv_at hl 5 rfl) ?_
            refine lv_iadd hx hb dX5_keeps_80 ?_
            exact kr_iX (u := (((4 * y4) + y5), r_3.2)) hx hb hr hlocks ((Option.some.inj hf).symm) (hP.sub (ws' := [(a_0, fv a_text a_window a_trial a_past a_firstSlot a_secondSlot a_equations a_looks), (a_window, wv s_window), (a_trial, wv r_3.2)]) [1, 0, 2] rfl) hK (hD.sub (ws' := [(a_0, fv a_text a_window a_trial a_past a_firstSlot a_secondSlot a_equations a_looks), (a_window, wv s_window), (a_trial, wv r_3.2)]) [1, 0, 2] rfl rfl) hN hS hS.2.2 dX5_keeps_81
  have bl_35 : ∀ (y1 : Int32), ∀ (y2 : Int32), ∀ (y3 : Int32), ∀ (k : Nat), ∀ (c_s_trial : WT) (y4 : Int32) (H : Heap) (locs : List Loc), f_X5_keeps_b35 n s_window y1 y2 y3 k c_s_trial y4 = some R → va_P G vwCl [(a_0, fv a_text a_window a_trial a_past a_firstSlot a_secondSlot a_equations a_looks), (a_window, wv s_window), (a_trial, wv c_s_trial)] H → va_D A [(a_0, fv a_text a_window a_trial a_past a_firstSlot a_secondSlot a_equations a_looks), (a_window, wv s_window), (a_trial, wv c_s_trial)] → va_S A s.heap H locs → ∀ (ls : Array Slot), lv_has ls 6 [(0, .ref a_0), (1, .int y1), (2, .int y2), (3, .int y3), (4, .int y4)] → W p l e ({ frames := 8, cells := 2, slots := 12, locals := 146 } : Room) s m [.ref a_0, .int x1, .int x2].toArray below meth c H locs 2 12 (vx_MQ below (va_Qi (fun r (u : Int32 × WT) => R = .inr u ∧ r = u.1) (fun u t => Wd G cy A [(a_0, fv a_text a_window a_trial a_past a_firstSlot a_secondSlot a_equations a_looks), (a_window, wv s_window), (a_trial, wv u.2)] t) A) (vx_X (fun u : Nat => R = .inl u) (fun E u t => E = exN u ∧ va_P G vwCl [(a_0, fv a_text a_window a_trial a_past a_firstSlot a_secondSlot a_equations a_looks), (a_window, wv s_window), (a_trial, wv s_trial)] t.heap ∧ va_D A [(a_0, fv a_text a_window a_trial a_past a_firstSlot a_secondSlot a_equations a_looks), (a_window, wv s_window), (a_trial, wv s_trial)]) A) [.ref a_0, .int x1, .int x2].toArray s 2 12 A) (F0 m 35 ls []) := by
    intro y1
    intro y2
    intro y3
    intro k
    induction k with
    | zero =>
      intro c_s_trial y4 H locs hf; cases hf
    | succ k ih =>
      intro c_s_trial y4 H locs hf hP hD hS ls hl
      have hf := (f_X5_keeps_b35_s n s_window y1 y2 y3 k c_s_trial y4).symm.trans hf
      refine lv_iload hx hb dX5_keeps_35 (lv_at hl 4 rfl) ?_
      refine lv_iload_n hx hb dX5_keeps_37 rfl (lv_at hl 3 rfl) ?_
      refine lv_icmp_ge (tgt := 94) hx hb dX5_keeps_38 (by decide) (fun h_5 => ?_) (fun h_5 => ?_)
      · have hf := ip_ h_5 hf
        refine lv_iconst (v := (-1)) hx hb dX5_keeps_94 (by decide) ?_
        exact kr_iX (u := ((-1), c_s_trial)) hx hb hr hlocks ((Option.some.inj hf).symm) hP hK hD hN hS hS.2.2 dX5_keeps_95
      · have hf := in_ h_5 hf
        refine lv_iconst (v := 0) hx hb dX5_keeps_41 (by decide) ?_
        refine lv_istore (lv' := [(5, .int 0), (0, .ref a_0), (1, .int y1), (2, .int y2), (3, .int y3), (4, .int y4)]) hx hb dX5_keeps_42 hl (by decide) rfl (fun ls hl => ?_)
        exact bl_44 y1 y2 y3 y4 (f_X5_keeps_b35 n s_window y1 y2 y3 k) ih n c_s_trial 0 _ _ hf hP hD hS ls (lv_sub hl [1, 2, 3, 4, 5, 0] rfl)
  have hl := lv_entry [.ref a_0, .int x1, .int x2] (n := 6) (Nat.le_of_ble_eq_true rfl)
  rw [lg_entry_eq]
  generalize (lg_sl [.ref a_0, .int x1, .int x2] ++ List.replicate (6 - (lg_sl [.ref a_0, .int x1, .int x2]).length) Slot.unset).toArray = ls at hl ⊢
  have hl : lv_has ls 6 [(0, .ref a_0), (1, .int x1), (2, .int x2)] := hl
  unfold f_X5_keeps at hf
  refine lv_aload_n hx hb dX5_keeps_0 rfl (lv_at hl 0 rfl) ?_
  refine lv_iload_n hx hb dX5_keeps_1 rfl (lv_at hl 1 rfl) ?_
  obtain ⟨r_6, hh_r_6, hf⟩ := obx_some hf
  refine kx_v (w1 := fun (_ : Unit) => [(a_0, fv a_text a_window a_trial a_past a_firstSlot a_secondSlot a_equations a_looks), (a_window, wv s_window)]) (wr := [(a_trial, wv s_trial)]) hP hD hS hA [0, 1] [2] rfl rfl rfl (by decide) (vx_runV (As := [.int x1]) (rest := []) ⟨hx, hb, hml, hown, hts⟩ (c_X5_needCell (l := l) hfl G cy a_0 a_text a_window a_trial a_past a_firstSlot a_secondSlot a_equations a_looks s.heap.size s_window x1  r_6 hh_r_6) (cwV 1 hts gX5_keeps_X5_needCell rfl rfl rfl ddV_X5_needCell ⟨Nat.le_of_ble_eq_true rfl, Nat.le_of_ble_eq_true rfl⟩) (preVX (ci := 5) (q0 := 0) rfl rfl (hE.kept hS.2.1) (va_free hD hS hA (wc := [(a_0, fv a_text a_window a_trial a_past a_firstSlot a_secondSlot a_equations a_looks), (a_window, wv s_window)]) [0, 1] rfl) (hP.sub (ws' := [(a_0, fv a_text a_window a_trial a_past a_firstSlot a_secondSlot a_equations a_looks), (a_window, wv s_window)]) [0, 1] rfl) hK (hD.sub (ws' := [(a_0, fv a_text a_window a_trial a_past a_firstSlot a_secondSlot a_equations a_looks), (a_window, wv s_window)]) [0, 1] rfl rfl) hN) rfl rfl hl.1 rfl (lv_room (Nat.le_of_ble_eq_true rfl)) dX5_keeps_2 ⟨Nat.le_of_ble_eq_true rfl, Nat.le_of_ble_eq_true rfl⟩) (fun u ce q9 H locs hz hP hD hS hc1 hc2 hc3 => ?_) (fun u_6 H locs hz hP hD hS => ?_)
  · subst hz
    have hP : va_P G vwCl [(a_trial, wv s_trial), (a_0, fv a_text a_window a_trial a_past a_firstSlot a_secondSlot a_equations a_looks), (a_window, wv s_window)] H := hP
    have hD : va_D A [(a_trial, wv s_trial), (a_0, fv a_text a_window a_trial a_past a_firstSlot a_secondSlot a_equations a_looks), (a_window, wv s_window)] := hD
    exact vx_widen (k := 2) (n := 12) (Nat.le_of_ble_eq_true rfl) (Nat.le_of_ble_eq_true rfl) (kx_out u hnt hlocks (obx_l hf) (hP.sub (ws' := [(a_0, fv a_text a_window a_trial a_past a_firstSlot a_secondSlot a_equations a_looks), (a_window, wv s_window), (a_trial, wv s_trial)]) [1, 2, 0] rfl) hK (hD.sub (ws' := [(a_0, fv a_text a_window a_trial a_past a_firstSlot a_secondSlot a_equations a_looks), (a_window, wv s_window), (a_trial, wv s_trial)]) [1, 2, 0] rfl rfl) hN hS hc1 hc2 hc3 (Nat.le_refl _) (Nat.le_refl _))
  subst hz
  have hf := obx_r hf
  have hP : va_P G vwCl [(a_trial, wv s_trial), (a_0, fv a_text a_window a_trial a_past a_firstSlot a_secondSlot a_equations a_looks), (a_window, wv s_window)] H := hP
  have hD : va_D A [(a_trial, wv s_trial), (a_0, fv a_text a_window a_trial a_past a_firstSlot a_secondSlot a_equations a_looks), (a_window, wv s_window)] := hD
  refine lv_aload_n hx hb dX5_keeps_5 rfl (lv_at hl 0 rfl) ?_
  refine lv_iload_n hx hb dX5_keeps_6 rfl (lv_at hl 2 rfl) ?_
  refine lv_iconst (v := 1) hx hb dX5_keeps_7 (by decide) ?_
  refine lv_bipush (v := 20) hx hb dX5_keeps_8 (by decide) ?_
  obtain ⟨r_7, hh_r_7, hf⟩ := obx_some hf
  refine kx_v (w1 := fun (_ : Unit) => []) (wr := [(a_trial, wv s_trial), (a_0, fv a_text a_window a_trial a_past a_firstSlot a_secondSlot a_equations a_looks), (a_window, wv s_window)]) hP hD hS hA [] [0, 1, 2] rfl rfl rfl (by decide) (vx_runV (As := [.int x2, .int 1, .int 20]) (rest := []) ⟨hx, hb, hml, hown, hts⟩ (c_X5_needRange (l := l) hfl G cy a_0 H.size x2 1 20  r_7 hh_r_7) (cwV 3 hts gX5_keeps_X5_needRange rfl rfl rfl ddV_X5_needRange ⟨Nat.le_of_ble_eq_true rfl, Nat.le_of_ble_eq_true rfl⟩) (preVX2 (ci := 5) (q0 := 1) rfl rfl hP (hE.kept hS.2.1) (va_free hD hS hA (wc := []) [] rfl) (hP.sub (ws' := []) [] rfl) hK (hD.sub (ws' := []) [] rfl rfl) hN) rfl rfl hl.1 rfl (lv_room (Nat.le_of_ble_eq_true rfl)) dX5_keeps_10 ⟨Nat.le_of_ble_eq_true rfl, Nat.le_of_ble_eq_true rfl⟩) (fun u ce q9 H locs hz hP hD hS hc1 hc2 hc3 => ?_) (fun u_7 H locs hz hP hD hS => ?_)
  · subst hz
    have hP : va_P G vwCl [(a_trial, wv s_trial), (a_0, fv a_text a_window a_trial a_past a_firstSlot a_secondSlot a_equations a_looks), (a_window, wv s_window)] H := hP
    have hD : va_D A [(a_trial, wv s_trial), (a_0, fv a_text a_window a_trial a_past a_firstSlot a_secondSlot a_equations a_looks), (a_window, wv s_window)] := hD
    exact vx_widen (k := 2) (n := 12) (Nat.le_of_ble_eq_true rfl) (Nat.le_of_ble_eq_true rfl) (kx_out u hnt hlocks (obx_l hf) (hP.sub (ws' := [(a_0, fv a_text a_window a_trial a_past a_firstSlot a_secondSlot a_equations a_looks), (a_window, wv s_window), (a_trial, wv s_trial)]) [1, 2, 0] rfl) hK (hD.sub (ws' := [(a_0, fv a_text a_window a_trial a_past a_firstSlot a_secondSlot a_equations a_looks), (a_window, wv s_window), (a_trial, wv s_trial)]) [1, 2, 0] rfl rfl) hN hS hc1 hc2 hc3 (Nat.le_refl _) (Nat.le_refl _))
  subst hz
  have hf := obx_r hf
  have hP : va_P G vwCl [(a_trial, wv s_trial), (a_0, fv a_text a_window a_trial a_past a_firstSlot a_secondSlot a_equations a_looks), (a_window, wv s_window)] H := hP
  have hD : va_D A [(a_trial, wv s_trial), (a_0, fv a_text a_window a_trial a_past a_firstSlot a_secondSlot a_equations a_looks), (a_window, wv s_window)] := hD
  refine lv_aload_n hx hb dX5_keeps_13 rfl (lv_at hl 0 rfl) ?_
  refine va_get (D := G) (ci := 5) (v := .ref a_trial) (C := RX5) (T := TX5) (N := 8) hx hb hts iw_X5_keeps_X5 hown hK hP 1 rfl rfl 2 (by decide) (hts (.fieldLink RX5 23 "PaneFrost" "trial" "LPaneFrost$Window;") (by decide +kernel)) (fun _ h9 => h9) rfl dX5_keeps_14 ?_
  refine lv_aload_n hx hb dX5_keeps_17 rfl (lv_at hl 0 rfl) ?_
  refine va_get (D := G) (ci := 5) (v := .ref a_window) (C := RX5) (T := TX5) (N := 8) hx hb hts iw_X5_keeps_X5 hown hK hP 1 rfl rfl 1 (by decide) (hts (.fieldLink RX5 19 "PaneFrost" "window" "LPaneFrost$Window;") (by decide +kernel)) (fun _ h9 => h9) rfl dX5_keeps_18 ?_
  refine kc_v (w1 := [(a_trial, wv (f_X4_copy s_trial s_window)), (a_window, wv s_window)]) (wr := [(a_0, fv a_text a_window a_trial a_past a_firstSlot a_secondSlot a_equations a_looks)]) hP hD hS hA [0, 2] [1] rfl rfl rfl (by decide) (va_runV (As := [.ref a_window]) (rest := []) ⟨hx, hb, hml, hown, hts⟩ (c_X4_copy (l := l) G cy a_trial a_window H.size s_trial s_window  (f_X4_copy s_trial s_window) rfl) (cwV 1 hts gX5_keeps_X4_copy rfl rfl rfl ddV_X4_copy ⟨Nat.le_of_ble_eq_true rfl, Nat.le_of_ble_eq_true rfl⟩) (preV_ (ci := 4) (q0 := 0) rfl rfl (hP.sub (ws' := [(a_trial, wv s_trial), (a_window, wv s_window)]) [0, 2] rfl) hK (hD.sub (ws' := [(a_trial, wv s_trial), (a_window, wv s_window)]) [0, 2] rfl rfl) hN) rfl rfl hl.1 rfl (lv_room (Nat.le_of_ble_eq_true rfl)) dX5_keeps_21 ⟨Nat.le_of_ble_eq_true rfl, Nat.le_of_ble_eq_true rfl⟩) (fun H locs hP hD hS => ?_)
  have hP : va_P G vwCl [(a_0, fv a_text a_window a_trial a_past a_firstSlot a_secondSlot a_equations a_looks), (a_trial, wv (f_X4_copy s_trial s_window)), (a_window, wv s_window)] H := hP
  have hD : va_D A [(a_0, fv a_text a_window a_trial a_past a_firstSlot a_secondSlot a_equations a_looks), (a_trial, wv (f_X4_copy s_trial s_window)), (a_window, wv s_window)] := hD
  refine lv_aload_n hx hb dX5_keeps_24 rfl (lv_at hl 0 rfl) ?_
  refine va_get (D := G) (ci := 5) (v := .ref a_window) (C := RX5) (T := TX5) (N := 8) hx hb hts iw_X5_keeps_X5 hown hK hP 0 rfl rfl 1 (by decide) (hts (.fieldLink RX5 19 "PaneFrost" "window" "LPaneFrost$Window;") (by decide +kernel)) (fun _ h9 => h9) rfl dX5_keeps_25 ?_
  refine kc_i (w1 := [(a_window, wv s_window)]) (wr := [(a_0, fv a_text a_window a_trial a_past a_firstSlot a_secondSlot a_equations a_looks), (a_trial, wv (f_X4_copy s_trial s_window))]) hP hD hS hA [2] [0, 1] rfl rfl rfl (by decide) (va_runV (As := []) (rest := []) ⟨hx, hb, hml, hown, hts⟩ (c_X4_count (l := l) G cy a_window H.size s_window  (f_X4_count s_window) rfl) (cwV 0 hts gX5_keeps_X4_count rfl rfl rfl ddV_X4_count ⟨Nat.le_of_ble_eq_true rfl, Nat.le_of_ble_eq_true rfl⟩) (preV_ (ci := 4) (q0 := 0) rfl rfl (hP.sub (ws' := [(a_window, wv s_window)]) [2] rfl) hK (hD.sub (ws' := [(a_window, wv s_window)]) [2] rfl rfl) hN) rfl rfl hl.1 rfl (lv_room (Nat.le_of_ble_eq_true rfl)) dX5_keeps_28 ⟨Nat.le_of_ble_eq_true rfl, Nat.le_of_ble_eq_true rfl⟩) (fun H locs hP hD hS => ?_)
  have hP : va_P G vwCl [(a_0, fv a_text a_window a_trial a_past a_firstSlot a_secondSlot a_equations a_looks), (a_trial, wv (f_X4_copy s_trial s_window)), (a_window, wv s_window)] H := hP
  have hD : va_D A [(a_0, fv a_text a_window a_trial a_past a_firstSlot a_secondSlot a_equations a_looks), (a_trial, wv (f_X4_copy s_trial s_window)), (a_window, wv s_window)] := hD
  refine lv_istore_n (lv' := [(3, .int (f_X4_count s_window)), (0, .ref a_0), (1, .int x1), (2, .int x2)]) hx hb dX5_keeps_31 rfl hl (by decide) rfl (fun ls hl => ?_)
  refine lv_iconst (v := 0) hx hb dX5_keeps_32 (by decide) ?_
  refine lv_istore (lv' := [(4, .int 0), (3, .int (f_X4_count s_window)), (0, .ref a_0), (1, .int x1), (2, .int x2)]) hx hb dX5_keeps_33 hl (by decide) rfl (fun ls hl => ?_)
  exact bl_35 x1 x2 (f_X4_count s_window) n (f_X4_copy s_trial s_window) 0 _ _ hf (hP.sub (ws' := [(a_0, fv a_text a_window a_trial a_past a_firstSlot a_secondSlot a_equations a_looks), (a_window, wv s_window), (a_trial, wv (f_X4_copy s_trial s_window))]) [0, 2, 1] rfl) (hD.sub (ws' := [(a_0, fv a_text a_window a_trial a_past a_firstSlot a_secondSlot a_equations a_looks), (a_window, wv s_window), (a_trial, wv (f_X4_copy s_trial s_window))]) [0, 2, 1] rfl rfl) hS ls (lv_sub hl [2, 3, 4, 1, 0] rfl)
set_option maxHeartbeats 4000000 in
set_option maxRecDepth 100000 in
theorem c_X5_withoutLowest {l : Launch} (G : va_G) (cy : Nat → ClassId)  (sz : Nat) (x0 : Int64) (x2 : Int32) (n : Nat) (R : Int64) (hf : f_X5_withoutLowest n x0 x2 = some R) : Met l yX5_withoutLowest wsX5_withoutLowest ({ frames := 0, cells := 0, slots := 0, locals := 0 } : Room) (va_Pc [.long x0, .int x2] (pcW G cy [] sz)) (va_Ql (fun r (_ : Unit) => r = R) (fun _ t => Wd G cy (va_A [] sz) [] t) (va_A [] sz)) 0 0 (va_A [] sz) := by
  refine Met.ofW (cc := cX5_withoutLowest) (maxL := 6) (ret := (some .long)) (by decide) rfl ?_
  intro p e s m args below meth c s₁ B hml hv
  obtain ⟨rfl, hsz, hP, hK, hD0, hN⟩ := hv
  have hx := B.exec
  have hb := B.bytes
  have hr := B.returns
  have hts := atoms_spec (ws := wsX5_withoutLowest) B.pre
  have hown : s.vm.findClass RX5 = some m.cls := findClass_of_methodNamed B.named
  have hlocks := B.notSynchronized
  subst hsz
  have hD := hD0.self (sz := s.heap.size)
  generalize hAe : va_A [] s.heap.size = A at hD ⊢
  have hA : ∀ q : Nat, s.heap.size ≤ q → A q := fun q h => by rw [← hAe]; exact Or.inr h
  have hS : va_S A s.heap s.heap [] := va_S.rf
  have hP : va_P G vwCl [] s.heap := hP
  have bl_5 : ∀ (y2 : Int32), ∀ (k : Nat), ∀ (y3 : Int64) (y5 : Int32) (H : Heap) (locs : List Loc), f_X5_withoutLowest_b5 n y2 k y3 y5 = some R → va_P G vwCl [] H → va_D A [] → va_S A s.heap H locs → ∀ (ls : Array Slot), lv_has ls 6 [(2, .int y2), (3, .long y3), (5, .int y5)] → W p l e ({ frames := 0, cells := 0, slots := 0, locals := 0 } : Room) s m [.long x0, .int x2].toArray below meth c H locs 0 0 (MQ below (va_Ql (fun r (_ : Unit) => r = R) (fun _ t => Wd G cy A [] t) A) [.long x0, .int x2].toArray s 0 0 A) (F0 m 5 ls []) := by
    intro y2
    intro k
    induction k with
    | zero =>
      intro y3 y5 H locs hf; cases hf
    | succ k ih =>
      intro y3 y5 H locs hf hP hD hS ls hl
      have hf := (f_X5_withoutLowest_b5_s n y2 k y3 y5).symm.trans hf
      refine lv_iload hx hb dX5_withoutLowest_5 (lv_at hl 2 rfl) ?_
      refine lv_iload_n hx hb dX5_withoutLowest_7 rfl (lv_at hl 0 rfl) ?_
      refine lv_icmp_ge (tgt := 23) hx hb dX5_withoutLowest_8 (by decide) (fun h_1 => ?_) (fun h_1 => ?_)
      · have hf := ip_ h_1 hf
        refine lv_lload_n hx hb dX5_withoutLowest_23 rfl (lv_at hl 1 rfl) ?_
        obtain rfl := Option.some.inj hf
        exact kr_l hx hb hr hlocks rfl hP hK hD hN hS hS.2.2 dX5_withoutLowest_24
      · have hf := in_ h_1 hf
        refine lv_lload_n hx hb dX5_withoutLowest_11 rfl (lv_at hl 1 rfl) ?_
        refine lv_ldc2 (v := 10000) hx hb hown (hts (.constantLong RX5 272 (10000)) (by decide +kernel)) dX5_withoutLowest_12 ?_
        refine lv_ldiv hx hb dX5_withoutLowest_15 (by decide) ?_
        refine lv_lstore_n (lv' := [(3, .long (y3 / 10000)), (2, .int y2), (5, .int y5)]) hx hb dX5_withoutLowest_16 rfl hl (by decide) rfl (fun ls hl => ?_)
        refine lv_iinc (v := (y5 + 1)) (lv' := [(5, .int (y5 + 1)), (3, .long (y3 / 10000)), (2, .int y2)]) hx hb dX5_withoutLowest_17 hl (k := 2) rfl rfl (by decide) rfl (fun ls hl => ?_)
        refine lv_goto (tgt := 5) hx hb dX5_withoutLowest_20 (by decide) ?_
        exact ih (y3 / 10000) (y5 + 1) _ _ hf hP hD hS ls (lv_sub hl [2, 1, 0] rfl)
  have hl := lv_entry [.long x0, .int x2] (n := 6) (Nat.le_of_ble_eq_true rfl)
  rw [lg_entry_eq]
  generalize (lg_sl [.long x0, .int x2] ++ List.replicate (6 - (lg_sl [.long x0, .int x2]).length) Slot.unset).toArray = ls at hl ⊢
  have hl : lv_has ls 6 [(0, .long x0), (2, .int x2)] := hl
  unfold f_X5_withoutLowest at hf
  refine lv_lload_n hx hb dX5_withoutLowest_0 rfl (lv_at hl 0 rfl) ?_
  refine lv_lstore_n (lv' := [(3, .long x0), (0, .long x0), (2, .int x2)]) hx hb dX5_withoutLowest_1 rfl hl (by decide) rfl (fun ls hl => ?_)
  refine lv_iconst (v := 0) hx hb dX5_withoutLowest_2 (by decide) ?_
  refine lv_istore (lv' := [(5, .int 0), (3, .long x0), (0, .long x0), (2, .int x2)]) hx hb dX5_withoutLowest_3 hl (by decide) rfl (fun ls hl => ?_)
  exact bl_5 x2 n x0 0 _ _ hf hP hD hS ls (lv_sub hl [3, 1, 0] rfl)
set_option maxHeartbeats 4000000 in
set_option maxRecDepth 100000 in
theorem c_X5_succeeds {l : Launch} (G : va_G) (cy : Nat → ClassId) (a_0 : Nat) (a_text : Nat) (a_window : Nat) (a_trial : Nat) (a_past : Nat) (a_firstSlot : Nat) (a_secondSlot : Nat) (a_equations : Nat) (a_looks : Nat) (sz : Nat) (s_trial : WT) (x1 : Int32) (n : Nat) (R : Bool × WT) (hf : f_X5_succeeds n s_trial x1 = some R) : Met l yX5_succeeds wsX5_succeeds ({ frames := 5, cells := 0, slots := 0, locals := 118 } : Room) (va_Pc [.ref a_0, .int x1] (pcW G cy [(a_0, fv a_text a_window a_trial a_past a_firstSlot a_secondSlot a_equations a_looks), (a_trial, wv s_trial)] sz)) (va_Qi (fun r (_ : Unit) => r = bI R.1) (fun _ t => Wd G cy (va_A [(a_0, fv a_text a_window a_trial a_past a_firstSlot a_secondSlot a_equations a_looks), (a_trial, wv s_trial)] sz) [(a_0, fv a_text a_window a_trial a_past a_firstSlot a_secondSlot a_equations a_looks), (a_trial, wv R.2)] t) (va_A [(a_0, fv a_text a_window a_trial a_past a_firstSlot a_secondSlot a_equations a_looks), (a_trial, wv s_trial)] sz)) 0 0 (va_A [(a_0, fv a_text a_window a_trial a_past a_firstSlot a_secondSlot a_equations a_looks), (a_trial, wv s_trial)] sz) := by
  refine Met.ofW (cc := cX5_succeeds) (maxL := 4) (ret := (some .boolean)) (by decide) rfl ?_
  intro p e s m args below meth c s₁ B hml hv
  obtain ⟨rfl, hsz, hP, hK, hD0, hN⟩ := hv
  have hx := B.exec
  have hb := B.bytes
  have hr := B.returns
  have hts := atoms_spec (ws := wsX5_succeeds) B.pre
  have hown : s.vm.findClass RX5 = some m.cls := findClass_of_methodNamed B.named
  have hlocks := B.notSynchronized
  subst hsz
  have hD := hD0.self (sz := s.heap.size)
  generalize hAe : va_A [(a_0, fv a_text a_window a_trial a_past a_firstSlot a_secondSlot a_equations a_looks), (a_trial, wv s_trial)] s.heap.size = A at hD ⊢
  have hA : ∀ q : Nat, s.heap.size ≤ q → A q := fun q h => by rw [← hAe]; exact Or.inr h
  have hS : va_S A s.heap s.heap [] := va_S.rf
  have hP : va_P G vwCl [(a_0, fv a_text a_window a_trial a_past a_firstSlot a_secondSlot a_equations a_looks), (a_trial, wv s_trial)] s.heap := hP
  have hl := lv_entry [.ref a_0, .int x1] (n := 4) (Nat.le_of_ble_eq_true rfl)
  rw [lg_entry_eq]
  generalize (lg_sl [.ref a_0, .int x1] ++ List.replicate (4 - (lg_sl [.ref a_0, .int x1]).length) Slot.unset).toArray = ls at hl ⊢
  have hl : lv_has ls 4 [(0, .ref a_0), (1, .int x1)] := hl
  unfold f_X5_succeeds at hf
  refine lv_iload_n hx hb dX5_succeeds_0 rfl (lv_at hl 1 rfl) ?_
  refine lv_bipush (v := 10) hx hb dX5_succeeds_1 (by decide) ?_
  refine lv_idiv hx hb dX5_succeeds_3 (by decide) ?_
  refine lv_bipush (v := 100) hx hb dX5_succeeds_4 (by decide) ?_
  refine lv_irem hx hb dX5_succeeds_6 (by decide) ?_
  refine lv_istore_n (lv' := [(2, .int (irm (x1 / 10) 100)), (0, .ref a_0), (1, .int x1)]) hx hb dX5_succeeds_7 rfl hl (by decide) rfl (fun ls hl => ?_)
  refine lv_iload_n hx hb dX5_succeeds_8 rfl (lv_at hl 2 rfl) ?_
  refine lv_bipush (v := 10) hx hb dX5_succeeds_9 (by decide) ?_
  refine lv_irem hx hb dX5_succeeds_11 (by decide) ?_
  refine lv_istore_n (lv' := [(3, .int (irm x1 10)), (2, .int (irm (x1 / 10) 100)), (0, .ref a_0), (1, .int x1)]) hx hb dX5_succeeds_12 rfl hl (by decide) rfl (fun ls hl => ?_)
  refine lv_iload_n hx hb dX5_succeeds_13 rfl (lv_at hl 3 rfl) ?_
  refine lv_sipush (v := 1000) hx hb dX5_succeeds_14 (by decide) ?_
  refine lv_idiv hx hb dX5_succeeds_17 (by decide) ?_
  by_cases h_1 : (x1 / 1000) = 1
  · have hf := ip_ h_1 hf
    refine lv_tableIn (tgt := 68) (off := 50) hx hb dX5_succeeds_18 (by show ¬ (x1 / 1000).toInt < 1; rw [h_1]; decide) (by show ¬ 9 < (x1 / 1000).toInt; rw [h_1]; decide) (by show (#[50, 72, 91, 116, 138, 165, 184, 221, 250] : Array Int)[((x1 / 1000).toInt - 1).toNat]? = some 50; rw [h_1]; rfl) (by decide) ?_
    refine lv_iload_n hx hb dX5_succeeds_68 rfl (lv_at hl 0 rfl) ?_
    refine lv_if_ne (tgt := 88) hx hb dX5_succeeds_69 (by decide) (fun h_2 => ?_) (fun h_2 => ?_)
    · have hf := in_ h_2 hf
      refine lv_iconst (v := 0) hx hb dX5_succeeds_88 (by decide) ?_
      obtain rfl := Option.some.inj hf
      exact kr_z (V := bI false) hx hb hr hlocks (bI_nar _) rfl hP hK hD hN hS hS.2.2 dX5_succeeds_89
    · have hf := ip_ h_2 hf
      refine lv_aload_n hx hb dX5_succeeds_72 rfl (lv_at hl 2 rfl) ?_
      refine va_get (D := G) (ci := 5) (v := .ref a_trial) (C := RX5) (T := TX5) (N := 8) hx hb hts iw_X5_succeeds_X5 hown hK hP 0 rfl rfl 2 (by decide) (hts (.fieldLink RX5 23 "PaneFrost" "trial" "LPaneFrost$Window;") (by decide +kernel)) (fun _ h9 => h9) rfl dX5_succeeds_73 ?_
      refine lv_iload_n hx hb dX5_succeeds_76 rfl (lv_at hl 1 rfl) ?_
      obtain ⟨r_3, hh_r_3⟩ : ∃ z, z = f_X4_turn s_trial (irm (x1 / 10) 100) := ⟨_, rfl⟩
      have hf := lt_e hh_r_3 hf
      refine kc_i (w1 := [(a_trial, wv r_3.2)]) (wr := [(a_0, fv a_text a_window a_trial a_past a_firstSlot a_secondSlot a_equations a_looks)]) hP hD hS hA [1] [0] rfl rfl rfl (by decide) (va_runV (As := [.int (irm (x1 / 10) 100)]) (rest := []) ⟨hx, hb, hml, hown, hts⟩ (c_X4_turn (l := l) G cy a_trial s.heap.size s_trial (irm (x1 / 10) 100)  r_3 hh_r_3.symm) (cwV 1 hts gX5_succeeds_X4_turn rfl rfl rfl ddV_X4_turn ⟨Nat.le_of_ble_eq_true rfl, Nat.le_of_ble_eq_true rfl⟩) (preV_ (ci := 4) (q0 := 0) rfl rfl (hP.sub (ws' := [(a_trial, wv s_trial)]) [1] rfl) hK (hD.sub (ws' := [(a_trial, wv s_trial)]) [1] rfl rfl) hN) rfl rfl hl.1 rfl (lv_room (Nat.le_of_ble_eq_true rfl)) dX5_succeeds_77 ⟨Nat.le_of_ble_eq_true rfl, Nat.le_of_ble_eq_true rfl⟩) (fun H locs hP hD hS => ?_)
      have hP : va_P G vwCl [(a_0, fv a_text a_window a_trial a_past a_firstSlot a_secondSlot a_equations a_looks), (a_trial, wv r_3.2)] H := hP
      have hD : va_D A [(a_0, fv a_text a_window a_trial a_past a_firstSlot a_secondSlot a_equations a_looks), (a_trial, wv r_3.2)] := hD
      refine lv_iconst (v := (-1)) hx hb dX5_succeeds_80 (by decide) ?_
      refine lv_icmp_eq (tgt := 88) hx hb dX5_succeeds_81 (by decide) (fun h_4 => ?_) (fun h_4 => ?_)
      · have hf := ip_ h_4 hf
        refine lv_iconst (v := 0) hx hb dX5_succeeds_88 (by decide) ?_
        obtain rfl := Option.some.inj hf
        exact kr_z (V := bI false) hx hb hr hlocks (bI_nar _) rfl hP hK hD hN hS hS.2.2 dX5_succeeds_89
      · have hf := in_ h_4 hf
        refine lv_iconst (v := 1) hx hb dX5_succeeds_84 (by decide) ?_
        refine lv_goto (tgt := 89) hx hb dX5_succeeds_85 (by decide) ?_
        obtain rfl := Option.some.inj hf
        exact kr_z (V := bI true) hx hb hr hlocks (bI_nar _) rfl hP hK hD hN hS hS.2.2 dX5_succeeds_89
  have hf := in_ h_1 hf
  by_cases h_5 : (x1 / 1000) = 2
  · have hf := ip_ h_5 hf
    refine lv_tableIn (tgt := 90) (off := 72) hx hb dX5_succeeds_18 (by show ¬ (x1 / 1000).toInt < 1; rw [h_5]; decide) (by show ¬ 9 < (x1 / 1000).toInt; rw [h_5]; decide) (by show (#[50, 72, 91, 116, 138, 165, 184, 221, 250] : Array Int)[((x1 / 1000).toInt - 1).toNat]? = some 72; rw [h_5]; rfl) (by decide) ?_
    refine lv_aload_n hx hb dX5_succeeds_90 rfl (lv_at hl 2 rfl) ?_
    refine va_get (D := G) (ci := 5) (v := .ref a_trial) (C := RX5) (T := TX5) (N := 8) hx hb hts iw_X5_succeeds_X5 hown hK hP 0 rfl rfl 2 (by decide) (hts (.fieldLink RX5 23 "PaneFrost" "trial" "LPaneFrost$Window;") (by decide +kernel)) (fun _ h9 => h9) rfl dX5_succeeds_91 ?_
    refine lv_iload_n hx hb dX5_succeeds_94 rfl (lv_at hl 1 rfl) ?_
    refine lv_iload_n hx hb dX5_succeeds_95 rfl (lv_at hl 0 rfl) ?_
    obtain ⟨r_6, hh_r_6⟩ : ∃ z, z = f_X4_scrape s_trial (irm (x1 / 10) 100) (irm x1 10) := ⟨_, rfl⟩
    have hf := lt_e hh_r_6 hf
    refine kc_i (w1 := [(a_trial, wv r_6.2)]) (wr := [(a_0, fv a_text a_window a_trial a_past a_firstSlot a_secondSlot a_equations a_looks)]) hP hD hS hA [1] [0] rfl rfl rfl (by decide) (va_runV (As := [.int (irm (x1 / 10) 100), .int (irm x1 10)]) (rest := []) ⟨hx, hb, hml, hown, hts⟩ (c_X4_scrape (l := l) G cy a_trial s.heap.size s_trial (irm (x1 / 10) 100) (irm x1 10)  r_6 hh_r_6.symm) (cwV 2 hts gX5_succeeds_X4_scrape rfl rfl rfl ddV_X4_scrape ⟨Nat.le_of_ble_eq_true rfl, Nat.le_of_ble_eq_true rfl⟩) (preV_ (ci := 4) (q0 := 0) rfl rfl (hP.sub (ws' := [(a_trial, wv s_trial)]) [1] rfl) hK (hD.sub (ws' := [(a_trial, wv s_trial)]) [1] rfl rfl) hN) rfl rfl hl.1 rfl (lv_room (Nat.le_of_ble_eq_true rfl)) dX5_succeeds_96 ⟨Nat.le_of_ble_eq_true rfl, Nat.le_of_ble_eq_true rfl⟩) (fun H locs hP hD hS => ?_)
    have hP : va_P G vwCl [(a_0, fv a_text a_window a_trial a_past a_firstSlot a_secondSlot a_equations a_looks), (a_trial, wv r_6.2)] H := hP
    have hD : va_D A [(a_0, fv a_text a_window a_trial a_past a_firstSlot a_secondSlot a_equations a_looks), (a_trial, wv r_6.2)] := hD
    refine lv_iconst (v := (-1)) hx hb dX5_succeeds_99 (by decide) ?_
    refine lv_icmp_eq (tgt := 107) hx hb dX5_succeeds_100 (by decide) (fun h_7 => ?_) (fun h_7 => ?_)
    · have hf := ip_ h_7 hf
      refine lv_iconst (v := 0) hx hb dX5_succeeds_107 (by decide) ?_
      obtain rfl := Option.some.inj hf
      exact kr_z (V := bI false) hx hb hr hlocks (bI_nar _) rfl hP hK hD hN hS hS.2.2 dX5_succeeds_108
    · have hf := in_ h_7 hf
      refine lv_iconst (v := 1) hx hb dX5_succeeds_103 (by decide) ?_
      refine lv_goto (tgt := 108) hx hb dX5_succeeds_104 (by decide) ?_
      obtain rfl := Option.some.inj hf
      exact kr_z (V := bI true) hx hb hr hlocks (bI_nar _) rfl hP hK hD hN hS hS.2.2 dX5_succeeds_108
  have hf := in_ h_5 hf
  by_cases h_8 : (x1 / 1000) = 3
  · have hf := ip_ h_8 hf
    refine lv_tableIn (tgt := 109) (off := 91) hx hb dX5_succeeds_18 (by show ¬ (x1 / 1000).toInt < 1; rw [h_8]; decide) (by show ¬ 9 < (x1 / 1000).toInt; rw [h_8]; decide) (by show (#[50, 72, 91, 116, 138, 165, 184, 221, 250] : Array Int)[((x1 / 1000).toInt - 1).toNat]? = some 91; rw [h_8]; rfl) (by decide) ?_
    refine lv_iload_n hx hb dX5_succeeds_109 rfl (lv_at hl 1 rfl) ?_
    refine lv_bipush (v := 10) hx hb dX5_succeeds_110 (by decide) ?_
    refine lv_icmp_ge (tgt := 132) hx hb dX5_succeeds_112 (by decide) (fun h_9 => ?_) (fun h_9 => ?_)
    · have hf := ip_ h_9 hf
      refine lv_iconst (v := 0) hx hb dX5_succeeds_132 (by decide) ?_
      obtain rfl := Option.some.inj hf
      exact kr_z (V := bI false) hx hb hr hlocks (bI_nar _) rfl hP hK hD hN hS hS.2.2 dX5_succeeds_133
    · have hf := in_ h_9 hf
      refine lv_aload_n hx hb dX5_succeeds_115 rfl (lv_at hl 2 rfl) ?_
      refine va_get (D := G) (ci := 5) (v := .ref a_trial) (C := RX5) (T := TX5) (N := 8) hx hb hts iw_X5_succeeds_X5 hown hK hP 0 rfl rfl 2 (by decide) (hts (.fieldLink RX5 23 "PaneFrost" "trial" "LPaneFrost$Window;") (by decide +kernel)) (fun _ h9 => h9) rfl dX5_succeeds_116 ?_
      refine lv_iload_n hx hb dX5_succeeds_119 rfl (lv_at hl 1 rfl) ?_
      refine lv_iload_n hx hb dX5_succeeds_120 rfl (lv_at hl 0 rfl) ?_
      obtain ⟨r_10, hh_r_10⟩ : ∃ z, z = f_X4_putKind s_trial (irm (x1 / 10) 100) (irm x1 10) := ⟨_, rfl⟩
      have hf := lt_e hh_r_10 hf
      refine kc_i (w1 := [(a_trial, wv r_10.2)]) (wr := [(a_0, fv a_text a_window a_trial a_past a_firstSlot a_secondSlot a_equations a_looks)]) hP hD hS hA [1] [0] rfl rfl rfl (by decide) (va_runV (As := [.int (irm (x1 / 10) 100), .int (irm x1 10)]) (rest := []) ⟨hx, hb, hml, hown, hts⟩ (c_X4_putKind (l := l) G cy a_trial s.heap.size s_trial (irm (x1 / 10) 100) (irm x1 10)  r_10 hh_r_10.symm) (cwV 2 hts gX5_succeeds_X4_putKind rfl rfl rfl ddV_X4_putKind ⟨Nat.le_of_ble_eq_true rfl, Nat.le_of_ble_eq_true rfl⟩) (preV_ (ci := 4) (q0 := 0) rfl rfl (hP.sub (ws' := [(a_trial, wv s_trial)]) [1] rfl) hK (hD.sub (ws' := [(a_trial, wv s_trial)]) [1] rfl rfl) hN) rfl rfl hl.1 rfl (lv_room (Nat.le_of_ble_eq_true rfl)) dX5_succeeds_121 ⟨Nat.le_of_ble_eq_true rfl, Nat.le_of_ble_eq_true rfl⟩) (fun H locs hP hD hS => ?_)
      have hP : va_P G vwCl [(a_0, fv a_text a_window a_trial a_past a_firstSlot a_secondSlot a_equations a_looks), (a_trial, wv r_10.2)] H := hP
      have hD : va_D A [(a_0, fv a_text a_window a_trial a_past a_firstSlot a_secondSlot a_equations a_looks), (a_trial, wv r_10.2)] := hD
      refine lv_iconst (v := (-1)) hx hb dX5_succeeds_124 (by decide) ?_
      refine lv_icmp_eq (tgt := 132) hx hb dX5_succeeds_125 (by decide) (fun h_11 => ?_) (fun h_11 => ?_)
      · have hf := ip_ h_11 hf
        refine lv_iconst (v := 0) hx hb dX5_succeeds_132 (by decide) ?_
        obtain rfl := Option.some.inj hf
        exact kr_z (V := bI false) hx hb hr hlocks (bI_nar _) rfl hP hK hD hN hS hS.2.2 dX5_succeeds_133
      · have hf := in_ h_11 hf
        refine lv_iconst (v := 1) hx hb dX5_succeeds_128 (by decide) ?_
        refine lv_goto (tgt := 133) hx hb dX5_succeeds_129 (by decide) ?_
        obtain rfl := Option.some.inj hf
        exact kr_z (V := bI true) hx hb hr hlocks (bI_nar _) rfl hP hK hD hN hS hS.2.2 dX5_succeeds_133
  have hf := in_ h_8 hf
  by_cases h_12 : (x1 / 1000) = 4
  · have hf := ip_ h_12 hf
    refine lv_tableIn (tgt := 134) (off := 116) hx hb dX5_succeeds_18 (by show ¬ (x1 / 1000).toInt < 1; rw [h_12]; decide) (by show ¬ 9 < (x1 / 1000).toInt; rw [h_12]; decide) (by show (#[50, 72, 91, 116, 138, 165, 184, 221, 250] : Array Int)[((x1 / 1000).toInt - 1).toNat]? = some 116; rw [h_12]; rfl) (by decide) ?_
    refine lv_iload_n hx hb dX5_succeeds_134 rfl (lv_at hl 1 rfl) ?_
    refine lv_if_ne (tgt := 154) hx hb dX5_succeeds_135 (by decide) (fun h_13 => ?_) (fun h_13 => ?_)
    · have hf := in_ h_13 hf
      refine lv_iconst (v := 0) hx hb dX5_succeeds_154 (by decide) ?_
      obtain rfl := Option.some.inj hf
      exact kr_z (V := bI false) hx hb hr hlocks (bI_nar _) rfl hP hK hD hN hS hS.2.2 dX5_succeeds_155
    · have hf := ip_ h_13 hf
      refine lv_aload_n hx hb dX5_succeeds_138 rfl (lv_at hl 2 rfl) ?_
      refine va_get (D := G) (ci := 5) (v := .ref a_trial) (C := RX5) (T := TX5) (N := 8) hx hb hts iw_X5_succeeds_X5 hown hK hP 0 rfl rfl 2 (by decide) (hts (.fieldLink RX5 23 "PaneFrost" "trial" "LPaneFrost$Window;") (by decide +kernel)) (fun _ h9 => h9) rfl dX5_succeeds_139 ?_
      refine lv_iload_n hx hb dX5_succeeds_142 rfl (lv_at hl 0 rfl) ?_
      obtain ⟨r_14, hh_r_14⟩ : ∃ z, z = f_X4_putRule s_trial (irm x1 10) := ⟨_, rfl⟩
      have hf := lt_e hh_r_14 hf
      refine kc_i (w1 := [(a_trial, wv r_14.2)]) (wr := [(a_0, fv a_text a_window a_trial a_past a_firstSlot a_secondSlot a_equations a_looks)]) hP hD hS hA [1] [0] rfl rfl rfl (by decide) (va_runV (As := [.int (irm x1 10)]) (rest := []) ⟨hx, hb, hml, hown, hts⟩ (c_X4_putRule (l := l) G cy a_trial s.heap.size s_trial (irm x1 10)  r_14 hh_r_14.symm) (cwV 1 hts gX5_succeeds_X4_putRule rfl rfl rfl ddV_X4_putRule ⟨Nat.le_of_ble_eq_true rfl, Nat.le_of_ble_eq_true rfl⟩) (preV_ (ci := 4) (q0 := 0) rfl rfl (hP.sub (ws' := [(a_trial, wv s_trial)]) [1] rfl) hK (hD.sub (ws' := [(a_trial, wv s_trial)]) [1] rfl rfl) hN) rfl rfl hl.1 rfl (lv_room (Nat.le_of_ble_eq_true rfl)) dX5_succeeds_143 ⟨Nat.le_of_ble_eq_true rfl, Nat.le_of_ble_eq_true rfl⟩) (fun H locs hP hD hS => ?_)
      have hP : va_P G vwCl [(a_0, fv a_text a_window a_trial a_past a_firstSlot a_secondSlot a_equations a_looks), (a_trial, wv r_14.2)] H := hP
      have hD : va_D A [(a_0, fv a_text a_window a_trial a_past a_firstSlot a_secondSlot a_equations a_looks), (a_trial, wv r_14.2)] := hD
      refine lv_iconst (v := (-1)) hx hb dX5_succeeds_146 (by decide) ?_
      refine lv_icmp_eq (tgt := 154) hx hb dX5_succeeds_147 (by decide) (fun h_15 => ?_) (fun h_15 => ?_)
      · have hf := ip_ h_15 hf
        refine lv_iconst (v := 0) hx hb dX5_succeeds_154 (by decide) ?_
        obtain rfl := Option.some.inj hf
        exact kr_z (V := bI false) hx hb hr hlocks (bI_nar _) rfl hP hK hD hN hS hS.2.2 dX5_succeeds_155
      · have hf := in_ h_15 hf
        refine lv_iconst (v := 1) hx hb dX5_succeeds_150 (by decide) ?_
        refine lv_goto (tgt := 155) hx hb dX5_succeeds_151 (by decide) ?_
        obtain rfl := Option.some.inj hf
        exact kr_z (V := bI true) hx hb hr hlocks (bI_nar _) rfl hP hK hD hN hS hS.2.2 dX5_succeeds_155
  have hf := in_ h_12 hf
  by_cases h_16 : (x1 / 1000) = 5
  · have hf := ip_ h_16 hf
    refine lv_tableIn (tgt := 156) (off := 138) hx hb dX5_succeeds_18 (by show ¬ (x1 / 1000).toInt < 1; rw [h_16]; decide) (by show ¬ 9 < (x1 / 1000).toInt; rw [h_16]; decide) (by show (#[50, 72, 91, 116, 138, 165, 184, 221, 250] : Array Int)[((x1 / 1000).toInt - 1).toNat]? = some 138; rw [h_16]; rfl) (by decide) ?_
    refine lv_iload_n hx hb dX5_succeeds_156 rfl (lv_at hl 1 rfl) ?_
    refine lv_bipush (v := 10) hx hb dX5_succeeds_157 (by decide) ?_
    refine lv_icmp_ge (tgt := 181) hx hb dX5_succeeds_159 (by decide) (fun h_17 => ?_) (fun h_17 => ?_)
    · have hf := ip_ h_17 hf
      refine lv_iconst (v := 0) hx hb dX5_succeeds_181 (by decide) ?_
      obtain rfl := Option.some.inj hf
      exact kr_z (V := bI false) hx hb hr hlocks (bI_nar _) rfl hP hK hD hN hS hS.2.2 dX5_succeeds_182
    · have hf := in_ h_17 hf
      refine lv_aload_n hx hb dX5_succeeds_162 rfl (lv_at hl 2 rfl) ?_
      refine va_get (D := G) (ci := 5) (v := .ref a_trial) (C := RX5) (T := TX5) (N := 8) hx hb hts iw_X5_succeeds_X5 hown hK hP 0 rfl rfl 2 (by decide) (hts (.fieldLink RX5 23 "PaneFrost" "trial" "LPaneFrost$Window;") (by decide +kernel)) (fun _ h9 => h9) rfl dX5_succeeds_163 ?_
      refine lv_iload_n hx hb dX5_succeeds_166 rfl (lv_at hl 3 rfl) ?_
      refine lv_bipush (v := 100) hx hb dX5_succeeds_167 (by decide) ?_
      refine lv_irem hx hb dX5_succeeds_169 (by decide) ?_
      obtain ⟨r_18, hh_r_18, hf⟩ := obd_some hf
      refine kc_i (w1 := [(a_trial, wv r_18.2)]) (wr := [(a_0, fv a_text a_window a_trial a_past a_firstSlot a_secondSlot a_equations a_looks)]) hP hD hS hA [1] [0] rfl rfl rfl (by decide) (va_runV (As := [.int (irm x1 100)]) (rest := []) ⟨hx, hb, hml, hown, hts⟩ (c_X4_pass (l := l) G cy a_trial s.heap.size s_trial (irm x1 100) n r_18 hh_r_18) (cwV 1 hts gX5_succeeds_X4_pass rfl rfl rfl ddV_X4_pass ⟨Nat.le_of_ble_eq_true rfl, Nat.le_of_ble_eq_true rfl⟩) (preV_ (ci := 4) (q0 := 0) rfl rfl (hP.sub (ws' := [(a_trial, wv s_trial)]) [1] rfl) hK (hD.sub (ws' := [(a_trial, wv s_trial)]) [1] rfl rfl) hN) rfl rfl hl.1 rfl (lv_room (Nat.le_of_ble_eq_true rfl)) dX5_succeeds_170 ⟨Nat.le_of_ble_eq_true rfl, Nat.le_of_ble_eq_true rfl⟩) (fun H locs hP hD hS => ?_)
      have hP : va_P G vwCl [(a_0, fv a_text a_window a_trial a_past a_firstSlot a_secondSlot a_equations a_looks), (a_trial, wv r_18.2)] H := hP
      have hD : va_D A [(a_0, fv a_text a_window a_trial a_past a_firstSlot a_secondSlot a_equations a_looks), (a_trial, wv r_18.2)] := hD
      refine lv_iconst (v := (-1)) hx hb dX5_succeeds_173 (by decide) ?_
      refine lv_icmp_eq (tgt := 181) hx hb dX5_succeeds_174 (by decide) (fun h_19 => ?_) (fun h_19 => ?_)
      · have hf := ip_ h_19 hf
        refine lv_iconst (v := 0) hx hb dX5_succeeds_181 (by decide) ?_
        obtain rfl := Option.some.inj hf
        exact kr_z (V := bI false) hx hb hr hlocks (bI_nar _) rfl hP hK hD hN hS hS.2.2 dX5_succeeds_182
      · have hf := in_ h_19 hf
        refine lv_iconst (v := 1) hx hb dX5_succeeds_177 (by decide) ?_
        refine lv_goto (tgt := 182) hx hb dX5_succeeds_178 (by decide) ?_
        obtain rfl := Option.some.inj hf
        exact kr_z (V := bI true) hx hb hr hlocks (bI_nar _) rfl hP hK hD hN hS hS.2.2 dX5_succeeds_182
  have hf := in_ h_16 hf
  by_cases h_20 : (x1 / 1000) = 6
  · have hf := ip_ h_20 hf
    refine lv_tableIn (tgt := 183) (off := 165) hx hb dX5_succeeds_18 (by show ¬ (x1 / 1000).toInt < 1; rw [h_20]; decide) (by show ¬ 9 < (x1 / 1000).toInt; rw [h_20]; decide) (by show (#[50, 72, 91, 116, 138, 165, 184, 221, 250] : Array Int)[((x1 / 1000).toInt - 1).toNat]? = some 165; rw [h_20]; rfl) (by decide) ?_
    refine lv_aload_n hx hb dX5_succeeds_183 rfl (lv_at hl 2 rfl) ?_
    refine va_get (D := G) (ci := 5) (v := .ref a_trial) (C := RX5) (T := TX5) (N := 8) hx hb hts iw_X5_succeeds_X5 hown hK hP 0 rfl rfl 2 (by decide) (hts (.fieldLink RX5 23 "PaneFrost" "trial" "LPaneFrost$Window;") (by decide +kernel)) (fun _ h9 => h9) rfl dX5_succeeds_184 ?_
    refine lv_iload_n hx hb dX5_succeeds_187 rfl (lv_at hl 1 rfl) ?_
    refine lv_iload_n hx hb dX5_succeeds_188 rfl (lv_at hl 0 rfl) ?_
    obtain ⟨r_21, hh_r_21, hf⟩ := obd_some hf
    refine kc_i (w1 := [(a_trial, wv r_21.2)]) (wr := [(a_0, fv a_text a_window a_trial a_past a_firstSlot a_secondSlot a_equations a_looks)]) hP hD hS hA [1] [0] rfl rfl rfl (by decide) (va_runV (As := [.int (irm (x1 / 10) 100), .int (irm x1 10)]) (rest := []) ⟨hx, hb, hml, hown, hts⟩ (c_X4_thaw (l := l) G cy a_trial s.heap.size s_trial (irm (x1 / 10) 100) (irm x1 10) n r_21 hh_r_21) (cwV 2 hts gX5_succeeds_X4_thaw rfl rfl rfl ddV_X4_thaw ⟨Nat.le_of_ble_eq_true rfl, Nat.le_of_ble_eq_true rfl⟩) (preV_ (ci := 4) (q0 := 0) rfl rfl (hP.sub (ws' := [(a_trial, wv s_trial)]) [1] rfl) hK (hD.sub (ws' := [(a_trial, wv s_trial)]) [1] rfl rfl) hN) rfl rfl hl.1 rfl (lv_room (Nat.le_of_ble_eq_true rfl)) dX5_succeeds_189 ⟨Nat.le_of_ble_eq_true rfl, Nat.le_of_ble_eq_true rfl⟩) (fun H locs hP hD hS => ?_)
    have hP : va_P G vwCl [(a_0, fv a_text a_window a_trial a_past a_firstSlot a_secondSlot a_equations a_looks), (a_trial, wv r_21.2)] H := hP
    have hD : va_D A [(a_0, fv a_text a_window a_trial a_past a_firstSlot a_secondSlot a_equations a_looks), (a_trial, wv r_21.2)] := hD
    refine lv_iconst (v := (-1)) hx hb dX5_succeeds_192 (by decide) ?_
    refine lv_icmp_eq (tgt := 200) hx hb dX5_succeeds_193 (by decide) (fun h_22 => ?_) (fun h_22 => ?_)
    · have hf := ip_ h_22 hf
      refine lv_iconst (v := 0) hx hb dX5_succeeds_200 (by decide) ?_
      obtain rfl := Option.some.inj hf
      exact kr_z (V := bI false) hx hb hr hlocks (bI_nar _) rfl hP hK hD hN hS hS.2.2 dX5_succeeds_201
    · have hf := in_ h_22 hf
      refine lv_iconst (v := 1) hx hb dX5_succeeds_196 (by decide) ?_
      refine lv_goto (tgt := 201) hx hb dX5_succeeds_197 (by decide) ?_
      obtain rfl := Option.some.inj hf
      exact kr_z (V := bI true) hx hb hr hlocks (bI_nar _) rfl hP hK hD hN hS hS.2.2 dX5_succeeds_201
  have hf := in_ h_20 hf
  by_cases h_23 : (x1 / 1000) = 7
  · have hf := ip_ h_23 hf
    refine lv_tableIn (tgt := 202) (off := 184) hx hb dX5_succeeds_18 (by show ¬ (x1 / 1000).toInt < 1; rw [h_23]; decide) (by show ¬ 9 < (x1 / 1000).toInt; rw [h_23]; decide) (by show (#[50, 72, 91, 116, 138, 165, 184, 221, 250] : Array Int)[((x1 / 1000).toInt - 1).toNat]? = some 184; rw [h_23]; rfl) (by decide) ?_
    refine lv_aload_n hx hb dX5_succeeds_202 rfl (lv_at hl 2 rfl) ?_
    refine va_get (D := G) (ci := 5) (v := .ref a_trial) (C := RX5) (T := TX5) (N := 8) hx hb hts iw_X5_succeeds_X5 hown hK hP 0 rfl rfl 2 (by decide) (hts (.fieldLink RX5 23 "PaneFrost" "trial" "LPaneFrost$Window;") (by decide +kernel)) (fun _ h9 => h9) rfl dX5_succeeds_203 ?_
    refine lv_iload_n hx hb dX5_succeeds_206 rfl (lv_at hl 1 rfl) ?_
    refine kc_i (w1 := [(a_trial, wv s_trial)]) (wr := [(a_0, fv a_text a_window a_trial a_past a_firstSlot a_secondSlot a_equations a_looks)]) hP hD hS hA [1] [0] rfl rfl rfl (by decide) (va_runV (As := [.int (irm (x1 / 10) 100)]) (rest := []) ⟨hx, hb, hml, hown, hts⟩ (c_X4_hasCell (l := l) G cy a_trial s.heap.size s_trial (irm (x1 / 10) 100)  (f_X4_hasCell s_trial (irm (x1 / 10) 100)) rfl) (cwV 1 hts gX5_succeeds_X4_hasCell rfl rfl rfl ddV_X4_hasCell ⟨Nat.le_of_ble_eq_true rfl, Nat.le_of_ble_eq_true rfl⟩) (preV_ (ci := 4) (q0 := 0) rfl rfl (hP.sub (ws' := [(a_trial, wv s_trial)]) [1] rfl) hK (hD.sub (ws' := [(a_trial, wv s_trial)]) [1] rfl rfl) hN) rfl rfl hl.1 rfl (lv_room (Nat.le_of_ble_eq_true rfl)) dX5_succeeds_207 ⟨Nat.le_of_ble_eq_true rfl, Nat.le_of_ble_eq_true rfl⟩) (fun H locs hP hD hS => ?_)
    have hP : va_P G vwCl [(a_0, fv a_text a_window a_trial a_past a_firstSlot a_secondSlot a_equations a_looks), (a_trial, wv s_trial)] H := hP
    have hD : va_D A [(a_0, fv a_text a_window a_trial a_past a_firstSlot a_secondSlot a_equations a_looks), (a_trial, wv s_trial)] := hD
    refine lv_if_eq (tgt := 237) hx hb dX5_succeeds_210 (by decide) (fun h_24 => ?_) (fun h_24 => ?_)
    · have hf := in_ (bI_0 h_24) hf
      refine lv_iconst (v := 0) hx hb dX5_succeeds_237 (by decide) ?_
      obtain rfl := Option.some.inj hf
      exact kr_z (V := bI false) hx hb hr hlocks (bI_nar _) rfl hP hK hD hN hS hS.2.2 dX5_succeeds_238
    · have hf := ip_ (bI_n0 h_24) hf
      refine lv_iload_n hx hb dX5_succeeds_213 rfl (lv_at hl 0 rfl) ?_
      refine lv_aload_n hx hb dX5_succeeds_214 rfl (lv_at hl 2 rfl) ?_
      refine va_get (D := G) (ci := 5) (v := .ref a_trial) (C := RX5) (T := TX5) (N := 8) hx hb hts iw_X5_succeeds_X5 hown hK hP 0 rfl rfl 2 (by decide) (hts (.fieldLink RX5 23 "PaneFrost" "trial" "LPaneFrost$Window;") (by decide +kernel)) (fun _ h9 => h9) rfl dX5_succeeds_215 ?_
      refine lv_iload_n hx hb dX5_succeeds_218 rfl (lv_at hl 1 rfl) ?_
      refine kc_i (w1 := [(a_trial, wv s_trial)]) (wr := [(a_0, fv a_text a_window a_trial a_past a_firstSlot a_secondSlot a_equations a_looks)]) hP hD hS hA [1] [0] rfl rfl rfl (by decide) (va_runV (As := [.int (irm (x1 / 10) 100)]) (rest := [.int (irm x1 10)]) ⟨hx, hb, hml, hown, hts⟩ (c_X4_isFrozen (l := l) G cy a_trial H.size s_trial (irm (x1 / 10) 100)  (f_X4_isFrozen s_trial (irm (x1 / 10) 100)) rfl) (cwV 1 hts gX5_succeeds_X4_isFrozen rfl rfl rfl ddV_X4_isFrozen ⟨Nat.le_of_ble_eq_true rfl, Nat.le_of_ble_eq_true rfl⟩) (preV_ (ci := 4) (q0 := 0) rfl rfl (hP.sub (ws' := [(a_trial, wv s_trial)]) [1] rfl) hK (hD.sub (ws' := [(a_trial, wv s_trial)]) [1] rfl rfl) hN) rfl rfl hl.1 rfl (lv_room (Nat.le_of_ble_eq_true rfl)) dX5_succeeds_219 ⟨Nat.le_of_ble_eq_true rfl, Nat.le_of_ble_eq_true rfl⟩) (fun H locs hP hD hS => ?_)
      have hP : va_P G vwCl [(a_0, fv a_text a_window a_trial a_past a_firstSlot a_secondSlot a_equations a_looks), (a_trial, wv s_trial)] H := hP
      have hD : va_D A [(a_0, fv a_text a_window a_trial a_past a_firstSlot a_secondSlot a_equations a_looks), (a_trial, wv s_trial)] := hD
      refine lv_if_eq (tgt := 229) hx hb dX5_succeeds_222 (by decide) (fun h_25 => ?_) (fun h_25 => ?_)
      · have hf := in_ (bI_0 h_25) hf
        refine lv_iconst (v := 0) hx hb dX5_succeeds_229 (by decide) ?_
        refine lv_icmp_ne (tgt := 237) hx hb dX5_succeeds_230 (by decide) (fun h_26 => ?_) (fun h_26 => ?_)
        · have hf := in_ h_26 hf
          refine lv_iconst (v := 0) hx hb dX5_succeeds_237 (by decide) ?_
          obtain rfl := Option.some.inj hf
          exact kr_z (V := bI false) hx hb hr hlocks (bI_nar _) rfl hP hK hD hN hS hS.2.2 dX5_succeeds_238
        · have hf := ip_ h_26 hf
          refine lv_iconst (v := 1) hx hb dX5_succeeds_233 (by decide) ?_
          refine lv_goto (tgt := 238) hx hb dX5_succeeds_234 (by decide) ?_
          obtain rfl := Option.some.inj hf
          exact kr_z (V := bI true) hx hb hr hlocks (bI_nar _) rfl hP hK hD hN hS hS.2.2 dX5_succeeds_238
      · have hf := ip_ (bI_n0 h_25) hf
        refine lv_iconst (v := 1) hx hb dX5_succeeds_225 (by decide) ?_
        refine lv_goto (tgt := 230) hx hb dX5_succeeds_226 (by decide) ?_
        refine lv_icmp_ne (tgt := 237) hx hb dX5_succeeds_230 (by decide) (fun h_27 => ?_) (fun h_27 => ?_)
        · have hf := in_ h_27 hf
          refine lv_iconst (v := 0) hx hb dX5_succeeds_237 (by decide) ?_
          obtain rfl := Option.some.inj hf
          exact kr_z (V := bI false) hx hb hr hlocks (bI_nar _) rfl hP hK hD hN hS hS.2.2 dX5_succeeds_238
        · have hf := ip_ h_27 hf
          refine lv_iconst (v := 1) hx hb dX5_succeeds_233 (by decide) ?_
          refine lv_goto (tgt := 238) hx hb dX5_succeeds_234 (by decide) ?_
          obtain rfl := Option.some.inj hf
          exact kr_z (V := bI true) hx hb hr hlocks (bI_nar _) rfl hP hK hD hN hS hS.2.2 dX5_succeeds_238
  have hf := in_ h_23 hf
  by_cases h_28 : (x1 / 1000) = 8
  · have hf := ip_ h_28 hf
    refine lv_tableIn (tgt := 239) (off := 221) hx hb dX5_succeeds_18 (by show ¬ (x1 / 1000).toInt < 1; rw [h_28]; decide) (by show ¬ 9 < (x1 / 1000).toInt; rw [h_28]; decide) (by show (#[50, 72, 91, 116, 138, 165, 184, 221, 250] : Array Int)[((x1 / 1000).toInt - 1).toNat]? = some 221; rw [h_28]; rfl) (by decide) ?_
    refine lv_aload_n hx hb dX5_succeeds_239 rfl (lv_at hl 2 rfl) ?_
    refine va_get (D := G) (ci := 5) (v := .ref a_trial) (C := RX5) (T := TX5) (N := 8) hx hb hts iw_X5_succeeds_X5 hown hK hP 0 rfl rfl 2 (by decide) (hts (.fieldLink RX5 23 "PaneFrost" "trial" "LPaneFrost$Window;") (by decide +kernel)) (fun _ h9 => h9) rfl dX5_succeeds_240 ?_
    refine lv_iload_n hx hb dX5_succeeds_243 rfl (lv_at hl 1 rfl) ?_
    refine kc_i (w1 := [(a_trial, wv s_trial)]) (wr := [(a_0, fv a_text a_window a_trial a_past a_firstSlot a_secondSlot a_equations a_looks)]) hP hD hS hA [1] [0] rfl rfl rfl (by decide) (va_runV (As := [.int (irm (x1 / 10) 100)]) (rest := []) ⟨hx, hb, hml, hown, hts⟩ (c_X4_hasCell (l := l) G cy a_trial s.heap.size s_trial (irm (x1 / 10) 100)  (f_X4_hasCell s_trial (irm (x1 / 10) 100)) rfl) (cwV 1 hts gX5_succeeds_X4_hasCell rfl rfl rfl ddV_X4_hasCell ⟨Nat.le_of_ble_eq_true rfl, Nat.le_of_ble_eq_true rfl⟩) (preV_ (ci := 4) (q0 := 0) rfl rfl (hP.sub (ws' := [(a_trial, wv s_trial)]) [1] rfl) hK (hD.sub (ws' := [(a_trial, wv s_trial)]) [1] rfl rfl) hN) rfl rfl hl.1 rfl (lv_room (Nat.le_of_ble_eq_true rfl)) dX5_succeeds_244 ⟨Nat.le_of_ble_eq_true rfl, Nat.le_of_ble_eq_true rfl⟩) (fun H locs hP hD hS => ?_)
    have hP : va_P G vwCl [(a_0, fv a_text a_window a_trial a_past a_firstSlot a_secondSlot a_equations a_looks), (a_trial, wv s_trial)] H := hP
    have hD : va_D A [(a_0, fv a_text a_window a_trial a_past a_firstSlot a_secondSlot a_equations a_looks), (a_trial, wv s_trial)] := hD
    refine lv_if_eq (tgt := 266) hx hb dX5_succeeds_247 (by decide) (fun h_29 => ?_) (fun h_29 => ?_)
    · have hf := in_ (bI_0 h_29) hf
      refine lv_iconst (v := 0) hx hb dX5_succeeds_266 (by decide) ?_
      obtain rfl := Option.some.inj hf
      exact kr_z (V := bI false) hx hb hr hlocks (bI_nar _) rfl hP hK hD hN hS hS.2.2 dX5_succeeds_267
    · have hf := ip_ (bI_n0 h_29) hf
      refine lv_iload_n hx hb dX5_succeeds_250 rfl (lv_at hl 0 rfl) ?_
      refine lv_aload_n hx hb dX5_succeeds_251 rfl (lv_at hl 2 rfl) ?_
      refine va_get (D := G) (ci := 5) (v := .ref a_trial) (C := RX5) (T := TX5) (N := 8) hx hb hts iw_X5_succeeds_X5 hown hK hP 0 rfl rfl 2 (by decide) (hts (.fieldLink RX5 23 "PaneFrost" "trial" "LPaneFrost$Window;") (by decide +kernel)) (fun _ h9 => h9) rfl dX5_succeeds_252 ?_
      refine lv_iload_n hx hb dX5_succeeds_255 rfl (lv_at hl 1 rfl) ?_
      obtain ⟨r_30, hh_r_30, hf⟩ := obd_some hf
      refine kc_i (w1 := [(a_trial, wv s_trial)]) (wr := [(a_0, fv a_text a_window a_trial a_past a_firstSlot a_secondSlot a_equations a_looks)]) hP hD hS hA [1] [0] rfl rfl rfl (by decide) (va_runV (As := [.int (irm (x1 / 10) 100)]) (rest := [.int (irm x1 10)]) ⟨hx, hb, hml, hown, hts⟩ (c_X4_cold (l := l) G cy a_trial H.size s_trial (irm (x1 / 10) 100) n r_30 hh_r_30) (cwV 1 hts gX5_succeeds_X4_cold rfl rfl rfl ddV_X4_cold ⟨Nat.le_of_ble_eq_true rfl, Nat.le_of_ble_eq_true rfl⟩) (preV_ (ci := 4) (q0 := 0) rfl rfl (hP.sub (ws' := [(a_trial, wv s_trial)]) [1] rfl) hK (hD.sub (ws' := [(a_trial, wv s_trial)]) [1] rfl rfl) hN) rfl rfl hl.1 rfl (lv_room (Nat.le_of_ble_eq_true rfl)) dX5_succeeds_256 ⟨Nat.le_of_ble_eq_true rfl, Nat.le_of_ble_eq_true rfl⟩) (fun H locs hP hD hS => ?_)
      have hP : va_P G vwCl [(a_0, fv a_text a_window a_trial a_past a_firstSlot a_secondSlot a_equations a_looks), (a_trial, wv s_trial)] H := hP
      have hD : va_D A [(a_0, fv a_text a_window a_trial a_past a_firstSlot a_secondSlot a_equations a_looks), (a_trial, wv s_trial)] := hD
      refine lv_icmp_ne (tgt := 266) hx hb dX5_succeeds_259 (by decide) (fun h_31 => ?_) (fun h_31 => ?_)
      · have hf := in_ h_31 hf
        refine lv_iconst (v := 0) hx hb dX5_succeeds_266 (by decide) ?_
        obtain rfl := Option.some.inj hf
        exact kr_z (V := bI false) hx hb hr hlocks (bI_nar _) rfl hP hK hD hN hS hS.2.2 dX5_succeeds_267
      · have hf := ip_ h_31 hf
        refine lv_iconst (v := 1) hx hb dX5_succeeds_262 (by decide) ?_
        refine lv_goto (tgt := 267) hx hb dX5_succeeds_263 (by decide) ?_
        obtain rfl := Option.some.inj hf
        exact kr_z (V := bI true) hx hb hr hlocks (bI_nar _) rfl hP hK hD hN hS hS.2.2 dX5_succeeds_267
  have hf := in_ h_28 hf
  by_cases h_32 : (x1 / 1000) = 9
  · have hf := ip_ h_32 hf
    refine lv_tableIn (tgt := 268) (off := 250) hx hb dX5_succeeds_18 (by show ¬ (x1 / 1000).toInt < 1; rw [h_32]; decide) (by show ¬ 9 < (x1 / 1000).toInt; rw [h_32]; decide) (by show (#[50, 72, 91, 116, 138, 165, 184, 221, 250] : Array Int)[((x1 / 1000).toInt - 1).toNat]? = some 250; rw [h_32]; rfl) (by decide) ?_
    refine lv_iload_n hx hb dX5_succeeds_268 rfl (lv_at hl 1 rfl) ?_
    refine lv_bipush (v := 10) hx hb dX5_succeeds_269 (by decide) ?_
    refine lv_icmp_ge (tgt := 295) hx hb dX5_succeeds_271 (by decide) (fun h_33 => ?_) (fun h_33 => ?_)
    · have hf := ip_ h_33 hf
      refine lv_iconst (v := 0) hx hb dX5_succeeds_295 (by decide) ?_
      obtain rfl := Option.some.inj hf
      exact kr_z (V := bI false) hx hb hr hlocks (bI_nar _) rfl hP hK hD hN hS hS.2.2 dX5_succeeds_296
    · have hf := in_ h_33 hf
      refine lv_aload_n hx hb dX5_succeeds_274 rfl (lv_at hl 2 rfl) ?_
      refine va_get (D := G) (ci := 5) (v := .ref a_trial) (C := RX5) (T := TX5) (N := 8) hx hb hts iw_X5_succeeds_X5 hown hK hP 0 rfl rfl 2 (by decide) (hts (.fieldLink RX5 23 "PaneFrost" "trial" "LPaneFrost$Window;") (by decide +kernel)) (fun _ h9 => h9) rfl dX5_succeeds_275 ?_
      refine va_get (D := G) (ci := 4) (v := .long (w_frozen s_trial)) (C := RX4) (T := TX4) (N := 12) hx hb hts iw_X5_succeeds_X4 hown hK hP 1 rfl rfl 4 (by decide) (hts (.fieldLink RX5 138 "PaneFrost$Window" "frozen" "J") (by decide +kernel)) (fun _ h9 => h9) rfl dX5_succeeds_278 ?_
      refine kc_i (w1 := []) (wr := [(a_0, fv a_text a_window a_trial a_past a_firstSlot a_secondSlot a_equations a_looks), (a_trial, wv s_trial)]) hP hD hS hA [] [0, 1] rfl rfl rfl (by decide) (va_runS (As := [.long (w_frozen s_trial)]) (rest := []) ⟨hx, hb, hml, hown, hts⟩ (c_J13_bitCount_95d88 (l := l) G cy  s.heap.size (w_frozen s_trial)  (f_J13_bitCount_95d88 (w_frozen s_trial)) rfl) (va_cwS 1 hts gX5_succeeds_J13_bitCount_95d88 rfl rfl rfl ddN_J13_bitCount_95d88 ⟨Nat.le_of_ble_eq_true rfl, Nat.le_of_ble_eq_true rfl⟩) (preS_ (hP.sub (ws' := []) [] rfl) hK (hD.sub (ws' := []) [] rfl rfl) hN) rfl rfl hl.1 rfl (lv_room (Nat.le_of_ble_eq_true rfl)) dX5_succeeds_281 ⟨Nat.le_of_ble_eq_true rfl, Nat.le_of_ble_eq_true rfl⟩) (fun H locs hP hD hS => ?_)
      have hP : va_P G vwCl [(a_0, fv a_text a_window a_trial a_past a_firstSlot a_secondSlot a_equations a_looks), (a_trial, wv s_trial)] H := hP
      have hD : va_D A [(a_0, fv a_text a_window a_trial a_past a_firstSlot a_secondSlot a_equations a_looks), (a_trial, wv s_trial)] := hD
      refine lv_iload_n hx hb dX5_succeeds_284 rfl (lv_at hl 3 rfl) ?_
      refine lv_bipush (v := 100) hx hb dX5_succeeds_285 (by decide) ?_
      refine lv_irem hx hb dX5_succeeds_287 (by decide) ?_
      refine lv_icmp_lt (tgt := 295) hx hb dX5_succeeds_288 (by decide) (fun h_34 => ?_) (fun h_34 => ?_)
      · have hf := ip_ h_34 hf
        refine lv_iconst (v := 0) hx hb dX5_succeeds_295 (by decide) ?_
        obtain rfl := Option.some.inj hf
        exact kr_z (V := bI false) hx hb hr hlocks (bI_nar _) rfl hP hK hD hN hS hS.2.2 dX5_succeeds_296
      · have hf := in_ h_34 hf
        refine lv_iconst (v := 1) hx hb dX5_succeeds_291 (by decide) ?_
        refine lv_goto (tgt := 296) hx hb dX5_succeeds_292 (by decide) ?_
        obtain rfl := Option.some.inj hf
        exact kr_z (V := bI true) hx hb hr hlocks (bI_nar _) rfl hP hK hD hN hS hS.2.2 dX5_succeeds_296
  have hf := in_ h_32 hf
  have th_1 : ¬ (x1 / 1000).toInt = 1 := fun q => h_1 (Int32.toInt_inj.mp (q.trans (by decide)))
  have th_5 : ¬ (x1 / 1000).toInt = 2 := fun q => h_5 (Int32.toInt_inj.mp (q.trans (by decide)))
  have th_8 : ¬ (x1 / 1000).toInt = 3 := fun q => h_8 (Int32.toInt_inj.mp (q.trans (by decide)))
  have th_12 : ¬ (x1 / 1000).toInt = 4 := fun q => h_12 (Int32.toInt_inj.mp (q.trans (by decide)))
  have th_16 : ¬ (x1 / 1000).toInt = 5 := fun q => h_16 (Int32.toInt_inj.mp (q.trans (by decide)))
  have th_20 : ¬ (x1 / 1000).toInt = 6 := fun q => h_20 (Int32.toInt_inj.mp (q.trans (by decide)))
  have th_23 : ¬ (x1 / 1000).toInt = 7 := fun q => h_23 (Int32.toInt_inj.mp (q.trans (by decide)))
  have th_28 : ¬ (x1 / 1000).toInt = 8 := fun q => h_28 (Int32.toInt_inj.mp (q.trans (by decide)))
  have th_32 : ¬ (x1 / 1000).toInt = 9 := fun q => h_32 (Int32.toInt_inj.mp (q.trans (by decide)))
  have hdf : ((x1 / 1000).toInt < 1 ∨ 9 < (x1 / 1000).toInt) := by omega
  refine lv_tableOut (tgt := 297) hx hb dX5_succeeds_18 hdf (by decide) ?_
  refine lv_iconst (v := 0) hx hb dX5_succeeds_297 (by decide) ?_
  obtain rfl := Option.some.inj hf
  exact kr_z (V := bI false) hx hb hr hlocks (bI_nar _) rfl hP hK hD hN hS hS.2.2 dX5_succeeds_298
set_option maxHeartbeats 4000000 in
set_option maxRecDepth 100000 in
theorem c_X5_runScript {l : Launch} (hfl : l.stackTraces = false) (G : va_G) (cy : Nat → ClassId) (a_0 : Nat) (a_text : Nat) (a_window : Nat) (a_trial : Nat) (a_past : Nat) (a_firstSlot : Nat) (a_secondSlot : Nat) (a_equations : Nat) (a_looks : Nat) (sz : Nat) (s_window : WT) (s_trial : WT) (x1 : Int32) (x2 : Int64) (n : Nat) (R : Nat ⊕ (Int32 × WT)) (hf : f_X5_runScript n s_window s_trial x1 x2 = some R) : vx_Met l yX5_runScript wsX5_runScript ({ frames := 8, cells := 2, slots := 12, locals := 141 } : Room) (va_Pc [.ref a_0, .int x1, .long x2] (pcX G cy [(a_0, fv a_text a_window a_trial a_past a_firstSlot a_secondSlot a_equations a_looks), (a_window, wv s_window), (a_trial, wv s_trial)] sz)) (va_Qi (fun r (u : Int32 × WT) => R = .inr u ∧ r = u.1) (fun u t => Wd G cy (va_A [(a_0, fv a_text a_window a_trial a_past a_firstSlot a_secondSlot a_equations a_looks), (a_window, wv s_window), (a_trial, wv s_trial)] sz) [(a_0, fv a_text a_window a_trial a_past a_firstSlot a_secondSlot a_equations a_looks), (a_window, wv s_window), (a_trial, wv u.2)] t) (va_A [(a_0, fv a_text a_window a_trial a_past a_firstSlot a_secondSlot a_equations a_looks), (a_window, wv s_window), (a_trial, wv s_trial)] sz)) (vx_X (fun u : Nat => R = .inl u) (fun E u t => E = exN u ∧ va_P G vwCl [(a_0, fv a_text a_window a_trial a_past a_firstSlot a_secondSlot a_equations a_looks), (a_window, wv s_window), (a_trial, wv s_trial)] t.heap ∧ va_D (va_A [(a_0, fv a_text a_window a_trial a_past a_firstSlot a_secondSlot a_equations a_looks), (a_window, wv s_window), (a_trial, wv s_trial)] sz) [(a_0, fv a_text a_window a_trial a_past a_firstSlot a_secondSlot a_equations a_looks), (a_window, wv s_window), (a_trial, wv s_trial)]) (va_A [(a_0, fv a_text a_window a_trial a_past a_firstSlot a_secondSlot a_equations a_looks), (a_window, wv s_window), (a_trial, wv s_trial)] sz)) 2 12 (va_A [(a_0, fv a_text a_window a_trial a_past a_firstSlot a_secondSlot a_equations a_looks), (a_window, wv s_window), (a_trial, wv s_trial)] sz) := by
  refine vx_ofW (cc := cX5_runScript) (maxL := 5) (ret := (some .int)) (by decide) rfl ?_
  intro p e s m args below meth c s₁ B hml hnt hv
  obtain ⟨rfl, ⟨hsz, hP, hK, hD0, hN⟩, hE⟩ := hv
  have hx := B.exec
  have hb := B.bytes
  have hr := B.returns
  have hts := atoms_spec (ws := wsX5_runScript) B.pre
  have hown : s.vm.findClass RX5 = some m.cls := findClass_of_methodNamed B.named
  have hlocks := B.notSynchronized
  subst hsz
  have hD := hD0.self (sz := s.heap.size)
  generalize hAe : va_A [(a_0, fv a_text a_window a_trial a_past a_firstSlot a_secondSlot a_equations a_looks), (a_window, wv s_window), (a_trial, wv s_trial)] s.heap.size = A at hD hE ⊢
  have hA : ∀ q : Nat, s.heap.size ≤ q → A q := fun q h => by rw [← hAe]; exact Or.inr h
  have hS : va_S A s.heap s.heap [] := va_S.rf
  have hP : va_P G vwCl [(a_0, fv a_text a_window a_trial a_past a_firstSlot a_secondSlot a_equations a_looks), (a_window, wv s_window), (a_trial, wv s_trial)] s.heap := hP
  have bl_48 : ∀ (y1 : Int32), ∀ (y2 : Int64), ∀ (k : Nat), ∀ (c_s_trial : WT) (y4 : Int32) (H : Heap) (locs : List Loc), f_X5_runScript_b48 n s_window y1 y2 k c_s_trial y4 = some R → va_P G vwCl [(a_0, fv a_text a_window a_trial a_past a_firstSlot a_secondSlot a_equations a_looks), (a_window, wv s_window), (a_trial, wv c_s_trial)] H → va_D A [(a_0, fv a_text a_window a_trial a_past a_firstSlot a_secondSlot a_equations a_looks), (a_window, wv s_window), (a_trial, wv c_s_trial)] → va_S A s.heap H locs → ∀ (ls : Array Slot), lv_has ls 5 [(0, .ref a_0), (1, .int y1), (2, .long y2), (4, .int y4)] → W p l e ({ frames := 8, cells := 2, slots := 12, locals := 141 } : Room) s m [.ref a_0, .int x1, .long x2].toArray below meth c H locs 2 12 (vx_MQ below (va_Qi (fun r (u : Int32 × WT) => R = .inr u ∧ r = u.1) (fun u t => Wd G cy A [(a_0, fv a_text a_window a_trial a_past a_firstSlot a_secondSlot a_equations a_looks), (a_window, wv s_window), (a_trial, wv u.2)] t) A) (vx_X (fun u : Nat => R = .inl u) (fun E u t => E = exN u ∧ va_P G vwCl [(a_0, fv a_text a_window a_trial a_past a_firstSlot a_secondSlot a_equations a_looks), (a_window, wv s_window), (a_trial, wv s_trial)] t.heap ∧ va_D A [(a_0, fv a_text a_window a_trial a_past a_firstSlot a_secondSlot a_equations a_looks), (a_window, wv s_window), (a_trial, wv s_trial)]) A) [.ref a_0, .int x1, .long x2].toArray s 2 12 A) (F0 m 48 ls []) := by
    intro y1
    intro y2
    intro k
    induction k with
    | zero =>
      intro c_s_trial y4 H locs hf; cases hf
    | succ k ih =>
      intro c_s_trial y4 H locs hf hP hD hS ls hl
      have hf := (f_X5_runScript_b48_s n s_window y1 y2 k c_s_trial y4).symm.trans hf
      refine lv_iload hx hb dX5_runScript_48 (lv_at hl 3 rfl) ?_
      refine lv_iload_n hx hb dX5_runScript_50 rfl (lv_at hl 1 rfl) ?_
      refine lv_icmp_ge (tgt := 85) hx hb dX5_runScript_51 (by decide) (fun h_1 => ?_) (fun h_1 => ?_)
      · have hf := ip_ h_1 hf
        refine lv_iconst (v := (-1)) hx hb dX5_runScript_85 (by decide) ?_
        exact kr_iX (u := ((-1), c_s_trial)) hx hb hr hlocks ((Option.some.inj hf).symm) hP hK hD hN hS hS.2.2 dX5_runScript_86
      · have hf := in_ h_1 hf
        refine lv_aload_n hx hb dX5_runScript_54 rfl (lv_at hl 0 rfl) ?_
        refine lv_lload_n hx hb dX5_runScript_55 rfl (lv_at hl 2 rfl) ?_
        refine lv_iload_n hx hb dX5_runScript_56 rfl (lv_at hl 1 rfl) ?_
        refine lv_iconst (v := 1) hx hb dX5_runScript_57 (by decide) ?_
        refine lv_isub hx hb dX5_runScript_58 ?_
        refine lv_iload hx hb dX5_runScript_59 (lv_at hl 3 rfl) ?_
        refine lv_isub hx hb dX5_runScript_61 ?_
        obtain ⟨r_2, hh_r_2, hf⟩ := obd_some hf
        refine kc_l (w1 := []) (wr := [(a_0, fv a_text a_window a_trial a_past a_firstSlot a_secondSlot a_equations a_looks), (a_window, wv s_window), (a_trial, wv c_s_trial)]) hP hD hS hA [] [0, 1, 2] rfl rfl rfl (by decide) (va_runS (As := [.long y2, .int ((y1 - 1) - y4)]) (rest := [.ref a_0]) ⟨hx, hb, hml, hown, hts⟩ (c_X5_withoutLowest (l := l) G cy  H.size y2 ((y1 - 1) - y4) n r_2 hh_r_2) (va_cwS 2 hts gX5_runScript_X5_withoutLowest rfl rfl rfl ddN_X5_withoutLowest ⟨Nat.le_of_ble_eq_true rfl, Nat.le_of_ble_eq_true rfl⟩) (preS_ (hP.sub (ws' := []) [] rfl) hK (hD.sub (ws' := []) [] rfl rfl) hN) rfl rfl hl.1 rfl (lv_room (Nat.le_of_ble_eq_true rfl)) dX5_runScript_62 ⟨Nat.le_of_ble_eq_true rfl, Nat.le_of_ble_eq_true rfl⟩) (fun H locs hP hD hS => ?_)
        have hP : va_P G vwCl [(a_0, fv a_text a_window a_trial a_past a_firstSlot a_secondSlot a_equations a_looks), (a_window, wv s_window), (a_trial, wv c_s_trial)] H := hP
        have hD : va_D A [(a_0, fv a_text a_window a_trial a_past a_firstSlot a_secondSlot a_equations a_looks), (a_window, wv s_window), (a_trial, wv c_s_trial)] := hD
        refine lv_ldc2 (v := 10000) hx hb hown (hts (.constantLong RX5 272 (10000)) (by decide +kernel)) dX5_runScript_65 ?_
        refine lv_lrem hx hb dX5_runScript_68 (by decide) ?_
        refine lv_l2i (v := (lrm r_2 10000).toInt32) hx hb dX5_runScript_69 rfl ?_
        obtain ⟨r_3, hh_r_3, hf⟩ := obd_some hf
        refine kc_i (w1 := [(a_0, fv a_text a_window a_trial a_past a_firstSlot a_secondSlot a_equations a_looks), (a_trial, wv r_3.2)]) (wr := [(a_window, wv s_window)]) hP hD hS hA [0, 2] [1] rfl rfl rfl (by decide) (va_runV (As := [.int ((lrm r_2 10000).toInt32)]) (rest := []) ⟨hx, hb, hml, hown, hts⟩ (c_X5_succeeds (l := l) G cy a_0 a_text a_window a_trial a_past a_firstSlot a_secondSlot a_equations a_looks H.size c_s_trial ((lrm r_2 10000).toInt32) n r_3 hh_r_3) (cwV 1 hts gX5_runScript_X5_succeeds rfl rfl rfl ddV_X5_succeeds ⟨Nat.le_of_ble_eq_true rfl, Nat.le_of_ble_eq_true rfl⟩) (preV_ (ci := 5) (q0 := 0) rfl rfl (hP.sub (ws' := [(a_0, fv a_text a_window a_trial a_past a_firstSlot a_secondSlot a_equations a_looks), (a_trial, wv c_s_trial)]) [0, 2] rfl) hK (hD.sub (ws' := [(a_0, fv a_text a_window a_trial a_past a_firstSlot a_secondSlot a_equations a_looks), (a_trial, wv c_s_trial)]) [0, 2] rfl rfl) hN) rfl rfl hl.1 rfl (lv_room (Nat.le_of_ble_eq_true rfl)) dX5_runScript_70 ⟨Nat.le_of_ble_eq_true rfl, Nat.le_of_ble_eq_true rfl⟩) (fun H locs hP hD hS => ?_)
        have hP : va_P G vwCl [(a_window, wv s_window), (a_0, fv a_text a_window a_trial a_past a_firstSlot a_secondSlot a_equations a_looks), (a_trial, wv r_3.2)] H := hP
        have hD : va_D A [(a_window, wv s_window), (a_0, fv a_text a_window a_trial a_past a_firstSlot a_secondSlot a_equations a_looks), (a_trial, wv r_3.2)] := hD
        refine lv_if_ne (tgt := 79) hx hb dX5_runScript_73 (by decide) (fun h_4 => ?_) (fun h_4 => ?_)
        · have hf := ip_ (bI_n0 h_4) hf
          refine lv_iinc (v := (y4 + 1)) (lv' := [(4, .int (y4 + 1)), (0, .ref a_0), (1, .int y1), (2, .long y2)]) hx hb dX5_runScript_79 hl (k := 3) rfl rfl (by decide) rfl (fun ls hl => ?_)
          refine lv_goto (tgt := 48) hx hb dX5_runScript_82 (by decide) ?_
          exact ih r_3.2 (y4 + 1) _ _ hf (hP.sub (ws' := [(a_0, fv a_text a_window a_trial a_past a_firstSlot a_secondSlot a_equations a_looks), (a_window, wv s_window), (a_trial, wv r_3.2)]) [1, 0, 2] rfl) (hD.sub (ws' := [(a_0, fv a_text a_window a_trial a_past a_firstSlot a_secondSlot a_equations a_looks), (a_window, wv s_window), (a_trial, wv r_3.2)]) [1, 0, 2] rfl rfl) hS ls (lv_sub hl [1, 2, 3, 0] rfl)
        · have hf := in_ (bI_0 h_4) hf
          refine lv_iload hx hb dX5_runScript_76 (lv_at hl 3 rfl) ?_
          exact kr_iX (u := (y4, r_3.2)) hx hb hr hlocks ((Option.some.inj hf).symm) (hP.sub (ws' := [(a_0, fv a_text a_window a_trial a_past a_firstSlot a_secondSlot a_equations a_looks), (a_window, wv s_window), (a_trial, wv r_3.2)]) [1, 0, 2] rfl) hK (hD.sub (ws' := [(a_0, fv a_text a_window a_trial a_past a_firstSlot a_secondSlot a_equations a_looks), (a_window, wv s_window), (a_trial, wv r_3.2)]) [1, 0, 2] rfl rfl) hN hS hS.2.2 dX5_runScript_78
  have hl := lv_entry [.ref a_0, .int x1, .long x2] (n := 5) (Nat.le_of_ble_eq_true rfl)
  rw [lg_entry_eq]
  generalize (lg_sl [.ref a_0, .int x1, .long x2] ++ List.replicate (5 - (lg_sl [.ref a_0, .int x1, .long x2]).length) Slot.unset).toArray = ls at hl ⊢
  have hl : lv_has ls 5 [(0, .ref a_0), (1, .int x1), (2, .long x2)] := hl
  unfold f_X5_runScript at hf
  refine lv_aload_n hx hb dX5_runScript_0 rfl (lv_at hl 0 rfl) ?_
  refine lv_iload_n hx hb dX5_runScript_1 rfl (lv_at hl 1 rfl) ?_
  refine lv_iconst (v := 1) hx hb dX5_runScript_2 (by decide) ?_
  refine lv_iconst (v := 3) hx hb dX5_runScript_3 (by decide) ?_
  obtain ⟨r_5, hh_r_5, hf⟩ := obx_some hf
  refine kx_v (w1 := fun (_ : Unit) => []) (wr := [(a_0, fv a_text a_window a_trial a_past a_firstSlot a_secondSlot a_equations a_looks), (a_window, wv s_window), (a_trial, wv s_trial)]) hP hD hS hA [] [0, 1, 2] rfl rfl rfl (by decide) (vx_runV (As := [.int x1, .int 1, .int 3]) (rest := []) ⟨hx, hb, hml, hown, hts⟩ (c_X5_needRange (l := l) hfl G cy a_0 s.heap.size x1 1 3  r_5 hh_r_5) (cwV 3 hts gX5_runScript_X5_needRange rfl rfl rfl ddV_X5_needRange ⟨Nat.le_of_ble_eq_true rfl, Nat.le_of_ble_eq_true rfl⟩) (preVX2 (ci := 5) (q0 := 0) rfl rfl hP (hE.kept hS.2.1) (va_free hD hS hA (wc := []) [] rfl) (hP.sub (ws' := []) [] rfl) hK (hD.sub (ws' := []) [] rfl rfl) hN) rfl rfl hl.1 rfl (lv_room (Nat.le_of_ble_eq_true rfl)) dX5_runScript_4 ⟨Nat.le_of_ble_eq_true rfl, Nat.le_of_ble_eq_true rfl⟩) (fun u ce q9 H locs hz hP hD hS hc1 hc2 hc3 => ?_) (fun u_5 H locs hz hP hD hS => ?_)
  · subst hz
    have hP : va_P G vwCl [(a_0, fv a_text a_window a_trial a_past a_firstSlot a_secondSlot a_equations a_looks), (a_window, wv s_window), (a_trial, wv s_trial)] H := hP
    have hD : va_D A [(a_0, fv a_text a_window a_trial a_past a_firstSlot a_secondSlot a_equations a_looks), (a_window, wv s_window), (a_trial, wv s_trial)] := hD
    exact vx_widen (k := 2) (n := 12) (Nat.le_of_ble_eq_true rfl) (Nat.le_of_ble_eq_true rfl) (kx_out u hnt hlocks (obx_l hf) hP hK hD hN hS hc1 hc2 hc3 (Nat.le_refl _) (Nat.le_refl _))
  subst hz
  have hf := obx_r hf
  have hP : va_P G vwCl [(a_0, fv a_text a_window a_trial a_past a_firstSlot a_secondSlot a_equations a_looks), (a_window, wv s_window), (a_trial, wv s_trial)] H := hP
  have hD : va_D A [(a_0, fv a_text a_window a_trial a_past a_firstSlot a_secondSlot a_equations a_looks), (a_window, wv s_window), (a_trial, wv s_trial)] := hD
  refine lv_lload_n hx hb dX5_runScript_7 rfl (lv_at hl 2 rfl) ?_
  refine lv_lconst (v := 0) hx hb dX5_runScript_8 rfl ?_
  refine W.lcmp hx hb dX5_runScript_9 ?_
  refine lv_if_lt (tgt := 23) hx hb dX5_runScript_10 (by decide) (fun h_6 => ?_) (fun h_6 => ?_)
  · have hf := ip_ (lgc_lt.mp h_6) hf
    exact kt_SW hx hb hfl (own := RX5) (X := "java/lang/IllegalArgumentException") (text := "script does not fit") (names := xnm) (ik := 163) (is := 270) (ic := 167) hown (by decide +kernel) xnm_fit (hts (.classLink RX5 163 "java/lang/IllegalArgumentException") (by decide +kernel)) (hts (.initialized "java/lang/IllegalArgumentException") (by decide +kernel)) hE.2.2.2.2.2.2.2.2.2.1 (vx_hat (fun w hw => hts w (xm_X5_runScript_2 w hw)) xh_2 (xB_of hE.2.2.1 hE.2.2.1.2.2.2.2.1)) xg_2 hE hP hD hS (hl.1.trans hml.symm) hnt hlocks dX5_runScript_23 dX5_runScript_26 dX5_runScript_27 dX5_runScript_30 dX5_runScript_33 (Nat.le_of_ble_eq_true rfl) (Nat.le_of_ble_eq_true rfl) (Nat.le_of_ble_eq_true rfl) (Nat.le_of_ble_eq_true rfl) (Nat.le_of_ble_eq_true rfl) (Nat.le_of_ble_eq_true rfl) 2 rfl ((Option.some.inj hf).symm)
  · have hf := in_ (fun q => h_6 (lgc_lt.mpr q)) hf
    refine lv_lload_n hx hb dX5_runScript_13 rfl (lv_at hl 2 rfl) ?_
    refine lv_iload_n hx hb dX5_runScript_14 rfl (lv_at hl 1 rfl) ?_
    obtain ⟨r_7, hh_r_7, hf⟩ := obd_some hf
    refine kc_l (w1 := []) (wr := [(a_0, fv a_text a_window a_trial a_past a_firstSlot a_secondSlot a_equations a_looks), (a_window, wv s_window), (a_trial, wv s_trial)]) hP hD hS hA [] [0, 1, 2] rfl rfl rfl (by decide) (va_runS (As := [.long x2, .int x1]) (rest := []) ⟨hx, hb, hml, hown, hts⟩ (c_X5_withoutLowest (l := l) G cy  H.size x2 x1 n r_7 hh_r_7) (va_cwS 2 hts gX5_runScript_X5_withoutLowest rfl rfl rfl ddN_X5_withoutLowest ⟨Nat.le_of_ble_eq_true rfl, Nat.le_of_ble_eq_true rfl⟩) (preS_ (hP.sub (ws' := []) [] rfl) hK (hD.sub (ws' := []) [] rfl rfl) hN) rfl rfl hl.1 rfl (lv_room (Nat.le_of_ble_eq_true rfl)) dX5_runScript_15 ⟨Nat.le_of_ble_eq_true rfl, Nat.le_of_ble_eq_true rfl⟩) (fun H locs hP hD hS => ?_)
    have hP : va_P G vwCl [(a_0, fv a_text a_window a_trial a_past a_firstSlot a_secondSlot a_equations a_looks), (a_window, wv s_window), (a_trial, wv s_trial)] H := hP
    have hD : va_D A [(a_0, fv a_text a_window a_trial a_past a_firstSlot a_secondSlot a_equations a_looks), (a_window, wv s_window), (a_trial, wv s_trial)] := hD
    refine lv_lconst (v := 0) hx hb dX5_runScript_18 rfl ?_
    refine W.lcmp hx hb dX5_runScript_19 ?_
    refine lv_if_eq (tgt := 34) hx hb dX5_runScript_20 (by decide) (fun h_8 => ?_) (fun h_8 => ?_)
    · have hf := ip_ (lgc_eq.mp h_8) hf
      refine lv_aload_n hx hb dX5_runScript_34 rfl (lv_at hl 0 rfl) ?_
      refine va_get (D := G) (ci := 5) (v := .ref a_trial) (C := RX5) (T := TX5) (N := 8) hx hb hts iw_X5_runScript_X5 hown hK hP 0 rfl rfl 2 (by decide) (hts (.fieldLink RX5 23 "PaneFrost" "trial" "LPaneFrost$Window;") (by decide +kernel)) (fun _ h9 => h9) rfl dX5_runScript_35 ?_
      refine lv_aload_n hx hb dX5_runScript_38 rfl (lv_at hl 0 rfl) ?_
      refine va_get (D := G) (ci := 5) (v := .ref a_window) (C := RX5) (T := TX5) (N := 8) hx hb hts iw_X5_runScript_X5 hown hK hP 0 rfl rfl 1 (by decide) (hts (.fieldLink RX5 19 "PaneFrost" "window" "LPaneFrost$Window;") (by decide +kernel)) (fun _ h9 => h9) rfl dX5_runScript_39 ?_
      refine kc_v (w1 := [(a_trial, wv (f_X4_copy s_trial s_window)), (a_window, wv s_window)]) (wr := [(a_0, fv a_text a_window a_trial a_past a_firstSlot a_secondSlot a_equations a_looks)]) hP hD hS hA [2, 1] [0] rfl rfl rfl (by decide) (va_runV (As := [.ref a_window]) (rest := []) ⟨hx, hb, hml, hown, hts⟩ (c_X4_copy (l := l) G cy a_trial a_window H.size s_trial s_window  (f_X4_copy s_trial s_window) rfl) (cwV 1 hts gX5_runScript_X4_copy rfl rfl rfl ddV_X4_copy ⟨Nat.le_of_ble_eq_true rfl, Nat.le_of_ble_eq_true rfl⟩) (preV_ (ci := 4) (q0 := 0) rfl rfl (hP.sub (ws' := [(a_trial, wv s_trial), (a_window, wv s_window)]) [2, 1] rfl) hK (hD.sub (ws' := [(a_trial, wv s_trial), (a_window, wv s_window)]) [2, 1] rfl rfl) hN) rfl rfl hl.1 rfl (lv_room (Nat.le_of_ble_eq_true rfl)) dX5_runScript_42 ⟨Nat.le_of_ble_eq_true rfl, Nat.le_of_ble_eq_true rfl⟩) (fun H locs hP hD hS => ?_)
      have hP : va_P G vwCl [(a_0, fv a_text a_window a_trial a_past a_firstSlot a_secondSlot a_equations a_looks), (a_trial, wv (f_X4_copy s_trial s_window)), (a_window, wv s_window)] H := hP
      have hD : va_D A [(a_0, fv a_text a_window a_trial a_past a_firstSlot a_secondSlot a_equations a_looks), (a_trial, wv (f_X4_copy s_trial s_window)), (a_window, wv s_window)] := hD
      refine lv_iconst (v := 0) hx hb dX5_runScript_45 (by decide) ?_
      refine lv_istore (lv' := [(4, .int 0), (0, .ref a_0), (1, .int x1), (2, .long x2)]) hx hb dX5_runScript_46 hl (by decide) rfl (fun ls hl => ?_)
      refine W.widen (k := 2) (n := 12) (Nat.le_of_ble_eq_true rfl) (Nat.le_of_ble_eq_true rfl) ?_
      exact bl_48 x1 x2 n (f_X4_copy s_trial s_window) 0 _ _ hf (hP.sub (ws' := [(a_0, fv a_text a_window a_trial a_past a_firstSlot a_secondSlot a_equations a_looks), (a_window, wv s_window), (a_trial, wv (f_X4_copy s_trial s_window))]) [0, 2, 1] rfl) (hD.sub (ws' := [(a_0, fv a_text a_window a_trial a_past a_firstSlot a_secondSlot a_equations a_looks), (a_window, wv s_window), (a_trial, wv (f_X4_copy s_trial s_window))]) [0, 2, 1] rfl rfl) hS ls (lv_sub hl [1, 2, 3, 0] rfl)
    · have hf := in_ (fun q => h_8 (lgc_eq.mpr q)) hf
      exact kt_SW hx hb hfl (own := RX5) (X := "java/lang/IllegalArgumentException") (text := "script does not fit") (names := xnm) (ik := 163) (is := 270) (ic := 167) hown (by decide +kernel) xnm_fit (hts (.classLink RX5 163 "java/lang/IllegalArgumentException") (by decide +kernel)) (hts (.initialized "java/lang/IllegalArgumentException") (by decide +kernel)) hE.2.2.2.2.2.2.2.2.2.1 (vx_hat (fun w hw => hts w (xm_X5_runScript_2 w hw)) xh_2 (xB_of hE.2.2.1 hE.2.2.1.2.2.2.2.1)) xg_2 hE hP hD hS (hl.1.trans hml.symm) hnt hlocks dX5_runScript_23 dX5_runScript_26 dX5_runScript_27 dX5_runScript_30 dX5_runScript_33 (Nat.le_of_ble_eq_true rfl) (Nat.le_of_ble_eq_true rfl) (Nat.le_of_ble_eq_true rfl) (Nat.le_of_ble_eq_true rfl) (Nat.le_of_ble_eq_true rfl) (Nat.le_of_ble_eq_true rfl) 2 rfl ((Option.some.inj hf).symm)
set_option maxHeartbeats 4000000 in
set_option maxRecDepth 100000 in
theorem c_X5_takeTurn {l : Launch} (G : va_G) (cy : Nat → ClassId) (a_0 : Nat) (a_text : Nat) (a_window : Nat) (a_trial : Nat) (a_past : Nat) (a_firstSlot : Nat) (a_secondSlot : Nat) (a_equations : Nat) (a_looks : Nat) (sz : Nat) (s_trial : WT) (x1 : Int32) (n : Nat) (R : WT) (hf : f_X5_takeTurn n s_trial x1 = some R) : Met l yX5_takeTurn wsX5_takeTurn ({ frames := 5, cells := 0, slots := 0, locals := 118 } : Room) (va_Pc [.ref a_0, .int x1] (pcW G cy [(a_0, fv a_text a_window a_trial a_past a_firstSlot a_secondSlot a_equations a_looks), (a_trial, wv s_trial)] sz)) (va_Qv (fun _ : Unit => True) (fun _ t => Wd G cy (va_A [(a_0, fv a_text a_window a_trial a_past a_firstSlot a_secondSlot a_equations a_looks), (a_trial, wv s_trial)] sz) [(a_0, fv a_text a_window a_trial a_past a_firstSlot a_secondSlot a_equations a_looks), (a_trial, wv R)] t) (va_A [(a_0, fv a_text a_window a_trial a_past a_firstSlot a_secondSlot a_equations a_looks), (a_trial, wv s_trial)] sz)) 0 0 (va_A [(a_0, fv a_text a_window a_trial a_past a_firstSlot a_secondSlot a_equations a_looks), (a_trial, wv s_trial)] sz) := by
  refine Met.ofW (cc := cX5_takeTurn) (maxL := 3) (ret := none) (by decide) rfl ?_
  intro p e s m args below meth c s₁ B hml hv
  obtain ⟨rfl, hsz, hP, hK, hD0, hN⟩ := hv
  have hx := B.exec
  have hb := B.bytes
  have hr := B.returns
  have hts := atoms_spec (ws := wsX5_takeTurn) B.pre
  have hown : s.vm.findClass RX5 = some m.cls := findClass_of_methodNamed B.named
  have hlocks := B.notSynchronized
  subst hsz
  have hD := hD0.self (sz := s.heap.size)
  generalize hAe : va_A [(a_0, fv a_text a_window a_trial a_past a_firstSlot a_secondSlot a_equations a_looks), (a_trial, wv s_trial)] s.heap.size = A at hD ⊢
  have hA : ∀ q : Nat, s.heap.size ≤ q → A q := fun q h => by rw [← hAe]; exact Or.inr h
  have hS : va_S A s.heap s.heap [] := va_S.rf
  have hP : va_P G vwCl [(a_0, fv a_text a_window a_trial a_past a_firstSlot a_secondSlot a_equations a_looks), (a_trial, wv s_trial)] s.heap := hP
  have hl := lv_entry [.ref a_0, .int x1] (n := 3) (Nat.le_of_ble_eq_true rfl)
  rw [lg_entry_eq]
  generalize (lg_sl [.ref a_0, .int x1] ++ List.replicate (3 - (lg_sl [.ref a_0, .int x1]).length) Slot.unset).toArray = ls at hl ⊢
  have hl : lv_has ls 3 [(0, .ref a_0), (1, .int x1)] := hl
  unfold f_X5_takeTurn at hf
  refine lv_iload_n hx hb dX5_takeTurn_0 rfl (lv_at hl 1 rfl) ?_
  refine lv_bipush (v := 8) hx hb dX5_takeTurn_1 (by decide) ?_
  refine lv_idiv hx hb dX5_takeTurn_3 (by decide) ?_
  refine lv_istore_n (lv' := [(2, .int (x1 / 8)), (0, .ref a_0), (1, .int x1)]) hx hb dX5_takeTurn_4 rfl hl (by decide) rfl (fun ls hl => ?_)
  refine lv_iload_n hx hb dX5_takeTurn_5 rfl (lv_at hl 2 rfl) ?_
  refine lv_bipush (v := 8) hx hb dX5_takeTurn_6 (by decide) ?_
  refine lv_irem hx hb dX5_takeTurn_8 (by decide) ?_
  by_cases h_1 : (irm x1 8) = 0
  · have hf := ip_ h_1 hf
    refine lv_tableIn (tgt := 48) (off := 39) hx hb dX5_takeTurn_9 (by show ¬ (irm x1 8).toInt < 0; rw [h_1]; decide) (by show ¬ 5 < (irm x1 8).toInt; rw [h_1]; decide) (by show (#[39, 39, 39, 54, 75, 124] : Array Int)[((irm x1 8).toInt - 0).toNat]? = some 39; rw [h_1]; rfl) (by decide) ?_
    refine lv_aload_n hx hb dX5_takeTurn_48 rfl (lv_at hl 1 rfl) ?_
    refine va_get (D := G) (ci := 5) (v := .ref a_trial) (C := RX5) (T := TX5) (N := 8) hx hb hts iw_X5_takeTurn_X5 hown hK hP 0 rfl rfl 2 (by decide) (hts (.fieldLink RX5 23 "PaneFrost" "trial" "LPaneFrost$Window;") (by decide +kernel)) (fun _ h9 => h9) rfl dX5_takeTurn_49 ?_
    refine lv_iload_n hx hb dX5_takeTurn_52 rfl (lv_at hl 0 rfl) ?_
    refine lv_bipush (v := 64) hx hb dX5_takeTurn_53 (by decide) ?_
    refine lv_irem hx hb dX5_takeTurn_55 (by decide) ?_
    obtain ⟨r_2, hh_r_2⟩ : ∃ z, z = f_X4_turn s_trial (irm (x1 / 8) 64) := ⟨_, rfl⟩
    have hf := lt_e hh_r_2 hf
    refine kc_i (w1 := [(a_trial, wv r_2.2)]) (wr := [(a_0, fv a_text a_window a_trial a_past a_firstSlot a_secondSlot a_equations a_looks)]) hP hD hS hA [1] [0] rfl rfl rfl (by decide) (va_runV (As := [.int (irm (x1 / 8) 64)]) (rest := []) ⟨hx, hb, hml, hown, hts⟩ (c_X4_turn (l := l) G cy a_trial s.heap.size s_trial (irm (x1 / 8) 64)  r_2 hh_r_2.symm) (cwV 1 hts gX5_takeTurn_X4_turn rfl rfl rfl ddV_X4_turn ⟨Nat.le_of_ble_eq_true rfl, Nat.le_of_ble_eq_true rfl⟩) (preV_ (ci := 4) (q0 := 0) rfl rfl (hP.sub (ws' := [(a_trial, wv s_trial)]) [1] rfl) hK (hD.sub (ws' := [(a_trial, wv s_trial)]) [1] rfl rfl) hN) rfl rfl hl.1 rfl (lv_room (Nat.le_of_ble_eq_true rfl)) dX5_takeTurn_56 ⟨Nat.le_of_ble_eq_true rfl, Nat.le_of_ble_eq_true rfl⟩) (fun H locs hP hD hS => ?_)
    have hP : va_P G vwCl [(a_0, fv a_text a_window a_trial a_past a_firstSlot a_secondSlot a_equations a_looks), (a_trial, wv r_2.2)] H := hP
    have hD : va_D A [(a_0, fv a_text a_window a_trial a_past a_firstSlot a_secondSlot a_equations a_looks), (a_trial, wv r_2.2)] := hD
    refine lv_pop hx hb dX5_takeTurn_59 rfl ?_
    refine lv_goto (tgt := 161) hx hb dX5_takeTurn_60 (by decide) ?_
    obtain rfl := Option.some.inj hf
    exact kr_v hx hb hr hlocks hP hK hD hN hS hS.2.2 dX5_takeTurn_161
  have hf := in_ h_1 hf
  by_cases h_3 : (irm x1 8) = 1
  · have hf := ip_ h_3 hf
    refine lv_tableIn (tgt := 48) (off := 39) hx hb dX5_takeTurn_9 (by show ¬ (irm x1 8).toInt < 0; rw [h_3]; decide) (by show ¬ 5 < (irm x1 8).toInt; rw [h_3]; decide) (by show (#[39, 39, 39, 54, 75, 124] : Array Int)[((irm x1 8).toInt - 0).toNat]? = some 39; rw [h_3]; rfl) (by decide) ?_
    refine lv_aload_n hx hb dX5_takeTurn_48 rfl (lv_at hl 1 rfl) ?_
    refine va_get (D := G) (ci := 5) (v := .ref a_trial) (C := RX5) (T := TX5) (N := 8) hx hb hts iw_X5_takeTurn_X5 hown hK hP 0 rfl rfl 2 (by decide) (hts (.fieldLink RX5 23 "PaneFrost" "trial" "LPaneFrost$Window;") (by decide +kernel)) (fun _ h9 => h9) rfl dX5_takeTurn_49 ?_
    refine lv_iload_n hx hb dX5_takeTurn_52 rfl (lv_at hl 0 rfl) ?_
    refine lv_bipush (v := 64) hx hb dX5_takeTurn_53 (by decide) ?_
    refine lv_irem hx hb dX5_takeTurn_55 (by decide) ?_
    obtain ⟨r_4, hh_r_4⟩ : ∃ z, z = f_X4_turn s_trial (irm (x1 / 8) 64) := ⟨_, rfl⟩
    have hf := lt_e hh_r_4 hf
    refine kc_i (w1 := [(a_trial, wv r_4.2)]) (wr := [(a_0, fv a_text a_window a_trial a_past a_firstSlot a_secondSlot a_equations a_looks)]) hP hD hS hA [1] [0] rfl rfl rfl (by decide) (va_runV (As := [.int (irm (x1 / 8) 64)]) (rest := []) ⟨hx, hb, hml, hown, hts⟩ (c_X4_turn (l := l) G cy a_trial s.heap.size s_trial (irm (x1 / 8) 64)  r_4 hh_r_4.symm) (cwV 1 hts gX5_takeTurn_X4_turn rfl rfl rfl ddV_X4_turn ⟨Nat.le_of_ble_eq_true rfl, Nat.le_of_ble_eq_true rfl⟩) (preV_ (ci := 4) (q0 := 0) rfl rfl (hP.sub (ws' := [(a_trial, wv s_trial)]) [1] rfl) hK (hD.sub (ws' := [(a_trial, wv s_trial)]) [1] rfl rfl) hN) rfl rfl hl.1 rfl (lv_room (Nat.le_of_ble_eq_true rfl)) dX5_takeTurn_56 ⟨Nat.le_of_ble_eq_true rfl, Nat.le_of_ble_eq_true rfl⟩) (fun H locs hP hD hS => ?_)
    have hP : va_P G vwCl [(a_0, fv a_text a_window a_trial a_past a_firstSlot a_secondSlot a_equations a_looks), (a_trial, wv r_4.2)] H := hP
    have hD : va_D A [(a_0, fv a_text a_window a_trial a_past a_firstSlot a_secondSlot a_equations a_looks), (a_trial, wv r_4.2)] := hD
    refine lv_pop hx hb dX5_takeTurn_59 rfl ?_
    refine lv_goto (tgt := 161) hx hb dX5_takeTurn_60 (by decide) ?_
    obtain rfl := Option.some.inj hf
    exact kr_v hx hb hr hlocks hP hK hD hN hS hS.2.2 dX5_takeTurn_161
  have hf := in_ h_3 hf
  by_cases h_5 : (irm x1 8) = 2
  · have hf := ip_ h_5 hf
    refine lv_tableIn (tgt := 48) (off := 39) hx hb dX5_takeTurn_9 (by show ¬ (irm x1 8).toInt < 0; rw [h_5]; decide) (by show ¬ 5 < (irm x1 8).toInt; rw [h_5]; decide) (by show (#[39, 39, 39, 54, 75, 124] : Array Int)[((irm x1 8).toInt - 0).toNat]? = some 39; rw [h_5]; rfl) (by decide) ?_
    refine lv_aload_n hx hb dX5_takeTurn_48 rfl (lv_at hl 1 rfl) ?_
    refine va_get (D := G) (ci := 5) (v := .ref a_trial) (C := RX5) (T := TX5) (N := 8) hx hb hts iw_X5_takeTurn_X5 hown hK hP 0 rfl rfl 2 (by decide) (hts (.fieldLink RX5 23 "PaneFrost" "trial" "LPaneFrost$Window;") (by decide +kernel)) (fun _ h9 => h9) rfl dX5_takeTurn_49 ?_
    refine lv_iload_n hx hb dX5_takeTurn_52 rfl (lv_at hl 0 rfl) ?_
    refine lv_bipush (v := 64) hx hb dX5_takeTurn_53 (by decide) ?_
    refine lv_irem hx hb dX5_takeTurn_55 (by decide) ?_
    obtain ⟨r_6, hh_r_6⟩ : ∃ z, z = f_X4_turn s_trial (irm (x1 / 8) 64) := ⟨_, rfl⟩
    have hf := lt_e hh_r_6 hf
    refine kc_i (w1 := [(a_trial, wv r_6.2)]) (wr := [(a_0, fv a_text a_window a_trial a_past a_firstSlot a_secondSlot a_equations a_looks)]) hP hD hS hA [1] [0] rfl rfl rfl (by decide) (va_runV (As := [.int (irm (x1 / 8) 64)]) (rest := []) ⟨hx, hb, hml, hown, hts⟩ (c_X4_turn (l := l) G cy a_trial s.heap.size s_trial (irm (x1 / 8) 64)  r_6 hh_r_6.symm) (cwV 1 hts gX5_takeTurn_X4_turn rfl rfl rfl ddV_X4_turn ⟨Nat.le_of_ble_eq_true rfl, Nat.le_of_ble_eq_true rfl⟩) (preV_ (ci := 4) (q0 := 0) rfl rfl (hP.sub (ws' := [(a_trial, wv s_trial)]) [1] rfl) hK (hD.sub (ws' := [(a_trial, wv s_trial)]) [1] rfl rfl) hN) rfl rfl hl.1 rfl (lv_room (Nat.le_of_ble_eq_true rfl)) dX5_takeTurn_56 ⟨Nat.le_of_ble_eq_true rfl, Nat.le_of_ble_eq_true rfl⟩) (fun H locs hP hD hS => ?_)
    have hP : va_P G vwCl [(a_0, fv a_text a_window a_trial a_past a_firstSlot a_secondSlot a_equations a_looks), (a_trial, wv r_6.2)] H := hP
    have hD : va_D A [(a_0, fv a_text a_window a_trial a_past a_firstSlot a_secondSlot a_equations a_looks), (a_trial, wv r_6.2)] := hD
    refine lv_pop hx hb dX5_takeTurn_59 rfl ?_
    refine lv_goto (tgt := 161) hx hb dX5_takeTurn_60 (by decide) ?_
    obtain rfl := Option.some.inj hf
    exact kr_v hx hb hr hlocks hP hK hD hN hS hS.2.2 dX5_takeTurn_161
  have hf := in_ h_5 hf
  by_cases h_7 : (irm x1 8) = 3
  · have hf := ip_ h_7 hf
    refine lv_tableIn (tgt := 63) (off := 54) hx hb dX5_takeTurn_9 (by show ¬ (irm x1 8).toInt < 0; rw [h_7]; decide) (by show ¬ 5 < (irm x1 8).toInt; rw [h_7]; decide) (by show (#[39, 39, 39, 54, 75, 124] : Array Int)[((irm x1 8).toInt - 0).toNat]? = some 54; rw [h_7]; rfl) (by decide) ?_
    refine lv_aload_n hx hb dX5_takeTurn_63 rfl (lv_at hl 1 rfl) ?_
    refine va_get (D := G) (ci := 5) (v := .ref a_trial) (C := RX5) (T := TX5) (N := 8) hx hb hts iw_X5_takeTurn_X5 hown hK hP 0 rfl rfl 2 (by decide) (hts (.fieldLink RX5 23 "PaneFrost" "trial" "LPaneFrost$Window;") (by decide +kernel)) (fun _ h9 => h9) rfl dX5_takeTurn_64 ?_
    refine lv_iload_n hx hb dX5_takeTurn_67 rfl (lv_at hl 0 rfl) ?_
    refine lv_bipush (v := 64) hx hb dX5_takeTurn_68 (by decide) ?_
    refine lv_irem hx hb dX5_takeTurn_70 (by decide) ?_
    refine lv_iload_n hx hb dX5_takeTurn_71 rfl (lv_at hl 0 rfl) ?_
    refine lv_bipush (v := 64) hx hb dX5_takeTurn_72 (by decide) ?_
    refine lv_idiv hx hb dX5_takeTurn_74 (by decide) ?_
    refine lv_iconst (v := 4) hx hb dX5_takeTurn_75 (by decide) ?_
    refine lv_irem hx hb dX5_takeTurn_76 (by decide) ?_
    obtain ⟨r_8, hh_r_8⟩ : ∃ z, z = f_X4_scrape s_trial (irm (x1 / 8) 64) (irm ((x1 / 8) / 64) 4) := ⟨_, rfl⟩
    have hf := lt_e hh_r_8 hf
    refine kc_i (w1 := [(a_trial, wv r_8.2)]) (wr := [(a_0, fv a_text a_window a_trial a_past a_firstSlot a_secondSlot a_equations a_looks)]) hP hD hS hA [1] [0] rfl rfl rfl (by decide) (va_runV (As := [.int (irm (x1 / 8) 64), .int (irm ((x1 / 8) / 64) 4)]) (rest := []) ⟨hx, hb, hml, hown, hts⟩ (c_X4_scrape (l := l) G cy a_trial s.heap.size s_trial (irm (x1 / 8) 64) (irm ((x1 / 8) / 64) 4)  r_8 hh_r_8.symm) (cwV 2 hts gX5_takeTurn_X4_scrape rfl rfl rfl ddV_X4_scrape ⟨Nat.le_of_ble_eq_true rfl, Nat.le_of_ble_eq_true rfl⟩) (preV_ (ci := 4) (q0 := 0) rfl rfl (hP.sub (ws' := [(a_trial, wv s_trial)]) [1] rfl) hK (hD.sub (ws' := [(a_trial, wv s_trial)]) [1] rfl rfl) hN) rfl rfl hl.1 rfl (lv_room (Nat.le_of_ble_eq_true rfl)) dX5_takeTurn_77 ⟨Nat.le_of_ble_eq_true rfl, Nat.le_of_ble_eq_true rfl⟩) (fun H locs hP hD hS => ?_)
    have hP : va_P G vwCl [(a_0, fv a_text a_window a_trial a_past a_firstSlot a_secondSlot a_equations a_looks), (a_trial, wv r_8.2)] H := hP
    have hD : va_D A [(a_0, fv a_text a_window a_trial a_past a_firstSlot a_secondSlot a_equations a_looks), (a_trial, wv r_8.2)] := hD
    refine lv_pop hx hb dX5_takeTurn_80 rfl ?_
    refine lv_goto (tgt := 161) hx hb dX5_takeTurn_81 (by decide) ?_
    obtain rfl := Option.some.inj hf
    exact kr_v hx hb hr hlocks hP hK hD hN hS hS.2.2 dX5_takeTurn_161
  have hf := in_ h_7 hf
  by_cases h_9 : (irm x1 8) = 4
  · have hf := ip_ h_9 hf
    refine lv_tableIn (tgt := 84) (off := 75) hx hb dX5_takeTurn_9 (by show ¬ (irm x1 8).toInt < 0; rw [h_9]; decide) (by show ¬ 5 < (irm x1 8).toInt; rw [h_9]; decide) (by show (#[39, 39, 39, 54, 75, 124] : Array Int)[((irm x1 8).toInt - 0).toNat]? = some 75; rw [h_9]; rfl) (by decide) ?_
    refine lv_iload_n hx hb dX5_takeTurn_84 rfl (lv_at hl 0 rfl) ?_
    refine lv_bipush (v := 16) hx hb dX5_takeTurn_85 (by decide) ?_
    refine lv_idiv hx hb dX5_takeTurn_87 (by decide) ?_
    refine lv_iconst (v := 3) hx hb dX5_takeTurn_88 (by decide) ?_
    refine lv_irem hx hb dX5_takeTurn_89 (by decide) ?_
    refine lv_if_ne (tgt := 112) hx hb dX5_takeTurn_90 (by decide) (fun h_10 => ?_) (fun h_10 => ?_)
    · have hf := in_ h_10 hf
      refine lv_aload_n hx hb dX5_takeTurn_112 rfl (lv_at hl 1 rfl) ?_
      refine va_get (D := G) (ci := 5) (v := .ref a_trial) (C := RX5) (T := TX5) (N := 8) hx hb hts iw_X5_takeTurn_X5 hown hK hP 0 rfl rfl 2 (by decide) (hts (.fieldLink RX5 23 "PaneFrost" "trial" "LPaneFrost$Window;") (by decide +kernel)) (fun _ h9 => h9) rfl dX5_takeTurn_113 ?_
      refine lv_iload_n hx hb dX5_takeTurn_116 rfl (lv_at hl 0 rfl) ?_
      refine lv_bipush (v := 64) hx hb dX5_takeTurn_117 (by decide) ?_
      refine lv_idiv hx hb dX5_takeTurn_119 (by decide) ?_
      refine lv_bipush (v := 64) hx hb dX5_takeTurn_120 (by decide) ?_
      refine lv_irem hx hb dX5_takeTurn_122 (by decide) ?_
      refine lv_iload_n hx hb dX5_takeTurn_123 rfl (lv_at hl 0 rfl) ?_
      refine lv_iconst (v := 4) hx hb dX5_takeTurn_124 (by decide) ?_
      refine lv_irem hx hb dX5_takeTurn_125 (by decide) ?_
      obtain ⟨r_11, hh_r_11, hf⟩ := obd_some hf
      refine kc_i (w1 := [(a_trial, wv r_11.2)]) (wr := [(a_0, fv a_text a_window a_trial a_past a_firstSlot a_secondSlot a_equations a_looks)]) hP hD hS hA [1] [0] rfl rfl rfl (by decide) (va_runV (As := [.int (irm ((x1 / 8) / 64) 64), .int (irm (x1 / 8) 4)]) (rest := []) ⟨hx, hb, hml, hown, hts⟩ (c_X4_thaw (l := l) G cy a_trial s.heap.size s_trial (irm ((x1 / 8) / 64) 64) (irm (x1 / 8) 4) n r_11 hh_r_11) (cwV 2 hts gX5_takeTurn_X4_thaw rfl rfl rfl ddV_X4_thaw ⟨Nat.le_of_ble_eq_true rfl, Nat.le_of_ble_eq_true rfl⟩) (preV_ (ci := 4) (q0 := 0) rfl rfl (hP.sub (ws' := [(a_trial, wv s_trial)]) [1] rfl) hK (hD.sub (ws' := [(a_trial, wv s_trial)]) [1] rfl rfl) hN) rfl rfl hl.1 rfl (lv_room (Nat.le_of_ble_eq_true rfl)) dX5_takeTurn_126 ⟨Nat.le_of_ble_eq_true rfl, Nat.le_of_ble_eq_true rfl⟩) (fun H locs hP hD hS => ?_)
      have hP : va_P G vwCl [(a_0, fv a_text a_window a_trial a_past a_firstSlot a_secondSlot a_equations a_looks), (a_trial, wv r_11.2)] H := hP
      have hD : va_D A [(a_0, fv a_text a_window a_trial a_past a_firstSlot a_secondSlot a_equations a_looks), (a_trial, wv r_11.2)] := hD
      refine lv_pop hx hb dX5_takeTurn_129 rfl ?_
      refine lv_goto (tgt := 161) hx hb dX5_takeTurn_130 (by decide) ?_
      obtain rfl := Option.some.inj hf
      exact kr_v hx hb hr hlocks hP hK hD hN hS hS.2.2 dX5_takeTurn_161
    · have hf := ip_ h_10 hf
      refine lv_aload_n hx hb dX5_takeTurn_93 rfl (lv_at hl 1 rfl) ?_
      refine va_get (D := G) (ci := 5) (v := .ref a_trial) (C := RX5) (T := TX5) (N := 8) hx hb hts iw_X5_takeTurn_X5 hown hK hP 0 rfl rfl 2 (by decide) (hts (.fieldLink RX5 23 "PaneFrost" "trial" "LPaneFrost$Window;") (by decide +kernel)) (fun _ h9 => h9) rfl dX5_takeTurn_94 ?_
      refine lv_iload_n hx hb dX5_takeTurn_97 rfl (lv_at hl 0 rfl) ?_
      refine lv_iconst (v := 4) hx hb dX5_takeTurn_98 (by decide) ?_
      refine lv_irem hx hb dX5_takeTurn_99 (by decide) ?_
      refine lv_iload_n hx hb dX5_takeTurn_100 rfl (lv_at hl 0 rfl) ?_
      refine lv_iconst (v := 4) hx hb dX5_takeTurn_101 (by decide) ?_
      refine lv_idiv hx hb dX5_takeTurn_102 (by decide) ?_
      refine lv_iconst (v := 3) hx hb dX5_takeTurn_103 (by decide) ?_
      refine lv_irem hx hb dX5_takeTurn_104 (by decide) ?_
      obtain ⟨r_12, hh_r_12⟩ : ∃ z, z = f_X4_putKind s_trial (irm (x1 / 8) 4) (irm ((x1 / 8) / 4) 3) := ⟨_, rfl⟩
      have hf := lt_e hh_r_12 hf
      refine kc_i (w1 := [(a_trial, wv r_12.2)]) (wr := [(a_0, fv a_text a_window a_trial a_past a_firstSlot a_secondSlot a_equations a_looks)]) hP hD hS hA [1] [0] rfl rfl rfl (by decide) (va_runV (As := [.int (irm (x1 / 8) 4), .int (irm ((x1 / 8) / 4) 3)]) (rest := []) ⟨hx, hb, hml, hown, hts⟩ (c_X4_putKind (l := l) G cy a_trial s.heap.size s_trial (irm (x1 / 8) 4) (irm ((x1 / 8) / 4) 3)  r_12 hh_r_12.symm) (cwV 2 hts gX5_takeTurn_X4_putKind rfl rfl rfl ddV_X4_putKind ⟨Nat.le_of_ble_eq_true rfl, Nat.le_of_ble_eq_true rfl⟩) (preV_ (ci := 4) (q0 := 0) rfl rfl (hP.sub (ws' := [(a_trial, wv s_trial)]) [1] rfl) hK (hD.sub (ws' := [(a_trial, wv s_trial)]) [1] rfl rfl) hN) rfl rfl hl.1 rfl (lv_room (Nat.le_of_ble_eq_true rfl)) dX5_takeTurn_105 ⟨Nat.le_of_ble_eq_true rfl, Nat.le_of_ble_eq_true rfl⟩) (fun H locs hP hD hS => ?_)
      have hP : va_P G vwCl [(a_0, fv a_text a_window a_trial a_past a_firstSlot a_secondSlot a_equations a_looks), (a_trial, wv r_12.2)] H := hP
      have hD : va_D A [(a_0, fv a_text a_window a_trial a_past a_firstSlot a_secondSlot a_equations a_looks), (a_trial, wv r_12.2)] := hD
      refine lv_pop hx hb dX5_takeTurn_108 rfl ?_
      refine lv_goto (tgt := 161) hx hb dX5_takeTurn_109 (by decide) ?_
      obtain rfl := Option.some.inj hf
      exact kr_v hx hb hr hlocks hP hK hD hN hS hS.2.2 dX5_takeTurn_161
  have hf := in_ h_9 hf
  by_cases h_13 : (irm x1 8) = 5
  · have hf := ip_ h_13 hf
    refine lv_tableIn (tgt := 133) (off := 124) hx hb dX5_takeTurn_9 (by show ¬ (irm x1 8).toInt < 0; rw [h_13]; decide) (by show ¬ 5 < (irm x1 8).toInt; rw [h_13]; decide) (by show (#[39, 39, 39, 54, 75, 124] : Array Int)[((irm x1 8).toInt - 0).toNat]? = some 124; rw [h_13]; rfl) (by decide) ?_
    refine lv_aload_n hx hb dX5_takeTurn_133 rfl (lv_at hl 1 rfl) ?_
    refine va_get (D := G) (ci := 5) (v := .ref a_trial) (C := RX5) (T := TX5) (N := 8) hx hb hts iw_X5_takeTurn_X5 hown hK hP 0 rfl rfl 2 (by decide) (hts (.fieldLink RX5 23 "PaneFrost" "trial" "LPaneFrost$Window;") (by decide +kernel)) (fun _ h9 => h9) rfl dX5_takeTurn_134 ?_
    refine lv_iload_n hx hb dX5_takeTurn_137 rfl (lv_at hl 0 rfl) ?_
    refine lv_iconst (v := 3) hx hb dX5_takeTurn_138 (by decide) ?_
    refine lv_irem hx hb dX5_takeTurn_139 (by decide) ?_
    obtain ⟨r_14, hh_r_14⟩ : ∃ z, z = f_X4_putRule s_trial (irm (x1 / 8) 3) := ⟨_, rfl⟩
    have hf := lt_e hh_r_14 hf
    refine kc_i (w1 := [(a_trial, wv r_14.2)]) (wr := [(a_0, fv a_text a_window a_trial a_past a_firstSlot a_secondSlot a_equations a_looks)]) hP hD hS hA [1] [0] rfl rfl rfl (by decide) (va_runV (As := [.int (irm (x1 / 8) 3)]) (rest := []) ⟨hx, hb, hml, hown, hts⟩ (c_X4_putRule (l := l) G cy a_trial s.heap.size s_trial (irm (x1 / 8) 3)  r_14 hh_r_14.symm) (cwV 1 hts gX5_takeTurn_X4_putRule rfl rfl rfl ddV_X4_putRule ⟨Nat.le_of_ble_eq_true rfl, Nat.le_of_ble_eq_true rfl⟩) (preV_ (ci := 4) (q0 := 0) rfl rfl (hP.sub (ws' := [(a_trial, wv s_trial)]) [1] rfl) hK (hD.sub (ws' := [(a_trial, wv s_trial)]) [1] rfl rfl) hN) rfl rfl hl.1 rfl (lv_room (Nat.le_of_ble_eq_true rfl)) dX5_takeTurn_140 ⟨Nat.le_of_ble_eq_true rfl, Nat.le_of_ble_eq_true rfl⟩) (fun H locs hP hD hS => ?_)
    have hP : va_P G vwCl [(a_0, fv a_text a_window a_trial a_past a_firstSlot a_secondSlot a_equations a_looks), (a_trial, wv r_14.2)] H := hP
    have hD : va_D A [(a_0, fv a_text a_window a_trial a_past a_firstSlot a_secondSlot a_equations a_looks), (a_trial, wv r_14.2)] := hD
    refine lv_pop hx hb dX5_takeTurn_143 rfl ?_
    refine lv_goto (tgt := 161) hx hb dX5_takeTurn_144 (by decide) ?_
    obtain rfl := Option.some.inj hf
    exact kr_v hx hb hr hlocks hP hK hD hN hS hS.2.2 dX5_takeTurn_161
  have hf := in_ h_13 hf
  have th_1 : ¬ (irm x1 8).toInt = 0 := fun q => h_1 (Int32.toInt_inj.mp (q.trans (by decide)))
  have th_3 : ¬ (irm x1 8).toInt = 1 := fun q => h_3 (Int32.toInt_inj.mp (q.trans (by decide)))
  have th_5 : ¬ (irm x1 8).toInt = 2 := fun q => h_5 (Int32.toInt_inj.mp (q.trans (by decide)))
  have th_7 : ¬ (irm x1 8).toInt = 3 := fun q => h_7 (Int32.toInt_inj.mp (q.trans (by decide)))
  have th_9 : ¬ (irm x1 8).toInt = 4 := fun q => h_9 (Int32.toInt_inj.mp (q.trans (by decide)))
  have th_13 : ¬ (irm x1 8).toInt = 5 := fun q => h_13 (Int32.toInt_inj.mp (q.trans (by decide)))
  have hdf : ((irm x1 8).toInt < 0 ∨ 5 < (irm x1 8).toInt) := by omega
  refine lv_tableOut (tgt := 147) hx hb dX5_takeTurn_9 hdf (by decide) ?_
  refine lv_aload_n hx hb dX5_takeTurn_147 rfl (lv_at hl 1 rfl) ?_
  refine va_get (D := G) (ci := 5) (v := .ref a_trial) (C := RX5) (T := TX5) (N := 8) hx hb hts iw_X5_takeTurn_X5 hown hK hP 0 rfl rfl 2 (by decide) (hts (.fieldLink RX5 23 "PaneFrost" "trial" "LPaneFrost$Window;") (by decide +kernel)) (fun _ h9 => h9) rfl dX5_takeTurn_148 ?_
  refine lv_iconst (v := 1) hx hb dX5_takeTurn_151 (by decide) ?_
  refine lv_iload_n hx hb dX5_takeTurn_152 rfl (lv_at hl 0 rfl) ?_
  refine lv_bipush (v := 6) hx hb dX5_takeTurn_153 (by decide) ?_
  refine lv_irem hx hb dX5_takeTurn_155 (by decide) ?_
  refine lv_iadd hx hb dX5_takeTurn_156 ?_
  obtain ⟨r_15, hh_r_15, hf⟩ := obd_some hf
  refine kc_i (w1 := [(a_trial, wv r_15.2)]) (wr := [(a_0, fv a_text a_window a_trial a_past a_firstSlot a_secondSlot a_equations a_looks)]) hP hD hS hA [1] [0] rfl rfl rfl (by decide) (va_runV (As := [.int (1 + (irm (x1 / 8) 6))]) (rest := []) ⟨hx, hb, hml, hown, hts⟩ (c_X4_pass (l := l) G cy a_trial s.heap.size s_trial (1 + (irm (x1 / 8) 6)) n r_15 hh_r_15) (cwV 1 hts gX5_takeTurn_X4_pass rfl rfl rfl ddV_X4_pass ⟨Nat.le_of_ble_eq_true rfl, Nat.le_of_ble_eq_true rfl⟩) (preV_ (ci := 4) (q0 := 0) rfl rfl (hP.sub (ws' := [(a_trial, wv s_trial)]) [1] rfl) hK (hD.sub (ws' := [(a_trial, wv s_trial)]) [1] rfl rfl) hN) rfl rfl hl.1 rfl (lv_room (Nat.le_of_ble_eq_true rfl)) dX5_takeTurn_157 ⟨Nat.le_of_ble_eq_true rfl, Nat.le_of_ble_eq_true rfl⟩) (fun H locs hP hD hS => ?_)
  have hP : va_P G vwCl [(a_0, fv a_text a_window a_trial a_past a_firstSlot a_secondSlot a_equations a_looks), (a_trial, wv r_15.2)] H := hP
  have hD : va_D A [(a_0, fv a_text a_window a_trial a_past a_firstSlot a_secondSlot a_equations a_looks), (a_trial, wv r_15.2)] := hD
  refine lv_pop hx hb dX5_takeTurn_160 rfl ?_
  obtain rfl := Option.some.inj hf
  exact kr_v hx hb hr hlocks hP hK hD hN hS hS.2.2 dX5_takeTurn_161
set_option maxHeartbeats 4000000 in
set_option maxRecDepth 100000 in
theorem c_X5_simulate {l : Launch} (hfl : l.stackTraces = false) (G : va_G) (cy : Nat → ClassId) (a_0 : Nat) (a_text : Nat) (a_window : Nat) (a_trial : Nat) (a_past : Nat) (a_firstSlot : Nat) (a_secondSlot : Nat) (a_equations : Nat) (a_looks : Nat) (sz : Nat) (s_window : WT) (s_trial : WT) (x1 : Int64) (x3 : Int32) (n : Nat) (R : Nat ⊕ (Int32 × WT)) (hf : f_X5_simulate n s_window s_trial x1 x3 = some R) : vx_Met l yX5_simulate wsX5_simulate ({ frames := 8, cells := 1, slots := 6, locals := 140 } : Room) (va_Pc [.ref a_0, .long x1, .int x3] (pcX G cy [(a_0, fv a_text a_window a_trial a_past a_firstSlot a_secondSlot a_equations a_looks), (a_window, wv s_window), (a_trial, wv s_trial)] sz)) (va_Qi (fun r (u : Int32 × WT) => R = .inr u ∧ r = u.1) (fun u t => Wd G cy (va_A [(a_0, fv a_text a_window a_trial a_past a_firstSlot a_secondSlot a_equations a_looks), (a_window, wv s_window), (a_trial, wv s_trial)] sz) [(a_0, fv a_text a_window a_trial a_past a_firstSlot a_secondSlot a_equations a_looks), (a_window, wv s_window), (a_trial, wv u.2)] t) (va_A [(a_0, fv a_text a_window a_trial a_past a_firstSlot a_secondSlot a_equations a_looks), (a_window, wv s_window), (a_trial, wv s_trial)] sz)) (vx_X (fun u : Nat => R = .inl u) (fun E u t => E = exN u ∧ va_P G vwCl [(a_0, fv a_text a_window a_trial a_past a_firstSlot a_secondSlot a_equations a_looks), (a_window, wv s_window), (a_trial, wv s_trial)] t.heap ∧ va_D (va_A [(a_0, fv a_text a_window a_trial a_past a_firstSlot a_secondSlot a_equations a_looks), (a_window, wv s_window), (a_trial, wv s_trial)] sz) [(a_0, fv a_text a_window a_trial a_past a_firstSlot a_secondSlot a_equations a_looks), (a_window, wv s_window), (a_trial, wv s_trial)]) (va_A [(a_0, fv a_text a_window a_trial a_past a_firstSlot a_secondSlot a_equations a_looks), (a_window, wv s_window), (a_trial, wv s_trial)] sz)) 1 6 (va_A [(a_0, fv a_text a_window a_trial a_past a_firstSlot a_secondSlot a_equations a_looks), (a_window, wv s_window), (a_trial, wv s_trial)] sz) := by
  refine vx_ofW (cc := cX5_simulate) (maxL := 7) (ret := (some .int)) (by decide) rfl ?_
  intro p e s m args below meth c s₁ B hml hnt hv
  obtain ⟨rfl, ⟨hsz, hP, hK, hD0, hN⟩, hE⟩ := hv
  have hx := B.exec
  have hb := B.bytes
  have hr := B.returns
  have hts := atoms_spec (ws := wsX5_simulate) B.pre
  have hown : s.vm.findClass RX5 = some m.cls := findClass_of_methodNamed B.named
  have hlocks := B.notSynchronized
  subst hsz
  have hD := hD0.self (sz := s.heap.size)
  generalize hAe : va_A [(a_0, fv a_text a_window a_trial a_past a_firstSlot a_secondSlot a_equations a_looks), (a_window, wv s_window), (a_trial, wv s_trial)] s.heap.size = A at hD hE ⊢
  have hA : ∀ q : Nat, s.heap.size ≤ q → A q := fun q h => by rw [← hAe]; exact Or.inr h
  have hS : va_S A s.heap s.heap [] := va_S.rf
  have hP : va_P G vwCl [(a_0, fv a_text a_window a_trial a_past a_firstSlot a_secondSlot a_equations a_looks), (a_window, wv s_window), (a_trial, wv s_trial)] s.heap := hP
  have bl_25 : ∀ (y3 : Int32), ∀ (k : Nat), ∀ (c_s_trial : WT) (y4 : Int64) (y6 : Int32) (H : Heap) (locs : List Loc), f_X5_simulate_b25 n s_window y3 k c_s_trial y4 y6 = some R → va_P G vwCl [(a_0, fv a_text a_window a_trial a_past a_firstSlot a_secondSlot a_equations a_looks), (a_window, wv s_window), (a_trial, wv c_s_trial)] H → va_D A [(a_0, fv a_text a_window a_trial a_past a_firstSlot a_secondSlot a_equations a_looks), (a_window, wv s_window), (a_trial, wv c_s_trial)] → va_S A s.heap H locs → ∀ (ls : Array Slot), lv_has ls 7 [(0, .ref a_0), (3, .int y3), (4, .long y4), (6, .int y6)] → W p l e ({ frames := 8, cells := 1, slots := 6, locals := 140 } : Room) s m [.ref a_0, .long x1, .int x3].toArray below meth c H locs 1 6 (vx_MQ below (va_Qi (fun r (u : Int32 × WT) => R = .inr u ∧ r = u.1) (fun u t => Wd G cy A [(a_0, fv a_text a_window a_trial a_past a_firstSlot a_secondSlot a_equations a_looks), (a_window, wv s_window), (a_trial, wv u.2)] t) A) (vx_X (fun u : Nat => R = .inl u) (fun E u t => E = exN u ∧ va_P G vwCl [(a_0, fv a_text a_window a_trial a_past a_firstSlot a_secondSlot a_equations a_looks), (a_window, wv s_window), (a_trial, wv s_trial)] t.heap ∧ va_D A [(a_0, fv a_text a_window a_trial a_past a_firstSlot a_secondSlot a_equations a_looks), (a_window, wv s_window), (a_trial, wv s_trial)]) A) [.ref a_0, .long x1, .int x3].toArray s 1 6 A) (F0 m 25 ls []) := by
    intro y3
    intro k
    induction k with
    | zero =>
      intro c_s_trial y4 y6 H locs hf; cases hf
    | succ k ih =>
      intro c_s_trial y4 y6 H locs hf hP hD hS ls hl
      have hf := (f_X5_simulate_b25_s n s_window y3 k c_s_trial y4 y6).symm.trans hf
      refine lv_iload hx hb dX5_simulate_25 (lv_at hl 3 rfl) ?_
      refine lv_iload_n hx hb dX5_simulate_27 rfl (lv_at hl 1 rfl) ?_
      refine lv_icmp_ge (tgt := 59) hx hb dX5_simulate_28 (by decide) (fun h_1 => ?_) (fun h_1 => ?_)
      · have hf := ip_ h_1 hf
        refine lv_bipush (v := 100) hx hb dX5_simulate_59 (by decide) ?_
        refine lv_aload_n hx hb dX5_simulate_61 rfl (lv_at hl 0 rfl) ?_
        refine va_get (D := G) (ci := 5) (v := .ref a_trial) (C := RX5) (T := TX5) (N := 8) hx hb hts iw_X5_simulate_X5 hown hK hP 0 rfl rfl 2 (by decide) (hts (.fieldLink RX5 23 "PaneFrost" "trial" "LPaneFrost$Window;") (by decide +kernel)) (fun _ h9 => h9) rfl dX5_simulate_62 ?_
        refine va_get (D := G) (ci := 4) (v := .long (w_frozen c_s_trial)) (C := RX4) (T := TX4) (N := 12) hx hb hts iw_X5_simulate_X4 hown hK hP 2 rfl rfl 4 (by decide) (hts (.fieldLink RX5 138 "PaneFrost$Window" "frozen" "J") (by decide +kernel)) (fun _ h9 => h9) rfl dX5_simulate_65 ?_
        refine kc_i (w1 := []) (wr := [(a_0, fv a_text a_window a_trial a_past a_firstSlot a_secondSlot a_equations a_looks), (a_window, wv s_window), (a_trial, wv c_s_trial)]) hP hD hS hA [] [0, 1, 2] rfl rfl rfl (by decide) (va_runS (As := [.long (w_frozen c_s_trial)]) (rest := [.int 100]) ⟨hx, hb, hml, hown, hts⟩ (c_J13_bitCount_95d88 (l := l) G cy  H.size (w_frozen c_s_trial)  (f_J13_bitCount_95d88 (w_frozen c_s_trial)) rfl) (va_cwS 1 hts gX5_simulate_J13_bitCount_95d88 rfl rfl rfl ddN_J13_bitCount_95d88 ⟨Nat.le_of_ble_eq_true rfl, Nat.le_of_ble_eq_true rfl⟩) (preS_ (hP.sub (ws' := []) [] rfl) hK (hD.sub (ws' := []) [] rfl rfl) hN) rfl rfl hl.1 rfl (lv_room (Nat.le_of_ble_eq_true rfl)) dX5_simulate_68 ⟨Nat.le_of_ble_eq_true rfl, Nat.le_of_ble_eq_true rfl⟩) (fun H locs hP hD hS => ?_)
        have hP : va_P G vwCl [(a_0, fv a_text a_window a_trial a_past a_firstSlot a_secondSlot a_equations a_looks), (a_window, wv s_window), (a_trial, wv c_s_trial)] H := hP
        have hD : va_D A [(a_0, fv a_text a_window a_trial a_past a_firstSlot a_secondSlot a_equations a_looks), (a_window, wv s_window), (a_trial, wv c_s_trial)] := hD
        refine lv_imul hx hb dX5_simulate_71 ?_
        refine lv_aload_n hx hb dX5_simulate_72 rfl (lv_at hl 0 rfl) ?_
        refine va_get (D := G) (ci := 5) (v := .ref a_trial) (C := RX5) (T := TX5) (N := 8) hx hb hts iw_X5_simulate_X5 hown hK hP 0 rfl rfl 2 (by decide) (hts (.fieldLink RX5 23 "PaneFrost" "trial" "LPaneFrost$Window;") (by decide +kernel)) (fun _ h9 => h9) rfl dX5_simulate_73 ?_
        obtain ⟨r_2, hh_r_2, hf⟩ := obd_some hf
        refine kc_i (w1 := [(a_trial, wv c_s_trial)]) (wr := [(a_0, fv a_text a_window a_trial a_past a_firstSlot a_secondSlot a_equations a_looks), (a_window, wv s_window)]) hP hD hS hA [2] [0, 1] rfl rfl rfl (by decide) (va_runV (As := []) (rest := [.int (100 * (f_J13_bitCount_95d88 (w_frozen c_s_trial)))]) ⟨hx, hb, hml, hown, hts⟩ (c_X4_patches (l := l) G cy a_trial H.size c_s_trial n r_2 hh_r_2) (cwV 0 hts gX5_simulate_X4_patches rfl rfl rfl ddV_X4_patches ⟨Nat.le_of_ble_eq_true rfl, Nat.le_of_ble_eq_true rfl⟩) (preV_ (ci := 4) (q0 := 0) rfl rfl (hP.sub (ws' := [(a_trial, wv c_s_trial)]) [2] rfl) hK (hD.sub (ws' := [(a_trial, wv c_s_trial)]) [2] rfl rfl) hN) rfl rfl hl.1 rfl (lv_room (Nat.le_of_ble_eq_true rfl)) dX5_simulate_76 ⟨Nat.le_of_ble_eq_true rfl, Nat.le_of_ble_eq_true rfl⟩) (fun H locs hP hD hS => ?_)
        have hP : va_P G vwCl [(a_0, fv a_text a_window a_trial a_past a_firstSlot a_secondSlot a_equations a_looks), (a_window, wv s_window), (a_trial, wv c_s_trial)] H := hP
        have hD : va_D A [(a_0, fv a_text a_window a_trial a_past a_firstSlot a_secondSlot a_equations a_looks), (a_window, wv s_window), (a_trial, wv c_s_trial)] := hD
        refine lv_iadd hx hb dX5_simulate_79 ?_
        exact kr_iX (u := (((100 * (f_J13_bitCount_95d88 (w_frozen c_s_trial))) + r_2), c_s_trial)) hx hb hr hlocks ((Option.some.inj hf).symm) hP hK hD hN hS hS.2.2 dX5_simulate_80
      · have hf := in_ h_1 hf
        refine lv_lload hx hb dX5_simulate_31 (lv_at hl 2 rfl) ?_
        refine lv_ldc2 (v := 6364136223846793005) hx hb hown (hts (.constantLong RX5 280 (6364136223846793005)) (by decide +kernel)) dX5_simulate_33 ?_
        refine lv_lmul hx hb dX5_simulate_36 ?_
        refine lv_ldc2 (v := 1442695040888963407) hx hb hown (hts (.constantLong RX5 282 (1442695040888963407)) (by decide +kernel)) dX5_simulate_37 ?_
        refine lv_ladd hx hb dX5_simulate_40 ?_
        refine lv_topl (fun u_3 eu_3 => ?_)
        have hf := lt_e eu_3 hf
        refine lv_lstore (lv' := [(4, .long u_3), (0, .ref a_0), (3, .int y3), (6, .int y6)]) hx hb dX5_simulate_41 hl (by decide) rfl (fun ls hl => ?_)
        refine lv_aload_n hx hb dX5_simulate_43 rfl (lv_at hl 1 rfl) ?_
        refine lv_lload hx hb dX5_simulate_44 (lv_at hl 0 rfl) ?_
        refine lv_bipush (v := 33) hx hb dX5_simulate_46 (by decide) ?_
        refine lv_lushr (v := (jus u_3 33)) hx hb dX5_simulate_48 rfl ?_
        refine lv_l2i (v := (jus u_3 33).toInt32) hx hb dX5_simulate_49 rfl ?_
        obtain ⟨r_4, hh_r_4, hf⟩ := obd_some hf
        refine kc_v (w1 := [(a_0, fv a_text a_window a_trial a_past a_firstSlot a_secondSlot a_equations a_looks), (a_trial, wv r_4)]) (wr := [(a_window, wv s_window)]) hP hD hS hA [0, 2] [1] rfl rfl rfl (by decide) (va_runV (As := [.int ((jus u_3 33).toInt32)]) (rest := []) ⟨hx, hb, hml, hown, hts⟩ (c_X5_takeTurn (l := l) G cy a_0 a_text a_window a_trial a_past a_firstSlot a_secondSlot a_equations a_looks H.size c_s_trial ((jus u_3 33).toInt32) n r_4 hh_r_4) (cwV 1 hts gX5_simulate_X5_takeTurn rfl rfl rfl ddV_X5_takeTurn ⟨Nat.le_of_ble_eq_true rfl, Nat.le_of_ble_eq_true rfl⟩) (preV_ (ci := 5) (q0 := 0) rfl rfl (hP.sub (ws' := [(a_0, fv a_text a_window a_trial a_past a_firstSlot a_secondSlot a_equations a_looks), (a_trial, wv c_s_trial)]) [0, 2] rfl) hK (hD.sub (ws' := [(a_0, fv a_text a_window a_trial a_past a_firstSlot a_secondSlot a_equations a_looks), (a_trial, wv c_s_trial)]) [0, 2] rfl rfl) hN) rfl rfl hl.1 rfl (lv_room (Nat.le_of_ble_eq_true rfl)) dX5_simulate_50 ⟨Nat.le_of_ble_eq_true rfl, Nat.le_of_ble_eq_true rfl⟩) (fun H locs hP hD hS => ?_)
        have hP : va_P G vwCl [(a_window, wv s_window), (a_0, fv a_text a_window a_trial a_past a_firstSlot a_secondSlot a_equations a_looks), (a_trial, wv r_4)] H := hP
        have hD : va_D A [(a_window, wv s_window), (a_0, fv a_text a_window a_trial a_past a_firstSlot a_secondSlot a_equations a_looks), (a_trial, wv r_4)] := hD
        refine lv_iinc (v := (y6 + 1)) (lv' := [(6, .int (y6 + 1)), (4, .long u_3), (0, .ref a_0), (3, .int y3)]) hx hb dX5_simulate_53 hl (k := 3) rfl rfl (by decide) rfl (fun ls hl => ?_)
        refine lv_goto (tgt := 25) hx hb dX5_simulate_56 (by decide) ?_
        exact ih r_4 u_3 (y6 + 1) _ _ hf (hP.sub (ws' := [(a_0, fv a_text a_window a_trial a_past a_firstSlot a_secondSlot a_equations a_looks), (a_window, wv s_window), (a_trial, wv r_4)]) [1, 0, 2] rfl) (hD.sub (ws' := [(a_0, fv a_text a_window a_trial a_past a_firstSlot a_secondSlot a_equations a_looks), (a_window, wv s_window), (a_trial, wv r_4)]) [1, 0, 2] rfl rfl) hS ls (lv_sub hl [2, 3, 1, 0] rfl)
  have hl := lv_entry [.ref a_0, .long x1, .int x3] (n := 7) (Nat.le_of_ble_eq_true rfl)
  rw [lg_entry_eq]
  generalize (lg_sl [.ref a_0, .long x1, .int x3] ++ List.replicate (7 - (lg_sl [.ref a_0, .long x1, .int x3]).length) Slot.unset).toArray = ls at hl ⊢
  have hl : lv_has ls 7 [(0, .ref a_0), (1, .long x1), (3, .int x3)] := hl
  unfold f_X5_simulate at hf
  refine lv_aload_n hx hb dX5_simulate_0 rfl (lv_at hl 0 rfl) ?_
  refine lv_iload_n hx hb dX5_simulate_1 rfl (lv_at hl 2 rfl) ?_
  refine lv_iconst (v := 1) hx hb dX5_simulate_2 (by decide) ?_
  refine lv_bipush (v := 60) hx hb dX5_simulate_3 (by decide) ?_
  obtain ⟨r_5, hh_r_5, hf⟩ := obx_some hf
  refine kx_v (w1 := fun (_ : Unit) => []) (wr := [(a_0, fv a_text a_window a_trial a_past a_firstSlot a_secondSlot a_equations a_looks), (a_window, wv s_window), (a_trial, wv s_trial)]) hP hD hS hA [] [0, 1, 2] rfl rfl rfl (by decide) (vx_runV (As := [.int x3, .int 1, .int 60]) (rest := []) ⟨hx, hb, hml, hown, hts⟩ (c_X5_needRange (l := l) hfl G cy a_0 s.heap.size x3 1 60  r_5 hh_r_5) (cwV 3 hts gX5_simulate_X5_needRange rfl rfl rfl ddV_X5_needRange ⟨Nat.le_of_ble_eq_true rfl, Nat.le_of_ble_eq_true rfl⟩) (preVX2 (ci := 5) (q0 := 0) rfl rfl hP (hE.kept hS.2.1) (va_free hD hS hA (wc := []) [] rfl) (hP.sub (ws' := []) [] rfl) hK (hD.sub (ws' := []) [] rfl rfl) hN) rfl rfl hl.1 rfl (lv_room (Nat.le_of_ble_eq_true rfl)) dX5_simulate_5 ⟨Nat.le_of_ble_eq_true rfl, Nat.le_of_ble_eq_true rfl⟩) (fun u ce q9 H locs hz hP hD hS hc1 hc2 hc3 => ?_) (fun u_5 H locs hz hP hD hS => ?_)
  · subst hz
    have hP : va_P G vwCl [(a_0, fv a_text a_window a_trial a_past a_firstSlot a_secondSlot a_equations a_looks), (a_window, wv s_window), (a_trial, wv s_trial)] H := hP
    have hD : va_D A [(a_0, fv a_text a_window a_trial a_past a_firstSlot a_secondSlot a_equations a_looks), (a_window, wv s_window), (a_trial, wv s_trial)] := hD
    exact vx_widen (k := 1) (n := 6) (Nat.le_of_ble_eq_true rfl) (Nat.le_of_ble_eq_true rfl) (kx_out u hnt hlocks (obx_l hf) hP hK hD hN hS hc1 hc2 hc3 (Nat.le_refl _) (Nat.le_refl _))
  subst hz
  have hf := obx_r hf
  have hP : va_P G vwCl [(a_0, fv a_text a_window a_trial a_past a_firstSlot a_secondSlot a_equations a_looks), (a_window, wv s_window), (a_trial, wv s_trial)] H := hP
  have hD : va_D A [(a_0, fv a_text a_window a_trial a_past a_firstSlot a_secondSlot a_equations a_looks), (a_window, wv s_window), (a_trial, wv s_trial)] := hD
  refine lv_aload_n hx hb dX5_simulate_8 rfl (lv_at hl 0 rfl) ?_
  refine va_get (D := G) (ci := 5) (v := .ref a_trial) (C := RX5) (T := TX5) (N := 8) hx hb hts iw_X5_simulate_X5 hown hK hP 0 rfl rfl 2 (by decide) (hts (.fieldLink RX5 23 "PaneFrost" "trial" "LPaneFrost$Window;") (by decide +kernel)) (fun _ h9 => h9) rfl dX5_simulate_9 ?_
  refine lv_aload_n hx hb dX5_simulate_12 rfl (lv_at hl 0 rfl) ?_
  refine va_get (D := G) (ci := 5) (v := .ref a_window) (C := RX5) (T := TX5) (N := 8) hx hb hts iw_X5_simulate_X5 hown hK hP 0 rfl rfl 1 (by decide) (hts (.fieldLink RX5 19 "PaneFrost" "window" "LPaneFrost$Window;") (by decide +kernel)) (fun _ h9 => h9) rfl dX5_simulate_13 ?_
  refine kc_v (w1 := [(a_trial, wv (f_X4_copy s_trial s_window)), (a_window, wv s_window)]) (wr := [(a_0, fv a_text a_window a_trial a_past a_firstSlot a_secondSlot a_equations a_looks)]) hP hD hS hA [2, 1] [0] rfl rfl rfl (by decide) (va_runV (As := [.ref a_window]) (rest := []) ⟨hx, hb, hml, hown, hts⟩ (c_X4_copy (l := l) G cy a_trial a_window H.size s_trial s_window  (f_X4_copy s_trial s_window) rfl) (cwV 1 hts gX5_simulate_X4_copy rfl rfl rfl ddV_X4_copy ⟨Nat.le_of_ble_eq_true rfl, Nat.le_of_ble_eq_true rfl⟩) (preV_ (ci := 4) (q0 := 0) rfl rfl (hP.sub (ws' := [(a_trial, wv s_trial), (a_window, wv s_window)]) [2, 1] rfl) hK (hD.sub (ws' := [(a_trial, wv s_trial), (a_window, wv s_window)]) [2, 1] rfl rfl) hN) rfl rfl hl.1 rfl (lv_room (Nat.le_of_ble_eq_true rfl)) dX5_simulate_16 ⟨Nat.le_of_ble_eq_true rfl, Nat.le_of_ble_eq_true rfl⟩) (fun H locs hP hD hS => ?_)
  have hP : va_P G vwCl [(a_0, fv a_text a_window a_trial a_past a_firstSlot a_secondSlot a_equations a_looks), (a_trial, wv (f_X4_copy s_trial s_window)), (a_window, wv s_window)] H := hP
  have hD : va_D A [(a_0, fv a_text a_window a_trial a_past a_firstSlot a_secondSlot a_equations a_looks), (a_trial, wv (f_X4_copy s_trial s_window)), (a_window, wv s_window)] := hD
  refine lv_lload_n hx hb dX5_simulate_19 rfl (lv_at hl 1 rfl) ?_
  refine lv_lstore (lv' := [(4, .long x1), (0, .ref a_0), (1, .long x1), (3, .int x3)]) hx hb dX5_simulate_20 hl (by decide) rfl (fun ls hl => ?_)
  refine lv_iconst (v := 0) hx hb dX5_simulate_22 (by decide) ?_
  refine lv_istore (lv' := [(6, .int 0), (4, .long x1), (0, .ref a_0), (1, .long x1), (3, .int x3)]) hx hb dX5_simulate_23 hl (by decide) rfl (fun ls hl => ?_)
  exact bl_25 x3 n (f_X4_copy s_trial s_window) x1 0 _ _ hf (hP.sub (ws' := [(a_0, fv a_text a_window a_trial a_past a_firstSlot a_secondSlot a_equations a_looks), (a_window, wv s_window), (a_trial, wv (f_X4_copy s_trial s_window))]) [0, 2, 1] rfl) (hD.sub (ws' := [(a_0, fv a_text a_window a_trial a_past a_firstSlot a_secondSlot a_equations a_looks), (a_window, wv s_window), (a_trial, wv (f_X4_copy s_trial s_window))]) [0, 2, 1] rfl rfl) hS ls (lv_sub hl [2, 4, 1, 0] rfl)
set_option maxHeartbeats 4000000 in
set_option maxRecDepth 100000 in
theorem c_X5_needSlot {l : Launch} (hfl : l.stackTraces = false) (G : va_G) (cy : Nat → ClassId) (a_0 : Nat) (sz : Nat) (x1 : Int32)  (R : Nat ⊕ (Unit)) (hf : f_X5_needSlot x1 = some R) : vx_Met l yX5_needSlot wsX5_needSlot ({ frames := 7, cells := 1, slots := 6, locals := 100 } : Room) (va_Pc [.ref a_0, .int x1] (pcX G cy [] sz)) (va_Qv (fun (u : Unit) => R = .inr u) (fun u t => Wd G cy (va_A [] sz) [] t) (va_A [] sz)) (vx_X (fun u : Nat => R = .inl u) (fun E u t => E = exN u ∧ va_P G vwCl [] t.heap ∧ va_D (va_A [] sz) []) (va_A [] sz)) 1 6 (va_A [] sz) := by
  refine vx_ofW (cc := cX5_needSlot) (maxL := 2) (ret := none) (by decide) rfl ?_
  intro p e s m args below meth c s₁ B hml hnt hv
  obtain ⟨rfl, ⟨hsz, hP, hK, hD0, hN⟩, hE⟩ := hv
  have hx := B.exec
  have hb := B.bytes
  have hr := B.returns
  have hts := atoms_spec (ws := wsX5_needSlot) B.pre
  have hown : s.vm.findClass RX5 = some m.cls := findClass_of_methodNamed B.named
  have hlocks := B.notSynchronized
  subst hsz
  have hD := hD0.self (sz := s.heap.size)
  generalize hAe : va_A [] s.heap.size = A at hD hE ⊢
  have hA : ∀ q : Nat, s.heap.size ≤ q → A q := fun q h => by rw [← hAe]; exact Or.inr h
  have hS : va_S A s.heap s.heap [] := va_S.rf
  have hP : va_P G vwCl [] s.heap := hP
  have hl := lv_entry [.ref a_0, .int x1] (n := 2) (Nat.le_of_ble_eq_true rfl)
  rw [lg_entry_eq]
  generalize (lg_sl [.ref a_0, .int x1] ++ List.replicate (2 - (lg_sl [.ref a_0, .int x1]).length) Slot.unset).toArray = ls at hl ⊢
  have hl : lv_has ls 2 [(0, .ref a_0), (1, .int x1)] := hl
  unfold f_X5_needSlot at hf
  refine lv_iload_n hx hb dX5_needSlot_0 rfl (lv_at hl 1 rfl) ?_
  refine lv_if_lt (tgt := 9) hx hb dX5_needSlot_1 (by decide) (fun h_1 => ?_) (fun h_1 => ?_)
  · have hf := ip_ h_1 hf
    exact kt_SW hx hb hfl (own := RX5) (X := "java/lang/IndexOutOfBoundsException") (text := "no such save slot") (names := xnm) (ik := 306) (is := 308) (ic := 310) hown (by decide +kernel) xnm_fit (hts (.classLink RX5 306 "java/lang/IndexOutOfBoundsException") (by decide +kernel)) (hts (.initialized "java/lang/IndexOutOfBoundsException") (by decide +kernel)) hE.2.2.2.2.2.2.2.2.2.2.2.1 (vx_hat (fun w hw => hts w (xm_X5_needSlot_1 w hw)) xh_1 (xB_of hE.2.2.1 hE.2.2.1.2.2.2.1)) xg_1 hE hP hD hS (hl.1.trans hml.symm) hnt hlocks dX5_needSlot_9 dX5_needSlot_12 dX5_needSlot_13 dX5_needSlot_16 dX5_needSlot_19 (Nat.le_of_ble_eq_true rfl) (Nat.le_of_ble_eq_true rfl) (Nat.le_of_ble_eq_true rfl) (Nat.le_of_ble_eq_true rfl) (Nat.le_of_ble_eq_true rfl) (Nat.le_of_ble_eq_true rfl) 1 rfl ((Option.some.inj hf).symm)
  · have hf := in_ h_1 hf
    refine lv_iload_n hx hb dX5_needSlot_4 rfl (lv_at hl 1 rfl) ?_
    refine lv_iconst (v := 1) hx hb dX5_needSlot_5 (by decide) ?_
    refine lv_icmp_le (tgt := 20) hx hb dX5_needSlot_6 (by decide) (fun h_2 => ?_) (fun h_2 => ?_)
    · have hf := ip_ h_2 hf
      refine W.widen (k := 1) (n := 6) (Nat.le_of_ble_eq_true rfl) (Nat.le_of_ble_eq_true rfl) ?_
      exact kr_vX (u := ()) hx hb hr hlocks ((Option.some.inj hf).symm) hP hK hD hN hS hS.2.2 dX5_needSlot_20
    · have hf := in_ h_2 hf
      exact kt_SW hx hb hfl (own := RX5) (X := "java/lang/IndexOutOfBoundsException") (text := "no such save slot") (names := xnm) (ik := 306) (is := 308) (ic := 310) hown (by decide +kernel) xnm_fit (hts (.classLink RX5 306 "java/lang/IndexOutOfBoundsException") (by decide +kernel)) (hts (.initialized "java/lang/IndexOutOfBoundsException") (by decide +kernel)) hE.2.2.2.2.2.2.2.2.2.2.2.1 (vx_hat (fun w hw => hts w (xm_X5_needSlot_1 w hw)) xh_1 (xB_of hE.2.2.1 hE.2.2.1.2.2.2.1)) xg_1 hE hP hD hS (hl.1.trans hml.symm) hnt hlocks dX5_needSlot_9 dX5_needSlot_12 dX5_needSlot_13 dX5_needSlot_16 dX5_needSlot_19 (Nat.le_of_ble_eq_true rfl) (Nat.le_of_ble_eq_true rfl) (Nat.le_of_ble_eq_true rfl) (Nat.le_of_ble_eq_true rfl) (Nat.le_of_ble_eq_true rfl) (Nat.le_of_ble_eq_true rfl) 1 rfl ((Option.some.inj hf).symm)
set_option maxHeartbeats 4000000 in
set_option maxRecDepth 100000 in
theorem c_X5_slotAt {l : Launch} (G : va_G) (cy : Nat → ClassId) (a_0 : Nat) (a_text : Nat) (a_window : Nat) (a_trial : Nat) (a_past : Nat) (a_firstSlot : Nat) (a_secondSlot : Nat) (a_equations : Nat) (a_looks : Nat) (sz : Nat) (x1 : Int32)  (R : Bool) (hf : f_X5_slotAt x1 = R) : Met l yX5_slotAt wsX5_slotAt ({ frames := 0, cells := 0, slots := 0, locals := 0 } : Room) (va_Pc [.ref a_0, .int x1] (pcW G cy [(a_0, fv a_text a_window a_trial a_past a_firstSlot a_secondSlot a_equations a_looks)] sz)) (va_Qq (fun r (_ : Unit) => r = (some (if R = true then a_firstSlot else a_secondSlot))) (fun _ t => Wd G cy (va_A [(a_0, fv a_text a_window a_trial a_past a_firstSlot a_secondSlot a_equations a_looks)] sz) [(a_0, fv a_text a_window a_trial a_past a_firstSlot a_secondSlot a_equations a_looks)] t) (va_A [(a_0, fv a_text a_window a_trial a_past a_firstSlot a_secondSlot a_equations a_looks)] sz)) 0 0 (va_A [(a_0, fv a_text a_window a_trial a_past a_firstSlot a_secondSlot a_equations a_looks)] sz) := by
  refine Met.ofW (cc := cX5_slotAt) (maxL := 2) (ret := (some (.object "PaneFrost$Slot"))) (by decide) rfl ?_
  intro p e s m args below meth c s₁ B hml hv
  obtain ⟨rfl, hsz, hP, hK, hD0, hN⟩ := hv
  have hx := B.exec
  have hb := B.bytes
  have hr := B.returns
  have hts := atoms_spec (ws := wsX5_slotAt) B.pre
  have hown : s.vm.findClass RX5 = some m.cls := findClass_of_methodNamed B.named
  have hlocks := B.notSynchronized
  subst hsz
  have hD := hD0.self (sz := s.heap.size)
  generalize hAe : va_A [(a_0, fv a_text a_window a_trial a_past a_firstSlot a_secondSlot a_equations a_looks)] s.heap.size = A at hD ⊢
  have hA : ∀ q : Nat, s.heap.size ≤ q → A q := fun q h => by rw [← hAe]; exact Or.inr h
  have hS : va_S A s.heap s.heap [] := va_S.rf
  have hP : va_P G vwCl [(a_0, fv a_text a_window a_trial a_past a_firstSlot a_secondSlot a_equations a_looks)] s.heap := hP
  have hl := lv_entry [.ref a_0, .int x1] (n := 2) (Nat.le_of_ble_eq_true rfl)
  rw [lg_entry_eq]
  generalize (lg_sl [.ref a_0, .int x1] ++ List.replicate (2 - (lg_sl [.ref a_0, .int x1]).length) Slot.unset).toArray = ls at hl ⊢
  have hl : lv_has ls 2 [(0, .ref a_0), (1, .int x1)] := hl
  unfold f_X5_slotAt at hf
  refine lv_iload_n hx hb dX5_slotAt_0 rfl (lv_at hl 1 rfl) ?_
  refine lv_if_ne (tgt := 11) hx hb dX5_slotAt_1 (by decide) (fun h_1 => ?_) (fun h_1 => ?_)
  · have hf := in_ h_1 hf
    refine lv_aload_n hx hb dX5_slotAt_11 rfl (lv_at hl 0 rfl) ?_
    refine va_get (D := G) (ci := 5) (v := .ref a_secondSlot) (C := RX5) (T := TX5) (N := 8) hx hb hts iw_X5_slotAt_X5 hown hK hP 0 rfl rfl 5 (by decide) (hts (.fieldLink RX5 40 "PaneFrost" "secondSlot" "LPaneFrost$Slot;") (by decide +kernel)) (fun _ h9 => h9) rfl dX5_slotAt_12 ?_
    subst hf
    exact kr_q (V := (some a_secondSlot)) hx hb hr hlocks (Or.inl ⟨_, rfl⟩) (Or.inr ⟨_, rfl⟩) rfl hP hK hD hN hS hS.2.2 dX5_slotAt_15
  · have hf := ip_ h_1 hf
    refine lv_aload_n hx hb dX5_slotAt_4 rfl (lv_at hl 0 rfl) ?_
    refine va_get (D := G) (ci := 5) (v := .ref a_firstSlot) (C := RX5) (T := TX5) (N := 8) hx hb hts iw_X5_slotAt_X5 hown hK hP 0 rfl rfl 4 (by decide) (hts (.fieldLink RX5 36 "PaneFrost" "firstSlot" "LPaneFrost$Slot;") (by decide +kernel)) (fun _ h9 => h9) rfl dX5_slotAt_5 ?_
    refine lv_goto (tgt := 15) hx hb dX5_slotAt_8 (by decide) ?_
    subst hf
    exact kr_q (V := (some a_firstSlot)) hx hb hr hlocks (Or.inl ⟨_, rfl⟩) (Or.inr ⟨_, rfl⟩) rfl hP hK hD hN hS hS.2.2 dX5_slotAt_15
set_option maxHeartbeats 4000000 in
set_option maxRecDepth 100000 in
theorem c_X5_save {l : Launch} (hfl : l.stackTraces = false) (G : va_G) (cy : Nat → ClassId) (a_0 : Nat) (a_text : Nat) (a_window : Nat) (a_trial : Nat) (a_past : Nat) (a_firstSlot : Nat) (a_firstSlot_kept : Nat) (a_secondSlot : Nat) (a_secondSlot_kept : Nat) (a_equations : Nat) (a_looks : Nat) (sz : Nat) (s_window : WT) (s_firstSlot : Bool) (s_firstSlot_kept : WT) (s_secondSlot : Bool) (s_secondSlot_kept : WT) (x1 : Int32)  (R : Nat ⊕ (Int32 × Bool × WT × Bool × WT)) (hf : f_X5_save s_window s_firstSlot s_firstSlot_kept s_secondSlot s_secondSlot_kept x1 = some R) : vx_Met l yX5_save wsX5_save ({ frames := 8, cells := 1, slots := 6, locals := 121 } : Room) (va_Pc [.ref a_0, .int x1] (pcX G cy [(a_0, fv a_text a_window a_trial a_past a_firstSlot a_secondSlot a_equations a_looks), (a_window, wv s_window), (a_firstSlot, sv a_firstSlot_kept s_firstSlot), (a_firstSlot_kept, wv s_firstSlot_kept), (a_secondSlot, sv a_secondSlot_kept s_secondSlot), (a_secondSlot_kept, wv s_secondSlot_kept)] sz)) (va_Qi (fun r (u : Int32 × Bool × WT × Bool × WT) => R = .inr u ∧ r = u.1) (fun u t => Wd G cy (va_A [(a_0, fv a_text a_window a_trial a_past a_firstSlot a_secondSlot a_equations a_looks), (a_window, wv s_window), (a_firstSlot, sv a_firstSlot_kept s_firstSlot), (a_firstSlot_kept, wv s_firstSlot_kept), (a_secondSlot, sv a_secondSlot_kept s_secondSlot), (a_secondSlot_kept, wv s_secondSlot_kept)] sz) [(a_0, fv a_text a_window a_trial a_past a_firstSlot a_secondSlot a_equations a_looks), (a_window, wv s_window), (a_firstSlot, sv a_firstSlot_kept u.2.1), (a_firstSlot_kept, wv u.2.2.1), (a_secondSlot, sv a_secondSlot_kept u.2.2.2.1), (a_secondSlot_kept, wv u.2.2.2.2)] t) (va_A [(a_0, fv a_text a_window a_trial a_past a_firstSlot a_secondSlot a_equations a_looks), (a_window, wv s_window), (a_firstSlot, sv a_firstSlot_kept s_firstSlot), (a_firstSlot_kept, wv s_firstSlot_kept), (a_secondSlot, sv a_secondSlot_kept s_secondSlot), (a_secondSlot_kept, wv s_secondSlot_kept)] sz)) (vx_X (fun u : Nat => R = .inl u) (fun E u t => E = exN u ∧ va_P G vwCl [(a_0, fv a_text a_window a_trial a_past a_firstSlot a_secondSlot a_equations a_looks), (a_window, wv s_window), (a_firstSlot, sv a_firstSlot_kept s_firstSlot), (a_firstSlot_kept, wv s_firstSlot_kept), (a_secondSlot, sv a_secondSlot_kept s_secondSlot), (a_secondSlot_kept, wv s_secondSlot_kept)] t.heap ∧ va_D (va_A [(a_0, fv a_text a_window a_trial a_past a_firstSlot a_secondSlot a_equations a_looks), (a_window, wv s_window), (a_firstSlot, sv a_firstSlot_kept s_firstSlot), (a_firstSlot_kept, wv s_firstSlot_kept), (a_secondSlot, sv a_secondSlot_kept s_secondSlot), (a_secondSlot_kept, wv s_secondSlot_kept)] sz) [(a_0, fv a_text a_window a_trial a_past a_firstSlot a_secondSlot a_equations a_looks), (a_window, wv s_window), (a_firstSlot, sv a_firstSlot_kept s_firstSlot), (a_firstSlot_kept, wv s_firstSlot_kept), (a_secondSlot, sv a_secondSlot_kept s_secondSlot), (a_secondSlot_kept, wv s_secondSlot_kept)]) (va_A [(a_0, fv a_text a_window a_trial a_past a_firstSlot a_secondSlot a_equations a_looks), (a_window, wv s_window), (a_firstSlot, sv a_firstSlot_kept s_firstSlot), (a_firstSlot_kept, wv s_firstSlot_kept), (a_secondSlot, sv a_secondSlot_kept s_secondSlot), (a_secondSlot_kept, wv s_secondSlot_kept)] sz)) 1 6 (va_A [(a_0, fv a_text a_window a_trial a_past a_firstSlot a_secondSlot a_equations a_looks), (a_window, wv s_window), (a_firstSlot, sv a_firstSlot_kept s_firstSlot), (a_firstSlot_kept, wv s_firstSlot_kept), (a_secondSlot, sv a_secondSlot_kept s_secondSlot), (a_secondSlot_kept, wv s_secondSlot_kept)] sz) := by
  refine vx_ofW (cc := cX5_save) (maxL := 2) (ret := (some .int)) (by decide) rfl ?_
  intro p e s m args below meth c s₁ B hml hnt hv
  obtain ⟨rfl, ⟨hsz, hP, hK, hD0, hN⟩, hE⟩ := hv
  have hx := B.exec
  have hb := B.bytes
  have hr := B.returns
  have hts := atoms_spec (ws := wsX5_save) B.pre
  have hown : s.vm.findClass RX5 = some m.cls := findClass_of_methodNamed B.named
  have hlocks := B.notSynchronized
  subst hsz
  have hD := hD0.self (sz := s.heap.size)
  generalize hAe : va_A [(a_0, fv a_text a_window a_trial a_past a_firstSlot a_secondSlot a_equations a_looks), (a_window, wv s_window), (a_firstSlot, sv a_firstSlot_kept s_firstSlot), (a_firstSlot_kept, wv s_firstSlot_kept), (a_secondSlot, sv a_secondSlot_kept s_secondSlot), (a_secondSlot_kept, wv s_secondSlot_kept)] s.heap.size = A at hD hE ⊢
  have hA : ∀ q : Nat, s.heap.size ≤ q → A q := fun q h => by rw [← hAe]; exact Or.inr h
  have hS : va_S A s.heap s.heap [] := va_S.rf
  have hP : va_P G vwCl [(a_0, fv a_text a_window a_trial a_past a_firstSlot a_secondSlot a_equations a_looks), (a_window, wv s_window), (a_firstSlot, sv a_firstSlot_kept s_firstSlot), (a_firstSlot_kept, wv s_firstSlot_kept), (a_secondSlot, sv a_secondSlot_kept s_secondSlot), (a_secondSlot_kept, wv s_secondSlot_kept)] s.heap := hP
  have hl := lv_entry [.ref a_0, .int x1] (n := 2) (Nat.le_of_ble_eq_true rfl)
  rw [lg_entry_eq]
  generalize (lg_sl [.ref a_0, .int x1] ++ List.replicate (2 - (lg_sl [.ref a_0, .int x1]).length) Slot.unset).toArray = ls at hl ⊢
  have hl : lv_has ls 2 [(0, .ref a_0), (1, .int x1)] := hl
  unfold f_X5_save at hf
  refine lv_aload_n hx hb dX5_save_0 rfl (lv_at hl 0 rfl) ?_
  refine lv_iload_n hx hb dX5_save_1 rfl (lv_at hl 1 rfl) ?_
  obtain ⟨r_1, hh_r_1, hf⟩ := obx_some hf
  refine kx_v (w1 := fun (_ : Unit) => []) (wr := [(a_0, fv a_text a_window a_trial a_past a_firstSlot a_secondSlot a_equations a_looks), (a_window, wv s_window), (a_firstSlot, sv a_firstSlot_kept s_firstSlot), (a_firstSlot_kept, wv s_firstSlot_kept), (a_secondSlot, sv a_secondSlot_kept s_secondSlot), (a_secondSlot_kept, wv s_secondSlot_kept)]) hP hD hS hA [] [0, 1, 2, 3, 4, 5] rfl rfl rfl (by decide) (vx_runV (As := [.int x1]) (rest := []) ⟨hx, hb, hml, hown, hts⟩ (c_X5_needSlot (l := l) hfl G cy a_0 s.heap.size x1  r_1 hh_r_1) (cwV 1 hts gX5_save_X5_needSlot rfl rfl rfl ddV_X5_needSlot ⟨Nat.le_of_ble_eq_true rfl, Nat.le_of_ble_eq_true rfl⟩) (preVX2 (ci := 5) (q0 := 0) rfl rfl hP (hE.kept hS.2.1) (va_free hD hS hA (wc := []) [] rfl) (hP.sub (ws' := []) [] rfl) hK (hD.sub (ws' := []) [] rfl rfl) hN) rfl rfl hl.1 rfl (lv_room (Nat.le_of_ble_eq_true rfl)) dX5_save_2 ⟨Nat.le_of_ble_eq_true rfl, Nat.le_of_ble_eq_true rfl⟩) (fun u ce q9 H locs hz hP hD hS hc1 hc2 hc3 => ?_) (fun u_1 H locs hz hP hD hS => ?_)
  · subst hz
    have hP : va_P G vwCl [(a_0, fv a_text a_window a_trial a_past a_firstSlot a_secondSlot a_equations a_looks), (a_window, wv s_window), (a_firstSlot, sv a_firstSlot_kept s_firstSlot), (a_firstSlot_kept, wv s_firstSlot_kept), (a_secondSlot, sv a_secondSlot_kept s_secondSlot), (a_secondSlot_kept, wv s_secondSlot_kept)] H := hP
    have hD : va_D A [(a_0, fv a_text a_window a_trial a_past a_firstSlot a_secondSlot a_equations a_looks), (a_window, wv s_window), (a_firstSlot, sv a_firstSlot_kept s_firstSlot), (a_firstSlot_kept, wv s_firstSlot_kept), (a_secondSlot, sv a_secondSlot_kept s_secondSlot), (a_secondSlot_kept, wv s_secondSlot_kept)] := hD
    exact vx_widen (k := 1) (n := 6) (Nat.le_of_ble_eq_true rfl) (Nat.le_of_ble_eq_true rfl) (kx_out u hnt hlocks (obx_l hf) hP hK hD hN hS hc1 hc2 hc3 (Nat.le_refl _) (Nat.le_refl _))
  subst hz
  have hf := obx_r hf
  have hP : va_P G vwCl [(a_0, fv a_text a_window a_trial a_past a_firstSlot a_secondSlot a_equations a_looks), (a_window, wv s_window), (a_firstSlot, sv a_firstSlot_kept s_firstSlot), (a_firstSlot_kept, wv s_firstSlot_kept), (a_secondSlot, sv a_secondSlot_kept s_secondSlot), (a_secondSlot_kept, wv s_secondSlot_kept)] H := hP
  have hD : va_D A [(a_0, fv a_text a_window a_trial a_past a_firstSlot a_secondSlot a_equations a_looks), (a_window, wv s_window), (a_firstSlot, sv a_firstSlot_kept s_firstSlot), (a_firstSlot_kept, wv s_firstSlot_kept), (a_secondSlot, sv a_secondSlot_kept s_secondSlot), (a_secondSlot_kept, wv s_secondSlot_kept)] := hD
  refine lv_aload_n hx hb dX5_save_5 rfl (lv_at hl 0 rfl) ?_
  refine lv_iload_n hx hb dX5_save_6 rfl (lv_at hl 1 rfl) ?_
  obtain ⟨rr, hh_rr⟩ : ∃ z, z = f_X5_slotAt x1 := ⟨_, rfl⟩
  have hf := lt_e hh_rr hf
  by_cases h_2 : rr = true
  · have hf := ip_ h_2 hf
    have hh_v : f_X5_slotAt x1 = true := hh_rr.symm.trans h_2
    refine kc_q (v := .ref a_firstSlot) rfl (w1 := [(a_0, fv a_text a_window a_trial a_past a_firstSlot a_secondSlot a_equations a_looks)]) (wr := [(a_window, wv s_window), (a_firstSlot, sv a_firstSlot_kept s_firstSlot), (a_firstSlot_kept, wv s_firstSlot_kept), (a_secondSlot, sv a_secondSlot_kept s_secondSlot), (a_secondSlot_kept, wv s_secondSlot_kept)]) hP hD hS hA [0] [1, 2, 3, 4, 5] rfl rfl rfl (by decide) (va_runV (As := [.int x1]) (rest := []) ⟨hx, hb, hml, hown, hts⟩ (c_X5_slotAt (l := l) G cy a_0 a_text a_window a_trial a_past a_firstSlot a_secondSlot a_equations a_looks H.size x1  true hh_v) (cwV 1 hts gX5_save_X5_slotAt rfl rfl rfl ddV_X5_slotAt ⟨Nat.le_of_ble_eq_true rfl, Nat.le_of_ble_eq_true rfl⟩) (preV_ (ci := 5) (q0 := 0) rfl rfl (hP.sub (ws' := [(a_0, fv a_text a_window a_trial a_past a_firstSlot a_secondSlot a_equations a_looks)]) [0] rfl) hK (hD.sub (ws' := [(a_0, fv a_text a_window a_trial a_past a_firstSlot a_secondSlot a_equations a_looks)]) [0] rfl rfl) hN) rfl rfl hl.1 rfl (lv_room (Nat.le_of_ble_eq_true rfl)) dX5_save_7 ⟨Nat.le_of_ble_eq_true rfl, Nat.le_of_ble_eq_true rfl⟩) (fun H locs hP hD hS => ?_)
    have hP : va_P G vwCl [(a_window, wv s_window), (a_firstSlot, sv a_firstSlot_kept s_firstSlot), (a_firstSlot_kept, wv s_firstSlot_kept), (a_secondSlot, sv a_secondSlot_kept s_secondSlot), (a_secondSlot_kept, wv s_secondSlot_kept), (a_0, fv a_text a_window a_trial a_past a_firstSlot a_secondSlot a_equations a_looks)] H := hP
    have hD : va_D A [(a_window, wv s_window), (a_firstSlot, sv a_firstSlot_kept s_firstSlot), (a_firstSlot_kept, wv s_firstSlot_kept), (a_secondSlot, sv a_secondSlot_kept s_secondSlot), (a_secondSlot_kept, wv s_secondSlot_kept), (a_0, fv a_text a_window a_trial a_past a_firstSlot a_secondSlot a_equations a_looks)] := hD
    refine lv_aload_n hx hb dX5_save_10 rfl (lv_at hl 0 rfl) ?_
    refine va_get (D := G) (ci := 5) (v := .ref a_window) (C := RX5) (T := TX5) (N := 8) hx hb hts iw_X5_save_X5 hown hK hP 5 rfl rfl 1 (by decide) (hts (.fieldLink RX5 19 "PaneFrost" "window" "LPaneFrost$Window;") (by decide +kernel)) (fun _ h9 => h9) rfl dX5_save_11 ?_
    obtain ⟨r_3, hh_r_3⟩ : ∃ z, z = f_X2_put s_firstSlot s_firstSlot_kept s_window := ⟨_, rfl⟩
    have hf := lt_e hh_r_3 hf
    refine kc_v (w1 := [(a_firstSlot, sv a_firstSlot_kept r_3.1), (a_firstSlot_kept, wv r_3.2), (a_window, wv s_window)]) (wr := [(a_secondSlot, sv a_secondSlot_kept s_secondSlot), (a_secondSlot_kept, wv s_secondSlot_kept), (a_0, fv a_text a_window a_trial a_past a_firstSlot a_secondSlot a_equations a_looks)]) hP hD hS hA [1, 2, 0] [3, 4, 5] rfl rfl rfl (by decide) (va_runV (As := [.ref a_window]) (rest := []) ⟨hx, hb, hml, hown, hts⟩ (c_X2_put (l := l) G cy a_firstSlot a_firstSlot_kept a_window H.size s_firstSlot s_firstSlot_kept s_window  r_3 hh_r_3.symm) (cwV 1 hts gX5_save_X2_put rfl rfl rfl ddV_X2_put ⟨Nat.le_of_ble_eq_true rfl, Nat.le_of_ble_eq_true rfl⟩) (preV_ (ci := 2) (q0 := 0) rfl rfl (hP.sub (ws' := [(a_firstSlot, sv a_firstSlot_kept s_firstSlot), (a_firstSlot_kept, wv s_firstSlot_kept), (a_window, wv s_window)]) [1, 2, 0] rfl) hK (hD.sub (ws' := [(a_firstSlot, sv a_firstSlot_kept s_firstSlot), (a_firstSlot_kept, wv s_firstSlot_kept), (a_window, wv s_window)]) [1, 2, 0] rfl rfl) hN) rfl rfl hl.1 rfl (lv_room (Nat.le_of_ble_eq_true rfl)) dX5_save_14 ⟨Nat.le_of_ble_eq_true rfl, Nat.le_of_ble_eq_true rfl⟩) (fun H locs hP hD hS => ?_)
    have hP : va_P G vwCl [(a_secondSlot, sv a_secondSlot_kept s_secondSlot), (a_secondSlot_kept, wv s_secondSlot_kept), (a_0, fv a_text a_window a_trial a_past a_firstSlot a_secondSlot a_equations a_looks), (a_firstSlot, sv a_firstSlot_kept r_3.1), (a_firstSlot_kept, wv r_3.2), (a_window, wv s_window)] H := hP
    have hD : va_D A [(a_secondSlot, sv a_secondSlot_kept s_secondSlot), (a_secondSlot_kept, wv s_secondSlot_kept), (a_0, fv a_text a_window a_trial a_past a_firstSlot a_secondSlot a_equations a_looks), (a_firstSlot, sv a_firstSlot_kept r_3.1), (a_firstSlot_kept, wv r_3.2), (a_window, wv s_window)] := hD
    refine lv_aload_n hx hb dX5_save_17 rfl (lv_at hl 0 rfl) ?_
    refine va_get (D := G) (ci := 5) (v := .ref a_window) (C := RX5) (T := TX5) (N := 8) hx hb hts iw_X5_save_X5 hown hK hP 2 rfl rfl 1 (by decide) (hts (.fieldLink RX5 19 "PaneFrost" "window" "LPaneFrost$Window;") (by decide +kernel)) (fun _ h9 => h9) rfl dX5_save_18 ?_
    refine va_get (D := G) (ci := 4) (v := .int (w_nights s_window)) (C := RX4) (T := TX4) (N := 12) hx hb hts iw_X5_save_X4 hown hK hP 5 rfl rfl 3 (by decide) (hts (.fieldLink RX5 154 "PaneFrost$Window" "nights" "I") (by decide +kernel)) (fun _ h9 => h9) rfl dX5_save_21 ?_
    exact kr_iX (u := ((w_nights s_window), r_3.1, r_3.2, s_secondSlot, s_secondSlot_kept)) hx hb hr hlocks ((Option.some.inj hf).symm) (hP.sub (ws' := [(a_0, fv a_text a_window a_trial a_past a_firstSlot a_secondSlot a_equations a_looks), (a_window, wv s_window), (a_firstSlot, sv a_firstSlot_kept r_3.1), (a_firstSlot_kept, wv r_3.2), (a_secondSlot, sv a_secondSlot_kept s_secondSlot), (a_secondSlot_kept, wv s_secondSlot_kept)]) [2, 5, 3, 4, 0, 1] rfl) hK (hD.sub (ws' := [(a_0, fv a_text a_window a_trial a_past a_firstSlot a_secondSlot a_equations a_looks), (a_window, wv s_window), (a_firstSlot, sv a_firstSlot_kept r_3.1), (a_firstSlot_kept, wv r_3.2), (a_secondSlot, sv a_secondSlot_kept s_secondSlot), (a_secondSlot_kept, wv s_secondSlot_kept)]) [2, 5, 3, 4, 0, 1] rfl rfl) hN hS hS.2.2 dX5_save_24
  have hf := in_ h_2 hf
  have hh_v : f_X5_slotAt x1 = false := hh_rr.symm.trans (Bool.eq_false_iff.mpr h_2)
  refine kc_q (v := .ref a_secondSlot) rfl (w1 := [(a_0, fv a_text a_window a_trial a_past a_firstSlot a_secondSlot a_equations a_looks)]) (wr := [(a_window, wv s_window), (a_firstSlot, sv a_firstSlot_kept s_firstSlot), (a_firstSlot_kept, wv s_firstSlot_kept), (a_secondSlot, sv a_secondSlot_kept s_secondSlot), (a_secondSlot_kept, wv s_secondSlot_kept)]) hP hD hS hA [0] [1, 2, 3, 4, 5] rfl rfl rfl (by decide) (va_runV (As := [.int x1]) (rest := []) ⟨hx, hb, hml, hown, hts⟩ (c_X5_slotAt (l := l) G cy a_0 a_text a_window a_trial a_past a_firstSlot a_secondSlot a_equations a_looks H.size x1  false hh_v) (cwV 1 hts gX5_save_X5_slotAt rfl rfl rfl ddV_X5_slotAt ⟨Nat.le_of_ble_eq_true rfl, Nat.le_of_ble_eq_true rfl⟩) (preV_ (ci := 5) (q0 := 0) rfl rfl (hP.sub (ws' := [(a_0, fv a_text a_window a_trial a_past a_firstSlot a_secondSlot a_equations a_looks)]) [0] rfl) hK (hD.sub (ws' := [(a_0, fv a_text a_window a_trial a_past a_firstSlot a_secondSlot a_equations a_looks)]) [0] rfl rfl) hN) rfl rfl hl.1 rfl (lv_room (Nat.le_of_ble_eq_true rfl)) dX5_save_7 ⟨Nat.le_of_ble_eq_true rfl, Nat.le_of_ble_eq_true rfl⟩) (fun H locs hP hD hS => ?_)
  have hP : va_P G vwCl [(a_window, wv s_window), (a_firstSlot, sv a_firstSlot_kept s_firstSlot), (a_firstSlot_kept, wv s_firstSlot_kept), (a_secondSlot, sv a_secondSlot_kept s_secondSlot), (a_secondSlot_kept, wv s_secondSlot_kept), (a_0, fv a_text a_window a_trial a_past a_firstSlot a_secondSlot a_equations a_looks)] H := hP
  have hD : va_D A [(a_window, wv s_window), (a_firstSlot, sv a_firstSlot_kept s_firstSlot), (a_firstSlot_kept, wv s_firstSlot_kept), (a_secondSlot, sv a_secondSlot_kept s_secondSlot), (a_secondSlot_kept, wv s_secondSlot_kept), (a_0, fv a_text a_window a_trial a_past a_firstSlot a_secondSlot a_equations a_looks)] := hD
  refine lv_aload_n hx hb dX5_save_10 rfl (lv_at hl 0 rfl) ?_
  refine va_get (D := G) (ci := 5) (v := .ref a_window) (C := RX5) (T := TX5) (N := 8) hx hb hts iw_X5_save_X5 hown hK hP 5 rfl rfl 1 (by decide) (hts (.fieldLink RX5 19 "PaneFrost" "window" "LPaneFrost$Window;") (by decide +kernel)) (fun _ h9 => h9) rfl dX5_save_11 ?_
  obtain ⟨r_4, hh_r_4⟩ : ∃ z, z = f_X2_put s_secondSlot s_secondSlot_kept s_window := ⟨_, rfl⟩
  have hf := lt_e hh_r_4 hf
  refine kc_v (w1 := [(a_secondSlot, sv a_secondSlot_kept r_4.1), (a_secondSlot_kept, wv r_4.2), (a_window, wv s_window)]) (wr := [(a_firstSlot, sv a_firstSlot_kept s_firstSlot), (a_firstSlot_kept, wv s_firstSlot_kept), (a_0, fv a_text a_window a_trial a_past a_firstSlot a_secondSlot a_equations a_looks)]) hP hD hS hA [3, 4, 0] [1, 2, 5] rfl rfl rfl (by decide) (va_runV (As := [.ref a_window]) (rest := []) ⟨hx, hb, hml, hown, hts⟩ (c_X2_put (l := l) G cy a_secondSlot a_secondSlot_kept a_window H.size s_secondSlot s_secondSlot_kept s_window  r_4 hh_r_4.symm) (cwV 1 hts gX5_save_X2_put rfl rfl rfl ddV_X2_put ⟨Nat.le_of_ble_eq_true rfl, Nat.le_of_ble_eq_true rfl⟩) (preV_ (ci := 2) (q0 := 0) rfl rfl (hP.sub (ws' := [(a_secondSlot, sv a_secondSlot_kept s_secondSlot), (a_secondSlot_kept, wv s_secondSlot_kept), (a_window, wv s_window)]) [3, 4, 0] rfl) hK (hD.sub (ws' := [(a_secondSlot, sv a_secondSlot_kept s_secondSlot), (a_secondSlot_kept, wv s_secondSlot_kept), (a_window, wv s_window)]) [3, 4, 0] rfl rfl) hN) rfl rfl hl.1 rfl (lv_room (Nat.le_of_ble_eq_true rfl)) dX5_save_14 ⟨Nat.le_of_ble_eq_true rfl, Nat.le_of_ble_eq_true rfl⟩) (fun H locs hP hD hS => ?_)
  have hP : va_P G vwCl [(a_firstSlot, sv a_firstSlot_kept s_firstSlot), (a_firstSlot_kept, wv s_firstSlot_kept), (a_0, fv a_text a_window a_trial a_past a_firstSlot a_secondSlot a_equations a_looks), (a_secondSlot, sv a_secondSlot_kept r_4.1), (a_secondSlot_kept, wv r_4.2), (a_window, wv s_window)] H := hP
  have hD : va_D A [(a_firstSlot, sv a_firstSlot_kept s_firstSlot), (a_firstSlot_kept, wv s_firstSlot_kept), (a_0, fv a_text a_window a_trial a_past a_firstSlot a_secondSlot a_equations a_looks), (a_secondSlot, sv a_secondSlot_kept r_4.1), (a_secondSlot_kept, wv r_4.2), (a_window, wv s_window)] := hD
  refine lv_aload_n hx hb dX5_save_17 rfl (lv_at hl 0 rfl) ?_
  refine va_get (D := G) (ci := 5) (v := .ref a_window) (C := RX5) (T := TX5) (N := 8) hx hb hts iw_X5_save_X5 hown hK hP 2 rfl rfl 1 (by decide) (hts (.fieldLink RX5 19 "PaneFrost" "window" "LPaneFrost$Window;") (by decide +kernel)) (fun _ h9 => h9) rfl dX5_save_18 ?_
  refine va_get (D := G) (ci := 4) (v := .int (w_nights s_window)) (C := RX4) (T := TX4) (N := 12) hx hb hts iw_X5_save_X4 hown hK hP 5 rfl rfl 3 (by decide) (hts (.fieldLink RX5 154 "PaneFrost$Window" "nights" "I") (by decide +kernel)) (fun _ h9 => h9) rfl dX5_save_21 ?_
  exact kr_iX (u := ((w_nights s_window), s_firstSlot, s_firstSlot_kept, r_4.1, r_4.2)) hx hb hr hlocks ((Option.some.inj hf).symm) (hP.sub (ws' := [(a_0, fv a_text a_window a_trial a_past a_firstSlot a_secondSlot a_equations a_looks), (a_window, wv s_window), (a_firstSlot, sv a_firstSlot_kept s_firstSlot), (a_firstSlot_kept, wv s_firstSlot_kept), (a_secondSlot, sv a_secondSlot_kept r_4.1), (a_secondSlot_kept, wv r_4.2)]) [2, 5, 0, 1, 3, 4] rfl) hK (hD.sub (ws' := [(a_0, fv a_text a_window a_trial a_past a_firstSlot a_secondSlot a_equations a_looks), (a_window, wv s_window), (a_firstSlot, sv a_firstSlot_kept s_firstSlot), (a_firstSlot_kept, wv s_firstSlot_kept), (a_secondSlot, sv a_secondSlot_kept r_4.1), (a_secondSlot_kept, wv r_4.2)]) [2, 5, 0, 1, 3, 4] rfl rfl) hN hS hS.2.2 dX5_save_24
set_option maxHeartbeats 4000000 in
set_option maxRecDepth 100000 in
theorem c_X5_restore {l : Launch} (hfl : l.stackTraces = false) (G : va_G) (cy : Nat → ClassId) (a_0 : Nat) (a_text : Nat) (a_window : Nat) (a_trial : Nat) (a_past : Nat) (a_past_kept : Nat) (a_firstSlot : Nat) (a_firstSlot_kept : Nat) (a_secondSlot : Nat) (a_secondSlot_kept : Nat) (a_equations : Nat) (a_looks : Nat) (sz : Nat) (s_window : WT) (s_past : PT) (s_firstSlot : Bool) (s_firstSlot_kept : WT) (s_secondSlot : Bool) (s_secondSlot_kept : WT) (x1 : Int32)  (R : Nat ⊕ (Int32 × WT × PT)) (hf : f_X5_restore s_window s_past s_firstSlot s_firstSlot_kept s_secondSlot s_secondSlot_kept x1 = some R) : vx_Met l yX5_restore wsX5_restore ({ frames := 8, cells := 2, slots := 12, locals := 121 } : Room) (va_Pc [.ref a_0, .int x1] (pcX G cy [(a_0, fv a_text a_window a_trial a_past a_firstSlot a_secondSlot a_equations a_looks), (a_window, wv s_window), (a_past, pv a_past_kept s_past), (a_firstSlot, sv a_firstSlot_kept s_firstSlot), (a_firstSlot_kept, wv s_firstSlot_kept), (a_secondSlot, sv a_secondSlot_kept s_secondSlot), (a_secondSlot_kept, wv s_secondSlot_kept)] sz)) (va_Qi (fun r (u : Int32 × WT × PT) => R = .inr u ∧ r = u.1) (fun u t => Wd G cy (va_A [(a_0, fv a_text a_window a_trial a_past a_firstSlot a_secondSlot a_equations a_looks), (a_window, wv s_window), (a_past, pv a_past_kept s_past), (a_firstSlot, sv a_firstSlot_kept s_firstSlot), (a_firstSlot_kept, wv s_firstSlot_kept), (a_secondSlot, sv a_secondSlot_kept s_secondSlot), (a_secondSlot_kept, wv s_secondSlot_kept)] sz) [(a_0, fv a_text a_window a_trial a_past a_firstSlot a_secondSlot a_equations a_looks), (a_window, wv u.2.1), (a_past, pv a_past_kept u.2.2), (a_firstSlot, sv a_firstSlot_kept s_firstSlot), (a_firstSlot_kept, wv s_firstSlot_kept), (a_secondSlot, sv a_secondSlot_kept s_secondSlot), (a_secondSlot_kept, wv s_secondSlot_kept)] t) (va_A [(a_0, fv a_text a_window a_trial a_past a_firstSlot a_secondSlot a_equations a_looks), (a_window, wv s_window), (a_past, pv a_past_kept s_past), (a_firstSlot, sv a_firstSlot_kept s_firstSlot), (a_firstSlot_kept, wv s_firstSlot_kept), (a_secondSlot, sv a_secondSlot_kept s_secondSlot), (a_secondSlot_kept, wv s_secondSlot_kept)] sz)) (vx_X (fun u : Nat => R = .inl u) (fun E u t => E = exN u ∧ va_P G vwCl [(a_0, fv a_text a_window a_trial a_past a_firstSlot a_secondSlot a_equations a_looks), (a_window, wv s_window), (a_past, pv a_past_kept s_past), (a_firstSlot, sv a_firstSlot_kept s_firstSlot), (a_firstSlot_kept, wv s_firstSlot_kept), (a_secondSlot, sv a_secondSlot_kept s_secondSlot), (a_secondSlot_kept, wv s_secondSlot_kept)] t.heap ∧ va_D (va_A [(a_0, fv a_text a_window a_trial a_past a_firstSlot a_secondSlot a_equations a_looks), (a_window, wv s_window), (a_past, pv a_past_kept s_past), (a_firstSlot, sv a_firstSlot_kept s_firstSlot), (a_firstSlot_kept, wv s_firstSlot_kept), (a_secondSlot, sv a_secondSlot_kept s_secondSlot), (a_secondSlot_kept, wv s_secondSlot_kept)] sz) [(a_0, fv a_text a_window a_trial a_past a_firstSlot a_secondSlot a_equations a_looks), (a_window, wv s_window), (a_past, pv a_past_kept s_past), (a_firstSlot, sv a_firstSlot_kept s_firstSlot), (a_firstSlot_kept, wv s_firstSlot_kept), (a_secondSlot, sv a_secondSlot_kept s_secondSlot), (a_secondSlot_kept, wv s_secondSlot_kept)]) (va_A [(a_0, fv a_text a_window a_trial a_past a_firstSlot a_secondSlot a_equations a_looks), (a_window, wv s_window), (a_past, pv a_past_kept s_past), (a_firstSlot, sv a_firstSlot_kept s_firstSlot), (a_firstSlot_kept, wv s_firstSlot_kept), (a_secondSlot, sv a_secondSlot_kept s_secondSlot), (a_secondSlot_kept, wv s_secondSlot_kept)] sz)) 2 12 (va_A [(a_0, fv a_text a_window a_trial a_past a_firstSlot a_secondSlot a_equations a_looks), (a_window, wv s_window), (a_past, pv a_past_kept s_past), (a_firstSlot, sv a_firstSlot_kept s_firstSlot), (a_firstSlot_kept, wv s_firstSlot_kept), (a_secondSlot, sv a_secondSlot_kept s_secondSlot), (a_secondSlot_kept, wv s_secondSlot_kept)] sz) := by
  refine vx_ofW (cc := cX5_restore) (maxL := 3) (ret := (some .int)) (by decide) rfl ?_
  intro p e s m args below meth c s₁ B hml hnt hv
  obtain ⟨rfl, ⟨hsz, hP, hK, hD0, hN⟩, hE⟩ := hv
  have hx := B.exec
  have hb := B.bytes
  have hr := B.returns
  have hts := atoms_spec (ws := wsX5_restore) B.pre
  have hown : s.vm.findClass RX5 = some m.cls := findClass_of_methodNamed B.named
  have hlocks := B.notSynchronized
  subst hsz
  have hD := hD0.self (sz := s.heap.size)
  generalize hAe : va_A [(a_0, fv a_text a_window a_trial a_past a_firstSlot a_secondSlot a_equations a_looks), (a_window, wv s_window), (a_past, pv a_past_kept s_past), (a_firstSlot, sv a_firstSlot_kept s_firstSlot), (a_firstSlot_kept, wv s_firstSlot_kept), (a_secondSlot, sv a_secondSlot_kept s_secondSlot), (a_secondSlot_kept, wv s_secondSlot_kept)] s.heap.size = A at hD hE ⊢
  have hA : ∀ q : Nat, s.heap.size ≤ q → A q := fun q h => by rw [← hAe]; exact Or.inr h
  have hS : va_S A s.heap s.heap [] := va_S.rf
  have hP : va_P G vwCl [(a_0, fv a_text a_window a_trial a_past a_firstSlot a_secondSlot a_equations a_looks), (a_window, wv s_window), (a_past, pv a_past_kept s_past), (a_firstSlot, sv a_firstSlot_kept s_firstSlot), (a_firstSlot_kept, wv s_firstSlot_kept), (a_secondSlot, sv a_secondSlot_kept s_secondSlot), (a_secondSlot_kept, wv s_secondSlot_kept)] s.heap := hP
  have hl := lv_entry [.ref a_0, .int x1] (n := 3) (Nat.le_of_ble_eq_true rfl)
  rw [lg_entry_eq]
  generalize (lg_sl [.ref a_0, .int x1] ++ List.replicate (3 - (lg_sl [.ref a_0, .int x1]).length) Slot.unset).toArray = ls at hl ⊢
  have hl : lv_has ls 3 [(0, .ref a_0), (1, .int x1)] := hl
  unfold f_X5_restore at hf
  refine lv_aload_n hx hb dX5_restore_0 rfl (lv_at hl 0 rfl) ?_
  refine lv_iload_n hx hb dX5_restore_1 rfl (lv_at hl 1 rfl) ?_
  obtain ⟨r_1, hh_r_1, hf⟩ := obx_some hf
  refine kx_v (w1 := fun (_ : Unit) => []) (wr := [(a_0, fv a_text a_window a_trial a_past a_firstSlot a_secondSlot a_equations a_looks), (a_window, wv s_window), (a_past, pv a_past_kept s_past), (a_firstSlot, sv a_firstSlot_kept s_firstSlot), (a_firstSlot_kept, wv s_firstSlot_kept), (a_secondSlot, sv a_secondSlot_kept s_secondSlot), (a_secondSlot_kept, wv s_secondSlot_kept)]) hP hD hS hA [] [0, 1, 2, 3, 4, 5, 6] rfl rfl rfl (by decide) (vx_runV (As := [.int x1]) (rest := []) ⟨hx, hb, hml, hown, hts⟩ (c_X5_needSlot (l := l) hfl G cy a_0 s.heap.size x1  r_1 hh_r_1) (cwV 1 hts gX5_restore_X5_needSlot rfl rfl rfl ddV_X5_needSlot ⟨Nat.le_of_ble_eq_true rfl, Nat.le_of_ble_eq_true rfl⟩) (preVX2 (ci := 5) (q0 := 0) rfl rfl hP (hE.kept hS.2.1) (va_free hD hS hA (wc := []) [] rfl) (hP.sub (ws' := []) [] rfl) hK (hD.sub (ws' := []) [] rfl rfl) hN) rfl rfl hl.1 rfl (lv_room (Nat.le_of_ble_eq_true rfl)) dX5_restore_2 ⟨Nat.le_of_ble_eq_true rfl, Nat.le_of_ble_eq_true rfl⟩) (fun u ce q9 H locs hz hP hD hS hc1 hc2 hc3 => ?_) (fun u_1 H locs hz hP hD hS => ?_)
  · subst hz
    have hP : va_P G vwCl [(a_0, fv a_text a_window a_trial a_past a_firstSlot a_secondSlot a_equations a_looks), (a_window, wv s_window), (a_past, pv a_past_kept s_past), (a_firstSlot, sv a_firstSlot_kept s_firstSlot), (a_firstSlot_kept, wv s_firstSlot_kept), (a_secondSlot, sv a_secondSlot_kept s_secondSlot), (a_secondSlot_kept, wv s_secondSlot_kept)] H := hP
    have hD : va_D A [(a_0, fv a_text a_window a_trial a_past a_firstSlot a_secondSlot a_equations a_looks), (a_window, wv s_window), (a_past, pv a_past_kept s_past), (a_firstSlot, sv a_firstSlot_kept s_firstSlot), (a_firstSlot_kept, wv s_firstSlot_kept), (a_secondSlot, sv a_secondSlot_kept s_secondSlot), (a_secondSlot_kept, wv s_secondSlot_kept)] := hD
    exact vx_widen (k := 2) (n := 12) (Nat.le_of_ble_eq_true rfl) (Nat.le_of_ble_eq_true rfl) (kx_out u hnt hlocks (obx_l hf) hP hK hD hN hS hc1 hc2 hc3 (Nat.le_refl _) (Nat.le_refl _))
  subst hz
  have hf := obx_r hf
  have hP : va_P G vwCl [(a_0, fv a_text a_window a_trial a_past a_firstSlot a_secondSlot a_equations a_looks), (a_window, wv s_window), (a_past, pv a_past_kept s_past), (a_firstSlot, sv a_firstSlot_kept s_firstSlot), (a_firstSlot_kept, wv s_firstSlot_kept), (a_secondSlot, sv a_secondSlot_kept s_secondSlot), (a_secondSlot_kept, wv s_secondSlot_kept)] H := hP
  have hD : va_D A [(a_0, fv a_text a_window a_trial a_past a_firstSlot a_secondSlot a_equations a_looks), (a_window, wv s_window), (a_past, pv a_past_kept s_past), (a_firstSlot, sv a_firstSlot_kept s_firstSlot), (a_firstSlot_kept, wv s_firstSlot_kept), (a_secondSlot, sv a_secondSlot_kept s_secondSlot), (a_secondSlot_kept, wv s_secondSlot_kept)] := hD
  refine lv_aload_n hx hb dX5_restore_5 rfl (lv_at hl 0 rfl) ?_
  refine lv_iload_n hx hb dX5_restore_6 rfl (lv_at hl 1 rfl) ?_
  obtain ⟨rr, hh_rr⟩ : ∃ z, z = f_X5_slotAt x1 := ⟨_, rfl⟩
  have hf := lt_e hh_rr hf
  by_cases h_2 : rr = true
  · have hf := ip_ h_2 hf
    have hh_v : f_X5_slotAt x1 = true := hh_rr.symm.trans h_2
    refine kc_q (v := .ref a_firstSlot) rfl (w1 := [(a_0, fv a_text a_window a_trial a_past a_firstSlot a_secondSlot a_equations a_looks)]) (wr := [(a_window, wv s_window), (a_past, pv a_past_kept s_past), (a_firstSlot, sv a_firstSlot_kept s_firstSlot), (a_firstSlot_kept, wv s_firstSlot_kept), (a_secondSlot, sv a_secondSlot_kept s_secondSlot), (a_secondSlot_kept, wv s_secondSlot_kept)]) hP hD hS hA [0] [1, 2, 3, 4, 5, 6] rfl rfl rfl (by decide) (va_runV (As := [.int x1]) (rest := []) ⟨hx, hb, hml, hown, hts⟩ (c_X5_slotAt (l := l) G cy a_0 a_text a_window a_trial a_past a_firstSlot a_secondSlot a_equations a_looks H.size x1  true hh_v) (cwV 1 hts gX5_restore_X5_slotAt rfl rfl rfl ddV_X5_slotAt ⟨Nat.le_of_ble_eq_true rfl, Nat.le_of_ble_eq_true rfl⟩) (preV_ (ci := 5) (q0 := 0) rfl rfl (hP.sub (ws' := [(a_0, fv a_text a_window a_trial a_past a_firstSlot a_secondSlot a_equations a_looks)]) [0] rfl) hK (hD.sub (ws' := [(a_0, fv a_text a_window a_trial a_past a_firstSlot a_secondSlot a_equations a_looks)]) [0] rfl rfl) hN) rfl rfl hl.1 rfl (lv_room (Nat.le_of_ble_eq_true rfl)) dX5_restore_7 ⟨Nat.le_of_ble_eq_true rfl, Nat.le_of_ble_eq_true rfl⟩) (fun H locs hP hD hS => ?_)
    have hP : va_P G vwCl [(a_window, wv s_window), (a_past, pv a_past_kept s_past), (a_firstSlot, sv a_firstSlot_kept s_firstSlot), (a_firstSlot_kept, wv s_firstSlot_kept), (a_secondSlot, sv a_secondSlot_kept s_secondSlot), (a_secondSlot_kept, wv s_secondSlot_kept), (a_0, fv a_text a_window a_trial a_past a_firstSlot a_secondSlot a_equations a_looks)] H := hP
    have hD : va_D A [(a_window, wv s_window), (a_past, pv a_past_kept s_past), (a_firstSlot, sv a_firstSlot_kept s_firstSlot), (a_firstSlot_kept, wv s_firstSlot_kept), (a_secondSlot, sv a_secondSlot_kept s_secondSlot), (a_secondSlot_kept, wv s_secondSlot_kept), (a_0, fv a_text a_window a_trial a_past a_firstSlot a_secondSlot a_equations a_looks)] := hD
    refine lv_astore_n (lv' := [(2, .ref a_firstSlot), (0, .ref a_0), (1, .int x1)]) hx hb dX5_restore_10 rfl hl (by decide) rfl (fun ls hl => ?_)
    refine lv_aload_n hx hb dX5_restore_11 rfl (lv_at hl 0 rfl) ?_
    refine va_get (D := G) (ci := 2) (v := .int (bI s_firstSlot)) (C := RX2) (T := TX2) (N := 2) hx hb hts iw_X5_restore_X2 hown hK hP 2 rfl rfl 1 (by decide) (hts (.fieldLink RX5 297 "PaneFrost$Slot" "full" "Z") (by decide +kernel)) (fun _ h9 => h9) rfl dX5_restore_12 ?_
    refine lv_if_ne (tgt := 29) hx hb dX5_restore_15 (by decide) (fun h_3 => ?_) (fun h_3 => ?_)
    · have hf := ip_ (bI_n0 h_3) hf
      refine lv_aload_n hx hb dX5_restore_29 rfl (lv_at hl 1 rfl) ?_
      refine va_get (D := G) (ci := 5) (v := .ref a_window) (C := RX5) (T := TX5) (N := 8) hx hb hts iw_X5_restore_X5 hown hK hP 6 rfl rfl 1 (by decide) (hts (.fieldLink RX5 19 "PaneFrost" "window" "LPaneFrost$Window;") (by decide +kernel)) (fun _ h9 => h9) rfl dX5_restore_30 ?_
      refine lv_aload_n hx hb dX5_restore_33 rfl (lv_at hl 0 rfl) ?_
      refine va_get (D := G) (ci := 2) (v := .ref a_firstSlot_kept) (C := RX2) (T := TX2) (N := 2) hx hb hts iw_X5_restore_X2 hown hK hP 2 rfl rfl 0 (by decide) (hts (.fieldLink RX5 303 "PaneFrost$Slot" "kept" "LPaneFrost$Window;") (by decide +kernel)) (fun _ h9 => h9) rfl dX5_restore_34 ?_
      refine kc_v (w1 := [(a_window, wv (f_X4_copy s_window s_firstSlot_kept)), (a_firstSlot_kept, wv s_firstSlot_kept)]) (wr := [(a_past, pv a_past_kept s_past), (a_firstSlot, sv a_firstSlot_kept s_firstSlot), (a_secondSlot, sv a_secondSlot_kept s_secondSlot), (a_secondSlot_kept, wv s_secondSlot_kept), (a_0, fv a_text a_window a_trial a_past a_firstSlot a_secondSlot a_equations a_looks)]) hP hD hS hA [0, 3] [1, 2, 4, 5, 6] rfl rfl rfl (by decide) (va_runV (As := [.ref a_firstSlot_kept]) (rest := []) ⟨hx, hb, hml, hown, hts⟩ (c_X4_copy (l := l) G cy a_window a_firstSlot_kept H.size s_window s_firstSlot_kept  (f_X4_copy s_window s_firstSlot_kept) rfl) (cwV 1 hts gX5_restore_X4_copy rfl rfl rfl ddV_X4_copy ⟨Nat.le_of_ble_eq_true rfl, Nat.le_of_ble_eq_true rfl⟩) (preV_ (ci := 4) (q0 := 0) rfl rfl (hP.sub (ws' := [(a_window, wv s_window), (a_firstSlot_kept, wv s_firstSlot_kept)]) [0, 3] rfl) hK (hD.sub (ws' := [(a_window, wv s_window), (a_firstSlot_kept, wv s_firstSlot_kept)]) [0, 3] rfl rfl) hN) rfl rfl hl.1 rfl (lv_room (Nat.le_of_ble_eq_true rfl)) dX5_restore_37 ⟨Nat.le_of_ble_eq_true rfl, Nat.le_of_ble_eq_true rfl⟩) (fun H locs hP hD hS => ?_)
      have hP : va_P G vwCl [(a_past, pv a_past_kept s_past), (a_firstSlot, sv a_firstSlot_kept s_firstSlot), (a_secondSlot, sv a_secondSlot_kept s_secondSlot), (a_secondSlot_kept, wv s_secondSlot_kept), (a_0, fv a_text a_window a_trial a_past a_firstSlot a_secondSlot a_equations a_looks), (a_window, wv (f_X4_copy s_window s_firstSlot_kept)), (a_firstSlot_kept, wv s_firstSlot_kept)] H := hP
      have hD : va_D A [(a_past, pv a_past_kept s_past), (a_firstSlot, sv a_firstSlot_kept s_firstSlot), (a_secondSlot, sv a_secondSlot_kept s_secondSlot), (a_secondSlot_kept, wv s_secondSlot_kept), (a_0, fv a_text a_window a_trial a_past a_firstSlot a_secondSlot a_equations a_looks), (a_window, wv (f_X4_copy s_window s_firstSlot_kept)), (a_firstSlot_kept, wv s_firstSlot_kept)] := hD
      refine lv_aload_n hx hb dX5_restore_40 rfl (lv_at hl 1 rfl) ?_
      refine va_get (D := G) (ci := 5) (v := .ref a_past) (C := RX5) (T := TX5) (N := 8) hx hb hts iw_X5_restore_X5 hown hK hP 4 rfl rfl 3 (by decide) (hts (.fieldLink RX5 29 "PaneFrost" "past" "LPaneFrost$Past;") (by decide +kernel)) (fun _ h9 => h9) rfl dX5_restore_41 ?_
      refine kc_v (w1 := [(a_past, pv a_past_kept (f_X1_forget s_past))]) (wr := [(a_firstSlot, sv a_firstSlot_kept s_firstSlot), (a_secondSlot, sv a_secondSlot_kept s_secondSlot), (a_secondSlot_kept, wv s_secondSlot_kept), (a_0, fv a_text a_window a_trial a_past a_firstSlot a_secondSlot a_equations a_looks), (a_window, wv (f_X4_copy s_window s_firstSlot_kept)), (a_firstSlot_kept, wv s_firstSlot_kept)]) hP hD hS hA [0] [1, 2, 3, 4, 5, 6] rfl rfl rfl (by decide) (va_runV (As := []) (rest := []) ⟨hx, hb, hml, hown, hts⟩ (c_X1_forget (l := l) G cy a_past a_past_kept H.size s_past  (f_X1_forget s_past) rfl) (cwV 0 hts gX5_restore_X1_forget rfl rfl rfl ddV_X1_forget ⟨Nat.le_of_ble_eq_true rfl, Nat.le_of_ble_eq_true rfl⟩) (preV_ (ci := 1) (q0 := 0) rfl rfl (hP.sub (ws' := [(a_past, pv a_past_kept s_past)]) [0] rfl) hK (hD.sub (ws' := [(a_past, pv a_past_kept s_past)]) [0] rfl rfl) hN) rfl rfl hl.1 rfl (lv_room (Nat.le_of_ble_eq_true rfl)) dX5_restore_44 ⟨Nat.le_of_ble_eq_true rfl, Nat.le_of_ble_eq_true rfl⟩) (fun H locs hP hD hS => ?_)
      have hP : va_P G vwCl [(a_firstSlot, sv a_firstSlot_kept s_firstSlot), (a_secondSlot, sv a_secondSlot_kept s_secondSlot), (a_secondSlot_kept, wv s_secondSlot_kept), (a_0, fv a_text a_window a_trial a_past a_firstSlot a_secondSlot a_equations a_looks), (a_window, wv (f_X4_copy s_window s_firstSlot_kept)), (a_firstSlot_kept, wv s_firstSlot_kept), (a_past, pv a_past_kept (f_X1_forget s_past))] H := hP
      have hD : va_D A [(a_firstSlot, sv a_firstSlot_kept s_firstSlot), (a_secondSlot, sv a_secondSlot_kept s_secondSlot), (a_secondSlot_kept, wv s_secondSlot_kept), (a_0, fv a_text a_window a_trial a_past a_firstSlot a_secondSlot a_equations a_looks), (a_window, wv (f_X4_copy s_window s_firstSlot_kept)), (a_firstSlot_kept, wv s_firstSlot_kept), (a_past, pv a_past_kept (f_X1_forget s_past))] := hD
      refine lv_aload_n hx hb dX5_restore_47 rfl (lv_at hl 1 rfl) ?_
      refine va_get (D := G) (ci := 5) (v := .ref a_window) (C := RX5) (T := TX5) (N := 8) hx hb hts iw_X5_restore_X5 hown hK hP 3 rfl rfl 1 (by decide) (hts (.fieldLink RX5 19 "PaneFrost" "window" "LPaneFrost$Window;") (by decide +kernel)) (fun _ h9 => h9) rfl dX5_restore_48 ?_
      refine va_get (D := G) (ci := 4) (v := .int (w_nights (f_X4_copy s_window s_firstSlot_kept))) (C := RX4) (T := TX4) (N := 12) hx hb hts iw_X5_restore_X4 hown hK hP 4 rfl rfl 3 (by decide) (hts (.fieldLink RX5 154 "PaneFrost$Window" "nights" "I") (by decide +kernel)) (fun _ h9 => h9) rfl dX5_restore_51 ?_
      refine W.widen (k := 2) (n := 12) (Nat.le_of_ble_eq_true rfl) (Nat.le_of_ble_eq_true rfl) ?_
      exact kr_iX (u := ((w_nights (f_X4_copy s_window s_firstSlot_kept)), (f_X4_copy s_window s_firstSlot_kept), (f_X1_forget s_past))) hx hb hr hlocks ((Option.some.inj hf).symm) (hP.sub (ws' := [(a_0, fv a_text a_window a_trial a_past a_firstSlot a_secondSlot a_equations a_looks), (a_window, wv (f_X4_copy s_window s_firstSlot_kept)), (a_past, pv a_past_kept (f_X1_forget s_past)), (a_firstSlot, sv a_firstSlot_kept s_firstSlot), (a_firstSlot_kept, wv s_firstSlot_kept), (a_secondSlot, sv a_secondSlot_kept s_secondSlot), (a_secondSlot_kept, wv s_secondSlot_kept)]) [3, 4, 6, 0, 5, 1, 2] rfl) hK (hD.sub (ws' := [(a_0, fv a_text a_window a_trial a_past a_firstSlot a_secondSlot a_equations a_looks), (a_window, wv (f_X4_copy s_window s_firstSlot_kept)), (a_past, pv a_past_kept (f_X1_forget s_past)), (a_firstSlot, sv a_firstSlot_kept s_firstSlot), (a_firstSlot_kept, wv s_firstSlot_kept), (a_secondSlot, sv a_secondSlot_kept s_secondSlot), (a_secondSlot_kept, wv s_secondSlot_kept)]) [3, 4, 6, 0, 5, 1, 2] rfl rfl) hN hS hS.2.2 dX5_restore_54
    · have hf := in_ (bI_0 h_3) hf
      exact kt_SW hx hb hfl (own := RX5) (X := "java/lang/IllegalStateException") (text := "nothing has been saved there") (names := xnm) (ik := 62) (is := 301) (ic := 66) hown (by decide +kernel) xnm_fit (hts (.classLink RX5 62 "java/lang/IllegalStateException") (by decide +kernel)) (hts (.initialized "java/lang/IllegalStateException") (by decide +kernel)) hE.2.2.2.2.2.2.2.2.2.2.1 (vx_hat (fun w hw => hts w (xm_X5_restore_3 w hw)) xh_3 (xB_of hE.2.2.1 hE.2.2.1.2.2.2.2.2)) xg_3 hE (hP.sub (ws' := [(a_0, fv a_text a_window a_trial a_past a_firstSlot a_secondSlot a_equations a_looks), (a_window, wv s_window), (a_past, pv a_past_kept s_past), (a_firstSlot, sv a_firstSlot_kept s_firstSlot), (a_firstSlot_kept, wv s_firstSlot_kept), (a_secondSlot, sv a_secondSlot_kept s_secondSlot), (a_secondSlot_kept, wv s_secondSlot_kept)]) [6, 0, 1, 2, 3, 4, 5] rfl) (hD.sub (ws' := [(a_0, fv a_text a_window a_trial a_past a_firstSlot a_secondSlot a_equations a_looks), (a_window, wv s_window), (a_past, pv a_past_kept s_past), (a_firstSlot, sv a_firstSlot_kept s_firstSlot), (a_firstSlot_kept, wv s_firstSlot_kept), (a_secondSlot, sv a_secondSlot_kept s_secondSlot), (a_secondSlot_kept, wv s_secondSlot_kept)]) [6, 0, 1, 2, 3, 4, 5] rfl rfl) hS (hl.1.trans hml.symm) hnt hlocks dX5_restore_18 dX5_restore_21 dX5_restore_22 dX5_restore_25 dX5_restore_28 (Nat.le_of_ble_eq_true rfl) (Nat.le_of_ble_eq_true rfl) (Nat.le_of_ble_eq_true rfl) (Nat.le_of_ble_eq_true rfl) (Nat.le_of_ble_eq_true rfl) (Nat.le_of_ble_eq_true rfl) 3 rfl ((Option.some.inj hf).symm)
  have hf := in_ h_2 hf
  have hh_v : f_X5_slotAt x1 = false := hh_rr.symm.trans (Bool.eq_false_iff.mpr h_2)
  refine kc_q (v := .ref a_secondSlot) rfl (w1 := [(a_0, fv a_text a_window a_trial a_past a_firstSlot a_secondSlot a_equations a_looks)]) (wr := [(a_window, wv s_window), (a_past, pv a_past_kept s_past), (a_firstSlot, sv a_firstSlot_kept s_firstSlot), (a_firstSlot_kept, wv s_firstSlot_kept), (a_secondSlot, sv a_secondSlot_kept s_secondSlot), (a_secondSlot_kept, wv s_secondSlot_kept)]) hP hD hS hA [0] [1, 2, 3, 4, 5, 6] rfl rfl rfl (by decide) (va_runV (As := [.int x1]) (rest := []) ⟨hx, hb, hml, hown, hts⟩ (c_X5_slotAt (l := l) G cy a_0 a_text a_window a_trial a_past a_firstSlot a_secondSlot a_equations a_looks H.size x1  false hh_v) (cwV 1 hts gX5_restore_X5_slotAt rfl rfl rfl ddV_X5_slotAt ⟨Nat.le_of_ble_eq_true rfl, Nat.le_of_ble_eq_true rfl⟩) (preV_ (ci := 5) (q0 := 0) rfl rfl (hP.sub (ws' := [(a_0, fv a_text a_window a_trial a_past a_firstSlot a_secondSlot a_equations a_looks)]) [0] rfl) hK (hD.sub (ws' := [(a_0, fv a_text a_window a_trial a_past a_firstSlot a_secondSlot a_equations a_looks)]) [0] rfl rfl) hN) rfl rfl hl.1 rfl (lv_room (Nat.le_of_ble_eq_true rfl)) dX5_restore_7 ⟨Nat.le_of_ble_eq_true rfl, Nat.le_of_ble_eq_true rfl⟩) (fun H locs hP hD hS => ?_)
  have hP : va_P G vwCl [(a_window, wv s_window), (a_past, pv a_past_kept s_past), (a_firstSlot, sv a_firstSlot_kept s_firstSlot), (a_firstSlot_kept, wv s_firstSlot_kept), (a_secondSlot, sv a_secondSlot_kept s_secondSlot), (a_secondSlot_kept, wv s_secondSlot_kept), (a_0, fv a_text a_window a_trial a_past a_firstSlot a_secondSlot a_equations a_looks)] H := hP
  have hD : va_D A [(a_window, wv s_window), (a_past, pv a_past_kept s_past), (a_firstSlot, sv a_firstSlot_kept s_firstSlot), (a_firstSlot_kept, wv s_firstSlot_kept), (a_secondSlot, sv a_secondSlot_kept s_secondSlot), (a_secondSlot_kept, wv s_secondSlot_kept), (a_0, fv a_text a_window a_trial a_past a_firstSlot a_secondSlot a_equations a_looks)] := hD
  refine lv_astore_n (lv' := [(2, .ref a_secondSlot), (0, .ref a_0), (1, .int x1)]) hx hb dX5_restore_10 rfl hl (by decide) rfl (fun ls hl => ?_)
  refine lv_aload_n hx hb dX5_restore_11 rfl (lv_at hl 0 rfl) ?_
  refine va_get (D := G) (ci := 2) (v := .int (bI s_secondSlot)) (C := RX2) (T := TX2) (N := 2) hx hb hts iw_X5_restore_X2 hown hK hP 4 rfl rfl 1 (by decide) (hts (.fieldLink RX5 297 "PaneFrost$Slot" "full" "Z") (by decide +kernel)) (fun _ h9 => h9) rfl dX5_restore_12 ?_
  refine lv_if_ne (tgt := 29) hx hb dX5_restore_15 (by decide) (fun h_4 => ?_) (fun h_4 => ?_)
  · have hf := ip_ (bI_n0 h_4) hf
    refine lv_aload_n hx hb dX5_restore_29 rfl (lv_at hl 1 rfl) ?_
    refine va_get (D := G) (ci := 5) (v := .ref a_window) (C := RX5) (T := TX5) (N := 8) hx hb hts iw_X5_restore_X5 hown hK hP 6 rfl rfl 1 (by decide) (hts (.fieldLink RX5 19 "PaneFrost" "window" "LPaneFrost$Window;") (by decide +kernel)) (fun _ h9 => h9) rfl dX5_restore_30 ?_
    refine lv_aload_n hx hb dX5_restore_33 rfl (lv_at hl 0 rfl) ?_
    refine va_get (D := G) (ci := 2) (v := .ref a_secondSlot_kept) (C := RX2) (T := TX2) (N := 2) hx hb hts iw_X5_restore_X2 hown hK hP 4 rfl rfl 0 (by decide) (hts (.fieldLink RX5 303 "PaneFrost$Slot" "kept" "LPaneFrost$Window;") (by decide +kernel)) (fun _ h9 => h9) rfl dX5_restore_34 ?_
    refine kc_v (w1 := [(a_window, wv (f_X4_copy s_window s_secondSlot_kept)), (a_secondSlot_kept, wv s_secondSlot_kept)]) (wr := [(a_past, pv a_past_kept s_past), (a_firstSlot, sv a_firstSlot_kept s_firstSlot), (a_firstSlot_kept, wv s_firstSlot_kept), (a_secondSlot, sv a_secondSlot_kept s_secondSlot), (a_0, fv a_text a_window a_trial a_past a_firstSlot a_secondSlot a_equations a_looks)]) hP hD hS hA [0, 5] [1, 2, 3, 4, 6] rfl rfl rfl (by decide) (va_runV (As := [.ref a_secondSlot_kept]) (rest := []) ⟨hx, hb, hml, hown, hts⟩ (c_X4_copy (l := l) G cy a_window a_secondSlot_kept H.size s_window s_secondSlot_kept  (f_X4_copy s_window s_secondSlot_kept) rfl) (cwV 1 hts gX5_restore_X4_copy rfl rfl rfl ddV_X4_copy ⟨Nat.le_of_ble_eq_true rfl, Nat.le_of_ble_eq_true rfl⟩) (preV_ (ci := 4) (q0 := 0) rfl rfl (hP.sub (ws' := [(a_window, wv s_window), (a_secondSlot_kept, wv s_secondSlot_kept)]) [0, 5] rfl) hK (hD.sub (ws' := [(a_window, wv s_window), (a_secondSlot_kept, wv s_secondSlot_kept)]) [0, 5] rfl rfl) hN) rfl rfl hl.1 rfl (lv_room (Nat.le_of_ble_eq_true rfl)) dX5_restore_37 ⟨Nat.le_of_ble_eq_true rfl, Nat.le_of_ble_eq_true rfl⟩) (fun H locs hP hD hS => ?_)
    have hP : va_P G vwCl [(a_past, pv a_past_kept s_past), (a_firstSlot, sv a_firstSlot_kept s_firstSlot), (a_firstSlot_kept, wv s_firstSlot_kept), (a_secondSlot, sv a_secondSlot_kept s_secondSlot), (a_0, fv a_text a_window a_trial a_past a_firstSlot a_secondSlot a_equations a_looks), (a_window, wv (f_X4_copy s_window s_secondSlot_kept)), (a_secondSlot_kept, wv s_secondSlot_kept)] H := hP
    have hD : va_D A [(a_past, pv a_past_kept s_past), (a_firstSlot, sv a_firstSlot_kept s_firstSlot), (a_firstSlot_kept, wv s_firstSlot_kept), (a_secondSlot, sv a_secondSlot_kept s_secondSlot), (a_0, fv a_text a_window a_trial a_past a_firstSlot a_secondSlot a_equations a_looks), (a_window, wv (f_X4_copy s_window s_secondSlot_kept)), (a_secondSlot_kept, wv s_secondSlot_kept)] := hD
    refine lv_aload_n hx hb dX5_restore_40 rfl (lv_at hl 1 rfl) ?_
    refine va_get (D := G) (ci := 5) (v := .ref a_past) (C := RX5) (T := TX5) (N := 8) hx hb hts iw_X5_restore_X5 hown hK hP 4 rfl rfl 3 (by decide) (hts (.fieldLink RX5 29 "PaneFrost" "past" "LPaneFrost$Past;") (by decide +kernel)) (fun _ h9 => h9) rfl dX5_restore_41 ?_
    refine kc_v (w1 := [(a_past, pv a_past_kept (f_X1_forget s_past))]) (wr := [(a_firstSlot, sv a_firstSlot_kept s_firstSlot), (a_firstSlot_kept, wv s_firstSlot_kept), (a_secondSlot, sv a_secondSlot_kept s_secondSlot), (a_0, fv a_text a_window a_trial a_past a_firstSlot a_secondSlot a_equations a_looks), (a_window, wv (f_X4_copy s_window s_secondSlot_kept)), (a_secondSlot_kept, wv s_secondSlot_kept)]) hP hD hS hA [0] [1, 2, 3, 4, 5, 6] rfl rfl rfl (by decide) (va_runV (As := []) (rest := []) ⟨hx, hb, hml, hown, hts⟩ (c_X1_forget (l := l) G cy a_past a_past_kept H.size s_past  (f_X1_forget s_past) rfl) (cwV 0 hts gX5_restore_X1_forget rfl rfl rfl ddV_X1_forget ⟨Nat.le_of_ble_eq_true rfl, Nat.le_of_ble_eq_true rfl⟩) (preV_ (ci := 1) (q0 := 0) rfl rfl (hP.sub (ws' := [(a_past, pv a_past_kept s_past)]) [0] rfl) hK (hD.sub (ws' := [(a_past, pv a_past_kept s_past)]) [0] rfl rfl) hN) rfl rfl hl.1 rfl (lv_room (Nat.le_of_ble_eq_true rfl)) dX5_restore_44 ⟨Nat.le_of_ble_eq_true rfl, Nat.le_of_ble_eq_true rfl⟩) (fun H locs hP hD hS => ?_)
    have hP : va_P G vwCl [(a_firstSlot, sv a_firstSlot_kept s_firstSlot), (a_firstSlot_kept, wv s_firstSlot_kept), (a_secondSlot, sv a_secondSlot_kept s_secondSlot), (a_0, fv a_text a_window a_trial a_past a_firstSlot a_secondSlot a_equations a_looks), (a_window, wv (f_X4_copy s_window s_secondSlot_kept)), (a_secondSlot_kept, wv s_secondSlot_kept), (a_past, pv a_past_kept (f_X1_forget s_past))] H := hP
    have hD : va_D A [(a_firstSlot, sv a_firstSlot_kept s_firstSlot), (a_firstSlot_kept, wv s_firstSlot_kept), (a_secondSlot, sv a_secondSlot_kept s_secondSlot), (a_0, fv a_text a_window a_trial a_past a_firstSlot a_secondSlot a_equations a_looks), (a_window, wv (f_X4_copy s_window s_secondSlot_kept)), (a_secondSlot_kept, wv s_secondSlot_kept), (a_past, pv a_past_kept (f_X1_forget s_past))] := hD
    refine lv_aload_n hx hb dX5_restore_47 rfl (lv_at hl 1 rfl) ?_
    refine va_get (D := G) (ci := 5) (v := .ref a_window) (C := RX5) (T := TX5) (N := 8) hx hb hts iw_X5_restore_X5 hown hK hP 3 rfl rfl 1 (by decide) (hts (.fieldLink RX5 19 "PaneFrost" "window" "LPaneFrost$Window;") (by decide +kernel)) (fun _ h9 => h9) rfl dX5_restore_48 ?_
    refine va_get (D := G) (ci := 4) (v := .int (w_nights (f_X4_copy s_window s_secondSlot_kept))) (C := RX4) (T := TX4) (N := 12) hx hb hts iw_X5_restore_X4 hown hK hP 4 rfl rfl 3 (by decide) (hts (.fieldLink RX5 154 "PaneFrost$Window" "nights" "I") (by decide +kernel)) (fun _ h9 => h9) rfl dX5_restore_51 ?_
    refine W.widen (k := 2) (n := 12) (Nat.le_of_ble_eq_true rfl) (Nat.le_of_ble_eq_true rfl) ?_
    exact kr_iX (u := ((w_nights (f_X4_copy s_window s_secondSlot_kept)), (f_X4_copy s_window s_secondSlot_kept), (f_X1_forget s_past))) hx hb hr hlocks ((Option.some.inj hf).symm) (hP.sub (ws' := [(a_0, fv a_text a_window a_trial a_past a_firstSlot a_secondSlot a_equations a_looks), (a_window, wv (f_X4_copy s_window s_secondSlot_kept)), (a_past, pv a_past_kept (f_X1_forget s_past)), (a_firstSlot, sv a_firstSlot_kept s_firstSlot), (a_firstSlot_kept, wv s_firstSlot_kept), (a_secondSlot, sv a_secondSlot_kept s_secondSlot), (a_secondSlot_kept, wv s_secondSlot_kept)]) [3, 4, 6, 0, 1, 2, 5] rfl) hK (hD.sub (ws' := [(a_0, fv a_text a_window a_trial a_past a_firstSlot a_secondSlot a_equations a_looks), (a_window, wv (f_X4_copy s_window s_secondSlot_kept)), (a_past, pv a_past_kept (f_X1_forget s_past)), (a_firstSlot, sv a_firstSlot_kept s_firstSlot), (a_firstSlot_kept, wv s_firstSlot_kept), (a_secondSlot, sv a_secondSlot_kept s_secondSlot), (a_secondSlot_kept, wv s_secondSlot_kept)]) [3, 4, 6, 0, 1, 2, 5] rfl rfl) hN hS hS.2.2 dX5_restore_54
  · have hf := in_ (bI_0 h_4) hf
    exact kt_SW hx hb hfl (own := RX5) (X := "java/lang/IllegalStateException") (text := "nothing has been saved there") (names := xnm) (ik := 62) (is := 301) (ic := 66) hown (by decide +kernel) xnm_fit (hts (.classLink RX5 62 "java/lang/IllegalStateException") (by decide +kernel)) (hts (.initialized "java/lang/IllegalStateException") (by decide +kernel)) hE.2.2.2.2.2.2.2.2.2.2.1 (vx_hat (fun w hw => hts w (xm_X5_restore_3 w hw)) xh_3 (xB_of hE.2.2.1 hE.2.2.1.2.2.2.2.2)) xg_3 hE (hP.sub (ws' := [(a_0, fv a_text a_window a_trial a_past a_firstSlot a_secondSlot a_equations a_looks), (a_window, wv s_window), (a_past, pv a_past_kept s_past), (a_firstSlot, sv a_firstSlot_kept s_firstSlot), (a_firstSlot_kept, wv s_firstSlot_kept), (a_secondSlot, sv a_secondSlot_kept s_secondSlot), (a_secondSlot_kept, wv s_secondSlot_kept)]) [6, 0, 1, 2, 3, 4, 5] rfl) (hD.sub (ws' := [(a_0, fv a_text a_window a_trial a_past a_firstSlot a_secondSlot a_equations a_looks), (a_window, wv s_window), (a_past, pv a_past_kept s_past), (a_firstSlot, sv a_firstSlot_kept s_firstSlot), (a_firstSlot_kept, wv s_firstSlot_kept), (a_secondSlot, sv a_secondSlot_kept s_secondSlot), (a_secondSlot_kept, wv s_secondSlot_kept)]) [6, 0, 1, 2, 3, 4, 5] rfl rfl) hS (hl.1.trans hml.symm) hnt hlocks dX5_restore_18 dX5_restore_21 dX5_restore_22 dX5_restore_25 dX5_restore_28 (Nat.le_of_ble_eq_true rfl) (Nat.le_of_ble_eq_true rfl) (Nat.le_of_ble_eq_true rfl) (Nat.le_of_ble_eq_true rfl) (Nat.le_of_ble_eq_true rfl) (Nat.le_of_ble_eq_true rfl) 3 rfl ((Option.some.inj hf).symm)
