set_option maxRecDepth 20000 in
theorem ggX6_init_X6_clear : GoodIn wsX6_init wsX6_clear := goodIn_r _ [19] (by decide +kernel) (by decide +kernel)
set_option maxRecDepth 20000 in
theorem gX6_init_X6_clear : GoodIn wsX6_init (va_wsS RX6 39 yX6_clear wsX6_clear) := goodIn_app (goodIn_of _ (by decide +kernel)) ggX6_init_X6_clear
theorem dX6_init_0 : decode cX6_init 0 = .ok (.aload_n 0, 1) := by decide +kernel
theorem dX6_init_1 : decode cX6_init 1 = .ok (.invokespecial 1, 3) := by decide +kernel
theorem dX6_init_4 : decode cX6_init 4 = .ok (.aload_n 0, 1) := by decide +kernel
theorem dX6_init_5 : decode cX6_init 5 = .ok (.bipush 120, 2) := by decide +kernel
theorem dX6_init_7 : decode cX6_init 7 = .ok (.newarray .int, 2) := by decide +kernel
theorem dX6_init_9 : decode cX6_init 9 = .ok (.putfield 7, 3) := by decide +kernel
theorem dX6_init_12 : decode cX6_init 12 = .ok (.aload_n 0, 1) := by decide +kernel
theorem dX6_init_13 : decode cX6_init 13 = .ok (.bipush 11, 2) := by decide +kernel
theorem dX6_init_15 : decode cX6_init 15 = .ok (.newarray .long, 2) := by decide +kernel
theorem dX6_init_17 : decode cX6_init 17 = .ok (.putfield 13, 3) := by decide +kernel
theorem dX6_init_20 : decode cX6_init 20 = .ok (.aload_n 0, 1) := by decide +kernel
theorem dX6_init_21 : decode cX6_init 21 = .ok (.bipush 11, 2) := by decide +kernel
theorem dX6_init_23 : decode cX6_init 23 = .ok (.newarray .long, 2) := by decide +kernel
theorem dX6_init_25 : decode cX6_init 25 = .ok (.putfield 17, 3) := by decide +kernel
theorem dX6_init_28 : decode cX6_init 28 = .ok (.aload_n 0, 1) := by decide +kernel
theorem dX6_init_29 : decode cX6_init 29 = .ok (.sipush 154, 3) := by decide +kernel
theorem dX6_init_32 : decode cX6_init 32 = .ok (.newarray .long, 2) := by decide +kernel
theorem dX6_init_34 : decode cX6_init 34 = .ok (.putfield 20, 3) := by decide +kernel
theorem dX6_init_37 : decode cX6_init 37 = .ok (.aload_n 0, 1) := by decide +kernel
theorem dX6_init_38 : decode cX6_init 38 = .ok (.bipush 22, 2) := by decide +kernel
theorem dX6_init_40 : decode cX6_init 40 = .ok (.newarray .long, 2) := by decide +kernel
theorem dX6_init_42 : decode cX6_init 42 = .ok (.putfield 23, 3) := by decide +kernel
theorem dX6_init_45 : decode cX6_init 45 = .ok (.aload_n 0, 1) := by decide +kernel
theorem dX6_init_46 : decode cX6_init 46 = .ok (.iconst 2, 1) := by decide +kernel
theorem dX6_init_47 : decode cX6_init 47 = .ok (.newarray .boolean, 2) := by decide +kernel
theorem dX6_init_49 : decode cX6_init 49 = .ok (.putfield 26, 3) := by decide +kernel
theorem dX6_init_52 : decode cX6_init 52 = .ok (.aload_n 0, 1) := by decide +kernel
theorem dX6_init_53 : decode cX6_init 53 = .ok (.sipush 301, 3) := by decide +kernel
theorem dX6_init_56 : decode cX6_init 56 = .ok (.newarray .long, 2) := by decide +kernel
theorem dX6_init_58 : decode cX6_init 58 = .ok (.putfield 30, 3) := by decide +kernel
theorem dX6_init_61 : decode cX6_init 61 = .ok (.aload_n 0, 1) := by decide +kernel
theorem dX6_init_62 : decode cX6_init 62 = .ok (.bipush 64, 2) := by decide +kernel
theorem dX6_init_64 : decode cX6_init 64 = .ok (.newarray .long, 2) := by decide +kernel
theorem dX6_init_66 : decode cX6_init 66 = .ok (.putfield 33, 3) := by decide +kernel
theorem dX6_init_69 : decode cX6_init 69 = .ok (.aload_n 0, 1) := by decide +kernel
theorem dX6_init_70 : decode cX6_init 70 = .ok (.bipush 64, 2) := by decide +kernel
theorem dX6_init_72 : decode cX6_init 72 = .ok (.newarray .boolean, 2) := by decide +kernel
theorem dX6_init_74 : decode cX6_init 74 = .ok (.putfield 36, 3) := by decide +kernel
theorem dX6_init_77 : decode cX6_init 77 = .ok (.aload_n 0, 1) := by decide +kernel
theorem dX6_init_78 : decode cX6_init 78 = .ok (.getfield 13, 3) := by decide +kernel
theorem dX6_init_81 : decode cX6_init 81 = .ok (.iconst 4, 1) := by decide +kernel
theorem dX6_init_82 : decode cX6_init 82 = .ok (.iconst 4, 1) := by decide +kernel
theorem dX6_init_83 : decode cX6_init 83 = .ok (.invokestatic 39, 3) := by decide +kernel
theorem dX6_init_86 : decode cX6_init 86 = .ok (.return_, 1) := by decide +kernel
theorem dX6_thrown_0 : decode cX6_thrown 0 = .ok (.aload_n 0, 1) := by decide +kernel
theorem dX6_thrown_1 : decode cX6_thrown 1 = .ok (.getfield 43, 3) := by decide +kernel
theorem dX6_thrown_4 : decode cX6_thrown 4 = .ok (.ireturn, 1) := by decide +kernel
theorem dX6_refused_0 : decode cX6_refused 0 = .ok (.aload_n 0, 1) := by decide +kernel
theorem dX6_refused_1 : decode cX6_refused 1 = .ok (.iload_n 1, 1) := by decide +kernel
theorem dX6_refused_2 : decode cX6_refused 2 = .ok (.putfield 43, 3) := by decide +kernel
theorem dX6_refused_5 : decode cX6_refused 5 = .ok (.iload_n 1, 1) := by decide +kernel
theorem dX6_refused_6 : decode cX6_refused 6 = .ok (.ifCond .le 7, 3) := by decide +kernel
theorem dX6_refused_9 : decode cX6_refused 9 = .ok (.iconst 1, 1) := by decide +kernel
theorem dX6_refused_10 : decode cX6_refused 10 = .ok (.goto 4, 3) := by decide +kernel
theorem dX6_refused_13 : decode cX6_refused 13 = .ok (.iconst 0, 1) := by decide +kernel
theorem dX6_refused_14 : decode cX6_refused 14 = .ok (.ireturn, 1) := by decide +kernel
theorem dX6_in_0 : decode cX6_in 0 = .ok (.lload_n 0, 1) := by decide +kernel
theorem dX6_in_1 : decode cX6_in 1 = .ok (.lload_n 2, 1) := by decide +kernel
theorem dX6_in_2 : decode cX6_in 2 = .ok (.lcmp, 1) := by decide +kernel
theorem dX6_in_3 : decode cX6_in 3 = .ok (.ifCond .lt 14, 3) := by decide +kernel
theorem dX6_in_6 : decode cX6_in 6 = .ok (.lload_n 0, 1) := by decide +kernel
theorem dX6_in_7 : decode cX6_in 7 = .ok (.lload 4, 2) := by decide +kernel
theorem dX6_in_9 : decode cX6_in 9 = .ok (.lcmp, 1) := by decide +kernel
theorem dX6_in_10 : decode cX6_in 10 = .ok (.ifCond .gt 7, 3) := by decide +kernel
theorem dX6_in_13 : decode cX6_in 13 = .ok (.iconst 1, 1) := by decide +kernel
theorem dX6_in_14 : decode cX6_in 14 = .ok (.goto 4, 3) := by decide +kernel
theorem dX6_in_17 : decode cX6_in 17 = .ok (.iconst 0, 1) := by decide +kernel
theorem dX6_in_18 : decode cX6_in 18 = .ok (.ireturn, 1) := by decide +kernel
theorem dX6_copyState_0 : decode cX6_copyState 0 = .ok (.iconst 0, 1) := by decide +kernel
theorem dX6_copyState_1 : decode cX6_copyState 1 = .ok (.istore 4, 2) := by decide +kernel
theorem dX6_copyState_3 : decode cX6_copyState 3 = .ok (.iload 4, 2) := by decide +kernel
theorem dX6_copyState_5 : decode cX6_copyState 5 = .ok (.bipush 11, 2) := by decide +kernel
theorem dX6_copyState_7 : decode cX6_copyState 7 = .ok (.if_icmp .ge 21, 3) := by decide +kernel
theorem dX6_copyState_10 : decode cX6_copyState 10 = .ok (.aload_n 2, 1) := by decide +kernel
theorem dX6_copyState_11 : decode cX6_copyState 11 = .ok (.iload_n 3, 1) := by decide +kernel
theorem dX6_copyState_12 : decode cX6_copyState 12 = .ok (.iload 4, 2) := by decide +kernel
theorem dX6_copyState_14 : decode cX6_copyState 14 = .ok (.iadd, 1) := by decide +kernel
theorem dX6_copyState_15 : decode cX6_copyState 15 = .ok (.aload_n 0, 1) := by decide +kernel
theorem dX6_copyState_16 : decode cX6_copyState 16 = .ok (.iload_n 1, 1) := by decide +kernel
theorem dX6_copyState_17 : decode cX6_copyState 17 = .ok (.iload 4, 2) := by decide +kernel
theorem dX6_copyState_19 : decode cX6_copyState 19 = .ok (.iadd, 1) := by decide +kernel
theorem dX6_copyState_20 : decode cX6_copyState 20 = .ok (.laload, 1) := by decide +kernel
theorem dX6_copyState_21 : decode cX6_copyState 21 = .ok (.lastore, 1) := by decide +kernel
theorem dX6_copyState_22 : decode cX6_copyState 22 = .ok (.iinc 4 1, 3) := by decide +kernel
theorem dX6_copyState_25 : decode cX6_copyState 25 = .ok (.goto (-22), 3) := by decide +kernel
theorem dX6_copyState_28 : decode cX6_copyState 28 = .ok (.return_, 1) := by decide +kernel
theorem dX6_clear_0 : decode cX6_clear 0 = .ok (.iconst 0, 1) := by decide +kernel
theorem dX6_clear_1 : decode cX6_clear 1 = .ok (.istore_n 3, 1) := by decide +kernel
theorem dX6_clear_2 : decode cX6_clear 2 = .ok (.iload_n 3, 1) := by decide +kernel
theorem dX6_clear_3 : decode cX6_clear 3 = .ok (.bipush 11, 2) := by decide +kernel
theorem dX6_clear_5 : decode cX6_clear 5 = .ok (.if_icmp .ge 13, 3) := by decide +kernel
theorem dX6_clear_8 : decode cX6_clear 8 = .ok (.aload_n 0, 1) := by decide +kernel
theorem dX6_clear_9 : decode cX6_clear 9 = .ok (.iload_n 3, 1) := by decide +kernel
theorem dX6_clear_10 : decode cX6_clear 10 = .ok (.lconst 0, 1) := by decide +kernel
theorem dX6_clear_11 : decode cX6_clear 11 = .ok (.lastore, 1) := by decide +kernel
theorem dX6_clear_12 : decode cX6_clear 12 = .ok (.iinc 3 1, 3) := by decide +kernel
theorem dX6_clear_15 : decode cX6_clear 15 = .ok (.goto (-13), 3) := by decide +kernel
theorem dX6_clear_18 : decode cX6_clear 18 = .ok (.aload_n 0, 1) := by decide +kernel
theorem dX6_clear_19 : decode cX6_clear 19 = .ok (.iconst 0, 1) := by decide +kernel
theorem dX6_clear_20 : decode cX6_clear 20 = .ok (.iload_n 1, 1) := by decide +kernel
theorem dX6_clear_21 : decode cX6_clear 21 = .ok (.i2l, 1) := by decide +kernel
theorem dX6_clear_22 : decode cX6_clear 22 = .ok (.lastore, 1) := by decide +kernel
theorem dX6_clear_23 : decode cX6_clear 23 = .ok (.aload_n 0, 1) := by decide +kernel
theorem dX6_clear_24 : decode cX6_clear 24 = .ok (.iconst 1, 1) := by decide +kernel
theorem dX6_clear_25 : decode cX6_clear 25 = .ok (.iload_n 2, 1) := by decide +kernel
theorem dX6_clear_26 : decode cX6_clear 26 = .ok (.i2l, 1) := by decide +kernel
theorem dX6_clear_27 : decode cX6_clear 27 = .ok (.lastore, 1) := by decide +kernel
theorem dX6_clear_28 : decode cX6_clear 28 = .ok (.return_, 1) := by decide +kernel
theorem dX6_many_0 : decode cX6_many 0 = .ok (.aload_n 0, 1) := by decide +kernel
theorem dX6_many_1 : decode cX6_many 1 = .ok (.iconst 0, 1) := by decide +kernel
theorem dX6_many_2 : decode cX6_many 2 = .ok (.laload, 1) := by decide +kernel
theorem dX6_many_3 : decode cX6_many 3 = .ok (.aload_n 0, 1) := by decide +kernel
theorem dX6_many_4 : decode cX6_many 4 = .ok (.iconst 1, 1) := by decide +kernel
theorem dX6_many_5 : decode cX6_many 5 = .ok (.laload, 1) := by decide +kernel
theorem dX6_many_6 : decode cX6_many 6 = .ok (.lmul, 1) := by decide +kernel
theorem dX6_many_7 : decode cX6_many 7 = .ok (.l2i, 1) := by decide +kernel
theorem dX6_many_8 : decode cX6_many 8 = .ok (.ireturn, 1) := by decide +kernel
set_option maxRecDepth 20000 in
theorem ggX6_isCell_X6_many : GoodIn wsX6_isCell wsX6_many := goodIn_r _ [4] (by decide +kernel) (by decide +kernel)
set_option maxRecDepth 20000 in
theorem gX6_isCell_X6_many : GoodIn wsX6_isCell (va_wsS RX6 47 yX6_many wsX6_many) := goodIn_app (goodIn_of _ (by decide +kernel)) ggX6_isCell_X6_many
set_option maxRecDepth 20000 in
theorem ggX6_isCell_X6_in : GoodIn wsX6_isCell wsX6_in := goodIn_r _ [7] (by decide +kernel) (by decide +kernel)
set_option maxRecDepth 20000 in
theorem gX6_isCell_X6_in : GoodIn wsX6_isCell (va_wsS RX6 51 yX6_in wsX6_in) := goodIn_app (goodIn_of _ (by decide +kernel)) ggX6_isCell_X6_in
theorem dX6_isCell_0 : decode cX6_isCell 0 = .ok (.iload_n 1, 1) := by decide +kernel
theorem dX6_isCell_1 : decode cX6_isCell 1 = .ok (.i2l, 1) := by decide +kernel
theorem dX6_isCell_2 : decode cX6_isCell 2 = .ok (.lconst 0, 1) := by decide +kernel
theorem dX6_isCell_3 : decode cX6_isCell 3 = .ok (.aload_n 0, 1) := by decide +kernel
theorem dX6_isCell_4 : decode cX6_isCell 4 = .ok (.invokestatic 47, 3) := by decide +kernel
theorem dX6_isCell_7 : decode cX6_isCell 7 = .ok (.iconst 1, 1) := by decide +kernel
theorem dX6_isCell_8 : decode cX6_isCell 8 = .ok (.isub, 1) := by decide +kernel
theorem dX6_isCell_9 : decode cX6_isCell 9 = .ok (.i2l, 1) := by decide +kernel
theorem dX6_isCell_10 : decode cX6_isCell 10 = .ok (.invokestatic 51, 3) := by decide +kernel
theorem dX6_isCell_13 : decode cX6_isCell 13 = .ok (.ireturn, 1) := by decide +kernel
set_option maxRecDepth 20000 in
theorem ggX6_isSize_X6_in : GoodIn wsX6_isSize wsX6_in := goodIn_r _ [6] (by decide +kernel) (by decide +kernel)
set_option maxRecDepth 20000 in
theorem gX6_isSize_X6_in : GoodIn wsX6_isSize (va_wsS RX6 51 yX6_in wsX6_in) := goodIn_app (goodIn_of _ (by decide +kernel)) ggX6_isSize_X6_in
theorem dX6_isSize_0 : decode cX6_isSize 0 = .ok (.iload_n 0, 1) := by decide +kernel
theorem dX6_isSize_1 : decode cX6_isSize 1 = .ok (.i2l, 1) := by decide +kernel
theorem dX6_isSize_2 : decode cX6_isSize 2 = .ok (.ldc2_w 55, 3) := by decide +kernel
theorem dX6_isSize_5 : decode cX6_isSize 5 = .ok (.ldc2_w 57, 3) := by decide +kernel
theorem dX6_isSize_8 : decode cX6_isSize 8 = .ok (.invokestatic 51, 3) := by decide +kernel
theorem dX6_isSize_11 : decode cX6_isSize 11 = .ok (.ireturn, 1) := by decide +kernel
set_option maxRecDepth 20000 in
theorem ggX6_isDirection_X6_in : GoodIn wsX6_isDirection wsX6_in := goodIn_r _ [5] (by decide +kernel) (by decide +kernel)
set_option maxRecDepth 20000 in
theorem gX6_isDirection_X6_in : GoodIn wsX6_isDirection (va_wsS RX6 51 yX6_in wsX6_in) := goodIn_app (goodIn_of _ (by decide +kernel)) ggX6_isDirection_X6_in
theorem dX6_isDirection_0 : decode cX6_isDirection 0 = .ok (.iload_n 0, 1) := by decide +kernel
theorem dX6_isDirection_1 : decode cX6_isDirection 1 = .ok (.i2l, 1) := by decide +kernel
theorem dX6_isDirection_2 : decode cX6_isDirection 2 = .ok (.lconst 0, 1) := by decide +kernel
theorem dX6_isDirection_3 : decode cX6_isDirection 3 = .ok (.ldc2_w 59, 3) := by decide +kernel
theorem dX6_isDirection_6 : decode cX6_isDirection 6 = .ok (.invokestatic 51, 3) := by decide +kernel
theorem dX6_isDirection_9 : decode cX6_isDirection 9 = .ok (.ireturn, 1) := by decide +kernel
theorem dX6_has_0 : decode cX6_has 0 = .ok (.lload_n 0, 1) := by decide +kernel
theorem dX6_has_1 : decode cX6_has 1 = .ok (.iload_n 2, 1) := by decide +kernel
theorem dX6_has_2 : decode cX6_has 2 = .ok (.lshr, 1) := by decide +kernel
theorem dX6_has_3 : decode cX6_has 3 = .ok (.lconst 1, 1) := by decide +kernel
theorem dX6_has_4 : decode cX6_has 4 = .ok (.land, 1) := by decide +kernel
theorem dX6_has_5 : decode cX6_has 5 = .ok (.lconst 1, 1) := by decide +kernel
theorem dX6_has_6 : decode cX6_has 6 = .ok (.lcmp, 1) := by decide +kernel
theorem dX6_has_7 : decode cX6_has 7 = .ok (.ifCond .ne 7, 3) := by decide +kernel
theorem dX6_has_10 : decode cX6_has 10 = .ok (.iconst 1, 1) := by decide +kernel
theorem dX6_has_11 : decode cX6_has 11 = .ok (.goto 4, 3) := by decide +kernel
theorem dX6_has_14 : decode cX6_has 14 = .ok (.iconst 0, 1) := by decide +kernel
theorem dX6_has_15 : decode cX6_has 15 = .ok (.ireturn, 1) := by decide +kernel
set_option maxRecDepth 20000 in
theorem ggX6_bits_X6_has : GoodIn wsX6_bits wsX6_has := goodIn_r _ [4] (by decide +kernel) (by decide +kernel)
set_option maxRecDepth 20000 in
theorem gX6_bits_X6_has : GoodIn wsX6_bits (va_wsS RX6 61 yX6_has wsX6_has) := goodIn_app (goodIn_of _ (by decide +kernel)) ggX6_bits_X6_has
theorem dX6_bits_0 : decode cX6_bits 0 = .ok (.iconst 0, 1) := by decide +kernel
theorem dX6_bits_1 : decode cX6_bits 1 = .ok (.istore_n 2, 1) := by decide +kernel
theorem dX6_bits_2 : decode cX6_bits 2 = .ok (.iconst 0, 1) := by decide +kernel
theorem dX6_bits_3 : decode cX6_bits 3 = .ok (.istore_n 3, 1) := by decide +kernel
theorem dX6_bits_4 : decode cX6_bits 4 = .ok (.iload_n 3, 1) := by decide +kernel
theorem dX6_bits_5 : decode cX6_bits 5 = .ok (.bipush 64, 2) := by decide +kernel
theorem dX6_bits_7 : decode cX6_bits 7 = .ok (.if_icmp .ge 25, 3) := by decide +kernel
theorem dX6_bits_10 : decode cX6_bits 10 = .ok (.iload_n 2, 1) := by decide +kernel
theorem dX6_bits_11 : decode cX6_bits 11 = .ok (.lload_n 0, 1) := by decide +kernel
theorem dX6_bits_12 : decode cX6_bits 12 = .ok (.iload_n 3, 1) := by decide +kernel
theorem dX6_bits_13 : decode cX6_bits 13 = .ok (.invokestatic 61, 3) := by decide +kernel
theorem dX6_bits_16 : decode cX6_bits 16 = .ok (.ifCond .eq 7, 3) := by decide +kernel
theorem dX6_bits_19 : decode cX6_bits 19 = .ok (.iconst 1, 1) := by decide +kernel
theorem dX6_bits_20 : decode cX6_bits 20 = .ok (.goto 4, 3) := by decide +kernel
theorem dX6_bits_23 : decode cX6_bits 23 = .ok (.iconst 0, 1) := by decide +kernel
theorem dX6_bits_24 : decode cX6_bits 24 = .ok (.iadd, 1) := by decide +kernel
theorem dX6_bits_25 : decode cX6_bits 25 = .ok (.istore_n 2, 1) := by decide +kernel
theorem dX6_bits_26 : decode cX6_bits 26 = .ok (.iinc 3 1, 3) := by decide +kernel
theorem dX6_bits_29 : decode cX6_bits 29 = .ok (.goto (-25), 3) := by decide +kernel
theorem dX6_bits_32 : decode cX6_bits 32 = .ok (.iload_n 2, 1) := by decide +kernel
theorem dX6_bits_33 : decode cX6_bits 33 = .ok (.ireturn, 1) := by decide +kernel
theorem dX6_isOnSide_0 : decode cX6_isOnSide 0 = .ok (.iload_n 1, 1) := by decide +kernel
theorem dX6_isOnSide_1 : decode cX6_isOnSide 1 = .ok (.aload_n 0, 1) := by decide +kernel
theorem dX6_isOnSide_2 : decode cX6_isOnSide 2 = .ok (.iconst 1, 1) := by decide +kernel
theorem dX6_isOnSide_3 : decode cX6_isOnSide 3 = .ok (.laload, 1) := by decide +kernel
theorem dX6_isOnSide_4 : decode cX6_isOnSide 4 = .ok (.l2i, 1) := by decide +kernel
theorem dX6_isOnSide_5 : decode cX6_isOnSide 5 = .ok (.idiv, 1) := by decide +kernel
theorem dX6_isOnSide_6 : decode cX6_isOnSide 6 = .ok (.istore_n 3, 1) := by decide +kernel
theorem dX6_isOnSide_7 : decode cX6_isOnSide 7 = .ok (.iload_n 1, 1) := by decide +kernel
theorem dX6_isOnSide_8 : decode cX6_isOnSide 8 = .ok (.aload_n 0, 1) := by decide +kernel
theorem dX6_isOnSide_9 : decode cX6_isOnSide 9 = .ok (.iconst 1, 1) := by decide +kernel
theorem dX6_isOnSide_10 : decode cX6_isOnSide 10 = .ok (.laload, 1) := by decide +kernel
theorem dX6_isOnSide_11 : decode cX6_isOnSide 11 = .ok (.l2i, 1) := by decide +kernel
theorem dX6_isOnSide_12 : decode cX6_isOnSide 12 = .ok (.irem, 1) := by decide +kernel
theorem dX6_isOnSide_13 : decode cX6_isOnSide 13 = .ok (.istore 4, 2) := by decide +kernel
theorem dX6_isOnSide_15 : decode cX6_isOnSide 15 = .ok (.iload_n 2, 1) := by decide +kernel
theorem dX6_isOnSide_16 : decode cX6_isOnSide 16 = .ok (.ifCond .ne 15, 3) := by decide +kernel
theorem dX6_isOnSide_19 : decode cX6_isOnSide 19 = .ok (.iload_n 3, 1) := by decide +kernel
theorem dX6_isOnSide_20 : decode cX6_isOnSide 20 = .ok (.ifCond .ne 7, 3) := by decide +kernel
theorem dX6_isOnSide_23 : decode cX6_isOnSide 23 = .ok (.iconst 1, 1) := by decide +kernel
theorem dX6_isOnSide_24 : decode cX6_isOnSide 24 = .ok (.goto 57, 3) := by decide +kernel
theorem dX6_isOnSide_27 : decode cX6_isOnSide 27 = .ok (.iconst 0, 1) := by decide +kernel
theorem dX6_isOnSide_28 : decode cX6_isOnSide 28 = .ok (.goto 53, 3) := by decide +kernel
theorem dX6_isOnSide_31 : decode cX6_isOnSide 31 = .ok (.iload_n 2, 1) := by decide +kernel
theorem dX6_isOnSide_32 : decode cX6_isOnSide 32 = .ok (.iconst 2, 1) := by decide +kernel
theorem dX6_isOnSide_33 : decode cX6_isOnSide 33 = .ok (.if_icmp .ne 22, 3) := by decide +kernel
theorem dX6_isOnSide_36 : decode cX6_isOnSide 36 = .ok (.iload_n 3, 1) := by decide +kernel
theorem dX6_isOnSide_37 : decode cX6_isOnSide 37 = .ok (.i2l, 1) := by decide +kernel
theorem dX6_isOnSide_38 : decode cX6_isOnSide 38 = .ok (.aload_n 0, 1) := by decide +kernel
theorem dX6_isOnSide_39 : decode cX6_isOnSide 39 = .ok (.iconst 0, 1) := by decide +kernel
theorem dX6_isOnSide_40 : decode cX6_isOnSide 40 = .ok (.laload, 1) := by decide +kernel
theorem dX6_isOnSide_41 : decode cX6_isOnSide 41 = .ok (.lconst 1, 1) := by decide +kernel
theorem dX6_isOnSide_42 : decode cX6_isOnSide 42 = .ok (.lsub, 1) := by decide +kernel
theorem dX6_isOnSide_43 : decode cX6_isOnSide 43 = .ok (.lcmp, 1) := by decide +kernel
theorem dX6_isOnSide_44 : decode cX6_isOnSide 44 = .ok (.ifCond .ne 7, 3) := by decide +kernel
theorem dX6_isOnSide_47 : decode cX6_isOnSide 47 = .ok (.iconst 1, 1) := by decide +kernel
theorem dX6_isOnSide_48 : decode cX6_isOnSide 48 = .ok (.goto 33, 3) := by decide +kernel
theorem dX6_isOnSide_51 : decode cX6_isOnSide 51 = .ok (.iconst 0, 1) := by decide +kernel
theorem dX6_isOnSide_52 : decode cX6_isOnSide 52 = .ok (.goto 29, 3) := by decide +kernel
theorem dX6_isOnSide_55 : decode cX6_isOnSide 55 = .ok (.iload 4, 2) := by decide +kernel
theorem dX6_isOnSide_57 : decode cX6_isOnSide 57 = .ok (.i2l, 1) := by decide +kernel
theorem dX6_isOnSide_58 : decode cX6_isOnSide 58 = .ok (.iload_n 2, 1) := by decide +kernel
theorem dX6_isOnSide_59 : decode cX6_isOnSide 59 = .ok (.iconst 1, 1) := by decide +kernel
theorem dX6_isOnSide_60 : decode cX6_isOnSide 60 = .ok (.if_icmp .ne 11, 3) := by decide +kernel
theorem dX6_isOnSide_63 : decode cX6_isOnSide 63 = .ok (.aload_n 0, 1) := by decide +kernel
theorem dX6_isOnSide_64 : decode cX6_isOnSide 64 = .ok (.iconst 1, 1) := by decide +kernel
theorem dX6_isOnSide_65 : decode cX6_isOnSide 65 = .ok (.laload, 1) := by decide +kernel
theorem dX6_isOnSide_66 : decode cX6_isOnSide 66 = .ok (.lconst 1, 1) := by decide +kernel
theorem dX6_isOnSide_67 : decode cX6_isOnSide 67 = .ok (.lsub, 1) := by decide +kernel
theorem dX6_isOnSide_68 : decode cX6_isOnSide 68 = .ok (.goto 4, 3) := by decide +kernel
theorem dX6_isOnSide_71 : decode cX6_isOnSide 71 = .ok (.lconst 0, 1) := by decide +kernel
theorem dX6_isOnSide_72 : decode cX6_isOnSide 72 = .ok (.lcmp, 1) := by decide +kernel
theorem dX6_isOnSide_73 : decode cX6_isOnSide 73 = .ok (.ifCond .ne 7, 3) := by decide +kernel
theorem dX6_isOnSide_76 : decode cX6_isOnSide 76 = .ok (.iconst 1, 1) := by decide +kernel
theorem dX6_isOnSide_77 : decode cX6_isOnSide 77 = .ok (.goto 4, 3) := by decide +kernel
theorem dX6_isOnSide_80 : decode cX6_isOnSide 80 = .ok (.iconst 0, 1) := by decide +kernel
theorem dX6_isOnSide_81 : decode cX6_isOnSide 81 = .ok (.ireturn, 1) := by decide +kernel
set_option maxRecDepth 20000 in
theorem ggX6_neighbourOf_X6_isOnSide : GoodIn wsX6_neighbourOf wsX6_isOnSide := goodIn_r _ [5] (by decide +kernel) (by decide +kernel)
set_option maxRecDepth 20000 in
theorem gX6_neighbourOf_X6_isOnSide : GoodIn wsX6_neighbourOf (va_wsS RX6 65 yX6_isOnSide wsX6_isOnSide) := goodIn_app (goodIn_of _ (by decide +kernel)) ggX6_neighbourOf_X6_isOnSide
set_option maxRecDepth 20000 in
theorem ggX6_neighbourOf_X6_many : GoodIn wsX6_neighbourOf wsX6_many := goodIn_r _ [8] (by decide +kernel) (by decide +kernel)
set_option maxRecDepth 20000 in
theorem gX6_neighbourOf_X6_many : GoodIn wsX6_neighbourOf (va_wsS RX6 47 yX6_many wsX6_many) := goodIn_app (goodIn_of _ (by decide +kernel)) ggX6_neighbourOf_X6_many
theorem dX6_neighbourOf_0 : decode cX6_neighbourOf 0 = .ok (.aload_n 0, 1) := by decide +kernel
theorem dX6_neighbourOf_1 : decode cX6_neighbourOf 1 = .ok (.iconst 1, 1) := by decide +kernel
theorem dX6_neighbourOf_2 : decode cX6_neighbourOf 2 = .ok (.laload, 1) := by decide +kernel
theorem dX6_neighbourOf_3 : decode cX6_neighbourOf 3 = .ok (.l2i, 1) := by decide +kernel
theorem dX6_neighbourOf_4 : decode cX6_neighbourOf 4 = .ok (.istore_n 3, 1) := by decide +kernel
theorem dX6_neighbourOf_5 : decode cX6_neighbourOf 5 = .ok (.iload_n 2, 1) := by decide +kernel
theorem dX6_neighbourOf_6 : decode cX6_neighbourOf 6 = .ok (.ifCond .ne 8, 3) := by decide +kernel
theorem dX6_neighbourOf_9 : decode cX6_neighbourOf 9 = .ok (.iload_n 3, 1) := by decide +kernel
theorem dX6_neighbourOf_10 : decode cX6_neighbourOf 10 = .ok (.ineg, 1) := by decide +kernel
theorem dX6_neighbourOf_11 : decode cX6_neighbourOf 11 = .ok (.goto 22, 3) := by decide +kernel
theorem dX6_neighbourOf_14 : decode cX6_neighbourOf 14 = .ok (.iload_n 2, 1) := by decide +kernel
theorem dX6_neighbourOf_15 : decode cX6_neighbourOf 15 = .ok (.iconst 1, 1) := by decide +kernel
theorem dX6_neighbourOf_16 : decode cX6_neighbourOf 16 = .ok (.if_icmp .ne 7, 3) := by decide +kernel
theorem dX6_neighbourOf_19 : decode cX6_neighbourOf 19 = .ok (.iconst 1, 1) := by decide +kernel
theorem dX6_neighbourOf_20 : decode cX6_neighbourOf 20 = .ok (.goto 13, 3) := by decide +kernel
theorem dX6_neighbourOf_23 : decode cX6_neighbourOf 23 = .ok (.iload_n 2, 1) := by decide +kernel
theorem dX6_neighbourOf_24 : decode cX6_neighbourOf 24 = .ok (.iconst 2, 1) := by decide +kernel
theorem dX6_neighbourOf_25 : decode cX6_neighbourOf 25 = .ok (.if_icmp .ne 7, 3) := by decide +kernel
theorem dX6_neighbourOf_28 : decode cX6_neighbourOf 28 = .ok (.iload_n 3, 1) := by decide +kernel
theorem dX6_neighbourOf_29 : decode cX6_neighbourOf 29 = .ok (.goto 4, 3) := by decide +kernel
theorem dX6_neighbourOf_32 : decode cX6_neighbourOf 32 = .ok (.iconst (-1), 1) := by decide +kernel
theorem dX6_neighbourOf_33 : decode cX6_neighbourOf 33 = .ok (.istore 4, 2) := by decide +kernel
theorem dX6_neighbourOf_35 : decode cX6_neighbourOf 35 = .ok (.aload_n 0, 1) := by decide +kernel
theorem dX6_neighbourOf_36 : decode cX6_neighbourOf 36 = .ok (.iload_n 1, 1) := by decide +kernel
theorem dX6_neighbourOf_37 : decode cX6_neighbourOf 37 = .ok (.iload_n 2, 1) := by decide +kernel
theorem dX6_neighbourOf_38 : decode cX6_neighbourOf 38 = .ok (.invokestatic 65, 3) := by decide +kernel
theorem dX6_neighbourOf_41 : decode cX6_neighbourOf 41 = .ok (.ifCond .ne 8, 3) := by decide +kernel
theorem dX6_neighbourOf_44 : decode cX6_neighbourOf 44 = .ok (.iload_n 1, 1) := by decide +kernel
theorem dX6_neighbourOf_45 : decode cX6_neighbourOf 45 = .ok (.iload 4, 2) := by decide +kernel
theorem dX6_neighbourOf_47 : decode cX6_neighbourOf 47 = .ok (.iadd, 1) := by decide +kernel
theorem dX6_neighbourOf_48 : decode cX6_neighbourOf 48 = .ok (.ireturn, 1) := by decide +kernel
theorem dX6_neighbourOf_49 : decode cX6_neighbourOf 49 = .ok (.aload_n 0, 1) := by decide +kernel
theorem dX6_neighbourOf_50 : decode cX6_neighbourOf 50 = .ok (.iconst 4, 1) := by decide +kernel
theorem dX6_neighbourOf_51 : decode cX6_neighbourOf 51 = .ok (.iload_n 2, 1) := by decide +kernel
theorem dX6_neighbourOf_52 : decode cX6_neighbourOf 52 = .ok (.iadd, 1) := by decide +kernel
theorem dX6_neighbourOf_53 : decode cX6_neighbourOf 53 = .ok (.laload, 1) := by decide +kernel
theorem dX6_neighbourOf_54 : decode cX6_neighbourOf 54 = .ok (.ldc2_w 55, 3) := by decide +kernel
theorem dX6_neighbourOf_57 : decode cX6_neighbourOf 57 = .ok (.lcmp, 1) := by decide +kernel
theorem dX6_neighbourOf_58 : decode cX6_neighbourOf 58 = .ok (.ifCond .eq 5, 3) := by decide +kernel
theorem dX6_neighbourOf_61 : decode cX6_neighbourOf 61 = .ok (.iconst (-1), 1) := by decide +kernel
theorem dX6_neighbourOf_62 : decode cX6_neighbourOf 62 = .ok (.ireturn, 1) := by decide +kernel
theorem dX6_neighbourOf_63 : decode cX6_neighbourOf 63 = .ok (.iload_n 2, 1) := by decide +kernel
theorem dX6_neighbourOf_64 : decode cX6_neighbourOf 64 = .ok (.iconst 2, 1) := by decide +kernel
theorem dX6_neighbourOf_65 : decode cX6_neighbourOf 65 = .ok (.irem, 1) := by decide +kernel
theorem dX6_neighbourOf_66 : decode cX6_neighbourOf 66 = .ok (.ifCond .ne 10, 3) := by decide +kernel
theorem dX6_neighbourOf_69 : decode cX6_neighbourOf 69 = .ok (.aload_n 0, 1) := by decide +kernel
theorem dX6_neighbourOf_70 : decode cX6_neighbourOf 70 = .ok (.invokestatic 47, 3) := by decide +kernel
theorem dX6_neighbourOf_73 : decode cX6_neighbourOf 73 = .ok (.goto 4, 3) := by decide +kernel
theorem dX6_neighbourOf_76 : decode cX6_neighbourOf 76 = .ok (.iload_n 3, 1) := by decide +kernel
theorem dX6_neighbourOf_77 : decode cX6_neighbourOf 77 = .ok (.istore 5, 2) := by decide +kernel
theorem dX6_neighbourOf_79 : decode cX6_neighbourOf 79 = .ok (.iload_n 1, 1) := by decide +kernel
theorem dX6_neighbourOf_80 : decode cX6_neighbourOf 80 = .ok (.iload 4, 2) := by decide +kernel
theorem dX6_neighbourOf_82 : decode cX6_neighbourOf 82 = .ok (.iadd, 1) := by decide +kernel
theorem dX6_neighbourOf_83 : decode cX6_neighbourOf 83 = .ok (.iload 4, 2) := by decide +kernel
theorem dX6_neighbourOf_85 : decode cX6_neighbourOf 85 = .ok (.ifCond .ge 8, 3) := by decide +kernel
theorem dX6_neighbourOf_88 : decode cX6_neighbourOf 88 = .ok (.iload 5, 2) := by decide +kernel
theorem dX6_neighbourOf_90 : decode cX6_neighbourOf 90 = .ok (.goto 6, 3) := by decide +kernel
theorem dX6_neighbourOf_93 : decode cX6_neighbourOf 93 = .ok (.iload 5, 2) := by decide +kernel
theorem dX6_neighbourOf_95 : decode cX6_neighbourOf 95 = .ok (.ineg, 1) := by decide +kernel
theorem dX6_neighbourOf_96 : decode cX6_neighbourOf 96 = .ok (.iadd, 1) := by decide +kernel
theorem dX6_neighbourOf_97 : decode cX6_neighbourOf 97 = .ok (.ireturn, 1) := by decide +kernel
set_option maxRecDepth 20000 in
theorem ggX6_isIce_X6_isOnSide : GoodIn wsX6_isIce wsX6_isOnSide := goodIn_r _ [4] (by decide +kernel) (by decide +kernel)
set_option maxRecDepth 20000 in
theorem gX6_isIce_X6_isOnSide : GoodIn wsX6_isIce (va_wsS RX6 65 yX6_isOnSide wsX6_isOnSide) := goodIn_app (goodIn_of _ (by decide +kernel)) ggX6_isIce_X6_isOnSide
theorem dX6_isIce_0 : decode cX6_isIce 0 = .ok (.aload_n 0, 1) := by decide +kernel
theorem dX6_isIce_1 : decode cX6_isIce 1 = .ok (.iload_n 1, 1) := by decide +kernel
theorem dX6_isIce_2 : decode cX6_isIce 2 = .ok (.iload_n 2, 1) := by decide +kernel
theorem dX6_isIce_3 : decode cX6_isIce 3 = .ok (.invokestatic 65, 3) := by decide +kernel
theorem dX6_isIce_6 : decode cX6_isIce 6 = .ok (.ifCond .eq 17, 3) := by decide +kernel
theorem dX6_isIce_9 : decode cX6_isIce 9 = .ok (.aload_n 0, 1) := by decide +kernel
theorem dX6_isIce_10 : decode cX6_isIce 10 = .ok (.iconst 4, 1) := by decide +kernel
theorem dX6_isIce_11 : decode cX6_isIce 11 = .ok (.iload_n 2, 1) := by decide +kernel
theorem dX6_isIce_12 : decode cX6_isIce 12 = .ok (.iadd, 1) := by decide +kernel
theorem dX6_isIce_13 : decode cX6_isIce 13 = .ok (.laload, 1) := by decide +kernel
theorem dX6_isIce_14 : decode cX6_isIce 14 = .ok (.lconst 1, 1) := by decide +kernel
theorem dX6_isIce_15 : decode cX6_isIce 15 = .ok (.lcmp, 1) := by decide +kernel
theorem dX6_isIce_16 : decode cX6_isIce 16 = .ok (.ifCond .ne 7, 3) := by decide +kernel
theorem dX6_isIce_19 : decode cX6_isIce 19 = .ok (.iconst 1, 1) := by decide +kernel
theorem dX6_isIce_20 : decode cX6_isIce 20 = .ok (.goto 4, 3) := by decide +kernel
theorem dX6_isIce_23 : decode cX6_isIce 23 = .ok (.iconst 0, 1) := by decide +kernel
theorem dX6_isIce_24 : decode cX6_isIce 24 = .ok (.ireturn, 1) := by decide +kernel
theorem dX6_kindOf_0 : decode cX6_kindOf 0 = .ok (.iload_n 0, 1) := by decide +kernel
theorem dX6_kindOf_1 : decode cX6_kindOf 1 = .ok (.iconst 2, 1) := by decide +kernel
theorem dX6_kindOf_2 : decode cX6_kindOf 2 = .ok (.irem, 1) := by decide +kernel
theorem dX6_kindOf_3 : decode cX6_kindOf 3 = .ok (.ifCond .ne 8, 3) := by decide +kernel
theorem dX6_kindOf_6 : decode cX6_kindOf 6 = .ok (.bipush 10, 2) := by decide +kernel
theorem dX6_kindOf_8 : decode cX6_kindOf 8 = .ok (.goto 5, 3) := by decide +kernel
theorem dX6_kindOf_11 : decode cX6_kindOf 11 = .ok (.bipush 9, 2) := by decide +kernel
theorem dX6_kindOf_13 : decode cX6_kindOf 13 = .ok (.ireturn, 1) := by decide +kernel
set_option maxRecDepth 20000 in
theorem ggX6_ownerOf_X6_neighbourOf : GoodIn wsX6_ownerOf wsX6_neighbourOf := goodIn_r _ [4, 5, 6, 7, 3, 8, 9, 10, 11] (by decide +kernel) (by decide +kernel)
set_option maxRecDepth 20000 in
theorem gX6_ownerOf_X6_neighbourOf : GoodIn wsX6_ownerOf (va_wsS RX6 69 yX6_neighbourOf wsX6_neighbourOf) := goodIn_app (goodIn_of _ (by decide +kernel)) ggX6_ownerOf_X6_neighbourOf
theorem dX6_ownerOf_0 : decode cX6_ownerOf 0 = .ok (.iload_n 2, 1) := by decide +kernel
theorem dX6_ownerOf_1 : decode cX6_ownerOf 1 = .ok (.iconst 1, 1) := by decide +kernel
theorem dX6_ownerOf_2 : decode cX6_ownerOf 2 = .ok (.if_icmp .eq 8, 3) := by decide +kernel
theorem dX6_ownerOf_5 : decode cX6_ownerOf 5 = .ok (.iload_n 2, 1) := by decide +kernel
theorem dX6_ownerOf_6 : decode cX6_ownerOf 6 = .ok (.iconst 2, 1) := by decide +kernel
theorem dX6_ownerOf_7 : decode cX6_ownerOf 7 = .ok (.if_icmp .ne 7, 3) := by decide +kernel
theorem dX6_ownerOf_10 : decode cX6_ownerOf 10 = .ok (.iload_n 1, 1) := by decide +kernel
theorem dX6_ownerOf_11 : decode cX6_ownerOf 11 = .ok (.goto 9, 3) := by decide +kernel
theorem dX6_ownerOf_14 : decode cX6_ownerOf 14 = .ok (.aload_n 0, 1) := by decide +kernel
theorem dX6_ownerOf_15 : decode cX6_ownerOf 15 = .ok (.iload_n 1, 1) := by decide +kernel
theorem dX6_ownerOf_16 : decode cX6_ownerOf 16 = .ok (.iload_n 2, 1) := by decide +kernel
theorem dX6_ownerOf_17 : decode cX6_ownerOf 17 = .ok (.invokestatic 69, 3) := by decide +kernel
theorem dX6_ownerOf_20 : decode cX6_ownerOf 20 = .ok (.ireturn, 1) := by decide +kernel
set_option maxRecDepth 20000 in
theorem ggX6_isScratched_X6_neighbourOf : GoodIn wsX6_isScratched wsX6_neighbourOf := goodIn_r _ [4, 5, 6, 7, 3, 8, 9, 10, 11] (by decide +kernel) (by decide +kernel)
set_option maxRecDepth 20000 in
theorem gX6_isScratched_X6_neighbourOf : GoodIn wsX6_isScratched (va_wsS RX6 69 yX6_neighbourOf wsX6_neighbourOf) := goodIn_app (goodIn_of _ (by decide +kernel)) ggX6_isScratched_X6_neighbourOf
set_option maxRecDepth 20000 in
theorem ggX6_isScratched_X6_kindOf : GoodIn wsX6_isScratched wsX6_kindOf := goodIn_r _ [14] (by decide +kernel) (by decide +kernel)
set_option maxRecDepth 20000 in
theorem gX6_isScratched_X6_kindOf : GoodIn wsX6_isScratched (va_wsS RX6 73 yX6_kindOf wsX6_kindOf) := goodIn_app (goodIn_of _ (by decide +kernel)) ggX6_isScratched_X6_kindOf
set_option maxRecDepth 20000 in
theorem ggX6_isScratched_X6_ownerOf : GoodIn wsX6_isScratched wsX6_ownerOf := goodIn_r _ [17, 1, 2, 3, 4, 5, 6, 7, 8, 9, 10, 11] (by decide +kernel) (by decide +kernel)
set_option maxRecDepth 20000 in
theorem gX6_isScratched_X6_ownerOf : GoodIn wsX6_isScratched (va_wsS RX6 77 yX6_ownerOf wsX6_ownerOf) := goodIn_app (goodIn_of _ (by decide +kernel)) ggX6_isScratched_X6_ownerOf
set_option maxRecDepth 20000 in
theorem ggX6_isScratched_X6_has : GoodIn wsX6_isScratched wsX6_has := goodIn_r _ [20] (by decide +kernel) (by decide +kernel)
set_option maxRecDepth 20000 in
theorem gX6_isScratched_X6_has : GoodIn wsX6_isScratched (va_wsS RX6 61 yX6_has wsX6_has) := goodIn_app (goodIn_of _ (by decide +kernel)) ggX6_isScratched_X6_has
theorem dX6_isScratched_0 : decode cX6_isScratched 0 = .ok (.aload_n 0, 1) := by decide +kernel
theorem dX6_isScratched_1 : decode cX6_isScratched 1 = .ok (.iload_n 1, 1) := by decide +kernel
theorem dX6_isScratched_2 : decode cX6_isScratched 2 = .ok (.iload_n 2, 1) := by decide +kernel
theorem dX6_isScratched_3 : decode cX6_isScratched 3 = .ok (.invokestatic 69, 3) := by decide +kernel
theorem dX6_isScratched_6 : decode cX6_isScratched 6 = .ok (.iconst (-1), 1) := by decide +kernel
theorem dX6_isScratched_7 : decode cX6_isScratched 7 = .ok (.if_icmp .eq 25, 3) := by decide +kernel
theorem dX6_isScratched_10 : decode cX6_isScratched 10 = .ok (.aload_n 0, 1) := by decide +kernel
theorem dX6_isScratched_11 : decode cX6_isScratched 11 = .ok (.iload_n 2, 1) := by decide +kernel
theorem dX6_isScratched_12 : decode cX6_isScratched 12 = .ok (.invokestatic 73, 3) := by decide +kernel
theorem dX6_isScratched_15 : decode cX6_isScratched 15 = .ok (.laload, 1) := by decide +kernel
theorem dX6_isScratched_16 : decode cX6_isScratched 16 = .ok (.aload_n 0, 1) := by decide +kernel
theorem dX6_isScratched_17 : decode cX6_isScratched 17 = .ok (.iload_n 1, 1) := by decide +kernel
theorem dX6_isScratched_18 : decode cX6_isScratched 18 = .ok (.iload_n 2, 1) := by decide +kernel
theorem dX6_isScratched_19 : decode cX6_isScratched 19 = .ok (.invokestatic 77, 3) := by decide +kernel
theorem dX6_isScratched_22 : decode cX6_isScratched 22 = .ok (.invokestatic 61, 3) := by decide +kernel
theorem dX6_isScratched_25 : decode cX6_isScratched 25 = .ok (.ifCond .eq 7, 3) := by decide +kernel
theorem dX6_isScratched_28 : decode cX6_isScratched 28 = .ok (.iconst 1, 1) := by decide +kernel
theorem dX6_isScratched_29 : decode cX6_isScratched 29 = .ok (.goto 4, 3) := by decide +kernel
theorem dX6_isScratched_32 : decode cX6_isScratched 32 = .ok (.iconst 0, 1) := by decide +kernel
theorem dX6_isScratched_33 : decode cX6_isScratched 33 = .ok (.ireturn, 1) := by decide +kernel
set_option maxRecDepth 20000 in
theorem ggX6_next_X6_isScratched : GoodIn wsX6_next wsX6_isScratched := goodIn_r _ [4, 5, 6, 3, 7, 8, 9, 10, 11, 12, 13, 14, 15, 16, 17, 18, 19, 20, 21, 22, 23] (by decide +kernel) (by decide +kernel)
set_option maxRecDepth 20000 in
theorem gX6_next_X6_isScratched : GoodIn wsX6_next (va_wsS RX6 80 yX6_isScratched wsX6_isScratched) := goodIn_app (goodIn_of _ (by decide +kernel)) ggX6_next_X6_isScratched
set_option maxRecDepth 20000 in
theorem ggX6_next_X6_neighbourOf : GoodIn wsX6_next wsX6_neighbourOf := goodIn_r _ [7, 8, 9, 10, 3, 11, 12, 13, 14] (by decide +kernel) (by decide +kernel)
set_option maxRecDepth 20000 in
theorem gX6_next_X6_neighbourOf : GoodIn wsX6_next (va_wsS RX6 69 yX6_neighbourOf wsX6_neighbourOf) := goodIn_app (goodIn_of _ (by decide +kernel)) ggX6_next_X6_neighbourOf
theorem dX6_next_0 : decode cX6_next 0 = .ok (.aload_n 0, 1) := by decide +kernel
theorem dX6_next_1 : decode cX6_next 1 = .ok (.iload_n 1, 1) := by decide +kernel
theorem dX6_next_2 : decode cX6_next 2 = .ok (.iload_n 2, 1) := by decide +kernel
theorem dX6_next_3 : decode cX6_next 3 = .ok (.invokestatic 80, 3) := by decide +kernel
theorem dX6_next_6 : decode cX6_next 6 = .ok (.ifCond .eq 7, 3) := by decide +kernel
theorem dX6_next_9 : decode cX6_next 9 = .ok (.iconst (-1), 1) := by decide +kernel
theorem dX6_next_10 : decode cX6_next 10 = .ok (.goto 9, 3) := by decide +kernel
theorem dX6_next_13 : decode cX6_next 13 = .ok (.aload_n 0, 1) := by decide +kernel
theorem dX6_next_14 : decode cX6_next 14 = .ok (.iload_n 1, 1) := by decide +kernel
theorem dX6_next_15 : decode cX6_next 15 = .ok (.iload_n 2, 1) := by decide +kernel
theorem dX6_next_16 : decode cX6_next 16 = .ok (.invokestatic 69, 3) := by decide +kernel
theorem dX6_next_19 : decode cX6_next 19 = .ok (.ireturn, 1) := by decide +kernel
set_option maxRecDepth 20000 in
theorem ggX6_cold_X6_next : GoodIn wsX6_cold wsX6_next := goodIn_r _ [4, 5, 6, 3, 7, 8, 9, 10, 11, 12, 13, 14, 15, 16, 17, 18, 19, 20, 21, 22, 23, 24, 25, 26] (by decide +kernel) (by decide +kernel)
set_option maxRecDepth 20000 in
theorem gX6_cold_X6_next : GoodIn wsX6_cold (va_wsS RX6 83 yX6_next wsX6_next) := goodIn_app (goodIn_of _ (by decide +kernel)) ggX6_cold_X6_next
set_option maxRecDepth 20000 in
theorem ggX6_cold_X6_isIce : GoodIn wsX6_cold wsX6_isIce := goodIn_r _ [29, 12, 13, 3, 14] (by decide +kernel) (by decide +kernel)
set_option maxRecDepth 20000 in
theorem gX6_cold_X6_isIce : GoodIn wsX6_cold (va_wsS RX6 86 yX6_isIce wsX6_isIce) := goodIn_app (goodIn_of _ (by decide +kernel)) ggX6_cold_X6_isIce
set_option maxRecDepth 20000 in
theorem ggX6_cold_X6_has : GoodIn wsX6_cold wsX6_has := goodIn_r _ [26] (by decide +kernel) (by decide +kernel)
set_option maxRecDepth 20000 in
theorem gX6_cold_X6_has : GoodIn wsX6_cold (va_wsS RX6 61 yX6_has wsX6_has) := goodIn_app (goodIn_of _ (by decide +kernel)) ggX6_cold_X6_has
theorem dX6_cold_0 : decode cX6_cold 0 = .ok (.iconst 0, 1) := by decide +kernel
theorem dX6_cold_1 : decode cX6_cold 1 = .ok (.istore_n 2, 1) := by decide +kernel
theorem dX6_cold_2 : decode cX6_cold 2 = .ok (.iconst 0, 1) := by decide +kernel
theorem dX6_cold_3 : decode cX6_cold 3 = .ok (.istore_n 3, 1) := by decide +kernel
theorem dX6_cold_4 : decode cX6_cold 4 = .ok (.iload_n 3, 1) := by decide +kernel
theorem dX6_cold_5 : decode cX6_cold 5 = .ok (.iconst 4, 1) := by decide +kernel
theorem dX6_cold_6 : decode cX6_cold 6 = .ok (.if_icmp .ge 52, 3) := by decide +kernel
theorem dX6_cold_9 : decode cX6_cold 9 = .ok (.aload_n 0, 1) := by decide +kernel
theorem dX6_cold_10 : decode cX6_cold 10 = .ok (.iload_n 1, 1) := by decide +kernel
theorem dX6_cold_11 : decode cX6_cold 11 = .ok (.iload_n 3, 1) := by decide +kernel
theorem dX6_cold_12 : decode cX6_cold 12 = .ok (.invokestatic 83, 3) := by decide +kernel
theorem dX6_cold_15 : decode cX6_cold 15 = .ok (.istore 4, 2) := by decide +kernel
theorem dX6_cold_17 : decode cX6_cold 17 = .ok (.iload_n 2, 1) := by decide +kernel
theorem dX6_cold_18 : decode cX6_cold 18 = .ok (.aload_n 0, 1) := by decide +kernel
theorem dX6_cold_19 : decode cX6_cold 19 = .ok (.iload_n 1, 1) := by decide +kernel
theorem dX6_cold_20 : decode cX6_cold 20 = .ok (.iload_n 3, 1) := by decide +kernel
theorem dX6_cold_21 : decode cX6_cold 21 = .ok (.invokestatic 86, 3) := by decide +kernel
theorem dX6_cold_24 : decode cX6_cold 24 = .ok (.ifCond .ne 21, 3) := by decide +kernel
theorem dX6_cold_27 : decode cX6_cold 27 = .ok (.iload 4, 2) := by decide +kernel
theorem dX6_cold_29 : decode cX6_cold 29 = .ok (.iconst (-1), 1) := by decide +kernel
theorem dX6_cold_30 : decode cX6_cold 30 = .ok (.if_icmp .eq 19, 3) := by decide +kernel
theorem dX6_cold_33 : decode cX6_cold 33 = .ok (.aload_n 0, 1) := by decide +kernel
theorem dX6_cold_34 : decode cX6_cold 34 = .ok (.bipush 8, 2) := by decide +kernel
theorem dX6_cold_36 : decode cX6_cold 36 = .ok (.laload, 1) := by decide +kernel
theorem dX6_cold_37 : decode cX6_cold 37 = .ok (.iload 4, 2) := by decide +kernel
theorem dX6_cold_39 : decode cX6_cold 39 = .ok (.invokestatic 61, 3) := by decide +kernel
theorem dX6_cold_42 : decode cX6_cold 42 = .ok (.ifCond .eq 7, 3) := by decide +kernel
theorem dX6_cold_45 : decode cX6_cold 45 = .ok (.iconst 1, 1) := by decide +kernel
theorem dX6_cold_46 : decode cX6_cold 46 = .ok (.goto 4, 3) := by decide +kernel
theorem dX6_cold_49 : decode cX6_cold 49 = .ok (.iconst 0, 1) := by decide +kernel
theorem dX6_cold_50 : decode cX6_cold 50 = .ok (.iadd, 1) := by decide +kernel
theorem dX6_cold_51 : decode cX6_cold 51 = .ok (.istore_n 2, 1) := by decide +kernel
theorem dX6_cold_52 : decode cX6_cold 52 = .ok (.iinc 3 1, 3) := by decide +kernel
theorem dX6_cold_55 : decode cX6_cold 55 = .ok (.goto (-51), 3) := by decide +kernel
theorem dX6_cold_58 : decode cX6_cold 58 = .ok (.iload_n 2, 1) := by decide +kernel
theorem dX6_cold_59 : decode cX6_cold 59 = .ok (.ireturn, 1) := by decide +kernel
set_option maxRecDepth 20000 in
theorem ggX6_nightOn_X6_many : GoodIn wsX6_nightOn wsX6_many := goodIn_r _ [4] (by decide +kernel) (by decide +kernel)
set_option maxRecDepth 20000 in
theorem gX6_nightOn_X6_many : GoodIn wsX6_nightOn (va_wsS RX6 47 yX6_many wsX6_many) := goodIn_app (goodIn_of _ (by decide +kernel)) ggX6_nightOn_X6_many
set_option maxRecDepth 20000 in
theorem ggX6_nightOn_X6_cold : GoodIn wsX6_nightOn wsX6_cold := goodIn_r _ [7, 8, 9, 3, 10, 11, 12, 13, 14, 15, 16, 17, 18, 19, 20, 1, 2, 4, 21, 22, 23, 24, 25, 26, 27, 28, 29, 30, 31, 32] (by decide +kernel) (by decide +kernel)
set_option maxRecDepth 20000 in
theorem gX6_nightOn_X6_cold : GoodIn wsX6_nightOn (va_wsS RX6 89 yX6_cold wsX6_cold) := goodIn_app (goodIn_of _ (by decide +kernel)) ggX6_nightOn_X6_cold
set_option maxRecDepth 20000 in
theorem ggX6_nightOn_X6_has : GoodIn wsX6_nightOn wsX6_has := goodIn_r _ [29] (by decide +kernel) (by decide +kernel)
set_option maxRecDepth 20000 in
theorem gX6_nightOn_X6_has : GoodIn wsX6_nightOn (va_wsS RX6 61 yX6_has wsX6_has) := goodIn_app (goodIn_of _ (by decide +kernel)) ggX6_nightOn_X6_has
theorem dX6_nightOn_0 : decode cX6_nightOn 0 = .ok (.lconst 0, 1) := by decide +kernel
theorem dX6_nightOn_1 : decode cX6_nightOn 1 = .ok (.lstore_n 1, 1) := by decide +kernel
theorem dX6_nightOn_2 : decode cX6_nightOn 2 = .ok (.aload_n 0, 1) := by decide +kernel
theorem dX6_nightOn_3 : decode cX6_nightOn 3 = .ok (.invokestatic 47, 3) := by decide +kernel
theorem dX6_nightOn_6 : decode cX6_nightOn 6 = .ok (.istore_n 3, 1) := by decide +kernel
theorem dX6_nightOn_7 : decode cX6_nightOn 7 = .ok (.iconst 0, 1) := by decide +kernel
theorem dX6_nightOn_8 : decode cX6_nightOn 8 = .ok (.istore 4, 2) := by decide +kernel
theorem dX6_nightOn_10 : decode cX6_nightOn 10 = .ok (.iload 4, 2) := by decide +kernel
theorem dX6_nightOn_12 : decode cX6_nightOn 12 = .ok (.iload_n 3, 1) := by decide +kernel
theorem dX6_nightOn_13 : decode cX6_nightOn 13 = .ok (.if_icmp .ge 108, 3) := by decide +kernel
theorem dX6_nightOn_16 : decode cX6_nightOn 16 = .ok (.aload_n 0, 1) := by decide +kernel
theorem dX6_nightOn_17 : decode cX6_nightOn 17 = .ok (.iload 4, 2) := by decide +kernel
theorem dX6_nightOn_19 : decode cX6_nightOn 19 = .ok (.invokestatic 89, 3) := by decide +kernel
theorem dX6_nightOn_22 : decode cX6_nightOn 22 = .ok (.iconst 2, 1) := by decide +kernel
theorem dX6_nightOn_23 : decode cX6_nightOn 23 = .ok (.irem, 1) := by decide +kernel
theorem dX6_nightOn_24 : decode cX6_nightOn 24 = .ok (.iconst 1, 1) := by decide +kernel
theorem dX6_nightOn_25 : decode cX6_nightOn 25 = .ok (.if_icmp .ne 7, 3) := by decide +kernel
theorem dX6_nightOn_28 : decode cX6_nightOn 28 = .ok (.iconst 1, 1) := by decide +kernel
theorem dX6_nightOn_29 : decode cX6_nightOn 29 = .ok (.goto 4, 3) := by decide +kernel
theorem dX6_nightOn_32 : decode cX6_nightOn 32 = .ok (.iconst 0, 1) := by decide +kernel
theorem dX6_nightOn_33 : decode cX6_nightOn 33 = .ok (.istore 5, 2) := by decide +kernel
theorem dX6_nightOn_35 : decode cX6_nightOn 35 = .ok (.aload_n 0, 1) := by decide +kernel
theorem dX6_nightOn_36 : decode cX6_nightOn 36 = .ok (.bipush 8, 2) := by decide +kernel
theorem dX6_nightOn_38 : decode cX6_nightOn 38 = .ok (.laload, 1) := by decide +kernel
theorem dX6_nightOn_39 : decode cX6_nightOn 39 = .ok (.iload 4, 2) := by decide +kernel
theorem dX6_nightOn_41 : decode cX6_nightOn 41 = .ok (.invokestatic 61, 3) := by decide +kernel
theorem dX6_nightOn_44 : decode cX6_nightOn 44 = .ok (.istore 6, 2) := by decide +kernel
theorem dX6_nightOn_46 : decode cX6_nightOn 46 = .ok (.aload_n 0, 1) := by decide +kernel
theorem dX6_nightOn_47 : decode cX6_nightOn 47 = .ok (.iconst 2, 1) := by decide +kernel
theorem dX6_nightOn_48 : decode cX6_nightOn 48 = .ok (.laload, 1) := by decide +kernel
theorem dX6_nightOn_49 : decode cX6_nightOn 49 = .ok (.lconst 0, 1) := by decide +kernel
theorem dX6_nightOn_50 : decode cX6_nightOn 50 = .ok (.lcmp, 1) := by decide +kernel
theorem dX6_nightOn_51 : decode cX6_nightOn 51 = .ok (.ifCond .ne 21, 3) := by decide +kernel
theorem dX6_nightOn_54 : decode cX6_nightOn 54 = .ok (.iload 6, 2) := by decide +kernel
theorem dX6_nightOn_56 : decode cX6_nightOn 56 = .ok (.ifCond .ne 8, 3) := by decide +kernel
theorem dX6_nightOn_59 : decode cX6_nightOn 59 = .ok (.iload 5, 2) := by decide +kernel
theorem dX6_nightOn_61 : decode cX6_nightOn 61 = .ok (.ifCond .eq 7, 3) := by decide +kernel
theorem dX6_nightOn_64 : decode cX6_nightOn 64 = .ok (.iconst 1, 1) := by decide +kernel
theorem dX6_nightOn_65 : decode cX6_nightOn 65 = .ok (.goto 32, 3) := by decide +kernel
theorem dX6_nightOn_68 : decode cX6_nightOn 68 = .ok (.iconst 0, 1) := by decide +kernel
theorem dX6_nightOn_69 : decode cX6_nightOn 69 = .ok (.goto 28, 3) := by decide +kernel
theorem dX6_nightOn_72 : decode cX6_nightOn 72 = .ok (.aload_n 0, 1) := by decide +kernel
theorem dX6_nightOn_73 : decode cX6_nightOn 73 = .ok (.iconst 2, 1) := by decide +kernel
theorem dX6_nightOn_74 : decode cX6_nightOn 74 = .ok (.laload, 1) := by decide +kernel
theorem dX6_nightOn_75 : decode cX6_nightOn 75 = .ok (.lconst 1, 1) := by decide +kernel
theorem dX6_nightOn_76 : decode cX6_nightOn 76 = .ok (.lcmp, 1) := by decide +kernel
theorem dX6_nightOn_77 : decode cX6_nightOn 77 = .ok (.ifCond .ne 8, 3) := by decide +kernel
theorem dX6_nightOn_80 : decode cX6_nightOn 80 = .ok (.iload 5, 2) := by decide +kernel
theorem dX6_nightOn_82 : decode cX6_nightOn 82 = .ok (.goto 15, 3) := by decide +kernel
theorem dX6_nightOn_85 : decode cX6_nightOn 85 = .ok (.iload 6, 2) := by decide +kernel
theorem dX6_nightOn_87 : decode cX6_nightOn 87 = .ok (.iload 5, 2) := by decide +kernel
theorem dX6_nightOn_89 : decode cX6_nightOn 89 = .ok (.if_icmp .eq 7, 3) := by decide +kernel
theorem dX6_nightOn_92 : decode cX6_nightOn 92 = .ok (.iconst 1, 1) := by decide +kernel
theorem dX6_nightOn_93 : decode cX6_nightOn 93 = .ok (.goto 4, 3) := by decide +kernel
theorem dX6_nightOn_96 : decode cX6_nightOn 96 = .ok (.iconst 0, 1) := by decide +kernel
theorem dX6_nightOn_97 : decode cX6_nightOn 97 = .ok (.istore 7, 2) := by decide +kernel
theorem dX6_nightOn_99 : decode cX6_nightOn 99 = .ok (.lload_n 1, 1) := by decide +kernel
theorem dX6_nightOn_100 : decode cX6_nightOn 100 = .ok (.iload 7, 2) := by decide +kernel
theorem dX6_nightOn_102 : decode cX6_nightOn 102 = .ok (.ifCond .eq 10, 3) := by decide +kernel
theorem dX6_nightOn_105 : decode cX6_nightOn 105 = .ok (.lconst 1, 1) := by decide +kernel
theorem dX6_nightOn_106 : decode cX6_nightOn 106 = .ok (.iload 4, 2) := by decide +kernel
theorem dX6_nightOn_108 : decode cX6_nightOn 108 = .ok (.lshl, 1) := by decide +kernel
theorem dX6_nightOn_109 : decode cX6_nightOn 109 = .ok (.goto 4, 3) := by decide +kernel
theorem dX6_nightOn_112 : decode cX6_nightOn 112 = .ok (.lconst 0, 1) := by decide +kernel
theorem dX6_nightOn_113 : decode cX6_nightOn 113 = .ok (.lor, 1) := by decide +kernel
theorem dX6_nightOn_114 : decode cX6_nightOn 114 = .ok (.lstore_n 1, 1) := by decide +kernel
theorem dX6_nightOn_115 : decode cX6_nightOn 115 = .ok (.iinc 4 1, 3) := by decide +kernel
theorem dX6_nightOn_118 : decode cX6_nightOn 118 = .ok (.goto (-108), 3) := by decide +kernel
theorem dX6_nightOn_121 : decode cX6_nightOn 121 = .ok (.aload_n 0, 1) := by decide +kernel
theorem dX6_nightOn_122 : decode cX6_nightOn 122 = .ok (.bipush 8, 2) := by decide +kernel
theorem dX6_nightOn_124 : decode cX6_nightOn 124 = .ok (.lload_n 1, 1) := by decide +kernel
theorem dX6_nightOn_125 : decode cX6_nightOn 125 = .ok (.lastore, 1) := by decide +kernel
theorem dX6_nightOn_126 : decode cX6_nightOn 126 = .ok (.return_, 1) := by decide +kernel
set_option maxRecDepth 20000 in
theorem ggX6_nightsOn_X6_nightOn : GoodIn wsX6_nightsOn wsX6_nightOn := goodIn_r _ [4, 5, 6, 3, 7, 8, 9, 10, 11, 12, 13, 14, 15, 16, 17, 18, 19, 20, 21, 22, 23, 24, 25, 26, 27, 28, 29, 30, 31, 32, 33, 34, 35] (by decide +kernel) (by decide +kernel)
set_option maxRecDepth 20000 in
theorem gX6_nightsOn_X6_nightOn : GoodIn wsX6_nightsOn (va_wsS RX6 93 yX6_nightOn wsX6_nightOn) := goodIn_app (goodIn_of _ (by decide +kernel)) ggX6_nightsOn_X6_nightOn
set_option maxRecDepth 20000 in
theorem ggX6_nightsOn_X6_bits : GoodIn wsX6_nightsOn wsX6_bits := goodIn_r _ [38, 30, 31, 3, 32] (by decide +kernel) (by decide +kernel)
set_option maxRecDepth 20000 in
theorem gX6_nightsOn_X6_bits : GoodIn wsX6_nightsOn (va_wsS RX6 97 yX6_bits wsX6_bits) := goodIn_app (goodIn_of _ (by decide +kernel)) ggX6_nightsOn_X6_bits
theorem dX6_nightsOn_0 : decode cX6_nightsOn 0 = .ok (.iconst 0, 1) := by decide +kernel
theorem dX6_nightsOn_1 : decode cX6_nightsOn 1 = .ok (.istore_n 2, 1) := by decide +kernel
theorem dX6_nightsOn_2 : decode cX6_nightsOn 2 = .ok (.iload_n 2, 1) := by decide +kernel
theorem dX6_nightsOn_3 : decode cX6_nightsOn 3 = .ok (.iload_n 1, 1) := by decide +kernel
theorem dX6_nightsOn_4 : decode cX6_nightsOn 4 = .ok (.if_icmp .ge 13, 3) := by decide +kernel
theorem dX6_nightsOn_7 : decode cX6_nightsOn 7 = .ok (.aload_n 0, 1) := by decide +kernel
theorem dX6_nightsOn_8 : decode cX6_nightsOn 8 = .ok (.invokestatic 93, 3) := by decide +kernel
theorem dX6_nightsOn_11 : decode cX6_nightsOn 11 = .ok (.iinc 2 1, 3) := by decide +kernel
theorem dX6_nightsOn_14 : decode cX6_nightsOn 14 = .ok (.goto (-12), 3) := by decide +kernel
theorem dX6_nightsOn_17 : decode cX6_nightsOn 17 = .ok (.aload_n 0, 1) := by decide +kernel
theorem dX6_nightsOn_18 : decode cX6_nightsOn 18 = .ok (.iconst 3, 1) := by decide +kernel
theorem dX6_nightsOn_19 : decode cX6_nightsOn 19 = .ok (.dup2, 1) := by decide +kernel
theorem dX6_nightsOn_20 : decode cX6_nightsOn 20 = .ok (.laload, 1) := by decide +kernel
theorem dX6_nightsOn_21 : decode cX6_nightsOn 21 = .ok (.iload_n 1, 1) := by decide +kernel
theorem dX6_nightsOn_22 : decode cX6_nightsOn 22 = .ok (.i2l, 1) := by decide +kernel
theorem dX6_nightsOn_23 : decode cX6_nightsOn 23 = .ok (.ladd, 1) := by decide +kernel
theorem dX6_nightsOn_24 : decode cX6_nightsOn 24 = .ok (.lastore, 1) := by decide +kernel
theorem dX6_nightsOn_25 : decode cX6_nightsOn 25 = .ok (.aload_n 0, 1) := by decide +kernel
theorem dX6_nightsOn_26 : decode cX6_nightsOn 26 = .ok (.bipush 8, 2) := by decide +kernel
theorem dX6_nightsOn_28 : decode cX6_nightsOn 28 = .ok (.laload, 1) := by decide +kernel
theorem dX6_nightsOn_29 : decode cX6_nightsOn 29 = .ok (.invokestatic 97, 3) := by decide +kernel
theorem dX6_nightsOn_32 : decode cX6_nightsOn 32 = .ok (.ireturn, 1) := by decide +kernel
set_option maxRecDepth 20000 in
theorem ggX6_grown_X6_many : GoodIn wsX6_grown wsX6_many := goodIn_r _ [4] (by decide +kernel) (by decide +kernel)
set_option maxRecDepth 20000 in
theorem gX6_grown_X6_many : GoodIn wsX6_grown (va_wsS RX6 47 yX6_many wsX6_many) := goodIn_app (goodIn_of _ (by decide +kernel)) ggX6_grown_X6_many
set_option maxRecDepth 20000 in
theorem ggX6_grown_X6_has : GoodIn wsX6_grown wsX6_has := goodIn_r _ [7] (by decide +kernel) (by decide +kernel)
set_option maxRecDepth 20000 in
theorem gX6_grown_X6_has : GoodIn wsX6_grown (va_wsS RX6 61 yX6_has wsX6_has) := goodIn_app (goodIn_of _ (by decide +kernel)) ggX6_grown_X6_has
set_option maxRecDepth 20000 in
theorem ggX6_grown_X6_next : GoodIn wsX6_grown wsX6_next := goodIn_r _ [10, 11, 12, 3, 13, 14, 15, 16, 17, 18, 19, 20, 1, 2, 4, 21, 22, 23, 24, 25, 26, 5, 6, 7] (by decide +kernel) (by decide +kernel)
set_option maxRecDepth 20000 in
theorem gX6_grown_X6_next : GoodIn wsX6_grown (va_wsS RX6 83 yX6_next wsX6_next) := goodIn_app (goodIn_of _ (by decide +kernel)) ggX6_grown_X6_next
theorem dX6_grown_0 : decode cX6_grown 0 = .ok (.lload_n 1, 1) := by decide +kernel
theorem dX6_grown_1 : decode cX6_grown 1 = .ok (.lstore 5, 2) := by decide +kernel
theorem dX6_grown_3 : decode cX6_grown 3 = .ok (.aload_n 0, 1) := by decide +kernel
theorem dX6_grown_4 : decode cX6_grown 4 = .ok (.invokestatic 47, 3) := by decide +kernel
theorem dX6_grown_7 : decode cX6_grown 7 = .ok (.istore 7, 2) := by decide +kernel
theorem dX6_grown_9 : decode cX6_grown 9 = .ok (.iconst 0, 1) := by decide +kernel
theorem dX6_grown_10 : decode cX6_grown 10 = .ok (.istore 8, 2) := by decide +kernel
theorem dX6_grown_12 : decode cX6_grown 12 = .ok (.iload 8, 2) := by decide +kernel
theorem dX6_grown_14 : decode cX6_grown 14 = .ok (.iload 7, 2) := by decide +kernel
theorem dX6_grown_16 : decode cX6_grown 16 = .ok (.if_icmp .ge 71, 3) := by decide +kernel
theorem dX6_grown_19 : decode cX6_grown 19 = .ok (.iconst 0, 1) := by decide +kernel
theorem dX6_grown_20 : decode cX6_grown 20 = .ok (.istore 9, 2) := by decide +kernel
theorem dX6_grown_22 : decode cX6_grown 22 = .ok (.iload 9, 2) := by decide +kernel
theorem dX6_grown_24 : decode cX6_grown 24 = .ok (.iconst 4, 1) := by decide +kernel
theorem dX6_grown_25 : decode cX6_grown 25 = .ok (.if_icmp .ge 56, 3) := by decide +kernel
theorem dX6_grown_28 : decode cX6_grown 28 = .ok (.lload_n 1, 1) := by decide +kernel
theorem dX6_grown_29 : decode cX6_grown 29 = .ok (.iload 8, 2) := by decide +kernel
theorem dX6_grown_31 : decode cX6_grown 31 = .ok (.invokestatic 61, 3) := by decide +kernel
theorem dX6_grown_34 : decode cX6_grown 34 = .ok (.ifCond .eq 47, 3) := by decide +kernel
theorem dX6_grown_37 : decode cX6_grown 37 = .ok (.aload_n 0, 1) := by decide +kernel
theorem dX6_grown_38 : decode cX6_grown 38 = .ok (.iload 8, 2) := by decide +kernel
theorem dX6_grown_40 : decode cX6_grown 40 = .ok (.iload 9, 2) := by decide +kernel
theorem dX6_grown_42 : decode cX6_grown 42 = .ok (.invokestatic 83, 3) := by decide +kernel
theorem dX6_grown_45 : decode cX6_grown 45 = .ok (.istore 10, 2) := by decide +kernel
theorem dX6_grown_47 : decode cX6_grown 47 = .ok (.lload 5, 2) := by decide +kernel
theorem dX6_grown_49 : decode cX6_grown 49 = .ok (.iload 10, 2) := by decide +kernel
theorem dX6_grown_51 : decode cX6_grown 51 = .ok (.iconst (-1), 1) := by decide +kernel
theorem dX6_grown_52 : decode cX6_grown 52 = .ok (.if_icmp .eq 19, 3) := by decide +kernel
theorem dX6_grown_55 : decode cX6_grown 55 = .ok (.lload_n 3, 1) := by decide +kernel
theorem dX6_grown_56 : decode cX6_grown 56 = .ok (.iload 10, 2) := by decide +kernel
theorem dX6_grown_58 : decode cX6_grown 58 = .ok (.invokestatic 61, 3) := by decide +kernel
theorem dX6_grown_61 : decode cX6_grown 61 = .ok (.ifCond .eq 10, 3) := by decide +kernel
theorem dX6_grown_64 : decode cX6_grown 64 = .ok (.lconst 1, 1) := by decide +kernel
theorem dX6_grown_65 : decode cX6_grown 65 = .ok (.iload 10, 2) := by decide +kernel
theorem dX6_grown_67 : decode cX6_grown 67 = .ok (.lshl, 1) := by decide +kernel
theorem dX6_grown_68 : decode cX6_grown 68 = .ok (.goto 4, 3) := by decide +kernel
theorem dX6_grown_71 : decode cX6_grown 71 = .ok (.lconst 0, 1) := by decide +kernel
theorem dX6_grown_72 : decode cX6_grown 72 = .ok (.lor, 1) := by decide +kernel
theorem dX6_grown_73 : decode cX6_grown 73 = .ok (.lstore 5, 2) := by decide +kernel
theorem dX6_grown_75 : decode cX6_grown 75 = .ok (.iinc 9 1, 3) := by decide +kernel
theorem dX6_grown_78 : decode cX6_grown 78 = .ok (.goto (-56), 3) := by decide +kernel
theorem dX6_grown_81 : decode cX6_grown 81 = .ok (.iinc 8 1, 3) := by decide +kernel
theorem dX6_grown_84 : decode cX6_grown 84 = .ok (.goto (-72), 3) := by decide +kernel
theorem dX6_grown_87 : decode cX6_grown 87 = .ok (.lload 5, 2) := by decide +kernel
theorem dX6_grown_89 : decode cX6_grown 89 = .ok (.lreturn, 1) := by decide +kernel
set_option maxRecDepth 20000 in
theorem ggX6_patchOf_X6_grown : GoodIn wsX6_patchOf wsX6_grown := goodIn_r _ [4, 5, 6, 3, 7, 8, 9, 10, 11, 12, 13, 14, 15, 16, 17, 18, 19, 20, 21, 22, 23, 24, 25, 26, 27, 28, 29] (by decide +kernel) (by decide +kernel)
set_option maxRecDepth 20000 in
theorem gX6_patchOf_X6_grown : GoodIn wsX6_patchOf (va_wsS RX6 101 yX6_grown wsX6_grown) := goodIn_app (goodIn_of _ (by decide +kernel)) ggX6_patchOf_X6_grown
theorem dX6_patchOf_0 : decode cX6_patchOf 0 = .ok (.lconst 0, 1) := by decide +kernel
theorem dX6_patchOf_1 : decode cX6_patchOf 1 = .ok (.lstore_n 2, 1) := by decide +kernel
theorem dX6_patchOf_2 : decode cX6_patchOf 2 = .ok (.lconst 1, 1) := by decide +kernel
theorem dX6_patchOf_3 : decode cX6_patchOf 3 = .ok (.iload_n 1, 1) := by decide +kernel
theorem dX6_patchOf_4 : decode cX6_patchOf 4 = .ok (.lshl, 1) := by decide +kernel
theorem dX6_patchOf_5 : decode cX6_patchOf 5 = .ok (.lstore 4, 2) := by decide +kernel
theorem dX6_patchOf_7 : decode cX6_patchOf 7 = .ok (.lload 4, 2) := by decide +kernel
theorem dX6_patchOf_9 : decode cX6_patchOf 9 = .ok (.lload_n 2, 1) := by decide +kernel
theorem dX6_patchOf_10 : decode cX6_patchOf 10 = .ok (.lcmp, 1) := by decide +kernel
theorem dX6_patchOf_11 : decode cX6_patchOf 11 = .ok (.ifCond .eq 20, 3) := by decide +kernel
theorem dX6_patchOf_14 : decode cX6_patchOf 14 = .ok (.lload 4, 2) := by decide +kernel
theorem dX6_patchOf_16 : decode cX6_patchOf 16 = .ok (.lstore_n 2, 1) := by decide +kernel
theorem dX6_patchOf_17 : decode cX6_patchOf 17 = .ok (.aload_n 0, 1) := by decide +kernel
theorem dX6_patchOf_18 : decode cX6_patchOf 18 = .ok (.lload_n 2, 1) := by decide +kernel
theorem dX6_patchOf_19 : decode cX6_patchOf 19 = .ok (.aload_n 0, 1) := by decide +kernel
theorem dX6_patchOf_20 : decode cX6_patchOf 20 = .ok (.bipush 8, 2) := by decide +kernel
theorem dX6_patchOf_22 : decode cX6_patchOf 22 = .ok (.laload, 1) := by decide +kernel
theorem dX6_patchOf_23 : decode cX6_patchOf 23 = .ok (.invokestatic 101, 3) := by decide +kernel
theorem dX6_patchOf_26 : decode cX6_patchOf 26 = .ok (.lstore 4, 2) := by decide +kernel
theorem dX6_patchOf_28 : decode cX6_patchOf 28 = .ok (.goto (-21), 3) := by decide +kernel
theorem dX6_patchOf_31 : decode cX6_patchOf 31 = .ok (.lload_n 2, 1) := by decide +kernel
theorem dX6_patchOf_32 : decode cX6_patchOf 32 = .ok (.lreturn, 1) := by decide +kernel
set_option maxRecDepth 20000 in
theorem ggX6_patches_X6_has : GoodIn wsX6_patches wsX6_has := goodIn_r _ [5] (by decide +kernel) (by decide +kernel)
set_option maxRecDepth 20000 in
theorem gX6_patches_X6_has : GoodIn wsX6_patches (va_wsS RX6 61 yX6_has wsX6_has) := goodIn_app (goodIn_of _ (by decide +kernel)) ggX6_patches_X6_has
set_option maxRecDepth 20000 in
theorem ggX6_patches_X6_patchOf : GoodIn wsX6_patches wsX6_patchOf := goodIn_r _ [8, 9, 10, 4, 11, 12, 13, 14, 2, 3, 5, 15, 16, 17, 18, 19, 20, 21, 22, 23, 24, 25, 26, 27, 28, 29, 30, 31, 32, 33] (by decide +kernel) (by decide +kernel)
set_option maxRecDepth 20000 in
theorem gX6_patches_X6_patchOf : GoodIn wsX6_patches (va_wsS RX6 105 yX6_patchOf wsX6_patchOf) := goodIn_app (goodIn_of _ (by decide +kernel)) ggX6_patches_X6_patchOf
theorem dX6_patches_0 : decode cX6_patches 0 = .ok (.iconst 0, 1) := by decide +kernel
theorem dX6_patches_1 : decode cX6_patches 1 = .ok (.istore_n 1, 1) := by decide +kernel
theorem dX6_patches_2 : decode cX6_patches 2 = .ok (.aload_n 0, 1) := by decide +kernel
theorem dX6_patches_3 : decode cX6_patches 3 = .ok (.bipush 8, 2) := by decide +kernel
theorem dX6_patches_5 : decode cX6_patches 5 = .ok (.laload, 1) := by decide +kernel
theorem dX6_patches_6 : decode cX6_patches 6 = .ok (.lstore_n 2, 1) := by decide +kernel
theorem dX6_patches_7 : decode cX6_patches 7 = .ok (.iconst 0, 1) := by decide +kernel
theorem dX6_patches_8 : decode cX6_patches 8 = .ok (.istore 4, 2) := by decide +kernel
theorem dX6_patches_10 : decode cX6_patches 10 = .ok (.iload 4, 2) := by decide +kernel
theorem dX6_patches_12 : decode cX6_patches 12 = .ok (.bipush 64, 2) := by decide +kernel
theorem dX6_patches_14 : decode cX6_patches 14 = .ok (.if_icmp .ge 34, 3) := by decide +kernel
theorem dX6_patches_17 : decode cX6_patches 17 = .ok (.lload_n 2, 1) := by decide +kernel
theorem dX6_patches_18 : decode cX6_patches 18 = .ok (.iload 4, 2) := by decide +kernel
theorem dX6_patches_20 : decode cX6_patches 20 = .ok (.invokestatic 61, 3) := by decide +kernel
theorem dX6_patches_23 : decode cX6_patches 23 = .ok (.ifCond .eq 19, 3) := by decide +kernel
theorem dX6_patches_26 : decode cX6_patches 26 = .ok (.lload_n 2, 1) := by decide +kernel
theorem dX6_patches_27 : decode cX6_patches 27 = .ok (.aload_n 0, 1) := by decide +kernel
theorem dX6_patches_28 : decode cX6_patches 28 = .ok (.iload 4, 2) := by decide +kernel
theorem dX6_patches_30 : decode cX6_patches 30 = .ok (.invokestatic 105, 3) := by decide +kernel
theorem dX6_patches_33 : decode cX6_patches 33 = .ok (.ldc2_w 109, 3) := by decide +kernel
theorem dX6_patches_36 : decode cX6_patches 36 = .ok (.lxor, 1) := by decide +kernel
theorem dX6_patches_37 : decode cX6_patches 37 = .ok (.land, 1) := by decide +kernel
theorem dX6_patches_38 : decode cX6_patches 38 = .ok (.lstore_n 2, 1) := by decide +kernel
theorem dX6_patches_39 : decode cX6_patches 39 = .ok (.iinc 1 1, 3) := by decide +kernel
theorem dX6_patches_42 : decode cX6_patches 42 = .ok (.iinc 4 1, 3) := by decide +kernel
theorem dX6_patches_45 : decode cX6_patches 45 = .ok (.goto (-35), 3) := by decide +kernel
theorem dX6_patches_48 : decode cX6_patches 48 = .ok (.iload_n 1, 1) := by decide +kernel
theorem dX6_patches_49 : decode cX6_patches 49 = .ok (.ireturn, 1) := by decide +kernel
set_option maxRecDepth 20000 in
theorem ggX6_largest_X6_has : GoodIn wsX6_largest wsX6_has := goodIn_r _ [5] (by decide +kernel) (by decide +kernel)
set_option maxRecDepth 20000 in
theorem gX6_largest_X6_has : GoodIn wsX6_largest (va_wsS RX6 61 yX6_has wsX6_has) := goodIn_app (goodIn_of _ (by decide +kernel)) ggX6_largest_X6_has
set_option maxRecDepth 20000 in
theorem ggX6_largest_X6_patchOf : GoodIn wsX6_largest wsX6_patchOf := goodIn_r _ [8, 9, 10, 4, 11, 12, 13, 14, 2, 3, 5, 15, 16, 17, 18, 19, 20, 21, 22, 23, 24, 25, 26, 27, 28, 29, 30, 31, 32, 33] (by decide +kernel) (by decide +kernel)
set_option maxRecDepth 20000 in
theorem gX6_largest_X6_patchOf : GoodIn wsX6_largest (va_wsS RX6 105 yX6_patchOf wsX6_patchOf) := goodIn_app (goodIn_of _ (by decide +kernel)) ggX6_largest_X6_patchOf
set_option maxRecDepth 20000 in
theorem ggX6_largest_X6_bits : GoodIn wsX6_largest wsX6_bits := goodIn_r _ [36, 2, 3, 4, 5] (by decide +kernel) (by decide +kernel)
set_option maxRecDepth 20000 in
theorem gX6_largest_X6_bits : GoodIn wsX6_largest (va_wsS RX6 97 yX6_bits wsX6_bits) := goodIn_app (goodIn_of _ (by decide +kernel)) ggX6_largest_X6_bits
theorem dX6_largest_0 : decode cX6_largest 0 = .ok (.iconst 0, 1) := by decide +kernel
theorem dX6_largest_1 : decode cX6_largest 1 = .ok (.istore_n 1, 1) := by decide +kernel
theorem dX6_largest_2 : decode cX6_largest 2 = .ok (.aload_n 0, 1) := by decide +kernel
theorem dX6_largest_3 : decode cX6_largest 3 = .ok (.bipush 8, 2) := by decide +kernel
theorem dX6_largest_5 : decode cX6_largest 5 = .ok (.laload, 1) := by decide +kernel
theorem dX6_largest_6 : decode cX6_largest 6 = .ok (.lstore_n 2, 1) := by decide +kernel
theorem dX6_largest_7 : decode cX6_largest 7 = .ok (.iconst 0, 1) := by decide +kernel
theorem dX6_largest_8 : decode cX6_largest 8 = .ok (.istore 4, 2) := by decide +kernel
theorem dX6_largest_10 : decode cX6_largest 10 = .ok (.iload 4, 2) := by decide +kernel
theorem dX6_largest_12 : decode cX6_largest 12 = .ok (.bipush 64, 2) := by decide +kernel
theorem dX6_largest_14 : decode cX6_largest 14 = .ok (.if_icmp .ge 55, 3) := by decide +kernel
theorem dX6_largest_17 : decode cX6_largest 17 = .ok (.lload_n 2, 1) := by decide +kernel
theorem dX6_largest_18 : decode cX6_largest 18 = .ok (.iload 4, 2) := by decide +kernel
theorem dX6_largest_20 : decode cX6_largest 20 = .ok (.invokestatic 61, 3) := by decide +kernel
theorem dX6_largest_23 : decode cX6_largest 23 = .ok (.ifCond .eq 40, 3) := by decide +kernel
theorem dX6_largest_26 : decode cX6_largest 26 = .ok (.aload_n 0, 1) := by decide +kernel
theorem dX6_largest_27 : decode cX6_largest 27 = .ok (.iload 4, 2) := by decide +kernel
theorem dX6_largest_29 : decode cX6_largest 29 = .ok (.invokestatic 105, 3) := by decide +kernel
theorem dX6_largest_32 : decode cX6_largest 32 = .ok (.lstore 5, 2) := by decide +kernel
theorem dX6_largest_34 : decode cX6_largest 34 = .ok (.lload_n 2, 1) := by decide +kernel
theorem dX6_largest_35 : decode cX6_largest 35 = .ok (.lload 5, 2) := by decide +kernel
theorem dX6_largest_37 : decode cX6_largest 37 = .ok (.ldc2_w 109, 3) := by decide +kernel
theorem dX6_largest_40 : decode cX6_largest 40 = .ok (.lxor, 1) := by decide +kernel
theorem dX6_largest_41 : decode cX6_largest 41 = .ok (.land, 1) := by decide +kernel
theorem dX6_largest_42 : decode cX6_largest 42 = .ok (.lstore_n 2, 1) := by decide +kernel
theorem dX6_largest_43 : decode cX6_largest 43 = .ok (.lload 5, 2) := by decide +kernel
theorem dX6_largest_45 : decode cX6_largest 45 = .ok (.invokestatic 97, 3) := by decide +kernel
theorem dX6_largest_48 : decode cX6_largest 48 = .ok (.istore 7, 2) := by decide +kernel
theorem dX6_largest_50 : decode cX6_largest 50 = .ok (.iload 7, 2) := by decide +kernel
theorem dX6_largest_52 : decode cX6_largest 52 = .ok (.iload_n 1, 1) := by decide +kernel
theorem dX6_largest_53 : decode cX6_largest 53 = .ok (.if_icmp .le 8, 3) := by decide +kernel
theorem dX6_largest_56 : decode cX6_largest 56 = .ok (.iload 7, 2) := by decide +kernel
theorem dX6_largest_58 : decode cX6_largest 58 = .ok (.goto 4, 3) := by decide +kernel
theorem dX6_largest_61 : decode cX6_largest 61 = .ok (.iload_n 1, 1) := by decide +kernel
theorem dX6_largest_62 : decode cX6_largest 62 = .ok (.istore_n 1, 1) := by decide +kernel
theorem dX6_largest_63 : decode cX6_largest 63 = .ok (.iinc 4 1, 3) := by decide +kernel
theorem dX6_largest_66 : decode cX6_largest 66 = .ok (.goto (-56), 3) := by decide +kernel
theorem dX6_largest_69 : decode cX6_largest 69 = .ok (.iload_n 1, 1) := by decide +kernel
theorem dX6_largest_70 : decode cX6_largest 70 = .ok (.ireturn, 1) := by decide +kernel
set_option maxRecDepth 20000 in
theorem ggX6_flipOn_X6_has : GoodIn wsX6_flipOn wsX6_has := goodIn_r _ [4] (by decide +kernel) (by decide +kernel)
set_option maxRecDepth 20000 in
theorem gX6_flipOn_X6_has : GoodIn wsX6_flipOn (va_wsS RX6 61 yX6_has wsX6_has) := goodIn_app (goodIn_of _ (by decide +kernel)) ggX6_flipOn_X6_has
theorem dX6_flipOn_0 : decode cX6_flipOn 0 = .ok (.aload_n 0, 1) := by decide +kernel
theorem dX6_flipOn_1 : decode cX6_flipOn 1 = .ok (.bipush 8, 2) := by decide +kernel
theorem dX6_flipOn_3 : decode cX6_flipOn 3 = .ok (.dup2, 1) := by decide +kernel
theorem dX6_flipOn_4 : decode cX6_flipOn 4 = .ok (.laload, 1) := by decide +kernel
theorem dX6_flipOn_5 : decode cX6_flipOn 5 = .ok (.lconst 1, 1) := by decide +kernel
theorem dX6_flipOn_6 : decode cX6_flipOn 6 = .ok (.iload_n 1, 1) := by decide +kernel
theorem dX6_flipOn_7 : decode cX6_flipOn 7 = .ok (.lshl, 1) := by decide +kernel
theorem dX6_flipOn_8 : decode cX6_flipOn 8 = .ok (.lxor, 1) := by decide +kernel
theorem dX6_flipOn_9 : decode cX6_flipOn 9 = .ok (.lastore, 1) := by decide +kernel
theorem dX6_flipOn_10 : decode cX6_flipOn 10 = .ok (.aload_n 0, 1) := by decide +kernel
theorem dX6_flipOn_11 : decode cX6_flipOn 11 = .ok (.bipush 8, 2) := by decide +kernel
theorem dX6_flipOn_13 : decode cX6_flipOn 13 = .ok (.laload, 1) := by decide +kernel
theorem dX6_flipOn_14 : decode cX6_flipOn 14 = .ok (.iload_n 1, 1) := by decide +kernel
theorem dX6_flipOn_15 : decode cX6_flipOn 15 = .ok (.invokestatic 61, 3) := by decide +kernel
theorem dX6_flipOn_18 : decode cX6_flipOn 18 = .ok (.ifCond .eq 7, 3) := by decide +kernel
theorem dX6_flipOn_21 : decode cX6_flipOn 21 = .ok (.iconst 1, 1) := by decide +kernel
theorem dX6_flipOn_22 : decode cX6_flipOn 22 = .ok (.goto 4, 3) := by decide +kernel
theorem dX6_flipOn_25 : decode cX6_flipOn 25 = .ok (.iconst 0, 1) := by decide +kernel
theorem dX6_flipOn_26 : decode cX6_flipOn 26 = .ok (.ireturn, 1) := by decide +kernel
set_option maxRecDepth 20000 in
theorem ggX6_canScratch_X6_isCell : GoodIn wsX6_canScratch wsX6_isCell := goodIn_r _ [4, 5, 6, 3, 7, 8, 9, 10] (by decide +kernel) (by decide +kernel)
set_option maxRecDepth 20000 in
theorem gX6_canScratch_X6_isCell : GoodIn wsX6_canScratch (va_wsS RX6 111 yX6_isCell wsX6_isCell) := goodIn_app (goodIn_of _ (by decide +kernel)) ggX6_canScratch_X6_isCell
set_option maxRecDepth 20000 in
theorem ggX6_canScratch_X6_isDirection : GoodIn wsX6_canScratch wsX6_isDirection := goodIn_r _ [13, 14, 8, 9, 3, 10] (by decide +kernel) (by decide +kernel)
set_option maxRecDepth 20000 in
theorem gX6_canScratch_X6_isDirection : GoodIn wsX6_canScratch (va_wsS RX6 115 yX6_isDirection wsX6_isDirection) := goodIn_app (goodIn_of _ (by decide +kernel)) ggX6_canScratch_X6_isDirection
set_option maxRecDepth 20000 in
theorem ggX6_canScratch_X6_neighbourOf : GoodIn wsX6_canScratch wsX6_neighbourOf := goodIn_r _ [17, 18, 19, 20, 3, 21, 5, 6, 7] (by decide +kernel) (by decide +kernel)
set_option maxRecDepth 20000 in
theorem gX6_canScratch_X6_neighbourOf : GoodIn wsX6_canScratch (va_wsS RX6 69 yX6_neighbourOf wsX6_neighbourOf) := goodIn_app (goodIn_of _ (by decide +kernel)) ggX6_canScratch_X6_neighbourOf
theorem dX6_canScratch_0 : decode cX6_canScratch 0 = .ok (.aload_n 0, 1) := by decide +kernel
theorem dX6_canScratch_1 : decode cX6_canScratch 1 = .ok (.iload_n 1, 1) := by decide +kernel
theorem dX6_canScratch_2 : decode cX6_canScratch 2 = .ok (.invokestatic 111, 3) := by decide +kernel
theorem dX6_canScratch_5 : decode cX6_canScratch 5 = .ok (.ifCond .eq 24, 3) := by decide +kernel
theorem dX6_canScratch_8 : decode cX6_canScratch 8 = .ok (.iload_n 2, 1) := by decide +kernel
theorem dX6_canScratch_9 : decode cX6_canScratch 9 = .ok (.invokestatic 115, 3) := by decide +kernel
theorem dX6_canScratch_12 : decode cX6_canScratch 12 = .ok (.ifCond .eq 17, 3) := by decide +kernel
theorem dX6_canScratch_15 : decode cX6_canScratch 15 = .ok (.aload_n 0, 1) := by decide +kernel
theorem dX6_canScratch_16 : decode cX6_canScratch 16 = .ok (.iload_n 1, 1) := by decide +kernel
theorem dX6_canScratch_17 : decode cX6_canScratch 17 = .ok (.iload_n 2, 1) := by decide +kernel
theorem dX6_canScratch_18 : decode cX6_canScratch 18 = .ok (.invokestatic 69, 3) := by decide +kernel
theorem dX6_canScratch_21 : decode cX6_canScratch 21 = .ok (.iconst (-1), 1) := by decide +kernel
theorem dX6_canScratch_22 : decode cX6_canScratch 22 = .ok (.if_icmp .eq 7, 3) := by decide +kernel
theorem dX6_canScratch_25 : decode cX6_canScratch 25 = .ok (.iconst 1, 1) := by decide +kernel
theorem dX6_canScratch_26 : decode cX6_canScratch 26 = .ok (.goto 4, 3) := by decide +kernel
theorem dX6_canScratch_29 : decode cX6_canScratch 29 = .ok (.iconst 0, 1) := by decide +kernel
theorem dX6_canScratch_30 : decode cX6_canScratch 30 = .ok (.ireturn, 1) := by decide +kernel
set_option maxRecDepth 20000 in
theorem ggX6_scratchOn_X6_kindOf : GoodIn wsX6_scratchOn wsX6_kindOf := goodIn_r _ [4] (by decide +kernel) (by decide +kernel)
set_option maxRecDepth 20000 in
theorem gX6_scratchOn_X6_kindOf : GoodIn wsX6_scratchOn (va_wsS RX6 73 yX6_kindOf wsX6_kindOf) := goodIn_app (goodIn_of _ (by decide +kernel)) ggX6_scratchOn_X6_kindOf
set_option maxRecDepth 20000 in
theorem ggX6_scratchOn_X6_ownerOf : GoodIn wsX6_scratchOn wsX6_ownerOf := goodIn_r _ [7, 8, 9, 3, 10, 11, 12, 13, 14, 15, 16, 17] (by decide +kernel) (by decide +kernel)
set_option maxRecDepth 20000 in
theorem gX6_scratchOn_X6_ownerOf : GoodIn wsX6_scratchOn (va_wsS RX6 77 yX6_ownerOf wsX6_ownerOf) := goodIn_app (goodIn_of _ (by decide +kernel)) ggX6_scratchOn_X6_ownerOf
set_option maxRecDepth 20000 in
theorem ggX6_scratchOn_X6_isScratched : GoodIn wsX6_scratchOn wsX6_isScratched := goodIn_r _ [20, 8, 9, 3, 10, 11, 12, 13, 14, 15, 16, 17, 1, 2, 4, 5, 6, 7, 21, 22, 23] (by decide +kernel) (by decide +kernel)
set_option maxRecDepth 20000 in
theorem gX6_scratchOn_X6_isScratched : GoodIn wsX6_scratchOn (va_wsS RX6 80 yX6_isScratched wsX6_isScratched) := goodIn_app (goodIn_of _ (by decide +kernel)) ggX6_scratchOn_X6_isScratched
theorem dX6_scratchOn_0 : decode cX6_scratchOn 0 = .ok (.aload_n 0, 1) := by decide +kernel
theorem dX6_scratchOn_1 : decode cX6_scratchOn 1 = .ok (.iload_n 2, 1) := by decide +kernel
theorem dX6_scratchOn_2 : decode cX6_scratchOn 2 = .ok (.invokestatic 73, 3) := by decide +kernel
theorem dX6_scratchOn_5 : decode cX6_scratchOn 5 = .ok (.dup2, 1) := by decide +kernel
theorem dX6_scratchOn_6 : decode cX6_scratchOn 6 = .ok (.laload, 1) := by decide +kernel
theorem dX6_scratchOn_7 : decode cX6_scratchOn 7 = .ok (.lconst 1, 1) := by decide +kernel
theorem dX6_scratchOn_8 : decode cX6_scratchOn 8 = .ok (.aload_n 0, 1) := by decide +kernel
theorem dX6_scratchOn_9 : decode cX6_scratchOn 9 = .ok (.iload_n 1, 1) := by decide +kernel
theorem dX6_scratchOn_10 : decode cX6_scratchOn 10 = .ok (.iload_n 2, 1) := by decide +kernel
theorem dX6_scratchOn_11 : decode cX6_scratchOn 11 = .ok (.invokestatic 77, 3) := by decide +kernel
theorem dX6_scratchOn_14 : decode cX6_scratchOn 14 = .ok (.lshl, 1) := by decide +kernel
theorem dX6_scratchOn_15 : decode cX6_scratchOn 15 = .ok (.lxor, 1) := by decide +kernel
theorem dX6_scratchOn_16 : decode cX6_scratchOn 16 = .ok (.lastore, 1) := by decide +kernel
theorem dX6_scratchOn_17 : decode cX6_scratchOn 17 = .ok (.aload_n 0, 1) := by decide +kernel
theorem dX6_scratchOn_18 : decode cX6_scratchOn 18 = .ok (.iload_n 1, 1) := by decide +kernel
theorem dX6_scratchOn_19 : decode cX6_scratchOn 19 = .ok (.iload_n 2, 1) := by decide +kernel
theorem dX6_scratchOn_20 : decode cX6_scratchOn 20 = .ok (.invokestatic 80, 3) := by decide +kernel
theorem dX6_scratchOn_23 : decode cX6_scratchOn 23 = .ok (.ifCond .eq 7, 3) := by decide +kernel
theorem dX6_scratchOn_26 : decode cX6_scratchOn 26 = .ok (.iconst 1, 1) := by decide +kernel
theorem dX6_scratchOn_27 : decode cX6_scratchOn 27 = .ok (.goto 4, 3) := by decide +kernel
theorem dX6_scratchOn_30 : decode cX6_scratchOn 30 = .ok (.iconst 0, 1) := by decide +kernel
theorem dX6_scratchOn_31 : decode cX6_scratchOn 31 = .ok (.ireturn, 1) := by decide +kernel
theorem dX6_borderOn_0 : decode cX6_borderOn 0 = .ok (.aload_n 0, 1) := by decide +kernel
theorem dX6_borderOn_1 : decode cX6_borderOn 1 = .ok (.iconst 4, 1) := by decide +kernel
theorem dX6_borderOn_2 : decode cX6_borderOn 2 = .ok (.iload_n 1, 1) := by decide +kernel
theorem dX6_borderOn_3 : decode cX6_borderOn 3 = .ok (.iadd, 1) := by decide +kernel
theorem dX6_borderOn_4 : decode cX6_borderOn 4 = .ok (.laload, 1) := by decide +kernel
theorem dX6_borderOn_5 : decode cX6_borderOn 5 = .ok (.l2i, 1) := by decide +kernel
theorem dX6_borderOn_6 : decode cX6_borderOn 6 = .ok (.istore_n 3, 1) := by decide +kernel
theorem dX6_borderOn_7 : decode cX6_borderOn 7 = .ok (.iconst 4, 1) := by decide +kernel
theorem dX6_borderOn_8 : decode cX6_borderOn 8 = .ok (.iload_n 1, 1) := by decide +kernel
theorem dX6_borderOn_9 : decode cX6_borderOn 9 = .ok (.iconst 2, 1) := by decide +kernel
theorem dX6_borderOn_10 : decode cX6_borderOn 10 = .ok (.iadd, 1) := by decide +kernel
theorem dX6_borderOn_11 : decode cX6_borderOn 11 = .ok (.iconst 4, 1) := by decide +kernel
theorem dX6_borderOn_12 : decode cX6_borderOn 12 = .ok (.irem, 1) := by decide +kernel
theorem dX6_borderOn_13 : decode cX6_borderOn 13 = .ok (.iadd, 1) := by decide +kernel
theorem dX6_borderOn_14 : decode cX6_borderOn 14 = .ok (.istore 4, 2) := by decide +kernel
theorem dX6_borderOn_16 : decode cX6_borderOn 16 = .ok (.aload_n 0, 1) := by decide +kernel
theorem dX6_borderOn_17 : decode cX6_borderOn 17 = .ok (.iconst 4, 1) := by decide +kernel
theorem dX6_borderOn_18 : decode cX6_borderOn 18 = .ok (.iload_n 1, 1) := by decide +kernel
theorem dX6_borderOn_19 : decode cX6_borderOn 19 = .ok (.iadd, 1) := by decide +kernel
theorem dX6_borderOn_20 : decode cX6_borderOn 20 = .ok (.iload_n 2, 1) := by decide +kernel
theorem dX6_borderOn_21 : decode cX6_borderOn 21 = .ok (.i2l, 1) := by decide +kernel
theorem dX6_borderOn_22 : decode cX6_borderOn 22 = .ok (.lastore, 1) := by decide +kernel
theorem dX6_borderOn_23 : decode cX6_borderOn 23 = .ok (.aload_n 0, 1) := by decide +kernel
theorem dX6_borderOn_24 : decode cX6_borderOn 24 = .ok (.iload 4, 2) := by decide +kernel
theorem dX6_borderOn_26 : decode cX6_borderOn 26 = .ok (.iload_n 2, 1) := by decide +kernel
theorem dX6_borderOn_27 : decode cX6_borderOn 27 = .ok (.iconst 2, 1) := by decide +kernel
theorem dX6_borderOn_28 : decode cX6_borderOn 28 = .ok (.if_icmp .eq 8, 3) := by decide +kernel
theorem dX6_borderOn_31 : decode cX6_borderOn 31 = .ok (.iload_n 3, 1) := by decide +kernel
theorem dX6_borderOn_32 : decode cX6_borderOn 32 = .ok (.iconst 2, 1) := by decide +kernel
theorem dX6_borderOn_33 : decode cX6_borderOn 33 = .ok (.if_icmp .ne 8, 3) := by decide +kernel
theorem dX6_borderOn_36 : decode cX6_borderOn 36 = .ok (.iload_n 2, 1) := by decide +kernel
theorem dX6_borderOn_37 : decode cX6_borderOn 37 = .ok (.i2l, 1) := by decide +kernel
theorem dX6_borderOn_38 : decode cX6_borderOn 38 = .ok (.goto 7, 3) := by decide +kernel
theorem dX6_borderOn_41 : decode cX6_borderOn 41 = .ok (.aload_n 0, 1) := by decide +kernel
theorem dX6_borderOn_42 : decode cX6_borderOn 42 = .ok (.iload 4, 2) := by decide +kernel
theorem dX6_borderOn_44 : decode cX6_borderOn 44 = .ok (.laload, 1) := by decide +kernel
theorem dX6_borderOn_45 : decode cX6_borderOn 45 = .ok (.lastore, 1) := by decide +kernel
theorem dX6_borderOn_46 : decode cX6_borderOn 46 = .ok (.iload_n 3, 1) := by decide +kernel
theorem dX6_borderOn_47 : decode cX6_borderOn 47 = .ok (.ireturn, 1) := by decide +kernel
theorem dX6_ruleOn_0 : decode cX6_ruleOn 0 = .ok (.aload_n 0, 1) := by decide +kernel
theorem dX6_ruleOn_1 : decode cX6_ruleOn 1 = .ok (.iconst 2, 1) := by decide +kernel
theorem dX6_ruleOn_2 : decode cX6_ruleOn 2 = .ok (.laload, 1) := by decide +kernel
theorem dX6_ruleOn_3 : decode cX6_ruleOn 3 = .ok (.l2i, 1) := by decide +kernel
theorem dX6_ruleOn_4 : decode cX6_ruleOn 4 = .ok (.istore_n 2, 1) := by decide +kernel
theorem dX6_ruleOn_5 : decode cX6_ruleOn 5 = .ok (.aload_n 0, 1) := by decide +kernel
theorem dX6_ruleOn_6 : decode cX6_ruleOn 6 = .ok (.iconst 2, 1) := by decide +kernel
theorem dX6_ruleOn_7 : decode cX6_ruleOn 7 = .ok (.iload_n 1, 1) := by decide +kernel
theorem dX6_ruleOn_8 : decode cX6_ruleOn 8 = .ok (.i2l, 1) := by decide +kernel
theorem dX6_ruleOn_9 : decode cX6_ruleOn 9 = .ok (.lastore, 1) := by decide +kernel
theorem dX6_ruleOn_10 : decode cX6_ruleOn 10 = .ok (.iload_n 2, 1) := by decide +kernel
theorem dX6_ruleOn_11 : decode cX6_ruleOn 11 = .ok (.ireturn, 1) := by decide +kernel
set_option maxRecDepth 20000 in
theorem ggX6_breatheOn_X6_grown : GoodIn wsX6_breatheOn wsX6_grown := goodIn_r _ [5, 6, 7, 4, 8, 9, 10, 11, 12, 13, 14, 15, 16, 17, 18, 19, 20, 21, 22, 23, 24, 25, 26, 27, 28, 29, 30] (by decide +kernel) (by decide +kernel)
set_option maxRecDepth 20000 in
theorem gX6_breatheOn_X6_grown : GoodIn wsX6_breatheOn (va_wsS RX6 101 yX6_grown wsX6_grown) := goodIn_app (goodIn_of _ (by decide +kernel)) ggX6_breatheOn_X6_grown
set_option maxRecDepth 20000 in
theorem ggX6_breatheOn_X6_bits : GoodIn wsX6_breatheOn wsX6_bits := goodIn_r _ [33, 9, 10, 4, 11] (by decide +kernel) (by decide +kernel)
set_option maxRecDepth 20000 in
theorem gX6_breatheOn_X6_bits : GoodIn wsX6_breatheOn (va_wsS RX6 97 yX6_bits wsX6_bits) := goodIn_app (goodIn_of _ (by decide +kernel)) ggX6_breatheOn_X6_bits
theorem dX6_breatheOn_0 : decode cX6_breatheOn 0 = .ok (.lconst 1, 1) := by decide +kernel
theorem dX6_breatheOn_1 : decode cX6_breatheOn 1 = .ok (.iload_n 1, 1) := by decide +kernel
theorem dX6_breatheOn_2 : decode cX6_breatheOn 2 = .ok (.lshl, 1) := by decide +kernel
theorem dX6_breatheOn_3 : decode cX6_breatheOn 3 = .ok (.lstore_n 3, 1) := by decide +kernel
theorem dX6_breatheOn_4 : decode cX6_breatheOn 4 = .ok (.iconst 0, 1) := by decide +kernel
theorem dX6_breatheOn_5 : decode cX6_breatheOn 5 = .ok (.istore 5, 2) := by decide +kernel
theorem dX6_breatheOn_7 : decode cX6_breatheOn 7 = .ok (.iload 5, 2) := by decide +kernel
theorem dX6_breatheOn_9 : decode cX6_breatheOn 9 = .ok (.iload_n 2, 1) := by decide +kernel
theorem dX6_breatheOn_10 : decode cX6_breatheOn 10 = .ok (.if_icmp .ge 18, 3) := by decide +kernel
theorem dX6_breatheOn_13 : decode cX6_breatheOn 13 = .ok (.aload_n 0, 1) := by decide +kernel
theorem dX6_breatheOn_14 : decode cX6_breatheOn 14 = .ok (.lload_n 3, 1) := by decide +kernel
theorem dX6_breatheOn_15 : decode cX6_breatheOn 15 = .ok (.ldc2_w 109, 3) := by decide +kernel
theorem dX6_breatheOn_18 : decode cX6_breatheOn 18 = .ok (.invokestatic 101, 3) := by decide +kernel
theorem dX6_breatheOn_21 : decode cX6_breatheOn 21 = .ok (.lstore_n 3, 1) := by decide +kernel
theorem dX6_breatheOn_22 : decode cX6_breatheOn 22 = .ok (.iinc 5 1, 3) := by decide +kernel
theorem dX6_breatheOn_25 : decode cX6_breatheOn 25 = .ok (.goto (-18), 3) := by decide +kernel
theorem dX6_breatheOn_28 : decode cX6_breatheOn 28 = .ok (.aload_n 0, 1) := by decide +kernel
theorem dX6_breatheOn_29 : decode cX6_breatheOn 29 = .ok (.bipush 8, 2) := by decide +kernel
theorem dX6_breatheOn_31 : decode cX6_breatheOn 31 = .ok (.laload, 1) := by decide +kernel
theorem dX6_breatheOn_32 : decode cX6_breatheOn 32 = .ok (.lload_n 3, 1) := by decide +kernel
theorem dX6_breatheOn_33 : decode cX6_breatheOn 33 = .ok (.land, 1) := by decide +kernel
theorem dX6_breatheOn_34 : decode cX6_breatheOn 34 = .ok (.invokestatic 97, 3) := by decide +kernel
theorem dX6_breatheOn_37 : decode cX6_breatheOn 37 = .ok (.istore 5, 2) := by decide +kernel
theorem dX6_breatheOn_39 : decode cX6_breatheOn 39 = .ok (.aload_n 0, 1) := by decide +kernel
theorem dX6_breatheOn_40 : decode cX6_breatheOn 40 = .ok (.bipush 8, 2) := by decide +kernel
theorem dX6_breatheOn_42 : decode cX6_breatheOn 42 = .ok (.dup2, 1) := by decide +kernel
theorem dX6_breatheOn_43 : decode cX6_breatheOn 43 = .ok (.laload, 1) := by decide +kernel
theorem dX6_breatheOn_44 : decode cX6_breatheOn 44 = .ok (.lload_n 3, 1) := by decide +kernel
theorem dX6_breatheOn_45 : decode cX6_breatheOn 45 = .ok (.ldc2_w 109, 3) := by decide +kernel
theorem dX6_breatheOn_48 : decode cX6_breatheOn 48 = .ok (.lxor, 1) := by decide +kernel
theorem dX6_breatheOn_49 : decode cX6_breatheOn 49 = .ok (.land, 1) := by decide +kernel
theorem dX6_breatheOn_50 : decode cX6_breatheOn 50 = .ok (.lastore, 1) := by decide +kernel
theorem dX6_breatheOn_51 : decode cX6_breatheOn 51 = .ok (.iload 5, 2) := by decide +kernel
theorem dX6_breatheOn_53 : decode cX6_breatheOn 53 = .ok (.ireturn, 1) := by decide +kernel
set_option maxRecDepth 20000 in
theorem ggX6_layEquations_X6_many : GoodIn wsX6_layEquations wsX6_many := goodIn_r _ [8] (by decide +kernel) (by decide +kernel)
set_option maxRecDepth 20000 in
theorem gX6_layEquations_X6_many : GoodIn wsX6_layEquations (va_wsS RX6 47 yX6_many wsX6_many) := goodIn_app (goodIn_of _ (by decide +kernel)) ggX6_layEquations_X6_many
set_option maxRecDepth 20000 in
theorem ggX6_layEquations_X6_has : GoodIn wsX6_layEquations wsX6_has := goodIn_r _ [11] (by decide +kernel) (by decide +kernel)
set_option maxRecDepth 20000 in
theorem gX6_layEquations_X6_has : GoodIn wsX6_layEquations (va_wsS RX6 61 yX6_has wsX6_has) := goodIn_app (goodIn_of _ (by decide +kernel)) ggX6_layEquations_X6_has
set_option maxRecDepth 20000 in
theorem ggX6_layEquations_X6_next : GoodIn wsX6_layEquations wsX6_next := goodIn_r _ [14, 15, 16, 7, 17, 18, 19, 20, 3, 21, 22, 23, 5, 6, 8, 24, 25, 26, 27, 28, 29, 9, 10, 11] (by decide +kernel) (by decide +kernel)
set_option maxRecDepth 20000 in
theorem gX6_layEquations_X6_next : GoodIn wsX6_layEquations (va_wsS RX6 83 yX6_next wsX6_next) := goodIn_app (goodIn_of _ (by decide +kernel)) ggX6_layEquations_X6_next
set_option maxRecDepth 20000 in
theorem ggX6_layEquations_X6_isIce : GoodIn wsX6_layEquations wsX6_isIce := goodIn_r _ [32, 21, 22, 7, 23] (by decide +kernel) (by decide +kernel)
set_option maxRecDepth 20000 in
theorem gX6_layEquations_X6_isIce : GoodIn wsX6_layEquations (va_wsS RX6 86 yX6_isIce wsX6_isIce) := goodIn_app (goodIn_of _ (by decide +kernel)) ggX6_layEquations_X6_isIce
theorem dX6_layEquations_0 : decode cX6_layEquations 0 = .ok (.aload_n 0, 1) := by decide +kernel
theorem dX6_layEquations_1 : decode cX6_layEquations 1 = .ok (.getfield 13, 3) := by decide +kernel
theorem dX6_layEquations_4 : decode cX6_layEquations 4 = .ok (.invokestatic 47, 3) := by decide +kernel
theorem dX6_layEquations_7 : decode cX6_layEquations 7 = .ok (.istore_n 1, 1) := by decide +kernel
theorem dX6_layEquations_8 : decode cX6_layEquations 8 = .ok (.iconst 0, 1) := by decide +kernel
theorem dX6_layEquations_9 : decode cX6_layEquations 9 = .ok (.istore_n 2, 1) := by decide +kernel
theorem dX6_layEquations_10 : decode cX6_layEquations 10 = .ok (.iload_n 2, 1) := by decide +kernel
theorem dX6_layEquations_11 : decode cX6_layEquations 11 = .ok (.iload_n 1, 1) := by decide +kernel
theorem dX6_layEquations_12 : decode cX6_layEquations 12 = .ok (.if_icmp .ge 117, 3) := by decide +kernel
theorem dX6_layEquations_15 : decode cX6_layEquations 15 = .ok (.aload_n 0, 1) := by decide +kernel
theorem dX6_layEquations_16 : decode cX6_layEquations 16 = .ok (.getfield 33, 3) := by decide +kernel
theorem dX6_layEquations_19 : decode cX6_layEquations 19 = .ok (.iload_n 2, 1) := by decide +kernel
theorem dX6_layEquations_20 : decode cX6_layEquations 20 = .ok (.aload_n 0, 1) := by decide +kernel
theorem dX6_layEquations_21 : decode cX6_layEquations 21 = .ok (.getfield 13, 3) := by decide +kernel
theorem dX6_layEquations_24 : decode cX6_layEquations 24 = .ok (.iconst 2, 1) := by decide +kernel
theorem dX6_layEquations_25 : decode cX6_layEquations 25 = .ok (.laload, 1) := by decide +kernel
theorem dX6_layEquations_26 : decode cX6_layEquations 26 = .ok (.ldc2_w 55, 3) := by decide +kernel
theorem dX6_layEquations_29 : decode cX6_layEquations 29 = .ok (.lcmp, 1) := by decide +kernel
theorem dX6_layEquations_30 : decode cX6_layEquations 30 = .ok (.ifCond .ne 9, 3) := by decide +kernel
theorem dX6_layEquations_33 : decode cX6_layEquations 33 = .ok (.lconst 1, 1) := by decide +kernel
theorem dX6_layEquations_34 : decode cX6_layEquations 34 = .ok (.iload_n 2, 1) := by decide +kernel
theorem dX6_layEquations_35 : decode cX6_layEquations 35 = .ok (.lshl, 1) := by decide +kernel
theorem dX6_layEquations_36 : decode cX6_layEquations 36 = .ok (.goto 4, 3) := by decide +kernel
theorem dX6_layEquations_39 : decode cX6_layEquations 39 = .ok (.lconst 0, 1) := by decide +kernel
theorem dX6_layEquations_40 : decode cX6_layEquations 40 = .ok (.lastore, 1) := by decide +kernel
theorem dX6_layEquations_41 : decode cX6_layEquations 41 = .ok (.aload_n 0, 1) := by decide +kernel
theorem dX6_layEquations_42 : decode cX6_layEquations 42 = .ok (.getfield 36, 3) := by decide +kernel
theorem dX6_layEquations_45 : decode cX6_layEquations 45 = .ok (.iload_n 2, 1) := by decide +kernel
theorem dX6_layEquations_46 : decode cX6_layEquations 46 = .ok (.aload_n 0, 1) := by decide +kernel
theorem dX6_layEquations_47 : decode cX6_layEquations 47 = .ok (.getfield 13, 3) := by decide +kernel
theorem dX6_layEquations_50 : decode cX6_layEquations 50 = .ok (.bipush 8, 2) := by decide +kernel
theorem dX6_layEquations_52 : decode cX6_layEquations 52 = .ok (.laload, 1) := by decide +kernel
theorem dX6_layEquations_53 : decode cX6_layEquations 53 = .ok (.iload_n 2, 1) := by decide +kernel
theorem dX6_layEquations_54 : decode cX6_layEquations 54 = .ok (.invokestatic 61, 3) := by decide +kernel
theorem dX6_layEquations_57 : decode cX6_layEquations 57 = .ok (.bastore, 1) := by decide +kernel
theorem dX6_layEquations_58 : decode cX6_layEquations 58 = .ok (.iconst 0, 1) := by decide +kernel
theorem dX6_layEquations_59 : decode cX6_layEquations 59 = .ok (.istore_n 3, 1) := by decide +kernel
theorem dX6_layEquations_60 : decode cX6_layEquations 60 = .ok (.iload_n 3, 1) := by decide +kernel
theorem dX6_layEquations_61 : decode cX6_layEquations 61 = .ok (.iconst 4, 1) := by decide +kernel
theorem dX6_layEquations_62 : decode cX6_layEquations 62 = .ok (.if_icmp .ge 61, 3) := by decide +kernel
theorem dX6_layEquations_65 : decode cX6_layEquations 65 = .ok (.aload_n 0, 1) := by decide +kernel
theorem dX6_layEquations_66 : decode cX6_layEquations 66 = .ok (.getfield 13, 3) := by decide +kernel
theorem dX6_layEquations_69 : decode cX6_layEquations 69 = .ok (.iload_n 2, 1) := by decide +kernel
theorem dX6_layEquations_70 : decode cX6_layEquations 70 = .ok (.iload_n 3, 1) := by decide +kernel
theorem dX6_layEquations_71 : decode cX6_layEquations 71 = .ok (.invokestatic 83, 3) := by decide +kernel
theorem dX6_layEquations_74 : decode cX6_layEquations 74 = .ok (.istore 4, 2) := by decide +kernel
theorem dX6_layEquations_76 : decode cX6_layEquations 76 = .ok (.aload_n 0, 1) := by decide +kernel
theorem dX6_layEquations_77 : decode cX6_layEquations 77 = .ok (.getfield 33, 3) := by decide +kernel
theorem dX6_layEquations_80 : decode cX6_layEquations 80 = .ok (.iload_n 2, 1) := by decide +kernel
theorem dX6_layEquations_81 : decode cX6_layEquations 81 = .ok (.dup2, 1) := by decide +kernel
theorem dX6_layEquations_82 : decode cX6_layEquations 82 = .ok (.laload, 1) := by decide +kernel
theorem dX6_layEquations_83 : decode cX6_layEquations 83 = .ok (.iload 4, 2) := by decide +kernel
theorem dX6_layEquations_85 : decode cX6_layEquations 85 = .ok (.iconst (-1), 1) := by decide +kernel
theorem dX6_layEquations_86 : decode cX6_layEquations 86 = .ok (.if_icmp .ne 7, 3) := by decide +kernel
theorem dX6_layEquations_89 : decode cX6_layEquations 89 = .ok (.lconst 0, 1) := by decide +kernel
theorem dX6_layEquations_90 : decode cX6_layEquations 90 = .ok (.goto 7, 3) := by decide +kernel
theorem dX6_layEquations_93 : decode cX6_layEquations 93 = .ok (.lconst 1, 1) := by decide +kernel
theorem dX6_layEquations_94 : decode cX6_layEquations 94 = .ok (.iload 4, 2) := by decide +kernel
theorem dX6_layEquations_96 : decode cX6_layEquations 96 = .ok (.lshl, 1) := by decide +kernel
theorem dX6_layEquations_97 : decode cX6_layEquations 97 = .ok (.lxor, 1) := by decide +kernel
theorem dX6_layEquations_98 : decode cX6_layEquations 98 = .ok (.lastore, 1) := by decide +kernel
theorem dX6_layEquations_99 : decode cX6_layEquations 99 = .ok (.aload_n 0, 1) := by decide +kernel
theorem dX6_layEquations_100 : decode cX6_layEquations 100 = .ok (.getfield 36, 3) := by decide +kernel
theorem dX6_layEquations_103 : decode cX6_layEquations 103 = .ok (.iload_n 2, 1) := by decide +kernel
theorem dX6_layEquations_104 : decode cX6_layEquations 104 = .ok (.dup2, 1) := by decide +kernel
theorem dX6_layEquations_105 : decode cX6_layEquations 105 = .ok (.baload, 1) := by decide +kernel
theorem dX6_layEquations_106 : decode cX6_layEquations 106 = .ok (.aload_n 0, 1) := by decide +kernel
theorem dX6_layEquations_107 : decode cX6_layEquations 107 = .ok (.getfield 13, 3) := by decide +kernel
theorem dX6_layEquations_110 : decode cX6_layEquations 110 = .ok (.iload_n 2, 1) := by decide +kernel
theorem dX6_layEquations_111 : decode cX6_layEquations 111 = .ok (.iload_n 3, 1) := by decide +kernel
theorem dX6_layEquations_112 : decode cX6_layEquations 112 = .ok (.invokestatic 86, 3) := by decide +kernel
theorem dX6_layEquations_115 : decode cX6_layEquations 115 = .ok (.ixor, 1) := by decide +kernel
theorem dX6_layEquations_116 : decode cX6_layEquations 116 = .ok (.bastore, 1) := by decide +kernel
theorem dX6_layEquations_117 : decode cX6_layEquations 117 = .ok (.iinc 3 1, 3) := by decide +kernel
theorem dX6_layEquations_120 : decode cX6_layEquations 120 = .ok (.goto (-60), 3) := by decide +kernel
theorem dX6_layEquations_123 : decode cX6_layEquations 123 = .ok (.iinc 2 1, 3) := by decide +kernel
theorem dX6_layEquations_126 : decode cX6_layEquations 126 = .ok (.goto (-116), 3) := by decide +kernel
theorem dX6_layEquations_129 : decode cX6_layEquations 129 = .ok (.return_, 1) := by decide +kernel
set_option maxRecDepth 20000 in
theorem ggX6_solve_X6_many : GoodIn wsX6_solve wsX6_many := goodIn_r _ [8] (by decide +kernel) (by decide +kernel)
set_option maxRecDepth 20000 in
theorem gX6_solve_X6_many : GoodIn wsX6_solve (va_wsS RX6 47 yX6_many wsX6_many) := goodIn_app (goodIn_of _ (by decide +kernel)) ggX6_solve_X6_many
set_option maxRecDepth 20000 in
theorem ggX6_solve_X6_has : GoodIn wsX6_solve wsX6_has := goodIn_r _ [11] (by decide +kernel) (by decide +kernel)
set_option maxRecDepth 20000 in
theorem gX6_solve_X6_has : GoodIn wsX6_solve (va_wsS RX6 61 yX6_has wsX6_has) := goodIn_app (goodIn_of _ (by decide +kernel)) ggX6_solve_X6_has
theorem dX6_solve_0 : decode cX6_solve 0 = .ok (.aload_n 0, 1) := by decide +kernel
theorem dX6_solve_1 : decode cX6_solve 1 = .ok (.getfield 13, 3) := by decide +kernel
theorem dX6_solve_4 : decode cX6_solve 4 = .ok (.invokestatic 47, 3) := by decide +kernel
theorem dX6_solve_7 : decode cX6_solve 7 = .ok (.istore_n 1, 1) := by decide +kernel
theorem dX6_solve_8 : decode cX6_solve 8 = .ok (.aload_n 0, 1) := by decide +kernel
theorem dX6_solve_9 : decode cX6_solve 9 = .ok (.iconst 0, 1) := by decide +kernel
theorem dX6_solve_10 : decode cX6_solve 10 = .ok (.putfield 119, 3) := by decide +kernel
theorem dX6_solve_13 : decode cX6_solve 13 = .ok (.iconst 0, 1) := by decide +kernel
theorem dX6_solve_14 : decode cX6_solve 14 = .ok (.istore_n 2, 1) := by decide +kernel
theorem dX6_solve_15 : decode cX6_solve 15 = .ok (.iload_n 2, 1) := by decide +kernel
theorem dX6_solve_16 : decode cX6_solve 16 = .ok (.iload_n 1, 1) := by decide +kernel
theorem dX6_solve_17 : decode cX6_solve 17 = .ok (.if_icmp .ge 183, 3) := by decide +kernel
theorem dX6_solve_20 : decode cX6_solve 20 = .ok (.aload_n 0, 1) := by decide +kernel
theorem dX6_solve_21 : decode cX6_solve 21 = .ok (.getfield 119, 3) := by decide +kernel
theorem dX6_solve_24 : decode cX6_solve 24 = .ok (.istore_n 3, 1) := by decide +kernel
theorem dX6_solve_25 : decode cX6_solve 25 = .ok (.iload_n 3, 1) := by decide +kernel
theorem dX6_solve_26 : decode cX6_solve 26 = .ok (.iload_n 1, 1) := by decide +kernel
theorem dX6_solve_27 : decode cX6_solve 27 = .ok (.if_icmp .ge 22, 3) := by decide +kernel
theorem dX6_solve_30 : decode cX6_solve 30 = .ok (.aload_n 0, 1) := by decide +kernel
theorem dX6_solve_31 : decode cX6_solve 31 = .ok (.getfield 33, 3) := by decide +kernel
theorem dX6_solve_34 : decode cX6_solve 34 = .ok (.iload_n 3, 1) := by decide +kernel
theorem dX6_solve_35 : decode cX6_solve 35 = .ok (.laload, 1) := by decide +kernel
theorem dX6_solve_36 : decode cX6_solve 36 = .ok (.iload_n 2, 1) := by decide +kernel
theorem dX6_solve_37 : decode cX6_solve 37 = .ok (.invokestatic 61, 3) := by decide +kernel
theorem dX6_solve_40 : decode cX6_solve 40 = .ok (.ifCond .ne 9, 3) := by decide +kernel
theorem dX6_solve_43 : decode cX6_solve 43 = .ok (.iinc 3 1, 3) := by decide +kernel
theorem dX6_solve_46 : decode cX6_solve 46 = .ok (.goto (-21), 3) := by decide +kernel
theorem dX6_solve_49 : decode cX6_solve 49 = .ok (.iload_n 3, 1) := by decide +kernel
theorem dX6_solve_50 : decode cX6_solve 50 = .ok (.iload_n 1, 1) := by decide +kernel
theorem dX6_solve_51 : decode cX6_solve 51 = .ok (.if_icmp .ge 143, 3) := by decide +kernel
theorem dX6_solve_54 : decode cX6_solve 54 = .ok (.aload_n 0, 1) := by decide +kernel
theorem dX6_solve_55 : decode cX6_solve 55 = .ok (.getfield 33, 3) := by decide +kernel
theorem dX6_solve_58 : decode cX6_solve 58 = .ok (.iload_n 3, 1) := by decide +kernel
theorem dX6_solve_59 : decode cX6_solve 59 = .ok (.laload, 1) := by decide +kernel
theorem dX6_solve_60 : decode cX6_solve 60 = .ok (.lstore 4, 2) := by decide +kernel
theorem dX6_solve_62 : decode cX6_solve 62 = .ok (.aload_n 0, 1) := by decide +kernel
theorem dX6_solve_63 : decode cX6_solve 63 = .ok (.getfield 36, 3) := by decide +kernel
theorem dX6_solve_66 : decode cX6_solve 66 = .ok (.iload_n 3, 1) := by decide +kernel
theorem dX6_solve_67 : decode cX6_solve 67 = .ok (.baload, 1) := by decide +kernel
theorem dX6_solve_68 : decode cX6_solve 68 = .ok (.istore 6, 2) := by decide +kernel
theorem dX6_solve_70 : decode cX6_solve 70 = .ok (.aload_n 0, 1) := by decide +kernel
theorem dX6_solve_71 : decode cX6_solve 71 = .ok (.getfield 33, 3) := by decide +kernel
theorem dX6_solve_74 : decode cX6_solve 74 = .ok (.iload_n 3, 1) := by decide +kernel
theorem dX6_solve_75 : decode cX6_solve 75 = .ok (.aload_n 0, 1) := by decide +kernel
theorem dX6_solve_76 : decode cX6_solve 76 = .ok (.getfield 33, 3) := by decide +kernel
theorem dX6_solve_79 : decode cX6_solve 79 = .ok (.aload_n 0, 1) := by decide +kernel
theorem dX6_solve_80 : decode cX6_solve 80 = .ok (.getfield 119, 3) := by decide +kernel
theorem dX6_solve_83 : decode cX6_solve 83 = .ok (.laload, 1) := by decide +kernel
theorem dX6_solve_84 : decode cX6_solve 84 = .ok (.lastore, 1) := by decide +kernel
theorem dX6_solve_85 : decode cX6_solve 85 = .ok (.aload_n 0, 1) := by decide +kernel
theorem dX6_solve_86 : decode cX6_solve 86 = .ok (.getfield 36, 3) := by decide +kernel
theorem dX6_solve_89 : decode cX6_solve 89 = .ok (.iload_n 3, 1) := by decide +kernel
theorem dX6_solve_90 : decode cX6_solve 90 = .ok (.aload_n 0, 1) := by decide +kernel
theorem dX6_solve_91 : decode cX6_solve 91 = .ok (.getfield 36, 3) := by decide +kernel
theorem dX6_solve_94 : decode cX6_solve 94 = .ok (.aload_n 0, 1) := by decide +kernel
theorem dX6_solve_95 : decode cX6_solve 95 = .ok (.getfield 119, 3) := by decide +kernel
theorem dX6_solve_98 : decode cX6_solve 98 = .ok (.baload, 1) := by decide +kernel
theorem dX6_solve_99 : decode cX6_solve 99 = .ok (.bastore, 1) := by decide +kernel
theorem dX6_solve_100 : decode cX6_solve 100 = .ok (.aload_n 0, 1) := by decide +kernel
theorem dX6_solve_101 : decode cX6_solve 101 = .ok (.getfield 33, 3) := by decide +kernel
theorem dX6_solve_104 : decode cX6_solve 104 = .ok (.aload_n 0, 1) := by decide +kernel
theorem dX6_solve_105 : decode cX6_solve 105 = .ok (.getfield 119, 3) := by decide +kernel
theorem dX6_solve_108 : decode cX6_solve 108 = .ok (.lload 4, 2) := by decide +kernel
theorem dX6_solve_110 : decode cX6_solve 110 = .ok (.lastore, 1) := by decide +kernel
theorem dX6_solve_111 : decode cX6_solve 111 = .ok (.aload_n 0, 1) := by decide +kernel
theorem dX6_solve_112 : decode cX6_solve 112 = .ok (.getfield 36, 3) := by decide +kernel
theorem dX6_solve_115 : decode cX6_solve 115 = .ok (.aload_n 0, 1) := by decide +kernel
theorem dX6_solve_116 : decode cX6_solve 116 = .ok (.getfield 119, 3) := by decide +kernel
theorem dX6_solve_119 : decode cX6_solve 119 = .ok (.iload 6, 2) := by decide +kernel
theorem dX6_solve_121 : decode cX6_solve 121 = .ok (.bastore, 1) := by decide +kernel
theorem dX6_solve_122 : decode cX6_solve 122 = .ok (.iconst 0, 1) := by decide +kernel
theorem dX6_solve_123 : decode cX6_solve 123 = .ok (.istore 7, 2) := by decide +kernel
theorem dX6_solve_125 : decode cX6_solve 125 = .ok (.iload 7, 2) := by decide +kernel
theorem dX6_solve_127 : decode cX6_solve 127 = .ok (.iload_n 1, 1) := by decide +kernel
theorem dX6_solve_128 : decode cX6_solve 128 = .ok (.if_icmp .ge 56, 3) := by decide +kernel
theorem dX6_solve_131 : decode cX6_solve 131 = .ok (.iload 7, 2) := by decide +kernel
theorem dX6_solve_133 : decode cX6_solve 133 = .ok (.aload_n 0, 1) := by decide +kernel
theorem dX6_solve_134 : decode cX6_solve 134 = .ok (.getfield 119, 3) := by decide +kernel
theorem dX6_solve_137 : decode cX6_solve 137 = .ok (.if_icmp .eq 41, 3) := by decide +kernel
theorem dX6_solve_140 : decode cX6_solve 140 = .ok (.aload_n 0, 1) := by decide +kernel
theorem dX6_solve_141 : decode cX6_solve 141 = .ok (.getfield 33, 3) := by decide +kernel
theorem dX6_solve_144 : decode cX6_solve 144 = .ok (.iload 7, 2) := by decide +kernel
theorem dX6_solve_146 : decode cX6_solve 146 = .ok (.laload, 1) := by decide +kernel
theorem dX6_solve_147 : decode cX6_solve 147 = .ok (.iload_n 2, 1) := by decide +kernel
theorem dX6_solve_148 : decode cX6_solve 148 = .ok (.invokestatic 61, 3) := by decide +kernel
theorem dX6_solve_151 : decode cX6_solve 151 = .ok (.ifCond .eq 27, 3) := by decide +kernel
theorem dX6_solve_154 : decode cX6_solve 154 = .ok (.aload_n 0, 1) := by decide +kernel
theorem dX6_solve_155 : decode cX6_solve 155 = .ok (.getfield 33, 3) := by decide +kernel
theorem dX6_solve_158 : decode cX6_solve 158 = .ok (.iload 7, 2) := by decide +kernel
theorem dX6_solve_160 : decode cX6_solve 160 = .ok (.dup2, 1) := by decide +kernel
theorem dX6_solve_161 : decode cX6_solve 161 = .ok (.laload, 1) := by decide +kernel
theorem dX6_solve_162 : decode cX6_solve 162 = .ok (.lload 4, 2) := by decide +kernel
theorem dX6_solve_164 : decode cX6_solve 164 = .ok (.lxor, 1) := by decide +kernel
theorem dX6_solve_165 : decode cX6_solve 165 = .ok (.lastore, 1) := by decide +kernel
theorem dX6_solve_166 : decode cX6_solve 166 = .ok (.aload_n 0, 1) := by decide +kernel
theorem dX6_solve_167 : decode cX6_solve 167 = .ok (.getfield 36, 3) := by decide +kernel
theorem dX6_solve_170 : decode cX6_solve 170 = .ok (.iload 7, 2) := by decide +kernel
theorem dX6_solve_172 : decode cX6_solve 172 = .ok (.dup2, 1) := by decide +kernel
theorem dX6_solve_173 : decode cX6_solve 173 = .ok (.baload, 1) := by decide +kernel
theorem dX6_solve_174 : decode cX6_solve 174 = .ok (.iload 6, 2) := by decide +kernel
theorem dX6_solve_176 : decode cX6_solve 176 = .ok (.ixor, 1) := by decide +kernel
theorem dX6_solve_177 : decode cX6_solve 177 = .ok (.bastore, 1) := by decide +kernel
theorem dX6_solve_178 : decode cX6_solve 178 = .ok (.iinc 7 1, 3) := by decide +kernel
theorem dX6_solve_181 : decode cX6_solve 181 = .ok (.goto (-56), 3) := by decide +kernel
theorem dX6_solve_184 : decode cX6_solve 184 = .ok (.aload_n 0, 1) := by decide +kernel
theorem dX6_solve_185 : decode cX6_solve 185 = .ok (.dup, 1) := by decide +kernel
theorem dX6_solve_186 : decode cX6_solve 186 = .ok (.getfield 119, 3) := by decide +kernel
theorem dX6_solve_189 : decode cX6_solve 189 = .ok (.iconst 1, 1) := by decide +kernel
theorem dX6_solve_190 : decode cX6_solve 190 = .ok (.iadd, 1) := by decide +kernel
theorem dX6_solve_191 : decode cX6_solve 191 = .ok (.putfield 119, 3) := by decide +kernel
theorem dX6_solve_194 : decode cX6_solve 194 = .ok (.iinc 2 1, 3) := by decide +kernel
theorem dX6_solve_197 : decode cX6_solve 197 = .ok (.goto (-182), 3) := by decide +kernel
theorem dX6_solve_200 : decode cX6_solve 200 = .ok (.aload_n 0, 1) := by decide +kernel
theorem dX6_solve_201 : decode cX6_solve 201 = .ok (.getfield 119, 3) := by decide +kernel
theorem dX6_solve_204 : decode cX6_solve 204 = .ok (.istore_n 2, 1) := by decide +kernel
theorem dX6_solve_205 : decode cX6_solve 205 = .ok (.iload_n 2, 1) := by decide +kernel
theorem dX6_solve_206 : decode cX6_solve 206 = .ok (.iload_n 1, 1) := by decide +kernel
theorem dX6_solve_207 : decode cX6_solve 207 = .ok (.if_icmp .ge 20, 3) := by decide +kernel
theorem dX6_solve_210 : decode cX6_solve 210 = .ok (.aload_n 0, 1) := by decide +kernel
theorem dX6_solve_211 : decode cX6_solve 211 = .ok (.getfield 36, 3) := by decide +kernel
theorem dX6_solve_214 : decode cX6_solve 214 = .ok (.iload_n 2, 1) := by decide +kernel
theorem dX6_solve_215 : decode cX6_solve 215 = .ok (.baload, 1) := by decide +kernel
theorem dX6_solve_216 : decode cX6_solve 216 = .ok (.ifCond .eq 5, 3) := by decide +kernel
theorem dX6_solve_219 : decode cX6_solve 219 = .ok (.iconst 0, 1) := by decide +kernel
theorem dX6_solve_220 : decode cX6_solve 220 = .ok (.ireturn, 1) := by decide +kernel
theorem dX6_solve_221 : decode cX6_solve 221 = .ok (.iinc 2 1, 3) := by decide +kernel
theorem dX6_solve_224 : decode cX6_solve 224 = .ok (.goto (-19), 3) := by decide +kernel
theorem dX6_solve_227 : decode cX6_solve 227 = .ok (.iconst 1, 1) := by decide +kernel
theorem dX6_solve_228 : decode cX6_solve 228 = .ok (.ireturn, 1) := by decide +kernel
set_option maxRecDepth 20000 in
theorem ggX6_lowest_X6_has : GoodIn wsX6_lowest wsX6_has := goodIn_r _ [4] (by decide +kernel) (by decide +kernel)
set_option maxRecDepth 20000 in
theorem gX6_lowest_X6_has : GoodIn wsX6_lowest (va_wsS RX6 61 yX6_has wsX6_has) := goodIn_app (goodIn_of _ (by decide +kernel)) ggX6_lowest_X6_has
theorem dX6_lowest_0 : decode cX6_lowest 0 = .ok (.iconst 0, 1) := by decide +kernel
theorem dX6_lowest_1 : decode cX6_lowest 1 = .ok (.istore_n 2, 1) := by decide +kernel
theorem dX6_lowest_2 : decode cX6_lowest 2 = .ok (.lload_n 0, 1) := by decide +kernel
theorem dX6_lowest_3 : decode cX6_lowest 3 = .ok (.iload_n 2, 1) := by decide +kernel
theorem dX6_lowest_4 : decode cX6_lowest 4 = .ok (.invokestatic 61, 3) := by decide +kernel
theorem dX6_lowest_7 : decode cX6_lowest 7 = .ok (.ifCond .ne 9, 3) := by decide +kernel
theorem dX6_lowest_10 : decode cX6_lowest 10 = .ok (.iinc 2 1, 3) := by decide +kernel
theorem dX6_lowest_13 : decode cX6_lowest 13 = .ok (.goto (-11), 3) := by decide +kernel
theorem dX6_lowest_16 : decode cX6_lowest 16 = .ok (.iload_n 2, 1) := by decide +kernel
theorem dX6_lowest_17 : decode cX6_lowest 17 = .ok (.ireturn, 1) := by decide +kernel
set_option maxRecDepth 20000 in
theorem ggX6_append_X6_in : GoodIn wsX6_append wsX6_in := goodIn_r _ [7] (by decide +kernel) (by decide +kernel)
set_option maxRecDepth 20000 in
theorem gX6_append_X6_in : GoodIn wsX6_append (va_wsS RX6 51 yX6_in wsX6_in) := goodIn_app (goodIn_of _ (by decide +kernel)) ggX6_append_X6_in
set_option maxRecDepth 20000 in
theorem ggX6_append_X6_refused : GoodIn wsX6_append wsX6_refused := goodIn_r _ [11, 12, 13, 14, 15, 16, 17, 18, 19, 20, 21, 22, 23, 24, 25, 26, 27] (by decide +kernel) (by decide +kernel)
set_option maxRecDepth 20000 in
theorem gX6_append_X6_refused : GoodIn wsX6_append (wsV RX6 127 RX6 yX6_refused wsX6_refused) := goodIn_app (goodIn_of _ (by decide +kernel)) ggX6_append_X6_refused
theorem dX6_append_0 : decode cX6_append 0 = .ok (.aload_n 0, 1) := by decide +kernel
theorem dX6_append_1 : decode cX6_append 1 = .ok (.iload_n 1, 1) := by decide +kernel
theorem dX6_append_2 : decode cX6_append 2 = .ok (.i2l, 1) := by decide +kernel
theorem dX6_append_3 : decode cX6_append 3 = .ok (.lconst 0, 1) := by decide +kernel
theorem dX6_append_4 : decode cX6_append 4 = .ok (.ldc2_w 122, 3) := by decide +kernel
theorem dX6_append_7 : decode cX6_append 7 = .ok (.invokestatic 51, 3) := by decide +kernel
theorem dX6_append_10 : decode cX6_append 10 = .ok (.ifCond .ne 7, 3) := by decide +kernel
theorem dX6_append_13 : decode cX6_append 13 = .ok (.iconst 1, 1) := by decide +kernel
theorem dX6_append_14 : decode cX6_append 14 = .ok (.goto 17, 3) := by decide +kernel
theorem dX6_append_17 : decode cX6_append 17 = .ok (.aload_n 0, 1) := by decide +kernel
theorem dX6_append_18 : decode cX6_append 18 = .ok (.getfield 124, 3) := by decide +kernel
theorem dX6_append_21 : decode cX6_append 21 = .ok (.bipush 120, 2) := by decide +kernel
theorem dX6_append_23 : decode cX6_append 23 = .ok (.if_icmp .ne 7, 3) := by decide +kernel
theorem dX6_append_26 : decode cX6_append 26 = .ok (.iconst 2, 1) := by decide +kernel
theorem dX6_append_27 : decode cX6_append 27 = .ok (.goto 4, 3) := by decide +kernel
theorem dX6_append_30 : decode cX6_append 30 = .ok (.iconst 0, 1) := by decide +kernel
theorem dX6_append_31 : decode cX6_append 31 = .ok (.invokevirtual 127, 3) := by decide +kernel
theorem dX6_append_34 : decode cX6_append 34 = .ok (.ifCond .eq 5, 3) := by decide +kernel
theorem dX6_append_37 : decode cX6_append 37 = .ok (.iconst 0, 1) := by decide +kernel
theorem dX6_append_38 : decode cX6_append 38 = .ok (.ireturn, 1) := by decide +kernel
theorem dX6_append_39 : decode cX6_append 39 = .ok (.aload_n 0, 1) := by decide +kernel
theorem dX6_append_40 : decode cX6_append 40 = .ok (.getfield 7, 3) := by decide +kernel
theorem dX6_append_43 : decode cX6_append 43 = .ok (.aload_n 0, 1) := by decide +kernel
theorem dX6_append_44 : decode cX6_append 44 = .ok (.getfield 124, 3) := by decide +kernel
theorem dX6_append_47 : decode cX6_append 47 = .ok (.iload_n 1, 1) := by decide +kernel
theorem dX6_append_48 : decode cX6_append 48 = .ok (.iastore, 1) := by decide +kernel
theorem dX6_append_49 : decode cX6_append 49 = .ok (.aload_n 0, 1) := by decide +kernel
theorem dX6_append_50 : decode cX6_append 50 = .ok (.dup, 1) := by decide +kernel
theorem dX6_append_51 : decode cX6_append 51 = .ok (.getfield 124, 3) := by decide +kernel
theorem dX6_append_54 : decode cX6_append 54 = .ok (.iconst 1, 1) := by decide +kernel
theorem dX6_append_55 : decode cX6_append 55 = .ok (.iadd, 1) := by decide +kernel
theorem dX6_append_56 : decode cX6_append 56 = .ok (.putfield 124, 3) := by decide +kernel
theorem dX6_append_59 : decode cX6_append 59 = .ok (.aload_n 0, 1) := by decide +kernel
theorem dX6_append_60 : decode cX6_append 60 = .ok (.getfield 124, 3) := by decide +kernel
theorem dX6_append_63 : decode cX6_append 63 = .ok (.ireturn, 1) := by decide +kernel
theorem dX6_clearText_0 : decode cX6_clearText 0 = .ok (.aload_n 0, 1) := by decide +kernel
theorem dX6_clearText_1 : decode cX6_clearText 1 = .ok (.iconst 0, 1) := by decide +kernel
theorem dX6_clearText_2 : decode cX6_clearText 2 = .ok (.putfield 43, 3) := by decide +kernel
theorem dX6_clearText_5 : decode cX6_clearText 5 = .ok (.aload_n 0, 1) := by decide +kernel
theorem dX6_clearText_6 : decode cX6_clearText 6 = .ok (.getfield 124, 3) := by decide +kernel
theorem dX6_clearText_9 : decode cX6_clearText 9 = .ok (.istore_n 1, 1) := by decide +kernel
theorem dX6_clearText_10 : decode cX6_clearText 10 = .ok (.aload_n 0, 1) := by decide +kernel
theorem dX6_clearText_11 : decode cX6_clearText 11 = .ok (.iconst 0, 1) := by decide +kernel
theorem dX6_clearText_12 : decode cX6_clearText 12 = .ok (.putfield 124, 3) := by decide +kernel
theorem dX6_clearText_15 : decode cX6_clearText 15 = .ok (.iload_n 1, 1) := by decide +kernel
theorem dX6_clearText_16 : decode cX6_clearText 16 = .ok (.ireturn, 1) := by decide +kernel
set_option maxRecDepth 20000 in
theorem ggX6_figures_X6_in : GoodIn wsX6_figures wsX6_in := goodIn_r _ [8] (by decide +kernel) (by decide +kernel)
set_option maxRecDepth 20000 in
theorem gX6_figures_X6_in : GoodIn wsX6_figures (va_wsS RX6 51 yX6_in wsX6_in) := goodIn_app (goodIn_of _ (by decide +kernel)) ggX6_figures_X6_in
theorem dX6_figures_0 : decode cX6_figures 0 = .ok (.iconst 0, 1) := by decide +kernel
theorem dX6_figures_1 : decode cX6_figures 1 = .ok (.istore 5, 2) := by decide +kernel
theorem dX6_figures_3 : decode cX6_figures 3 = .ok (.iload_n 2, 1) := by decide +kernel
theorem dX6_figures_4 : decode cX6_figures 4 = .ok (.iconst 2, 1) := by decide +kernel
theorem dX6_figures_5 : decode cX6_figures 5 = .ok (.if_icmp .ne 8, 3) := by decide +kernel
theorem dX6_figures_8 : decode cX6_figures 8 = .ok (.bipush 10, 2) := by decide +kernel
theorem dX6_figures_10 : decode cX6_figures 10 = .ok (.goto 4, 3) := by decide +kernel
theorem dX6_figures_13 : decode cX6_figures 13 = .ok (.iconst 1, 1) := by decide +kernel
theorem dX6_figures_14 : decode cX6_figures 14 = .ok (.istore 6, 2) := by decide +kernel
theorem dX6_figures_16 : decode cX6_figures 16 = .ok (.iload 6, 2) := by decide +kernel
theorem dX6_figures_18 : decode cX6_figures 18 = .ok (.ifCond .le 104, 3) := by decide +kernel
theorem dX6_figures_21 : decode cX6_figures 21 = .ok (.iload_n 1, 1) := by decide +kernel
theorem dX6_figures_22 : decode cX6_figures 22 = .ok (.iconst (-1), 1) := by decide +kernel
theorem dX6_figures_23 : decode cX6_figures 23 = .ok (.if_icmp .eq 99, 3) := by decide +kernel
theorem dX6_figures_26 : decode cX6_figures 26 = .ok (.aload_n 0, 1) := by decide +kernel
theorem dX6_figures_27 : decode cX6_figures 27 = .ok (.getfield 130, 3) := by decide +kernel
theorem dX6_figures_30 : decode cX6_figures 30 = .ok (.aload_n 0, 1) := by decide +kernel
theorem dX6_figures_31 : decode cX6_figures 31 = .ok (.getfield 124, 3) := by decide +kernel
theorem dX6_figures_34 : decode cX6_figures 34 = .ok (.if_icmp .ge 18, 3) := by decide +kernel
theorem dX6_figures_37 : decode cX6_figures 37 = .ok (.aload_n 0, 1) := by decide +kernel
theorem dX6_figures_38 : decode cX6_figures 38 = .ok (.getfield 7, 3) := by decide +kernel
theorem dX6_figures_41 : decode cX6_figures 41 = .ok (.aload_n 0, 1) := by decide +kernel
theorem dX6_figures_42 : decode cX6_figures 42 = .ok (.getfield 130, 3) := by decide +kernel
theorem dX6_figures_45 : decode cX6_figures 45 = .ok (.iaload, 1) := by decide +kernel
theorem dX6_figures_46 : decode cX6_figures 46 = .ok (.bipush 48, 2) := by decide +kernel
theorem dX6_figures_48 : decode cX6_figures 48 = .ok (.isub, 1) := by decide +kernel
theorem dX6_figures_49 : decode cX6_figures 49 = .ok (.goto 4, 3) := by decide +kernel
theorem dX6_figures_52 : decode cX6_figures 52 = .ok (.iconst (-1), 1) := by decide +kernel
theorem dX6_figures_53 : decode cX6_figures 53 = .ok (.istore 7, 2) := by decide +kernel
theorem dX6_figures_55 : decode cX6_figures 55 = .ok (.iload 5, 2) := by decide +kernel
theorem dX6_figures_57 : decode cX6_figures 57 = .ok (.iload 7, 2) := by decide +kernel
theorem dX6_figures_59 : decode cX6_figures 59 = .ok (.iload 6, 2) := by decide +kernel
theorem dX6_figures_61 : decode cX6_figures 61 = .ok (.imul, 1) := by decide +kernel
theorem dX6_figures_62 : decode cX6_figures 62 = .ok (.iadd, 1) := by decide +kernel
theorem dX6_figures_63 : decode cX6_figures 63 = .ok (.istore 8, 2) := by decide +kernel
theorem dX6_figures_65 : decode cX6_figures 65 = .ok (.iload 7, 2) := by decide +kernel
theorem dX6_figures_67 : decode cX6_figures 67 = .ok (.i2l, 1) := by decide +kernel
theorem dX6_figures_68 : decode cX6_figures 68 = .ok (.lconst 0, 1) := by decide +kernel
theorem dX6_figures_69 : decode cX6_figures 69 = .ok (.ldc2_w 133, 3) := by decide +kernel
theorem dX6_figures_72 : decode cX6_figures 72 = .ok (.invokestatic 51, 3) := by decide +kernel
theorem dX6_figures_75 : decode cX6_figures 75 = .ok (.ifCond .eq 21, 3) := by decide +kernel
theorem dX6_figures_78 : decode cX6_figures 78 = .ok (.iload 8, 2) := by decide +kernel
theorem dX6_figures_80 : decode cX6_figures 80 = .ok (.iload 4, 2) := by decide +kernel
theorem dX6_figures_82 : decode cX6_figures 82 = .ok (.if_icmp .gt 14, 3) := by decide +kernel
theorem dX6_figures_85 : decode cX6_figures 85 = .ok (.iload 8, 2) := by decide +kernel
theorem dX6_figures_87 : decode cX6_figures 87 = .ok (.iload 6, 2) := by decide +kernel
theorem dX6_figures_89 : decode cX6_figures 89 = .ok (.iadd, 1) := by decide +kernel
theorem dX6_figures_90 : decode cX6_figures 90 = .ok (.iconst 1, 1) := by decide +kernel
theorem dX6_figures_91 : decode cX6_figures 91 = .ok (.isub, 1) := by decide +kernel
theorem dX6_figures_92 : decode cX6_figures 92 = .ok (.iload_n 3, 1) := by decide +kernel
theorem dX6_figures_93 : decode cX6_figures 93 = .ok (.if_icmp .ge 5, 3) := by decide +kernel
theorem dX6_figures_96 : decode cX6_figures 96 = .ok (.iconst (-1), 1) := by decide +kernel
theorem dX6_figures_97 : decode cX6_figures 97 = .ok (.ireturn, 1) := by decide +kernel
theorem dX6_figures_98 : decode cX6_figures 98 = .ok (.iload 8, 2) := by decide +kernel
theorem dX6_figures_100 : decode cX6_figures 100 = .ok (.istore 5, 2) := by decide +kernel
theorem dX6_figures_102 : decode cX6_figures 102 = .ok (.aload_n 0, 1) := by decide +kernel
theorem dX6_figures_103 : decode cX6_figures 103 = .ok (.dup, 1) := by decide +kernel
theorem dX6_figures_104 : decode cX6_figures 104 = .ok (.getfield 130, 3) := by decide +kernel
theorem dX6_figures_107 : decode cX6_figures 107 = .ok (.iconst 1, 1) := by decide +kernel
theorem dX6_figures_108 : decode cX6_figures 108 = .ok (.iadd, 1) := by decide +kernel
theorem dX6_figures_109 : decode cX6_figures 109 = .ok (.putfield 130, 3) := by decide +kernel
theorem dX6_figures_112 : decode cX6_figures 112 = .ok (.iload 6, 2) := by decide +kernel
theorem dX6_figures_114 : decode cX6_figures 114 = .ok (.bipush 10, 2) := by decide +kernel
theorem dX6_figures_116 : decode cX6_figures 116 = .ok (.idiv, 1) := by decide +kernel
theorem dX6_figures_117 : decode cX6_figures 117 = .ok (.istore 6, 2) := by decide +kernel
theorem dX6_figures_119 : decode cX6_figures 119 = .ok (.goto (-103), 3) := by decide +kernel
theorem dX6_figures_122 : decode cX6_figures 122 = .ok (.iload_n 1, 1) := by decide +kernel
theorem dX6_figures_123 : decode cX6_figures 123 = .ok (.iconst (-1), 1) := by decide +kernel
theorem dX6_figures_124 : decode cX6_figures 124 = .ok (.if_icmp .ne 7, 3) := by decide +kernel
theorem dX6_figures_127 : decode cX6_figures 127 = .ok (.iconst (-1), 1) := by decide +kernel
theorem dX6_figures_128 : decode cX6_figures 128 = .ok (.goto 5, 3) := by decide +kernel
theorem dX6_figures_131 : decode cX6_figures 131 = .ok (.iload 5, 2) := by decide +kernel
theorem dX6_figures_133 : decode cX6_figures 133 = .ok (.ireturn, 1) := by decide +kernel
theorem dX6_done_0 : decode cX6_done 0 = .ok (.aload_n 0, 1) := by decide +kernel
theorem dX6_done_1 : decode cX6_done 1 = .ok (.dup, 1) := by decide +kernel
theorem dX6_done_2 : decode cX6_done 2 = .ok (.getfield 135, 3) := by decide +kernel
theorem dX6_done_5 : decode cX6_done 5 = .ok (.iload_n 1, 1) := by decide +kernel
theorem dX6_done_6 : decode cX6_done 6 = .ok (.ifCond .eq 7, 3) := by decide +kernel
theorem dX6_done_9 : decode cX6_done 9 = .ok (.iconst 0, 1) := by decide +kernel
theorem dX6_done_10 : decode cX6_done 10 = .ok (.goto 4, 3) := by decide +kernel
theorem dX6_done_13 : decode cX6_done 13 = .ok (.iconst 1, 1) := by decide +kernel
theorem dX6_done_14 : decode cX6_done 14 = .ok (.iadd, 1) := by decide +kernel
theorem dX6_done_15 : decode cX6_done 15 = .ok (.putfield 135, 3) := by decide +kernel
theorem dX6_done_18 : decode cX6_done 18 = .ok (.iconst 1, 1) := by decide +kernel
theorem dX6_done_19 : decode cX6_done 19 = .ok (.ireturn, 1) := by decide +kernel
set_option maxRecDepth 20000 in
theorem ggX6_readCommand_X6_figures : GoodIn wsX6_readCommand wsX6_figures := goodIn_r _ [7, 2, 8, 1, 9, 10, 11, 6, 12, 87, 88, 89, 90, 91, 92, 93, 94, 95, 96, 97, 98, 99, 100, 101] (by decide +kernel) (by decide +kernel)
set_option maxRecDepth 20000 in
theorem gX6_readCommand_X6_figures : GoodIn wsX6_readCommand (wsV RX6 138 RX6 yX6_figures wsX6_figures) := goodIn_app (goodIn_of _ (by decide +kernel)) ggX6_readCommand_X6_figures
set_option maxRecDepth 20000 in
theorem ggX6_readCommand_X6_isCell : GoodIn wsX6_readCommand wsX6_isCell := goodIn_r _ [15, 16, 17, 6, 18, 10, 11, 12] (by decide +kernel) (by decide +kernel)
set_option maxRecDepth 20000 in
theorem gX6_readCommand_X6_isCell : GoodIn wsX6_readCommand (va_wsS RX6 111 yX6_isCell wsX6_isCell) := goodIn_app (goodIn_of _ (by decide +kernel)) ggX6_readCommand_X6_isCell
set_option maxRecDepth 20000 in
theorem ggX6_readCommand_X6_flipOn : GoodIn wsX6_readCommand wsX6_flipOn := goodIn_r _ [21, 22, 23, 6, 24] (by decide +kernel) (by decide +kernel)
set_option maxRecDepth 20000 in
theorem gX6_readCommand_X6_flipOn : GoodIn wsX6_readCommand (va_wsS RX6 142 yX6_flipOn wsX6_flipOn) := goodIn_app (goodIn_of _ (by decide +kernel)) ggX6_readCommand_X6_flipOn
set_option maxRecDepth 20000 in
theorem ggX6_readCommand_X6_done : GoodIn wsX6_readCommand wsX6_done := goodIn_r _ [28, 29, 87, 88, 89, 90, 91, 92, 93, 94, 95, 96, 97, 98, 99, 100, 101] (by decide +kernel) (by decide +kernel)
set_option maxRecDepth 20000 in
theorem gX6_readCommand_X6_done : GoodIn wsX6_readCommand (wsV RX6 145 RX6 yX6_done wsX6_done) := goodIn_app (goodIn_of _ (by decide +kernel)) ggX6_readCommand_X6_done
set_option maxRecDepth 20000 in
theorem ggX6_readCommand_X6_canScratch : GoodIn wsX6_readCommand wsX6_canScratch := goodIn_r _ [32, 13, 14, 6, 15, 16, 17, 18, 10, 11, 12, 33, 34, 35, 36, 37, 38, 39, 40, 41, 42, 43] (by decide +kernel) (by decide +kernel)
set_option maxRecDepth 20000 in
theorem gX6_readCommand_X6_canScratch : GoodIn wsX6_readCommand (va_wsS RX6 149 yX6_canScratch wsX6_canScratch) := goodIn_app (goodIn_of _ (by decide +kernel)) ggX6_readCommand_X6_canScratch
set_option maxRecDepth 20000 in
theorem ggX6_readCommand_X6_scratchOn : GoodIn wsX6_readCommand wsX6_scratchOn := goodIn_r _ [46, 47, 48, 6, 49, 50, 51, 52, 37, 38, 39, 40, 41, 42, 43, 16, 17, 18, 53, 54, 55, 22, 23, 24] (by decide +kernel) (by decide +kernel)
set_option maxRecDepth 20000 in
theorem gX6_readCommand_X6_scratchOn : GoodIn wsX6_readCommand (va_wsS RX6 152 yX6_scratchOn wsX6_scratchOn) := goodIn_app (goodIn_of _ (by decide +kernel)) ggX6_readCommand_X6_scratchOn
set_option maxRecDepth 20000 in
theorem ggX6_readCommand_X6_borderOn : GoodIn wsX6_readCommand wsX6_borderOn := goodIn_r _ [58] (by decide +kernel) (by decide +kernel)
set_option maxRecDepth 20000 in
theorem gX6_readCommand_X6_borderOn : GoodIn wsX6_readCommand (va_wsS RX6 155 yX6_borderOn wsX6_borderOn) := goodIn_app (goodIn_of _ (by decide +kernel)) ggX6_readCommand_X6_borderOn
set_option maxRecDepth 20000 in
theorem ggX6_readCommand_X6_ruleOn : GoodIn wsX6_readCommand wsX6_ruleOn := goodIn_r _ [61] (by decide +kernel) (by decide +kernel)
set_option maxRecDepth 20000 in
theorem gX6_readCommand_X6_ruleOn : GoodIn wsX6_readCommand (va_wsS RX6 158 yX6_ruleOn wsX6_ruleOn) := goodIn_app (goodIn_of _ (by decide +kernel)) ggX6_readCommand_X6_ruleOn
set_option maxRecDepth 20000 in
theorem ggX6_readCommand_X6_breatheOn : GoodIn wsX6_readCommand wsX6_breatheOn := goodIn_r _ [64, 65, 66, 67, 6, 68, 16, 17, 18, 22, 23, 24, 69, 70, 71, 53, 54, 55, 37, 38, 39, 40, 41, 42, 43, 47, 48, 49, 50, 51, 52, 72, 73, 74] (by decide +kernel) (by decide +kernel)
set_option maxRecDepth 20000 in
theorem gX6_readCommand_X6_breatheOn : GoodIn wsX6_readCommand (va_wsS RX6 161 yX6_breatheOn wsX6_breatheOn) := goodIn_app (goodIn_of _ (by decide +kernel)) ggX6_readCommand_X6_breatheOn
set_option maxRecDepth 20000 in
theorem ggX6_readCommand_X6_nightsOn : GoodIn wsX6_readCommand wsX6_nightsOn := goodIn_r _ [77, 78, 79, 6, 80, 16, 17, 18, 81, 82, 83, 69, 70, 71, 53, 54, 55, 37, 38, 39, 40, 41, 42, 43, 47, 48, 49, 50, 51, 52, 22, 23, 24, 84, 85, 86, 72, 73, 74] (by decide +kernel) (by decide +kernel)
set_option maxRecDepth 20000 in
theorem gX6_readCommand_X6_nightsOn : GoodIn wsX6_readCommand (va_wsS RX6 164 yX6_nightsOn wsX6_nightsOn) := goodIn_app (goodIn_of _ (by decide +kernel)) ggX6_readCommand_X6_nightsOn
theorem dX6_readCommand_0 : decode cX6_readCommand 0 = .ok (.aload_n 0, 1) := by decide +kernel
theorem dX6_readCommand_1 : decode cX6_readCommand 1 = .ok (.getfield 7, 3) := by decide +kernel
theorem dX6_readCommand_4 : decode cX6_readCommand 4 = .ok (.aload_n 0, 1) := by decide +kernel
theorem dX6_readCommand_5 : decode cX6_readCommand 5 = .ok (.getfield 130, 3) := by decide +kernel
theorem dX6_readCommand_8 : decode cX6_readCommand 8 = .ok (.iaload, 1) := by decide +kernel
theorem dX6_readCommand_9 : decode cX6_readCommand 9 = .ok (.istore_n 2, 1) := by decide +kernel
theorem dX6_readCommand_10 : decode cX6_readCommand 10 = .ok (.aload_n 0, 1) := by decide +kernel
theorem dX6_readCommand_11 : decode cX6_readCommand 11 = .ok (.dup, 1) := by decide +kernel
theorem dX6_readCommand_12 : decode cX6_readCommand 12 = .ok (.getfield 130, 3) := by decide +kernel
theorem dX6_readCommand_15 : decode cX6_readCommand 15 = .ok (.iconst 1, 1) := by decide +kernel
theorem dX6_readCommand_16 : decode cX6_readCommand 16 = .ok (.iadd, 1) := by decide +kernel
theorem dX6_readCommand_17 : decode cX6_readCommand 17 = .ok (.putfield 130, 3) := by decide +kernel
theorem dX6_readCommand_20 : decode cX6_readCommand 20 = .ok (.iload_n 2, 1) := by decide +kernel
theorem dX6_readCommand_21 : decode cX6_readCommand 21 = .ok (.tableswitch 401 98 116 #[204, 401, 401, 401, 91, 401, 401, 401, 401, 401, 401, 401, 360, 401, 401, 401, 257, 140, 297], 91) := by decide +kernel
theorem dX6_readCommand_112 : decode cX6_readCommand 112 = .ok (.aload_n 0, 1) := by decide +kernel
theorem dX6_readCommand_113 : decode cX6_readCommand 113 = .ok (.iconst 0, 1) := by decide +kernel
theorem dX6_readCommand_114 : decode cX6_readCommand 114 = .ok (.iconst 2, 1) := by decide +kernel
theorem dX6_readCommand_115 : decode cX6_readCommand 115 = .ok (.iconst 0, 1) := by decide +kernel
theorem dX6_readCommand_116 : decode cX6_readCommand 116 = .ok (.bipush 63, 2) := by decide +kernel
theorem dX6_readCommand_118 : decode cX6_readCommand 118 = .ok (.invokevirtual 138, 3) := by decide +kernel
theorem dX6_readCommand_121 : decode cX6_readCommand 121 = .ok (.istore_n 3, 1) := by decide +kernel
theorem dX6_readCommand_122 : decode cX6_readCommand 122 = .ok (.iload_n 3, 1) := by decide +kernel
theorem dX6_readCommand_123 : decode cX6_readCommand 123 = .ok (.iconst (-1), 1) := by decide +kernel
theorem dX6_readCommand_124 : decode cX6_readCommand 124 = .ok (.if_icmp .eq 35, 3) := by decide +kernel
theorem dX6_readCommand_127 : decode cX6_readCommand 127 = .ok (.aload_n 0, 1) := by decide +kernel
theorem dX6_readCommand_128 : decode cX6_readCommand 128 = .ok (.aload_n 1, 1) := by decide +kernel
theorem dX6_readCommand_129 : decode cX6_readCommand 129 = .ok (.iload_n 3, 1) := by decide +kernel
theorem dX6_readCommand_130 : decode cX6_readCommand 130 = .ok (.invokestatic 111, 3) := by decide +kernel
theorem dX6_readCommand_133 : decode cX6_readCommand 133 = .ok (.ifCond .eq 15, 3) := by decide +kernel
theorem dX6_readCommand_136 : decode cX6_readCommand 136 = .ok (.aload_n 1, 1) := by decide +kernel
theorem dX6_readCommand_137 : decode cX6_readCommand 137 = .ok (.iload_n 3, 1) := by decide +kernel
theorem dX6_readCommand_138 : decode cX6_readCommand 138 = .ok (.invokestatic 142, 3) := by decide +kernel
theorem dX6_readCommand_141 : decode cX6_readCommand 141 = .ok (.ifCond .lt 7, 3) := by decide +kernel
theorem dX6_readCommand_144 : decode cX6_readCommand 144 = .ok (.iconst 1, 1) := by decide +kernel
theorem dX6_readCommand_145 : decode cX6_readCommand 145 = .ok (.goto 4, 3) := by decide +kernel
theorem dX6_readCommand_148 : decode cX6_readCommand 148 = .ok (.iconst 0, 1) := by decide +kernel
theorem dX6_readCommand_149 : decode cX6_readCommand 149 = .ok (.invokevirtual 145, 3) := by decide +kernel
theorem dX6_readCommand_152 : decode cX6_readCommand 152 = .ok (.ifCond .eq 7, 3) := by decide +kernel
theorem dX6_readCommand_155 : decode cX6_readCommand 155 = .ok (.iconst 1, 1) := by decide +kernel
theorem dX6_readCommand_156 : decode cX6_readCommand 156 = .ok (.goto 4, 3) := by decide +kernel
theorem dX6_readCommand_159 : decode cX6_readCommand 159 = .ok (.iconst 0, 1) := by decide +kernel
theorem dX6_readCommand_160 : decode cX6_readCommand 160 = .ok (.ireturn, 1) := by decide +kernel
theorem dX6_readCommand_161 : decode cX6_readCommand 161 = .ok (.aload_n 0, 1) := by decide +kernel
theorem dX6_readCommand_162 : decode cX6_readCommand 162 = .ok (.iconst 0, 1) := by decide +kernel
theorem dX6_readCommand_163 : decode cX6_readCommand 163 = .ok (.iconst 2, 1) := by decide +kernel
theorem dX6_readCommand_164 : decode cX6_readCommand 164 = .ok (.iconst 0, 1) := by decide +kernel
theorem dX6_readCommand_165 : decode cX6_readCommand 165 = .ok (.bipush 63, 2) := by decide +kernel
theorem dX6_readCommand_167 : decode cX6_readCommand 167 = .ok (.invokevirtual 138, 3) := by decide +kernel
theorem dX6_readCommand_170 : decode cX6_readCommand 170 = .ok (.istore_n 3, 1) := by decide +kernel
theorem dX6_readCommand_171 : decode cX6_readCommand 171 = .ok (.aload_n 0, 1) := by decide +kernel
theorem dX6_readCommand_172 : decode cX6_readCommand 172 = .ok (.iload_n 3, 1) := by decide +kernel
theorem dX6_readCommand_173 : decode cX6_readCommand 173 = .ok (.iconst 1, 1) := by decide +kernel
theorem dX6_readCommand_174 : decode cX6_readCommand 174 = .ok (.iconst 0, 1) := by decide +kernel
theorem dX6_readCommand_175 : decode cX6_readCommand 175 = .ok (.iconst 3, 1) := by decide +kernel
theorem dX6_readCommand_176 : decode cX6_readCommand 176 = .ok (.invokevirtual 138, 3) := by decide +kernel
theorem dX6_readCommand_179 : decode cX6_readCommand 179 = .ok (.istore 4, 2) := by decide +kernel
theorem dX6_readCommand_181 : decode cX6_readCommand 181 = .ok (.iload 4, 2) := by decide +kernel
theorem dX6_readCommand_183 : decode cX6_readCommand 183 = .ok (.iconst (-1), 1) := by decide +kernel
theorem dX6_readCommand_184 : decode cX6_readCommand 184 = .ok (.if_icmp .eq 39, 3) := by decide +kernel
theorem dX6_readCommand_187 : decode cX6_readCommand 187 = .ok (.aload_n 0, 1) := by decide +kernel
theorem dX6_readCommand_188 : decode cX6_readCommand 188 = .ok (.aload_n 1, 1) := by decide +kernel
theorem dX6_readCommand_189 : decode cX6_readCommand 189 = .ok (.iload_n 3, 1) := by decide +kernel
theorem dX6_readCommand_190 : decode cX6_readCommand 190 = .ok (.iload 4, 2) := by decide +kernel
theorem dX6_readCommand_192 : decode cX6_readCommand 192 = .ok (.invokestatic 149, 3) := by decide +kernel
theorem dX6_readCommand_195 : decode cX6_readCommand 195 = .ok (.ifCond .eq 17, 3) := by decide +kernel
theorem dX6_readCommand_198 : decode cX6_readCommand 198 = .ok (.aload_n 1, 1) := by decide +kernel
theorem dX6_readCommand_199 : decode cX6_readCommand 199 = .ok (.iload_n 3, 1) := by decide +kernel
theorem dX6_readCommand_200 : decode cX6_readCommand 200 = .ok (.iload 4, 2) := by decide +kernel
theorem dX6_readCommand_202 : decode cX6_readCommand 202 = .ok (.invokestatic 152, 3) := by decide +kernel
theorem dX6_readCommand_205 : decode cX6_readCommand 205 = .ok (.ifCond .lt 7, 3) := by decide +kernel
theorem dX6_readCommand_208 : decode cX6_readCommand 208 = .ok (.iconst 1, 1) := by decide +kernel
theorem dX6_readCommand_209 : decode cX6_readCommand 209 = .ok (.goto 4, 3) := by decide +kernel
theorem dX6_readCommand_212 : decode cX6_readCommand 212 = .ok (.iconst 0, 1) := by decide +kernel
theorem dX6_readCommand_213 : decode cX6_readCommand 213 = .ok (.invokevirtual 145, 3) := by decide +kernel
theorem dX6_readCommand_216 : decode cX6_readCommand 216 = .ok (.ifCond .eq 7, 3) := by decide +kernel
theorem dX6_readCommand_219 : decode cX6_readCommand 219 = .ok (.iconst 1, 1) := by decide +kernel
theorem dX6_readCommand_220 : decode cX6_readCommand 220 = .ok (.goto 4, 3) := by decide +kernel
theorem dX6_readCommand_223 : decode cX6_readCommand 223 = .ok (.iconst 0, 1) := by decide +kernel
theorem dX6_readCommand_224 : decode cX6_readCommand 224 = .ok (.ireturn, 1) := by decide +kernel
theorem dX6_readCommand_225 : decode cX6_readCommand 225 = .ok (.aload_n 0, 1) := by decide +kernel
theorem dX6_readCommand_226 : decode cX6_readCommand 226 = .ok (.iconst 0, 1) := by decide +kernel
theorem dX6_readCommand_227 : decode cX6_readCommand 227 = .ok (.iconst 1, 1) := by decide +kernel
theorem dX6_readCommand_228 : decode cX6_readCommand 228 = .ok (.iconst 0, 1) := by decide +kernel
theorem dX6_readCommand_229 : decode cX6_readCommand 229 = .ok (.iconst 3, 1) := by decide +kernel
theorem dX6_readCommand_230 : decode cX6_readCommand 230 = .ok (.invokevirtual 138, 3) := by decide +kernel
theorem dX6_readCommand_233 : decode cX6_readCommand 233 = .ok (.istore_n 3, 1) := by decide +kernel
theorem dX6_readCommand_234 : decode cX6_readCommand 234 = .ok (.aload_n 0, 1) := by decide +kernel
theorem dX6_readCommand_235 : decode cX6_readCommand 235 = .ok (.iload_n 3, 1) := by decide +kernel
theorem dX6_readCommand_236 : decode cX6_readCommand 236 = .ok (.iconst 1, 1) := by decide +kernel
theorem dX6_readCommand_237 : decode cX6_readCommand 237 = .ok (.iconst 0, 1) := by decide +kernel
theorem dX6_readCommand_238 : decode cX6_readCommand 238 = .ok (.iconst 2, 1) := by decide +kernel
theorem dX6_readCommand_239 : decode cX6_readCommand 239 = .ok (.invokevirtual 138, 3) := by decide +kernel
theorem dX6_readCommand_242 : decode cX6_readCommand 242 = .ok (.istore 4, 2) := by decide +kernel
theorem dX6_readCommand_244 : decode cX6_readCommand 244 = .ok (.iload 4, 2) := by decide +kernel
theorem dX6_readCommand_246 : decode cX6_readCommand 246 = .ok (.iconst (-1), 1) := by decide +kernel
theorem dX6_readCommand_247 : decode cX6_readCommand 247 = .ok (.if_icmp .eq 29, 3) := by decide +kernel
theorem dX6_readCommand_250 : decode cX6_readCommand 250 = .ok (.aload_n 0, 1) := by decide +kernel
theorem dX6_readCommand_251 : decode cX6_readCommand 251 = .ok (.aload_n 1, 1) := by decide +kernel
theorem dX6_readCommand_252 : decode cX6_readCommand 252 = .ok (.iload_n 3, 1) := by decide +kernel
theorem dX6_readCommand_253 : decode cX6_readCommand 253 = .ok (.iload 4, 2) := by decide +kernel
theorem dX6_readCommand_255 : decode cX6_readCommand 255 = .ok (.invokestatic 155, 3) := by decide +kernel
theorem dX6_readCommand_258 : decode cX6_readCommand 258 = .ok (.ifCond .lt 7, 3) := by decide +kernel
theorem dX6_readCommand_261 : decode cX6_readCommand 261 = .ok (.iconst 1, 1) := by decide +kernel
theorem dX6_readCommand_262 : decode cX6_readCommand 262 = .ok (.goto 4, 3) := by decide +kernel
theorem dX6_readCommand_265 : decode cX6_readCommand 265 = .ok (.iconst 0, 1) := by decide +kernel
theorem dX6_readCommand_266 : decode cX6_readCommand 266 = .ok (.invokevirtual 145, 3) := by decide +kernel
theorem dX6_readCommand_269 : decode cX6_readCommand 269 = .ok (.ifCond .eq 7, 3) := by decide +kernel
theorem dX6_readCommand_272 : decode cX6_readCommand 272 = .ok (.iconst 1, 1) := by decide +kernel
theorem dX6_readCommand_273 : decode cX6_readCommand 273 = .ok (.goto 4, 3) := by decide +kernel
theorem dX6_readCommand_276 : decode cX6_readCommand 276 = .ok (.iconst 0, 1) := by decide +kernel
theorem dX6_readCommand_277 : decode cX6_readCommand 277 = .ok (.ireturn, 1) := by decide +kernel
theorem dX6_readCommand_278 : decode cX6_readCommand 278 = .ok (.aload_n 0, 1) := by decide +kernel
theorem dX6_readCommand_279 : decode cX6_readCommand 279 = .ok (.iconst 0, 1) := by decide +kernel
theorem dX6_readCommand_280 : decode cX6_readCommand 280 = .ok (.iconst 1, 1) := by decide +kernel
theorem dX6_readCommand_281 : decode cX6_readCommand 281 = .ok (.iconst 0, 1) := by decide +kernel
theorem dX6_readCommand_282 : decode cX6_readCommand 282 = .ok (.iconst 2, 1) := by decide +kernel
theorem dX6_readCommand_283 : decode cX6_readCommand 283 = .ok (.invokevirtual 138, 3) := by decide +kernel
theorem dX6_readCommand_286 : decode cX6_readCommand 286 = .ok (.istore_n 3, 1) := by decide +kernel
theorem dX6_readCommand_287 : decode cX6_readCommand 287 = .ok (.iload_n 3, 1) := by decide +kernel
theorem dX6_readCommand_288 : decode cX6_readCommand 288 = .ok (.iconst (-1), 1) := by decide +kernel
theorem dX6_readCommand_289 : decode cX6_readCommand 289 = .ok (.if_icmp .eq 27, 3) := by decide +kernel
theorem dX6_readCommand_292 : decode cX6_readCommand 292 = .ok (.aload_n 0, 1) := by decide +kernel
theorem dX6_readCommand_293 : decode cX6_readCommand 293 = .ok (.aload_n 1, 1) := by decide +kernel
theorem dX6_readCommand_294 : decode cX6_readCommand 294 = .ok (.iload_n 3, 1) := by decide +kernel
theorem dX6_readCommand_295 : decode cX6_readCommand 295 = .ok (.invokestatic 158, 3) := by decide +kernel
theorem dX6_readCommand_298 : decode cX6_readCommand 298 = .ok (.ifCond .lt 7, 3) := by decide +kernel
theorem dX6_readCommand_301 : decode cX6_readCommand 301 = .ok (.iconst 1, 1) := by decide +kernel
theorem dX6_readCommand_302 : decode cX6_readCommand 302 = .ok (.goto 4, 3) := by decide +kernel
theorem dX6_readCommand_305 : decode cX6_readCommand 305 = .ok (.iconst 0, 1) := by decide +kernel
theorem dX6_readCommand_306 : decode cX6_readCommand 306 = .ok (.invokevirtual 145, 3) := by decide +kernel
theorem dX6_readCommand_309 : decode cX6_readCommand 309 = .ok (.ifCond .eq 7, 3) := by decide +kernel
theorem dX6_readCommand_312 : decode cX6_readCommand 312 = .ok (.iconst 1, 1) := by decide +kernel
theorem dX6_readCommand_313 : decode cX6_readCommand 313 = .ok (.goto 4, 3) := by decide +kernel
theorem dX6_readCommand_316 : decode cX6_readCommand 316 = .ok (.iconst 0, 1) := by decide +kernel
theorem dX6_readCommand_317 : decode cX6_readCommand 317 = .ok (.ireturn, 1) := by decide +kernel
theorem dX6_readCommand_318 : decode cX6_readCommand 318 = .ok (.aload_n 0, 1) := by decide +kernel
theorem dX6_readCommand_319 : decode cX6_readCommand 319 = .ok (.iconst 0, 1) := by decide +kernel
theorem dX6_readCommand_320 : decode cX6_readCommand 320 = .ok (.iconst 2, 1) := by decide +kernel
theorem dX6_readCommand_321 : decode cX6_readCommand 321 = .ok (.iconst 0, 1) := by decide +kernel
theorem dX6_readCommand_322 : decode cX6_readCommand 322 = .ok (.bipush 63, 2) := by decide +kernel
theorem dX6_readCommand_324 : decode cX6_readCommand 324 = .ok (.invokevirtual 138, 3) := by decide +kernel
theorem dX6_readCommand_327 : decode cX6_readCommand 327 = .ok (.istore_n 3, 1) := by decide +kernel
theorem dX6_readCommand_328 : decode cX6_readCommand 328 = .ok (.aload_n 0, 1) := by decide +kernel
theorem dX6_readCommand_329 : decode cX6_readCommand 329 = .ok (.iload_n 3, 1) := by decide +kernel
theorem dX6_readCommand_330 : decode cX6_readCommand 330 = .ok (.iconst 1, 1) := by decide +kernel
theorem dX6_readCommand_331 : decode cX6_readCommand 331 = .ok (.iconst 0, 1) := by decide +kernel
theorem dX6_readCommand_332 : decode cX6_readCommand 332 = .ok (.bipush 9, 2) := by decide +kernel
theorem dX6_readCommand_334 : decode cX6_readCommand 334 = .ok (.invokevirtual 138, 3) := by decide +kernel
theorem dX6_readCommand_337 : decode cX6_readCommand 337 = .ok (.istore 4, 2) := by decide +kernel
theorem dX6_readCommand_339 : decode cX6_readCommand 339 = .ok (.iload 4, 2) := by decide +kernel
theorem dX6_readCommand_341 : decode cX6_readCommand 341 = .ok (.iconst (-1), 1) := by decide +kernel
theorem dX6_readCommand_342 : decode cX6_readCommand 342 = .ok (.if_icmp .eq 37, 3) := by decide +kernel
theorem dX6_readCommand_345 : decode cX6_readCommand 345 = .ok (.aload_n 0, 1) := by decide +kernel
theorem dX6_readCommand_346 : decode cX6_readCommand 346 = .ok (.aload_n 1, 1) := by decide +kernel
theorem dX6_readCommand_347 : decode cX6_readCommand 347 = .ok (.iload_n 3, 1) := by decide +kernel
theorem dX6_readCommand_348 : decode cX6_readCommand 348 = .ok (.invokestatic 111, 3) := by decide +kernel
theorem dX6_readCommand_351 : decode cX6_readCommand 351 = .ok (.ifCond .eq 17, 3) := by decide +kernel
theorem dX6_readCommand_354 : decode cX6_readCommand 354 = .ok (.aload_n 1, 1) := by decide +kernel
theorem dX6_readCommand_355 : decode cX6_readCommand 355 = .ok (.iload_n 3, 1) := by decide +kernel
theorem dX6_readCommand_356 : decode cX6_readCommand 356 = .ok (.iload 4, 2) := by decide +kernel
theorem dX6_readCommand_358 : decode cX6_readCommand 358 = .ok (.invokestatic 161, 3) := by decide +kernel
theorem dX6_readCommand_361 : decode cX6_readCommand 361 = .ok (.ifCond .lt 7, 3) := by decide +kernel
theorem dX6_readCommand_364 : decode cX6_readCommand 364 = .ok (.iconst 1, 1) := by decide +kernel
theorem dX6_readCommand_365 : decode cX6_readCommand 365 = .ok (.goto 4, 3) := by decide +kernel
theorem dX6_readCommand_368 : decode cX6_readCommand 368 = .ok (.iconst 0, 1) := by decide +kernel
theorem dX6_readCommand_369 : decode cX6_readCommand 369 = .ok (.invokevirtual 145, 3) := by decide +kernel
theorem dX6_readCommand_372 : decode cX6_readCommand 372 = .ok (.ifCond .eq 7, 3) := by decide +kernel
theorem dX6_readCommand_375 : decode cX6_readCommand 375 = .ok (.iconst 1, 1) := by decide +kernel
theorem dX6_readCommand_376 : decode cX6_readCommand 376 = .ok (.goto 4, 3) := by decide +kernel
theorem dX6_readCommand_379 : decode cX6_readCommand 379 = .ok (.iconst 0, 1) := by decide +kernel
theorem dX6_readCommand_380 : decode cX6_readCommand 380 = .ok (.ireturn, 1) := by decide +kernel
theorem dX6_readCommand_381 : decode cX6_readCommand 381 = .ok (.aload_n 0, 1) := by decide +kernel
theorem dX6_readCommand_382 : decode cX6_readCommand 382 = .ok (.iconst 0, 1) := by decide +kernel
theorem dX6_readCommand_383 : decode cX6_readCommand 383 = .ok (.iconst 2, 1) := by decide +kernel
theorem dX6_readCommand_384 : decode cX6_readCommand 384 = .ok (.iconst 1, 1) := by decide +kernel
theorem dX6_readCommand_385 : decode cX6_readCommand 385 = .ok (.bipush 60, 2) := by decide +kernel
theorem dX6_readCommand_387 : decode cX6_readCommand 387 = .ok (.invokevirtual 138, 3) := by decide +kernel
theorem dX6_readCommand_390 : decode cX6_readCommand 390 = .ok (.istore_n 3, 1) := by decide +kernel
theorem dX6_readCommand_391 : decode cX6_readCommand 391 = .ok (.iload_n 3, 1) := by decide +kernel
theorem dX6_readCommand_392 : decode cX6_readCommand 392 = .ok (.iconst (-1), 1) := by decide +kernel
theorem dX6_readCommand_393 : decode cX6_readCommand 393 = .ok (.if_icmp .eq 27, 3) := by decide +kernel
theorem dX6_readCommand_396 : decode cX6_readCommand 396 = .ok (.aload_n 0, 1) := by decide +kernel
theorem dX6_readCommand_397 : decode cX6_readCommand 397 = .ok (.aload_n 1, 1) := by decide +kernel
theorem dX6_readCommand_398 : decode cX6_readCommand 398 = .ok (.iload_n 3, 1) := by decide +kernel
theorem dX6_readCommand_399 : decode cX6_readCommand 399 = .ok (.invokestatic 164, 3) := by decide +kernel
theorem dX6_readCommand_402 : decode cX6_readCommand 402 = .ok (.ifCond .lt 7, 3) := by decide +kernel
theorem dX6_readCommand_405 : decode cX6_readCommand 405 = .ok (.iconst 1, 1) := by decide +kernel
theorem dX6_readCommand_406 : decode cX6_readCommand 406 = .ok (.goto 4, 3) := by decide +kernel
theorem dX6_readCommand_409 : decode cX6_readCommand 409 = .ok (.iconst 0, 1) := by decide +kernel
theorem dX6_readCommand_410 : decode cX6_readCommand 410 = .ok (.invokevirtual 145, 3) := by decide +kernel
theorem dX6_readCommand_413 : decode cX6_readCommand 413 = .ok (.ifCond .eq 7, 3) := by decide +kernel
theorem dX6_readCommand_416 : decode cX6_readCommand 416 = .ok (.iconst 1, 1) := by decide +kernel
theorem dX6_readCommand_417 : decode cX6_readCommand 417 = .ok (.goto 4, 3) := by decide +kernel
theorem dX6_readCommand_420 : decode cX6_readCommand 420 = .ok (.iconst 0, 1) := by decide +kernel
theorem dX6_readCommand_421 : decode cX6_readCommand 421 = .ok (.ireturn, 1) := by decide +kernel
theorem dX6_readCommand_422 : decode cX6_readCommand 422 = .ok (.aload_n 0, 1) := by decide +kernel
theorem dX6_readCommand_423 : decode cX6_readCommand 423 = .ok (.dup, 1) := by decide +kernel
theorem dX6_readCommand_424 : decode cX6_readCommand 424 = .ok (.getfield 130, 3) := by decide +kernel
theorem dX6_readCommand_427 : decode cX6_readCommand 427 = .ok (.iconst 1, 1) := by decide +kernel
theorem dX6_readCommand_428 : decode cX6_readCommand 428 = .ok (.isub, 1) := by decide +kernel
theorem dX6_readCommand_429 : decode cX6_readCommand 429 = .ok (.putfield 130, 3) := by decide +kernel
theorem dX6_readCommand_432 : decode cX6_readCommand 432 = .ok (.iconst 0, 1) := by decide +kernel
theorem dX6_readCommand_433 : decode cX6_readCommand 433 = .ok (.ireturn, 1) := by decide +kernel
set_option maxRecDepth 20000 in
theorem ggX6_readText_X6_figures : GoodIn wsX6_readText wsX6_figures := goodIn_r _ [9, 2, 3, 4, 10, 11, 12, 8, 13, 94, 95, 96, 97, 98, 99, 100, 101, 102, 103, 104, 105, 106, 107, 108] (by decide +kernel) (by decide +kernel)
set_option maxRecDepth 20000 in
theorem gX6_readText_X6_figures : GoodIn wsX6_readText (wsV RX6 138 RX6 yX6_figures wsX6_figures) := goodIn_app (goodIn_of _ (by decide +kernel)) ggX6_readText_X6_figures
set_option maxRecDepth 20000 in
theorem ggX6_readText_X6_clear : GoodIn wsX6_readText wsX6_clear := goodIn_r _ [16] (by decide +kernel) (by decide +kernel)
set_option maxRecDepth 20000 in
theorem gX6_readText_X6_clear : GoodIn wsX6_readText (va_wsS RX6 39 yX6_clear wsX6_clear) := goodIn_app (goodIn_of _ (by decide +kernel)) ggX6_readText_X6_clear
set_option maxRecDepth 20000 in
theorem ggX6_readText_X6_readCommand : GoodIn wsX6_readText wsX6_readCommand := goodIn_r _ [20, 4, 2, 5, 6, 7, 8, 9, 3, 10, 11, 12, 13, 21, 22, 23, 24, 25, 26, 27, 28, 29, 30, 31, 32, 33, 34, 35, 36, 1, 37, 38, 39, 40, 41, 42, 43, 44, 45, 46, 47, 48, 49, 50, 51, 52, 53, 54, 55, 56, 57, 58, 59, 60, 61, 62, 63, 64, 65, 66, 67, 68, 69, 70, 71, 72, 73, 74, 75, 76, 77, 78, 79, 80, 81, 82, 83, 84, 85, 86, 87, 88, 89, 90, 91, 92, 93, 94, 95, 96, 97, 98, 99, 100, 101, 102, 103, 104, 105, 106, 107, 108] (by decide +kernel) (by decide +kernel)
set_option maxRecDepth 20000 in
theorem gX6_readText_X6_readCommand : GoodIn wsX6_readText (wsV RX6 167 RX6 yX6_readCommand wsX6_readCommand) := goodIn_app (goodIn_of _ (by decide +kernel)) ggX6_readText_X6_readCommand
theorem dX6_readText_0 : decode cX6_readText 0 = .ok (.aload_n 0, 1) := by decide +kernel
theorem dX6_readText_1 : decode cX6_readText 1 = .ok (.iconst 0, 1) := by decide +kernel
theorem dX6_readText_2 : decode cX6_readText 2 = .ok (.putfield 135, 3) := by decide +kernel
theorem dX6_readText_5 : decode cX6_readText 5 = .ok (.aload_n 0, 1) := by decide +kernel
theorem dX6_readText_6 : decode cX6_readText 6 = .ok (.iconst 0, 1) := by decide +kernel
theorem dX6_readText_7 : decode cX6_readText 7 = .ok (.putfield 130, 3) := by decide +kernel
theorem dX6_readText_10 : decode cX6_readText 10 = .ok (.aload_n 0, 1) := by decide +kernel
theorem dX6_readText_11 : decode cX6_readText 11 = .ok (.getfield 124, 3) := by decide +kernel
theorem dX6_readText_14 : decode cX6_readText 14 = .ok (.ifCond .eq 14, 3) := by decide +kernel
theorem dX6_readText_17 : decode cX6_readText 17 = .ok (.aload_n 0, 1) := by decide +kernel
theorem dX6_readText_18 : decode cX6_readText 18 = .ok (.getfield 7, 3) := by decide +kernel
theorem dX6_readText_21 : decode cX6_readText 21 = .ok (.iconst 0, 1) := by decide +kernel
theorem dX6_readText_22 : decode cX6_readText 22 = .ok (.iaload, 1) := by decide +kernel
theorem dX6_readText_23 : decode cX6_readText 23 = .ok (.bipush 87, 2) := by decide +kernel
theorem dX6_readText_25 : decode cX6_readText 25 = .ok (.if_icmp .eq 5, 3) := by decide +kernel
theorem dX6_readText_28 : decode cX6_readText 28 = .ok (.iconst 0, 1) := by decide +kernel
theorem dX6_readText_29 : decode cX6_readText 29 = .ok (.ireturn, 1) := by decide +kernel
theorem dX6_readText_30 : decode cX6_readText 30 = .ok (.aload_n 0, 1) := by decide +kernel
theorem dX6_readText_31 : decode cX6_readText 31 = .ok (.iconst 1, 1) := by decide +kernel
theorem dX6_readText_32 : decode cX6_readText 32 = .ok (.putfield 130, 3) := by decide +kernel
theorem dX6_readText_35 : decode cX6_readText 35 = .ok (.aload_n 0, 1) := by decide +kernel
theorem dX6_readText_36 : decode cX6_readText 36 = .ok (.iconst 0, 1) := by decide +kernel
theorem dX6_readText_37 : decode cX6_readText 37 = .ok (.iconst 1, 1) := by decide +kernel
theorem dX6_readText_38 : decode cX6_readText 38 = .ok (.iconst 2, 1) := by decide +kernel
theorem dX6_readText_39 : decode cX6_readText 39 = .ok (.bipush 8, 2) := by decide +kernel
theorem dX6_readText_41 : decode cX6_readText 41 = .ok (.invokevirtual 138, 3) := by decide +kernel
theorem dX6_readText_44 : decode cX6_readText 44 = .ok (.istore_n 2, 1) := by decide +kernel
theorem dX6_readText_45 : decode cX6_readText 45 = .ok (.aload_n 0, 1) := by decide +kernel
theorem dX6_readText_46 : decode cX6_readText 46 = .ok (.iload_n 2, 1) := by decide +kernel
theorem dX6_readText_47 : decode cX6_readText 47 = .ok (.iconst 1, 1) := by decide +kernel
theorem dX6_readText_48 : decode cX6_readText 48 = .ok (.iconst 2, 1) := by decide +kernel
theorem dX6_readText_49 : decode cX6_readText 49 = .ok (.bipush 8, 2) := by decide +kernel
theorem dX6_readText_51 : decode cX6_readText 51 = .ok (.invokevirtual 138, 3) := by decide +kernel
theorem dX6_readText_54 : decode cX6_readText 54 = .ok (.istore_n 3, 1) := by decide +kernel
theorem dX6_readText_55 : decode cX6_readText 55 = .ok (.iload_n 3, 1) := by decide +kernel
theorem dX6_readText_56 : decode cX6_readText 56 = .ok (.iconst (-1), 1) := by decide +kernel
theorem dX6_readText_57 : decode cX6_readText 57 = .ok (.if_icmp .ne 8, 3) := by decide +kernel
theorem dX6_readText_60 : decode cX6_readText 60 = .ok (.aload_n 0, 1) := by decide +kernel
theorem dX6_readText_61 : decode cX6_readText 61 = .ok (.getfield 130, 3) := by decide +kernel
theorem dX6_readText_64 : decode cX6_readText 64 = .ok (.ireturn, 1) := by decide +kernel
theorem dX6_readText_65 : decode cX6_readText 65 = .ok (.aload_n 1, 1) := by decide +kernel
theorem dX6_readText_66 : decode cX6_readText 66 = .ok (.iload_n 2, 1) := by decide +kernel
theorem dX6_readText_67 : decode cX6_readText 67 = .ok (.iload_n 3, 1) := by decide +kernel
theorem dX6_readText_68 : decode cX6_readText 68 = .ok (.invokestatic 39, 3) := by decide +kernel
theorem dX6_readText_71 : decode cX6_readText 71 = .ok (.aload_n 0, 1) := by decide +kernel
theorem dX6_readText_72 : decode cX6_readText 72 = .ok (.getfield 130, 3) := by decide +kernel
theorem dX6_readText_75 : decode cX6_readText 75 = .ok (.aload_n 0, 1) := by decide +kernel
theorem dX6_readText_76 : decode cX6_readText 76 = .ok (.getfield 124, 3) := by decide +kernel
theorem dX6_readText_79 : decode cX6_readText 79 = .ok (.if_icmp .ge 16, 3) := by decide +kernel
theorem dX6_readText_82 : decode cX6_readText 82 = .ok (.aload_n 0, 1) := by decide +kernel
theorem dX6_readText_83 : decode cX6_readText 83 = .ok (.aload_n 1, 1) := by decide +kernel
theorem dX6_readText_84 : decode cX6_readText 84 = .ok (.invokevirtual 167, 3) := by decide +kernel
theorem dX6_readText_87 : decode cX6_readText 87 = .ok (.ifCond .ne (-16), 3) := by decide +kernel
theorem dX6_readText_90 : decode cX6_readText 90 = .ok (.aload_n 0, 1) := by decide +kernel
theorem dX6_readText_91 : decode cX6_readText 91 = .ok (.getfield 130, 3) := by decide +kernel
theorem dX6_readText_94 : decode cX6_readText 94 = .ok (.ireturn, 1) := by decide +kernel
theorem dX6_readText_95 : decode cX6_readText 95 = .ok (.iconst (-1), 1) := by decide +kernel
theorem dX6_readText_96 : decode cX6_readText 96 = .ok (.ireturn, 1) := by decide +kernel
set_option maxRecDepth 20000 in
theorem ggX6_errorPosition_X6_readText : GoodIn wsX6_errorPosition wsX6_readText := goodIn_r _ [7, 8, 9, 10, 11, 12, 13, 14, 6, 15, 16, 17, 18, 19, 20, 21, 22, 23, 24, 25, 26, 27, 28, 29, 30, 31, 32, 33, 34, 35, 36, 37, 38, 39, 40, 41, 42, 43, 44, 45, 46, 47, 48, 49, 50, 51, 52, 53, 54, 55, 56, 57, 58, 59, 60, 61, 62, 63, 64, 65, 66, 67, 68, 69, 70, 71, 72, 73, 74, 75, 76, 77, 78, 79, 80, 81, 82, 83, 84, 85, 86, 87, 88, 89, 90, 91, 92, 93, 94, 95, 96, 97, 98, 99, 100, 101, 102, 103, 104, 105, 106, 107, 108, 109, 110, 111, 112, 113, 114] (by decide +kernel) (by decide +kernel)
set_option maxRecDepth 20000 in
theorem gX6_errorPosition_X6_readText : GoodIn wsX6_errorPosition (wsV RX6 171 RX6 yX6_readText wsX6_readText) := goodIn_app (goodIn_of _ (by decide +kernel)) ggX6_errorPosition_X6_readText
theorem dX6_errorPosition_0 : decode cX6_errorPosition 0 = .ok (.aload_n 0, 1) := by decide +kernel
theorem dX6_errorPosition_1 : decode cX6_errorPosition 1 = .ok (.iconst 0, 1) := by decide +kernel
theorem dX6_errorPosition_2 : decode cX6_errorPosition 2 = .ok (.putfield 43, 3) := by decide +kernel
theorem dX6_errorPosition_5 : decode cX6_errorPosition 5 = .ok (.aload_n 0, 1) := by decide +kernel
theorem dX6_errorPosition_6 : decode cX6_errorPosition 6 = .ok (.aload_n 0, 1) := by decide +kernel
theorem dX6_errorPosition_7 : decode cX6_errorPosition 7 = .ok (.getfield 17, 3) := by decide +kernel
theorem dX6_errorPosition_10 : decode cX6_errorPosition 10 = .ok (.invokevirtual 171, 3) := by decide +kernel
theorem dX6_errorPosition_13 : decode cX6_errorPosition 13 = .ok (.ireturn, 1) := by decide +kernel
set_option maxRecDepth 20000 in
theorem ggX6_load_X6_readText : GoodIn wsX6_load wsX6_readText := goodIn_r _ [10, 5, 11, 12, 13, 14, 15, 16, 9, 17, 18, 19, 20, 21, 22, 23, 24, 25, 26, 27, 28, 29, 30, 31, 32, 33, 34, 35, 36, 37, 38, 39, 40, 41, 42, 43, 44, 45, 46, 47, 48, 49, 50, 51, 52, 53, 54, 55, 56, 57, 58, 59, 60, 61, 62, 63, 64, 65, 66, 67, 68, 69, 70, 71, 72, 73, 74, 75, 76, 77, 78, 79, 80, 81, 82, 83, 84, 85, 86, 87, 88, 89, 90, 91, 92, 93, 94, 95, 96, 97, 98, 99, 100, 101, 110, 111, 112, 113, 114, 115, 116, 117, 118, 119, 120, 121, 122, 123, 124] (by decide +kernel) (by decide +kernel)
set_option maxRecDepth 20000 in
theorem gX6_load_X6_readText : GoodIn wsX6_load (wsV RX6 171 RX6 yX6_readText wsX6_readText) := goodIn_app (goodIn_of _ (by decide +kernel)) ggX6_load_X6_readText
set_option maxRecDepth 20000 in
theorem ggX6_load_X6_refused : GoodIn wsX6_load wsX6_refused := goodIn_r _ [105, 106, 110, 111, 112, 113, 114, 115, 116, 117, 118, 119, 120, 121, 122, 123, 124] (by decide +kernel) (by decide +kernel)
set_option maxRecDepth 20000 in
theorem gX6_load_X6_refused : GoodIn wsX6_load (wsV RX6 127 RX6 yX6_refused wsX6_refused) := goodIn_app (goodIn_of _ (by decide +kernel)) ggX6_load_X6_refused
set_option maxRecDepth 20000 in
theorem ggX6_load_X6_copyState : GoodIn wsX6_load wsX6_copyState := goodIn_r _ [109] (by decide +kernel) (by decide +kernel)
set_option maxRecDepth 20000 in
theorem gX6_load_X6_copyState : GoodIn wsX6_load (va_wsS RX6 174 yX6_copyState wsX6_copyState) := goodIn_app (goodIn_of _ (by decide +kernel)) ggX6_load_X6_copyState
theorem dX6_load_0 : decode cX6_load 0 = .ok (.aload_n 0, 1) := by decide +kernel
theorem dX6_load_1 : decode cX6_load 1 = .ok (.aload_n 0, 1) := by decide +kernel
theorem dX6_load_2 : decode cX6_load 2 = .ok (.aload_n 0, 1) := by decide +kernel
theorem dX6_load_3 : decode cX6_load 3 = .ok (.getfield 17, 3) := by decide +kernel
theorem dX6_load_6 : decode cX6_load 6 = .ok (.invokevirtual 171, 3) := by decide +kernel
theorem dX6_load_9 : decode cX6_load 9 = .ok (.iconst (-1), 1) := by decide +kernel
theorem dX6_load_10 : decode cX6_load 10 = .ok (.if_icmp .ne 7, 3) := by decide +kernel
theorem dX6_load_13 : decode cX6_load 13 = .ok (.iconst 0, 1) := by decide +kernel
theorem dX6_load_14 : decode cX6_load 14 = .ok (.goto 4, 3) := by decide +kernel
theorem dX6_load_17 : decode cX6_load 17 = .ok (.iconst 1, 1) := by decide +kernel
theorem dX6_load_18 : decode cX6_load 18 = .ok (.invokevirtual 127, 3) := by decide +kernel
theorem dX6_load_21 : decode cX6_load 21 = .ok (.ifCond .eq 5, 3) := by decide +kernel
theorem dX6_load_24 : decode cX6_load 24 = .ok (.iconst 0, 1) := by decide +kernel
theorem dX6_load_25 : decode cX6_load 25 = .ok (.ireturn, 1) := by decide +kernel
theorem dX6_load_26 : decode cX6_load 26 = .ok (.aload_n 0, 1) := by decide +kernel
theorem dX6_load_27 : decode cX6_load 27 = .ok (.getfield 17, 3) := by decide +kernel
theorem dX6_load_30 : decode cX6_load 30 = .ok (.iconst 0, 1) := by decide +kernel
theorem dX6_load_31 : decode cX6_load 31 = .ok (.aload_n 0, 1) := by decide +kernel
theorem dX6_load_32 : decode cX6_load 32 = .ok (.getfield 13, 3) := by decide +kernel
theorem dX6_load_35 : decode cX6_load 35 = .ok (.iconst 0, 1) := by decide +kernel
theorem dX6_load_36 : decode cX6_load 36 = .ok (.invokestatic 174, 3) := by decide +kernel
theorem dX6_load_39 : decode cX6_load 39 = .ok (.aload_n 0, 1) := by decide +kernel
theorem dX6_load_40 : decode cX6_load 40 = .ok (.iconst 0, 1) := by decide +kernel
theorem dX6_load_41 : decode cX6_load 41 = .ok (.putfield 178, 3) := by decide +kernel
theorem dX6_load_44 : decode cX6_load 44 = .ok (.aload_n 0, 1) := by decide +kernel
theorem dX6_load_45 : decode cX6_load 45 = .ok (.getfield 26, 3) := by decide +kernel
theorem dX6_load_48 : decode cX6_load 48 = .ok (.iconst 0, 1) := by decide +kernel
theorem dX6_load_49 : decode cX6_load 49 = .ok (.iconst 0, 1) := by decide +kernel
theorem dX6_load_50 : decode cX6_load 50 = .ok (.bastore, 1) := by decide +kernel
theorem dX6_load_51 : decode cX6_load 51 = .ok (.aload_n 0, 1) := by decide +kernel
theorem dX6_load_52 : decode cX6_load 52 = .ok (.getfield 26, 3) := by decide +kernel
theorem dX6_load_55 : decode cX6_load 55 = .ok (.iconst 1, 1) := by decide +kernel
theorem dX6_load_56 : decode cX6_load 56 = .ok (.iconst 0, 1) := by decide +kernel
theorem dX6_load_57 : decode cX6_load 57 = .ok (.bastore, 1) := by decide +kernel
theorem dX6_load_58 : decode cX6_load 58 = .ok (.aload_n 0, 1) := by decide +kernel
theorem dX6_load_59 : decode cX6_load 59 = .ok (.getfield 135, 3) := by decide +kernel
theorem dX6_load_62 : decode cX6_load 62 = .ok (.ireturn, 1) := by decide +kernel
set_option maxRecDepth 20000 in
theorem ggX6_about_X6_in : GoodIn wsX6_about wsX6_in := goodIn_r _ [6] (by decide +kernel) (by decide +kernel)
set_option maxRecDepth 20000 in
theorem gX6_about_X6_in : GoodIn wsX6_about (va_wsS RX6 51 yX6_in wsX6_in) := goodIn_app (goodIn_of _ (by decide +kernel)) ggX6_about_X6_in
set_option maxRecDepth 20000 in
theorem ggX6_about_X6_refused : GoodIn wsX6_about wsX6_refused := goodIn_r _ [10, 11, 53, 54, 55, 56, 57, 58, 59, 60, 61, 62, 63, 64, 65, 66, 67] (by decide +kernel) (by decide +kernel)
set_option maxRecDepth 20000 in
theorem gX6_about_X6_refused : GoodIn wsX6_about (wsV RX6 127 RX6 yX6_refused wsX6_refused) := goodIn_app (goodIn_of _ (by decide +kernel)) ggX6_about_X6_refused
set_option maxRecDepth 20000 in
theorem ggX6_about_X6_many : GoodIn wsX6_about wsX6_many := goodIn_r _ [14] (by decide +kernel) (by decide +kernel)
set_option maxRecDepth 20000 in
theorem gX6_about_X6_many : GoodIn wsX6_about (va_wsS RX6 47 yX6_many wsX6_many) := goodIn_app (goodIn_of _ (by decide +kernel)) ggX6_about_X6_many
set_option maxRecDepth 20000 in
theorem ggX6_about_X6_isScratched : GoodIn wsX6_about wsX6_isScratched := goodIn_r _ [17, 18, 19, 5, 20, 21, 22, 23, 24, 12, 13, 14, 25, 26, 27, 28, 29, 30, 31, 32, 33] (by decide +kernel) (by decide +kernel)
set_option maxRecDepth 20000 in
theorem gX6_about_X6_isScratched : GoodIn wsX6_about (va_wsS RX6 80 yX6_isScratched wsX6_isScratched) := goodIn_app (goodIn_of _ (by decide +kernel)) ggX6_about_X6_isScratched
set_option maxRecDepth 20000 in
theorem ggX6_about_X6_bits : GoodIn wsX6_about wsX6_bits := goodIn_r _ [36, 31, 32, 5, 33] (by decide +kernel) (by decide +kernel)
set_option maxRecDepth 20000 in
theorem gX6_about_X6_bits : GoodIn wsX6_about (va_wsS RX6 97 yX6_bits wsX6_bits) := goodIn_app (goodIn_of _ (by decide +kernel)) ggX6_about_X6_bits
set_option maxRecDepth 20000 in
theorem ggX6_about_X6_patches : GoodIn wsX6_about wsX6_patches := goodIn_r _ [39, 40, 31, 32, 5, 33, 41, 42, 43, 44, 45, 46, 12, 13, 14, 47, 48, 49, 15, 16, 17, 18, 19, 20, 21, 22, 23, 24, 25, 26, 27, 28, 29, 30] (by decide +kernel) (by decide +kernel)
set_option maxRecDepth 20000 in
theorem gX6_about_X6_patches : GoodIn wsX6_about (va_wsS RX6 183 yX6_patches wsX6_patches) := goodIn_app (goodIn_of _ (by decide +kernel)) ggX6_about_X6_patches
set_option maxRecDepth 20000 in
theorem ggX6_about_X6_largest : GoodIn wsX6_about wsX6_largest := goodIn_r _ [52, 40, 31, 32, 5, 33, 41, 42, 43, 44, 45, 46, 12, 13, 14, 47, 48, 49, 15, 16, 17, 18, 19, 20, 21, 22, 23, 24, 25, 26, 27, 28, 29, 30, 34, 35, 36] (by decide +kernel) (by decide +kernel)
set_option maxRecDepth 20000 in
theorem gX6_about_X6_largest : GoodIn wsX6_about (va_wsS RX6 186 yX6_largest wsX6_largest) := goodIn_app (goodIn_of _ (by decide +kernel)) ggX6_about_X6_largest
theorem dX6_about_0 : decode cX6_about 0 = .ok (.aload_n 0, 1) := by decide +kernel
theorem dX6_about_1 : decode cX6_about 1 = .ok (.iload_n 1, 1) := by decide +kernel
theorem dX6_about_2 : decode cX6_about 2 = .ok (.i2l, 1) := by decide +kernel
theorem dX6_about_3 : decode cX6_about 3 = .ok (.lconst 0, 1) := by decide +kernel
theorem dX6_about_4 : decode cX6_about 4 = .ok (.ldc2_w 181, 3) := by decide +kernel
theorem dX6_about_7 : decode cX6_about 7 = .ok (.invokestatic 51, 3) := by decide +kernel
theorem dX6_about_10 : decode cX6_about 10 = .ok (.ifCond .eq 7, 3) := by decide +kernel
theorem dX6_about_13 : decode cX6_about 13 = .ok (.iconst 0, 1) := by decide +kernel
theorem dX6_about_14 : decode cX6_about 14 = .ok (.goto 4, 3) := by decide +kernel
theorem dX6_about_17 : decode cX6_about 17 = .ok (.iconst 1, 1) := by decide +kernel
theorem dX6_about_18 : decode cX6_about 18 = .ok (.invokevirtual 127, 3) := by decide +kernel
theorem dX6_about_21 : decode cX6_about 21 = .ok (.ifCond .eq 5, 3) := by decide +kernel
theorem dX6_about_24 : decode cX6_about 24 = .ok (.iconst 0, 1) := by decide +kernel
theorem dX6_about_25 : decode cX6_about 25 = .ok (.ireturn, 1) := by decide +kernel
theorem dX6_about_26 : decode cX6_about 26 = .ok (.iconst 0, 1) := by decide +kernel
theorem dX6_about_27 : decode cX6_about 27 = .ok (.istore_n 2, 1) := by decide +kernel
theorem dX6_about_28 : decode cX6_about 28 = .ok (.aload_n 0, 1) := by decide +kernel
theorem dX6_about_29 : decode cX6_about 29 = .ok (.getfield 13, 3) := by decide +kernel
theorem dX6_about_32 : decode cX6_about 32 = .ok (.invokestatic 47, 3) := by decide +kernel
theorem dX6_about_35 : decode cX6_about 35 = .ok (.istore_n 3, 1) := by decide +kernel
theorem dX6_about_36 : decode cX6_about 36 = .ok (.iconst 0, 1) := by decide +kernel
theorem dX6_about_37 : decode cX6_about 37 = .ok (.istore 4, 2) := by decide +kernel
theorem dX6_about_39 : decode cX6_about 39 = .ok (.iload 4, 2) := by decide +kernel
theorem dX6_about_41 : decode cX6_about 41 = .ok (.iload_n 3, 1) := by decide +kernel
theorem dX6_about_42 : decode cX6_about 42 = .ok (.if_icmp .ge 49, 3) := by decide +kernel
theorem dX6_about_45 : decode cX6_about 45 = .ok (.iload_n 2, 1) := by decide +kernel
theorem dX6_about_46 : decode cX6_about 46 = .ok (.aload_n 0, 1) := by decide +kernel
theorem dX6_about_47 : decode cX6_about 47 = .ok (.getfield 13, 3) := by decide +kernel
theorem dX6_about_50 : decode cX6_about 50 = .ok (.iload 4, 2) := by decide +kernel
theorem dX6_about_52 : decode cX6_about 52 = .ok (.iconst 1, 1) := by decide +kernel
theorem dX6_about_53 : decode cX6_about 53 = .ok (.invokestatic 80, 3) := by decide +kernel
theorem dX6_about_56 : decode cX6_about 56 = .ok (.ifCond .eq 7, 3) := by decide +kernel
theorem dX6_about_59 : decode cX6_about 59 = .ok (.iconst 1, 1) := by decide +kernel
theorem dX6_about_60 : decode cX6_about 60 = .ok (.goto 4, 3) := by decide +kernel
theorem dX6_about_63 : decode cX6_about 63 = .ok (.iconst 0, 1) := by decide +kernel
theorem dX6_about_64 : decode cX6_about 64 = .ok (.aload_n 0, 1) := by decide +kernel
theorem dX6_about_65 : decode cX6_about 65 = .ok (.getfield 13, 3) := by decide +kernel
theorem dX6_about_68 : decode cX6_about 68 = .ok (.iload 4, 2) := by decide +kernel
theorem dX6_about_70 : decode cX6_about 70 = .ok (.iconst 2, 1) := by decide +kernel
theorem dX6_about_71 : decode cX6_about 71 = .ok (.invokestatic 80, 3) := by decide +kernel
theorem dX6_about_74 : decode cX6_about 74 = .ok (.ifCond .eq 7, 3) := by decide +kernel
theorem dX6_about_77 : decode cX6_about 77 = .ok (.iconst 1, 1) := by decide +kernel
theorem dX6_about_78 : decode cX6_about 78 = .ok (.goto 4, 3) := by decide +kernel
theorem dX6_about_81 : decode cX6_about 81 = .ok (.iconst 0, 1) := by decide +kernel
theorem dX6_about_82 : decode cX6_about 82 = .ok (.iadd, 1) := by decide +kernel
theorem dX6_about_83 : decode cX6_about 83 = .ok (.iadd, 1) := by decide +kernel
theorem dX6_about_84 : decode cX6_about 84 = .ok (.istore_n 2, 1) := by decide +kernel
theorem dX6_about_85 : decode cX6_about 85 = .ok (.iinc 4 1, 3) := by decide +kernel
theorem dX6_about_88 : decode cX6_about 88 = .ok (.goto (-49), 3) := by decide +kernel
theorem dX6_about_91 : decode cX6_about 91 = .ok (.iload_n 1, 1) := by decide +kernel
theorem dX6_about_92 : decode cX6_about 92 = .ok (.tableswitch 83 0 6 #[44, 44, 52, 63, 65, 65, 75], 44) := by decide +kernel
theorem dX6_about_136 : decode cX6_about 136 = .ok (.aload_n 0, 1) := by decide +kernel
theorem dX6_about_137 : decode cX6_about 137 = .ok (.getfield 13, 3) := by decide +kernel
theorem dX6_about_140 : decode cX6_about 140 = .ok (.iload_n 1, 1) := by decide +kernel
theorem dX6_about_141 : decode cX6_about 141 = .ok (.laload, 1) := by decide +kernel
theorem dX6_about_142 : decode cX6_about 142 = .ok (.l2i, 1) := by decide +kernel
theorem dX6_about_143 : decode cX6_about 143 = .ok (.ireturn, 1) := by decide +kernel
theorem dX6_about_144 : decode cX6_about 144 = .ok (.aload_n 0, 1) := by decide +kernel
theorem dX6_about_145 : decode cX6_about 145 = .ok (.getfield 13, 3) := by decide +kernel
theorem dX6_about_148 : decode cX6_about 148 = .ok (.bipush 8, 2) := by decide +kernel
theorem dX6_about_150 : decode cX6_about 150 = .ok (.laload, 1) := by decide +kernel
theorem dX6_about_151 : decode cX6_about 151 = .ok (.invokestatic 97, 3) := by decide +kernel
theorem dX6_about_154 : decode cX6_about 154 = .ok (.ireturn, 1) := by decide +kernel
theorem dX6_about_155 : decode cX6_about 155 = .ok (.iload_n 2, 1) := by decide +kernel
theorem dX6_about_156 : decode cX6_about 156 = .ok (.ireturn, 1) := by decide +kernel
theorem dX6_about_157 : decode cX6_about 157 = .ok (.aload_n 0, 1) := by decide +kernel
theorem dX6_about_158 : decode cX6_about 158 = .ok (.getfield 13, 3) := by decide +kernel
theorem dX6_about_161 : decode cX6_about 161 = .ok (.iload_n 1, 1) := by decide +kernel
theorem dX6_about_162 : decode cX6_about 162 = .ok (.iconst 2, 1) := by decide +kernel
theorem dX6_about_163 : decode cX6_about 163 = .ok (.isub, 1) := by decide +kernel
theorem dX6_about_164 : decode cX6_about 164 = .ok (.laload, 1) := by decide +kernel
theorem dX6_about_165 : decode cX6_about 165 = .ok (.l2i, 1) := by decide +kernel
theorem dX6_about_166 : decode cX6_about 166 = .ok (.ireturn, 1) := by decide +kernel
theorem dX6_about_167 : decode cX6_about 167 = .ok (.aload_n 0, 1) := by decide +kernel
theorem dX6_about_168 : decode cX6_about 168 = .ok (.getfield 13, 3) := by decide +kernel
theorem dX6_about_171 : decode cX6_about 171 = .ok (.invokestatic 183, 3) := by decide +kernel
theorem dX6_about_174 : decode cX6_about 174 = .ok (.ireturn, 1) := by decide +kernel
theorem dX6_about_175 : decode cX6_about 175 = .ok (.aload_n 0, 1) := by decide +kernel
theorem dX6_about_176 : decode cX6_about 176 = .ok (.getfield 13, 3) := by decide +kernel
theorem dX6_about_179 : decode cX6_about 179 = .ok (.invokestatic 186, 3) := by decide +kernel
theorem dX6_about_182 : decode cX6_about 182 = .ok (.ireturn, 1) := by decide +kernel
theorem dX6_frozen_0 : decode cX6_frozen 0 = .ok (.aload_n 0, 1) := by decide +kernel
theorem dX6_frozen_1 : decode cX6_frozen 1 = .ok (.iconst 0, 1) := by decide +kernel
theorem dX6_frozen_2 : decode cX6_frozen 2 = .ok (.putfield 43, 3) := by decide +kernel
theorem dX6_frozen_5 : decode cX6_frozen 5 = .ok (.aload_n 0, 1) := by decide +kernel
theorem dX6_frozen_6 : decode cX6_frozen 6 = .ok (.getfield 13, 3) := by decide +kernel
theorem dX6_frozen_9 : decode cX6_frozen 9 = .ok (.bipush 8, 2) := by decide +kernel
theorem dX6_frozen_11 : decode cX6_frozen 11 = .ok (.laload, 1) := by decide +kernel
theorem dX6_frozen_12 : decode cX6_frozen 12 = .ok (.lreturn, 1) := by decide +kernel
set_option maxRecDepth 20000 in
theorem ggX6_cell_X6_isCell : GoodIn wsX6_cell wsX6_isCell := goodIn_r _ [6, 7, 8, 5, 9, 10, 11, 12] (by decide +kernel) (by decide +kernel)
set_option maxRecDepth 20000 in
theorem gX6_cell_X6_isCell : GoodIn wsX6_cell (va_wsS RX6 111 yX6_isCell wsX6_isCell) := goodIn_app (goodIn_of _ (by decide +kernel)) ggX6_cell_X6_isCell
set_option maxRecDepth 20000 in
theorem ggX6_cell_X6_in : GoodIn wsX6_cell wsX6_in := goodIn_r _ [12] (by decide +kernel) (by decide +kernel)
set_option maxRecDepth 20000 in
theorem gX6_cell_X6_in : GoodIn wsX6_cell (va_wsS RX6 51 yX6_in wsX6_in) := goodIn_app (goodIn_of _ (by decide +kernel)) ggX6_cell_X6_in
set_option maxRecDepth 20000 in
theorem ggX6_cell_X6_refused : GoodIn wsX6_cell wsX6_refused := goodIn_r _ [16, 17, 55, 56, 57, 58, 59, 60, 61, 62, 63, 64, 65, 66, 67, 68, 69] (by decide +kernel) (by decide +kernel)
set_option maxRecDepth 20000 in
theorem gX6_cell_X6_refused : GoodIn wsX6_cell (wsV RX6 127 RX6 yX6_refused wsX6_refused) := goodIn_app (goodIn_of _ (by decide +kernel)) ggX6_cell_X6_refused
set_option maxRecDepth 20000 in
theorem ggX6_cell_X6_has : GoodIn wsX6_cell wsX6_has := goodIn_r _ [20] (by decide +kernel) (by decide +kernel)
set_option maxRecDepth 20000 in
theorem gX6_cell_X6_has : GoodIn wsX6_cell (va_wsS RX6 61 yX6_has wsX6_has) := goodIn_app (goodIn_of _ (by decide +kernel)) ggX6_cell_X6_has
set_option maxRecDepth 20000 in
theorem ggX6_cell_X6_isScratched : GoodIn wsX6_cell wsX6_isScratched := goodIn_r _ [23, 24, 25, 5, 26, 27, 28, 29, 30, 7, 8, 9, 31, 32, 33, 34, 35, 36, 18, 19, 20] (by decide +kernel) (by decide +kernel)
set_option maxRecDepth 20000 in
theorem gX6_cell_X6_isScratched : GoodIn wsX6_cell (va_wsS RX6 80 yX6_isScratched wsX6_isScratched) := goodIn_app (goodIn_of _ (by decide +kernel)) ggX6_cell_X6_isScratched
set_option maxRecDepth 20000 in
theorem ggX6_cell_X6_cold : GoodIn wsX6_cell wsX6_cold := goodIn_r _ [39, 40, 41, 5, 42, 21, 22, 23, 24, 25, 26, 27, 28, 29, 30, 7, 8, 9, 31, 32, 33, 34, 35, 36, 18, 19, 20, 43, 44, 45] (by decide +kernel) (by decide +kernel)
set_option maxRecDepth 20000 in
theorem gX6_cell_X6_cold : GoodIn wsX6_cell (va_wsS RX6 89 yX6_cold wsX6_cold) := goodIn_app (goodIn_of _ (by decide +kernel)) ggX6_cell_X6_cold
set_option maxRecDepth 20000 in
theorem ggX6_cell_X6_patchOf : GoodIn wsX6_cell wsX6_patchOf := goodIn_r _ [48, 49, 50, 5, 51, 7, 8, 9, 18, 19, 20, 40, 41, 42, 21, 22, 23, 24, 25, 26, 27, 28, 29, 30, 31, 32, 33, 34, 35, 36] (by decide +kernel) (by decide +kernel)
set_option maxRecDepth 20000 in
theorem gX6_cell_X6_patchOf : GoodIn wsX6_cell (va_wsS RX6 105 yX6_patchOf wsX6_patchOf) := goodIn_app (goodIn_of _ (by decide +kernel)) ggX6_cell_X6_patchOf
set_option maxRecDepth 20000 in
theorem ggX6_cell_X6_bits : GoodIn wsX6_cell wsX6_bits := goodIn_r _ [54, 18, 19, 5, 20] (by decide +kernel) (by decide +kernel)
set_option maxRecDepth 20000 in
theorem gX6_cell_X6_bits : GoodIn wsX6_cell (va_wsS RX6 97 yX6_bits wsX6_bits) := goodIn_app (goodIn_of _ (by decide +kernel)) ggX6_cell_X6_bits
theorem dX6_cell_0 : decode cX6_cell 0 = .ok (.aload_n 0, 1) := by decide +kernel
theorem dX6_cell_1 : decode cX6_cell 1 = .ok (.aload_n 0, 1) := by decide +kernel
theorem dX6_cell_2 : decode cX6_cell 2 = .ok (.getfield 13, 3) := by decide +kernel
theorem dX6_cell_5 : decode cX6_cell 5 = .ok (.iload_n 1, 1) := by decide +kernel
theorem dX6_cell_6 : decode cX6_cell 6 = .ok (.invokestatic 111, 3) := by decide +kernel
theorem dX6_cell_9 : decode cX6_cell 9 = .ok (.ifCond .ne 7, 3) := by decide +kernel
theorem dX6_cell_12 : decode cX6_cell 12 = .ok (.iconst 1, 1) := by decide +kernel
theorem dX6_cell_13 : decode cX6_cell 13 = .ok (.goto 20, 3) := by decide +kernel
theorem dX6_cell_16 : decode cX6_cell 16 = .ok (.iload_n 2, 1) := by decide +kernel
theorem dX6_cell_17 : decode cX6_cell 17 = .ok (.i2l, 1) := by decide +kernel
theorem dX6_cell_18 : decode cX6_cell 18 = .ok (.lconst 0, 1) := by decide +kernel
theorem dX6_cell_19 : decode cX6_cell 19 = .ok (.ldc2_w 59, 3) := by decide +kernel
theorem dX6_cell_22 : decode cX6_cell 22 = .ok (.invokestatic 51, 3) := by decide +kernel
theorem dX6_cell_25 : decode cX6_cell 25 = .ok (.ifCond .eq 7, 3) := by decide +kernel
theorem dX6_cell_28 : decode cX6_cell 28 = .ok (.iconst 0, 1) := by decide +kernel
theorem dX6_cell_29 : decode cX6_cell 29 = .ok (.goto 4, 3) := by decide +kernel
theorem dX6_cell_32 : decode cX6_cell 32 = .ok (.iconst 2, 1) := by decide +kernel
theorem dX6_cell_33 : decode cX6_cell 33 = .ok (.invokevirtual 127, 3) := by decide +kernel
theorem dX6_cell_36 : decode cX6_cell 36 = .ok (.ifCond .eq 5, 3) := by decide +kernel
theorem dX6_cell_39 : decode cX6_cell 39 = .ok (.iconst 0, 1) := by decide +kernel
theorem dX6_cell_40 : decode cX6_cell 40 = .ok (.ireturn, 1) := by decide +kernel
theorem dX6_cell_41 : decode cX6_cell 41 = .ok (.aload_n 0, 1) := by decide +kernel
theorem dX6_cell_42 : decode cX6_cell 42 = .ok (.getfield 13, 3) := by decide +kernel
theorem dX6_cell_45 : decode cX6_cell 45 = .ok (.bipush 8, 2) := by decide +kernel
theorem dX6_cell_47 : decode cX6_cell 47 = .ok (.laload, 1) := by decide +kernel
theorem dX6_cell_48 : decode cX6_cell 48 = .ok (.iload_n 1, 1) := by decide +kernel
theorem dX6_cell_49 : decode cX6_cell 49 = .ok (.invokestatic 61, 3) := by decide +kernel
theorem dX6_cell_52 : decode cX6_cell 52 = .ok (.istore_n 3, 1) := by decide +kernel
theorem dX6_cell_53 : decode cX6_cell 53 = .ok (.iconst 0, 1) := by decide +kernel
theorem dX6_cell_54 : decode cX6_cell 54 = .ok (.istore 4, 2) := by decide +kernel
theorem dX6_cell_56 : decode cX6_cell 56 = .ok (.iconst 0, 1) := by decide +kernel
theorem dX6_cell_57 : decode cX6_cell 57 = .ok (.istore 5, 2) := by decide +kernel
theorem dX6_cell_59 : decode cX6_cell 59 = .ok (.iload 5, 2) := by decide +kernel
theorem dX6_cell_61 : decode cX6_cell 61 = .ok (.iconst 4, 1) := by decide +kernel
theorem dX6_cell_62 : decode cX6_cell 62 = .ok (.if_icmp .ge 35, 3) := by decide +kernel
theorem dX6_cell_65 : decode cX6_cell 65 = .ok (.iload 4, 2) := by decide +kernel
theorem dX6_cell_67 : decode cX6_cell 67 = .ok (.aload_n 0, 1) := by decide +kernel
theorem dX6_cell_68 : decode cX6_cell 68 = .ok (.getfield 13, 3) := by decide +kernel
theorem dX6_cell_71 : decode cX6_cell 71 = .ok (.iload_n 1, 1) := by decide +kernel
theorem dX6_cell_72 : decode cX6_cell 72 = .ok (.iload 5, 2) := by decide +kernel
theorem dX6_cell_74 : decode cX6_cell 74 = .ok (.invokestatic 80, 3) := by decide +kernel
theorem dX6_cell_77 : decode cX6_cell 77 = .ok (.ifCond .eq 10, 3) := by decide +kernel
theorem dX6_cell_80 : decode cX6_cell 80 = .ok (.iconst 1, 1) := by decide +kernel
theorem dX6_cell_81 : decode cX6_cell 81 = .ok (.iload 5, 2) := by decide +kernel
theorem dX6_cell_83 : decode cX6_cell 83 = .ok (.ishl, 1) := by decide +kernel
theorem dX6_cell_84 : decode cX6_cell 84 = .ok (.goto 4, 3) := by decide +kernel
theorem dX6_cell_87 : decode cX6_cell 87 = .ok (.iconst 0, 1) := by decide +kernel
theorem dX6_cell_88 : decode cX6_cell 88 = .ok (.ior, 1) := by decide +kernel
theorem dX6_cell_89 : decode cX6_cell 89 = .ok (.istore 4, 2) := by decide +kernel
theorem dX6_cell_91 : decode cX6_cell 91 = .ok (.iinc 5 1, 3) := by decide +kernel
theorem dX6_cell_94 : decode cX6_cell 94 = .ok (.goto (-35), 3) := by decide +kernel
theorem dX6_cell_97 : decode cX6_cell 97 = .ok (.iload_n 2, 1) := by decide +kernel
theorem dX6_cell_98 : decode cX6_cell 98 = .ok (.ifCond .ne 15, 3) := by decide +kernel
theorem dX6_cell_101 : decode cX6_cell 101 = .ok (.iload_n 3, 1) := by decide +kernel
theorem dX6_cell_102 : decode cX6_cell 102 = .ok (.ifCond .eq 7, 3) := by decide +kernel
theorem dX6_cell_105 : decode cX6_cell 105 = .ok (.iconst 1, 1) := by decide +kernel
theorem dX6_cell_106 : decode cX6_cell 106 = .ok (.goto 52, 3) := by decide +kernel
theorem dX6_cell_109 : decode cX6_cell 109 = .ok (.iconst 0, 1) := by decide +kernel
theorem dX6_cell_110 : decode cX6_cell 110 = .ok (.goto 48, 3) := by decide +kernel
theorem dX6_cell_113 : decode cX6_cell 113 = .ok (.iload_n 2, 1) := by decide +kernel
theorem dX6_cell_114 : decode cX6_cell 114 = .ok (.iconst 1, 1) := by decide +kernel
theorem dX6_cell_115 : decode cX6_cell 115 = .ok (.if_icmp .ne 14, 3) := by decide +kernel
theorem dX6_cell_118 : decode cX6_cell 118 = .ok (.aload_n 0, 1) := by decide +kernel
theorem dX6_cell_119 : decode cX6_cell 119 = .ok (.getfield 13, 3) := by decide +kernel
theorem dX6_cell_122 : decode cX6_cell 122 = .ok (.iload_n 1, 1) := by decide +kernel
theorem dX6_cell_123 : decode cX6_cell 123 = .ok (.invokestatic 89, 3) := by decide +kernel
theorem dX6_cell_126 : decode cX6_cell 126 = .ok (.goto 32, 3) := by decide +kernel
theorem dX6_cell_129 : decode cX6_cell 129 = .ok (.iload_n 2, 1) := by decide +kernel
theorem dX6_cell_130 : decode cX6_cell 130 = .ok (.iconst 3, 1) := by decide +kernel
theorem dX6_cell_131 : decode cX6_cell 131 = .ok (.if_icmp .ne 8, 3) := by decide +kernel
theorem dX6_cell_134 : decode cX6_cell 134 = .ok (.iload 4, 2) := by decide +kernel
theorem dX6_cell_136 : decode cX6_cell 136 = .ok (.goto 22, 3) := by decide +kernel
theorem dX6_cell_139 : decode cX6_cell 139 = .ok (.iload_n 3, 1) := by decide +kernel
theorem dX6_cell_140 : decode cX6_cell 140 = .ok (.ifCond .eq 17, 3) := by decide +kernel
theorem dX6_cell_143 : decode cX6_cell 143 = .ok (.aload_n 0, 1) := by decide +kernel
theorem dX6_cell_144 : decode cX6_cell 144 = .ok (.getfield 13, 3) := by decide +kernel
theorem dX6_cell_147 : decode cX6_cell 147 = .ok (.iload_n 1, 1) := by decide +kernel
theorem dX6_cell_148 : decode cX6_cell 148 = .ok (.invokestatic 105, 3) := by decide +kernel
theorem dX6_cell_151 : decode cX6_cell 151 = .ok (.invokestatic 97, 3) := by decide +kernel
theorem dX6_cell_154 : decode cX6_cell 154 = .ok (.goto 4, 3) := by decide +kernel
theorem dX6_cell_157 : decode cX6_cell 157 = .ok (.iconst 0, 1) := by decide +kernel
theorem dX6_cell_158 : decode cX6_cell 158 = .ok (.ireturn, 1) := by decide +kernel
set_option maxRecDepth 20000 in
theorem ggX6_neighbour_X6_isCell : GoodIn wsX6_neighbour wsX6_isCell := goodIn_r _ [5, 6, 7, 4, 8, 9, 10, 11] (by decide +kernel) (by decide +kernel)
set_option maxRecDepth 20000 in
theorem gX6_neighbour_X6_isCell : GoodIn wsX6_neighbour (va_wsS RX6 111 yX6_isCell wsX6_isCell) := goodIn_app (goodIn_of _ (by decide +kernel)) ggX6_neighbour_X6_isCell
set_option maxRecDepth 20000 in
theorem ggX6_neighbour_X6_isDirection : GoodIn wsX6_neighbour wsX6_isDirection := goodIn_r _ [14, 15, 9, 10, 4, 11] (by decide +kernel) (by decide +kernel)
set_option maxRecDepth 20000 in
theorem gX6_neighbour_X6_isDirection : GoodIn wsX6_neighbour (va_wsS RX6 115 yX6_isDirection wsX6_isDirection) := goodIn_app (goodIn_of _ (by decide +kernel)) ggX6_neighbour_X6_isDirection
set_option maxRecDepth 20000 in
theorem ggX6_neighbour_X6_refused : GoodIn wsX6_neighbour wsX6_refused := goodIn_r _ [19, 20, 28, 29, 30, 31, 32, 33, 34, 35, 36, 37, 38, 39, 40, 41, 42] (by decide +kernel) (by decide +kernel)
set_option maxRecDepth 20000 in
theorem gX6_neighbour_X6_refused : GoodIn wsX6_neighbour (wsV RX6 127 RX6 yX6_refused wsX6_refused) := goodIn_app (goodIn_of _ (by decide +kernel)) ggX6_neighbour_X6_refused
set_option maxRecDepth 20000 in
theorem ggX6_neighbour_X6_neighbourOf : GoodIn wsX6_neighbour wsX6_neighbourOf := goodIn_r _ [23, 24, 25, 26, 4, 27, 6, 7, 8] (by decide +kernel) (by decide +kernel)
set_option maxRecDepth 20000 in
theorem gX6_neighbour_X6_neighbourOf : GoodIn wsX6_neighbour (va_wsS RX6 69 yX6_neighbourOf wsX6_neighbourOf) := goodIn_app (goodIn_of _ (by decide +kernel)) ggX6_neighbour_X6_neighbourOf
theorem dX6_neighbour_0 : decode cX6_neighbour 0 = .ok (.aload_n 0, 1) := by decide +kernel
theorem dX6_neighbour_1 : decode cX6_neighbour 1 = .ok (.aload_n 0, 1) := by decide +kernel
theorem dX6_neighbour_2 : decode cX6_neighbour 2 = .ok (.getfield 13, 3) := by decide +kernel
theorem dX6_neighbour_5 : decode cX6_neighbour 5 = .ok (.iload_n 1, 1) := by decide +kernel
theorem dX6_neighbour_6 : decode cX6_neighbour 6 = .ok (.invokestatic 111, 3) := by decide +kernel
theorem dX6_neighbour_9 : decode cX6_neighbour 9 = .ok (.ifCond .ne 7, 3) := by decide +kernel
theorem dX6_neighbour_12 : decode cX6_neighbour 12 = .ok (.iconst 1, 1) := by decide +kernel
theorem dX6_neighbour_13 : decode cX6_neighbour 13 = .ok (.goto 15, 3) := by decide +kernel
theorem dX6_neighbour_16 : decode cX6_neighbour 16 = .ok (.iload_n 2, 1) := by decide +kernel
theorem dX6_neighbour_17 : decode cX6_neighbour 17 = .ok (.invokestatic 115, 3) := by decide +kernel
theorem dX6_neighbour_20 : decode cX6_neighbour 20 = .ok (.ifCond .eq 7, 3) := by decide +kernel
theorem dX6_neighbour_23 : decode cX6_neighbour 23 = .ok (.iconst 0, 1) := by decide +kernel
theorem dX6_neighbour_24 : decode cX6_neighbour 24 = .ok (.goto 4, 3) := by decide +kernel
theorem dX6_neighbour_27 : decode cX6_neighbour 27 = .ok (.iconst 2, 1) := by decide +kernel
theorem dX6_neighbour_28 : decode cX6_neighbour 28 = .ok (.invokevirtual 127, 3) := by decide +kernel
theorem dX6_neighbour_31 : decode cX6_neighbour 31 = .ok (.ifCond .eq 5, 3) := by decide +kernel
theorem dX6_neighbour_34 : decode cX6_neighbour 34 = .ok (.iconst 0, 1) := by decide +kernel
theorem dX6_neighbour_35 : decode cX6_neighbour 35 = .ok (.ireturn, 1) := by decide +kernel
theorem dX6_neighbour_36 : decode cX6_neighbour 36 = .ok (.aload_n 0, 1) := by decide +kernel
theorem dX6_neighbour_37 : decode cX6_neighbour 37 = .ok (.getfield 13, 3) := by decide +kernel
theorem dX6_neighbour_40 : decode cX6_neighbour 40 = .ok (.iload_n 1, 1) := by decide +kernel
theorem dX6_neighbour_41 : decode cX6_neighbour 41 = .ok (.iload_n 2, 1) := by decide +kernel
theorem dX6_neighbour_42 : decode cX6_neighbour 42 = .ok (.invokestatic 69, 3) := by decide +kernel
theorem dX6_neighbour_45 : decode cX6_neighbour 45 = .ok (.ireturn, 1) := by decide +kernel
set_option maxRecDepth 20000 in
theorem ggX6_side_X6_isDirection : GoodIn wsX6_side wsX6_isDirection := goodIn_r _ [5, 6, 7, 8, 4, 9] (by decide +kernel) (by decide +kernel)
set_option maxRecDepth 20000 in
theorem gX6_side_X6_isDirection : GoodIn wsX6_side (va_wsS RX6 115 yX6_isDirection wsX6_isDirection) := goodIn_app (goodIn_of _ (by decide +kernel)) ggX6_side_X6_isDirection
set_option maxRecDepth 20000 in
theorem ggX6_side_X6_refused : GoodIn wsX6_side wsX6_refused := goodIn_r _ [13, 14, 15, 16, 17, 18, 19, 20, 21, 22, 23, 24, 25, 26, 27, 28, 29] (by decide +kernel) (by decide +kernel)
set_option maxRecDepth 20000 in
theorem gX6_side_X6_refused : GoodIn wsX6_side (wsV RX6 127 RX6 yX6_refused wsX6_refused) := goodIn_app (goodIn_of _ (by decide +kernel)) ggX6_side_X6_refused
theorem dX6_side_0 : decode cX6_side 0 = .ok (.aload_n 0, 1) := by decide +kernel
theorem dX6_side_1 : decode cX6_side 1 = .ok (.iload_n 1, 1) := by decide +kernel
theorem dX6_side_2 : decode cX6_side 2 = .ok (.invokestatic 115, 3) := by decide +kernel
theorem dX6_side_5 : decode cX6_side 5 = .ok (.ifCond .eq 7, 3) := by decide +kernel
theorem dX6_side_8 : decode cX6_side 8 = .ok (.iconst 0, 1) := by decide +kernel
theorem dX6_side_9 : decode cX6_side 9 = .ok (.goto 4, 3) := by decide +kernel
theorem dX6_side_12 : decode cX6_side 12 = .ok (.iconst 1, 1) := by decide +kernel
theorem dX6_side_13 : decode cX6_side 13 = .ok (.invokevirtual 127, 3) := by decide +kernel
theorem dX6_side_16 : decode cX6_side 16 = .ok (.ifCond .eq 5, 3) := by decide +kernel
theorem dX6_side_19 : decode cX6_side 19 = .ok (.iconst 0, 1) := by decide +kernel
theorem dX6_side_20 : decode cX6_side 20 = .ok (.ireturn, 1) := by decide +kernel
theorem dX6_side_21 : decode cX6_side 21 = .ok (.aload_n 0, 1) := by decide +kernel
theorem dX6_side_22 : decode cX6_side 22 = .ok (.getfield 13, 3) := by decide +kernel
theorem dX6_side_25 : decode cX6_side 25 = .ok (.iconst 4, 1) := by decide +kernel
theorem dX6_side_26 : decode cX6_side 26 = .ok (.iload_n 1, 1) := by decide +kernel
theorem dX6_side_27 : decode cX6_side 27 = .ok (.iadd, 1) := by decide +kernel
theorem dX6_side_28 : decode cX6_side 28 = .ok (.laload, 1) := by decide +kernel
theorem dX6_side_29 : decode cX6_side 29 = .ok (.l2i, 1) := by decide +kernel
theorem dX6_side_30 : decode cX6_side 30 = .ok (.ireturn, 1) := by decide +kernel
set_option maxRecDepth 20000 in
theorem ggX6_remember_X6_copyState : GoodIn wsX6_remember wsX6_copyState := goodIn_r _ [7] (by decide +kernel) (by decide +kernel)
set_option maxRecDepth 20000 in
theorem gX6_remember_X6_copyState : GoodIn wsX6_remember (va_wsS RX6 174 yX6_copyState wsX6_copyState) := goodIn_app (goodIn_of _ (by decide +kernel)) ggX6_remember_X6_copyState
theorem dX6_remember_0 : decode cX6_remember 0 = .ok (.aload_n 0, 1) := by decide +kernel
theorem dX6_remember_1 : decode cX6_remember 1 = .ok (.getfield 178, 3) := by decide +kernel
theorem dX6_remember_4 : decode cX6_remember 4 = .ok (.bipush 14, 2) := by decide +kernel
theorem dX6_remember_6 : decode cX6_remember 6 = .ok (.if_icmp .ne 43, 3) := by decide +kernel
theorem dX6_remember_9 : decode cX6_remember 9 = .ok (.iconst 0, 1) := by decide +kernel
theorem dX6_remember_10 : decode cX6_remember 10 = .ok (.istore_n 1, 1) := by decide +kernel
theorem dX6_remember_11 : decode cX6_remember 11 = .ok (.iload_n 1, 1) := by decide +kernel
theorem dX6_remember_12 : decode cX6_remember 12 = .ok (.sipush 143, 3) := by decide +kernel
theorem dX6_remember_15 : decode cX6_remember 15 = .ok (.if_icmp .ge 24, 3) := by decide +kernel
theorem dX6_remember_18 : decode cX6_remember 18 = .ok (.aload_n 0, 1) := by decide +kernel
theorem dX6_remember_19 : decode cX6_remember 19 = .ok (.getfield 20, 3) := by decide +kernel
theorem dX6_remember_22 : decode cX6_remember 22 = .ok (.iload_n 1, 1) := by decide +kernel
theorem dX6_remember_23 : decode cX6_remember 23 = .ok (.aload_n 0, 1) := by decide +kernel
theorem dX6_remember_24 : decode cX6_remember 24 = .ok (.getfield 20, 3) := by decide +kernel
theorem dX6_remember_27 : decode cX6_remember 27 = .ok (.iload_n 1, 1) := by decide +kernel
theorem dX6_remember_28 : decode cX6_remember 28 = .ok (.bipush 11, 2) := by decide +kernel
theorem dX6_remember_30 : decode cX6_remember 30 = .ok (.iadd, 1) := by decide +kernel
theorem dX6_remember_31 : decode cX6_remember 31 = .ok (.laload, 1) := by decide +kernel
theorem dX6_remember_32 : decode cX6_remember 32 = .ok (.lastore, 1) := by decide +kernel
theorem dX6_remember_33 : decode cX6_remember 33 = .ok (.iinc 1 1, 3) := by decide +kernel
theorem dX6_remember_36 : decode cX6_remember 36 = .ok (.goto (-25), 3) := by decide +kernel
theorem dX6_remember_39 : decode cX6_remember 39 = .ok (.aload_n 0, 1) := by decide +kernel
theorem dX6_remember_40 : decode cX6_remember 40 = .ok (.dup, 1) := by decide +kernel
theorem dX6_remember_41 : decode cX6_remember 41 = .ok (.getfield 178, 3) := by decide +kernel
theorem dX6_remember_44 : decode cX6_remember 44 = .ok (.iconst 1, 1) := by decide +kernel
theorem dX6_remember_45 : decode cX6_remember 45 = .ok (.isub, 1) := by decide +kernel
theorem dX6_remember_46 : decode cX6_remember 46 = .ok (.putfield 178, 3) := by decide +kernel
theorem dX6_remember_49 : decode cX6_remember 49 = .ok (.aload_n 0, 1) := by decide +kernel
theorem dX6_remember_50 : decode cX6_remember 50 = .ok (.getfield 13, 3) := by decide +kernel
theorem dX6_remember_53 : decode cX6_remember 53 = .ok (.iconst 0, 1) := by decide +kernel
theorem dX6_remember_54 : decode cX6_remember 54 = .ok (.aload_n 0, 1) := by decide +kernel
theorem dX6_remember_55 : decode cX6_remember 55 = .ok (.getfield 20, 3) := by decide +kernel
theorem dX6_remember_58 : decode cX6_remember 58 = .ok (.bipush 11, 2) := by decide +kernel
theorem dX6_remember_60 : decode cX6_remember 60 = .ok (.aload_n 0, 1) := by decide +kernel
theorem dX6_remember_61 : decode cX6_remember 61 = .ok (.getfield 178, 3) := by decide +kernel
theorem dX6_remember_64 : decode cX6_remember 64 = .ok (.imul, 1) := by decide +kernel
theorem dX6_remember_65 : decode cX6_remember 65 = .ok (.invokestatic 174, 3) := by decide +kernel
theorem dX6_remember_68 : decode cX6_remember 68 = .ok (.aload_n 0, 1) := by decide +kernel
theorem dX6_remember_69 : decode cX6_remember 69 = .ok (.dup, 1) := by decide +kernel
theorem dX6_remember_70 : decode cX6_remember 70 = .ok (.getfield 178, 3) := by decide +kernel
theorem dX6_remember_73 : decode cX6_remember 73 = .ok (.iconst 1, 1) := by decide +kernel
theorem dX6_remember_74 : decode cX6_remember 74 = .ok (.iadd, 1) := by decide +kernel
theorem dX6_remember_75 : decode cX6_remember 75 = .ok (.putfield 178, 3) := by decide +kernel
theorem dX6_remember_78 : decode cX6_remember 78 = .ok (.return_, 1) := by decide +kernel
set_option maxRecDepth 20000 in
theorem ggX6_size_X6_isSize : GoodIn wsX6_size wsX6_isSize := goodIn_r _ [5, 6, 7, 8, 9, 4, 10] (by decide +kernel) (by decide +kernel)
set_option maxRecDepth 20000 in
theorem gX6_size_X6_isSize : GoodIn wsX6_size (va_wsS RX6 189 yX6_isSize wsX6_isSize) := goodIn_app (goodIn_of _ (by decide +kernel)) ggX6_size_X6_isSize
set_option maxRecDepth 20000 in
theorem ggX6_size_X6_refused : GoodIn wsX6_size wsX6_refused := goodIn_r _ [14, 15, 28, 29, 30, 31, 32, 33, 34, 35, 36, 37, 38, 39, 40, 41, 42] (by decide +kernel) (by decide +kernel)
set_option maxRecDepth 20000 in
theorem gX6_size_X6_refused : GoodIn wsX6_size (wsV RX6 127 RX6 yX6_refused wsX6_refused) := goodIn_app (goodIn_of _ (by decide +kernel)) ggX6_size_X6_refused
set_option maxRecDepth 20000 in
theorem ggX6_size_X6_remember : GoodIn wsX6_size wsX6_remember := goodIn_r _ [19, 20, 21, 1, 22, 23, 4, 24, 28, 29, 30, 31, 32, 33, 34, 35, 36, 37, 38, 39, 40, 41, 42] (by decide +kernel) (by decide +kernel)
set_option maxRecDepth 20000 in
theorem gX6_size_X6_remember : GoodIn wsX6_size (wsV RX6 192 RX6 yX6_remember wsX6_remember) := goodIn_app (goodIn_of _ (by decide +kernel)) ggX6_size_X6_remember
set_option maxRecDepth 20000 in
theorem ggX6_size_X6_clear : GoodIn wsX6_size wsX6_clear := goodIn_r _ [27] (by decide +kernel) (by decide +kernel)
set_option maxRecDepth 20000 in
theorem gX6_size_X6_clear : GoodIn wsX6_size (va_wsS RX6 39 yX6_clear wsX6_clear) := goodIn_app (goodIn_of _ (by decide +kernel)) ggX6_size_X6_clear
theorem dX6_size_0 : decode cX6_size 0 = .ok (.aload_n 0, 1) := by decide +kernel
theorem dX6_size_1 : decode cX6_size 1 = .ok (.iload_n 1, 1) := by decide +kernel
theorem dX6_size_2 : decode cX6_size 2 = .ok (.invokestatic 189, 3) := by decide +kernel
theorem dX6_size_5 : decode cX6_size 5 = .ok (.ifCond .eq 14, 3) := by decide +kernel
theorem dX6_size_8 : decode cX6_size 8 = .ok (.iload_n 2, 1) := by decide +kernel
theorem dX6_size_9 : decode cX6_size 9 = .ok (.invokestatic 189, 3) := by decide +kernel
theorem dX6_size_12 : decode cX6_size 12 = .ok (.ifCond .eq 7, 3) := by decide +kernel
theorem dX6_size_15 : decode cX6_size 15 = .ok (.iconst 0, 1) := by decide +kernel
theorem dX6_size_16 : decode cX6_size 16 = .ok (.goto 4, 3) := by decide +kernel
theorem dX6_size_19 : decode cX6_size 19 = .ok (.iconst 1, 1) := by decide +kernel
theorem dX6_size_20 : decode cX6_size 20 = .ok (.invokevirtual 127, 3) := by decide +kernel
theorem dX6_size_23 : decode cX6_size 23 = .ok (.ifCond .eq 5, 3) := by decide +kernel
theorem dX6_size_26 : decode cX6_size 26 = .ok (.iconst 0, 1) := by decide +kernel
theorem dX6_size_27 : decode cX6_size 27 = .ok (.ireturn, 1) := by decide +kernel
theorem dX6_size_28 : decode cX6_size 28 = .ok (.aload_n 0, 1) := by decide +kernel
theorem dX6_size_29 : decode cX6_size 29 = .ok (.invokevirtual 192, 3) := by decide +kernel
theorem dX6_size_32 : decode cX6_size 32 = .ok (.aload_n 0, 1) := by decide +kernel
theorem dX6_size_33 : decode cX6_size 33 = .ok (.getfield 13, 3) := by decide +kernel
theorem dX6_size_36 : decode cX6_size 36 = .ok (.iconst 2, 1) := by decide +kernel
theorem dX6_size_37 : decode cX6_size 37 = .ok (.laload, 1) := by decide +kernel
theorem dX6_size_38 : decode cX6_size 38 = .ok (.lstore_n 3, 1) := by decide +kernel
theorem dX6_size_39 : decode cX6_size 39 = .ok (.aload_n 0, 1) := by decide +kernel
theorem dX6_size_40 : decode cX6_size 40 = .ok (.getfield 13, 3) := by decide +kernel
theorem dX6_size_43 : decode cX6_size 43 = .ok (.iconst 3, 1) := by decide +kernel
theorem dX6_size_44 : decode cX6_size 44 = .ok (.laload, 1) := by decide +kernel
theorem dX6_size_45 : decode cX6_size 45 = .ok (.lstore 5, 2) := by decide +kernel
theorem dX6_size_47 : decode cX6_size 47 = .ok (.aload_n 0, 1) := by decide +kernel
theorem dX6_size_48 : decode cX6_size 48 = .ok (.getfield 13, 3) := by decide +kernel
theorem dX6_size_51 : decode cX6_size 51 = .ok (.iload_n 1, 1) := by decide +kernel
theorem dX6_size_52 : decode cX6_size 52 = .ok (.iload_n 2, 1) := by decide +kernel
theorem dX6_size_53 : decode cX6_size 53 = .ok (.invokestatic 39, 3) := by decide +kernel
theorem dX6_size_56 : decode cX6_size 56 = .ok (.aload_n 0, 1) := by decide +kernel
theorem dX6_size_57 : decode cX6_size 57 = .ok (.getfield 13, 3) := by decide +kernel
theorem dX6_size_60 : decode cX6_size 60 = .ok (.iconst 2, 1) := by decide +kernel
theorem dX6_size_61 : decode cX6_size 61 = .ok (.lload_n 3, 1) := by decide +kernel
theorem dX6_size_62 : decode cX6_size 62 = .ok (.lastore, 1) := by decide +kernel
theorem dX6_size_63 : decode cX6_size 63 = .ok (.aload_n 0, 1) := by decide +kernel
theorem dX6_size_64 : decode cX6_size 64 = .ok (.getfield 13, 3) := by decide +kernel
theorem dX6_size_67 : decode cX6_size 67 = .ok (.iconst 3, 1) := by decide +kernel
theorem dX6_size_68 : decode cX6_size 68 = .ok (.lload 5, 2) := by decide +kernel
theorem dX6_size_70 : decode cX6_size 70 = .ok (.lastore, 1) := by decide +kernel
theorem dX6_size_71 : decode cX6_size 71 = .ok (.iload_n 1, 1) := by decide +kernel
theorem dX6_size_72 : decode cX6_size 72 = .ok (.iload_n 2, 1) := by decide +kernel
theorem dX6_size_73 : decode cX6_size 73 = .ok (.imul, 1) := by decide +kernel
theorem dX6_size_74 : decode cX6_size 74 = .ok (.ireturn, 1) := by decide +kernel
set_option maxRecDepth 20000 in
theorem ggX6_flip_X6_isCell : GoodIn wsX6_flip wsX6_isCell := goodIn_r _ [5, 6, 7, 4, 8, 9, 10, 11] (by decide +kernel) (by decide +kernel)
set_option maxRecDepth 20000 in
theorem gX6_flip_X6_isCell : GoodIn wsX6_flip (va_wsS RX6 111 yX6_isCell wsX6_isCell) := goodIn_app (goodIn_of _ (by decide +kernel)) ggX6_flip_X6_isCell
set_option maxRecDepth 20000 in
theorem ggX6_flip_X6_refused : GoodIn wsX6_flip wsX6_refused := goodIn_r _ [15, 16, 32, 33, 34, 35, 36, 37, 38, 39, 40, 41, 42, 43, 44, 45, 46] (by decide +kernel) (by decide +kernel)
set_option maxRecDepth 20000 in
theorem gX6_flip_X6_refused : GoodIn wsX6_flip (wsV RX6 127 RX6 yX6_refused wsX6_refused) := goodIn_app (goodIn_of _ (by decide +kernel)) ggX6_flip_X6_refused
set_option maxRecDepth 20000 in
theorem ggX6_flip_X6_remember : GoodIn wsX6_flip wsX6_remember := goodIn_r _ [20, 21, 22, 1, 23, 24, 4, 25, 32, 33, 34, 35, 36, 37, 38, 39, 40, 41, 42, 43, 44, 45, 46] (by decide +kernel) (by decide +kernel)
set_option maxRecDepth 20000 in
theorem gX6_flip_X6_remember : GoodIn wsX6_flip (wsV RX6 192 RX6 yX6_remember wsX6_remember) := goodIn_app (goodIn_of _ (by decide +kernel)) ggX6_flip_X6_remember
set_option maxRecDepth 20000 in
theorem ggX6_flip_X6_flipOn : GoodIn wsX6_flip wsX6_flipOn := goodIn_r _ [28, 29, 30, 4, 31] (by decide +kernel) (by decide +kernel)
set_option maxRecDepth 20000 in
theorem gX6_flip_X6_flipOn : GoodIn wsX6_flip (va_wsS RX6 142 yX6_flipOn wsX6_flipOn) := goodIn_app (goodIn_of _ (by decide +kernel)) ggX6_flip_X6_flipOn
theorem dX6_flip_0 : decode cX6_flip 0 = .ok (.aload_n 0, 1) := by decide +kernel
theorem dX6_flip_1 : decode cX6_flip 1 = .ok (.aload_n 0, 1) := by decide +kernel
theorem dX6_flip_2 : decode cX6_flip 2 = .ok (.getfield 13, 3) := by decide +kernel
theorem dX6_flip_5 : decode cX6_flip 5 = .ok (.iload_n 1, 1) := by decide +kernel
theorem dX6_flip_6 : decode cX6_flip 6 = .ok (.invokestatic 111, 3) := by decide +kernel
theorem dX6_flip_9 : decode cX6_flip 9 = .ok (.ifCond .eq 7, 3) := by decide +kernel
theorem dX6_flip_12 : decode cX6_flip 12 = .ok (.iconst 0, 1) := by decide +kernel
theorem dX6_flip_13 : decode cX6_flip 13 = .ok (.goto 4, 3) := by decide +kernel
theorem dX6_flip_16 : decode cX6_flip 16 = .ok (.iconst 1, 1) := by decide +kernel
theorem dX6_flip_17 : decode cX6_flip 17 = .ok (.invokevirtual 127, 3) := by decide +kernel
theorem dX6_flip_20 : decode cX6_flip 20 = .ok (.ifCond .eq 5, 3) := by decide +kernel
theorem dX6_flip_23 : decode cX6_flip 23 = .ok (.iconst 0, 1) := by decide +kernel
theorem dX6_flip_24 : decode cX6_flip 24 = .ok (.ireturn, 1) := by decide +kernel
theorem dX6_flip_25 : decode cX6_flip 25 = .ok (.aload_n 0, 1) := by decide +kernel
theorem dX6_flip_26 : decode cX6_flip 26 = .ok (.invokevirtual 192, 3) := by decide +kernel
theorem dX6_flip_29 : decode cX6_flip 29 = .ok (.aload_n 0, 1) := by decide +kernel
theorem dX6_flip_30 : decode cX6_flip 30 = .ok (.getfield 13, 3) := by decide +kernel
theorem dX6_flip_33 : decode cX6_flip 33 = .ok (.iload_n 1, 1) := by decide +kernel
theorem dX6_flip_34 : decode cX6_flip 34 = .ok (.invokestatic 142, 3) := by decide +kernel
theorem dX6_flip_37 : decode cX6_flip 37 = .ok (.ireturn, 1) := by decide +kernel
set_option maxRecDepth 20000 in
theorem ggX6_scratch_X6_isCell : GoodIn wsX6_scratch wsX6_isCell := goodIn_r _ [5, 6, 7, 4, 8, 9, 10, 11] (by decide +kernel) (by decide +kernel)
set_option maxRecDepth 20000 in
theorem gX6_scratch_X6_isCell : GoodIn wsX6_scratch (va_wsS RX6 111 yX6_isCell wsX6_isCell) := goodIn_app (goodIn_of _ (by decide +kernel)) ggX6_scratch_X6_isCell
set_option maxRecDepth 20000 in
theorem ggX6_scratch_X6_isDirection : GoodIn wsX6_scratch wsX6_isDirection := goodIn_r _ [14, 15, 9, 10, 4, 11] (by decide +kernel) (by decide +kernel)
set_option maxRecDepth 20000 in
theorem gX6_scratch_X6_isDirection : GoodIn wsX6_scratch (va_wsS RX6 115 yX6_isDirection wsX6_isDirection) := goodIn_app (goodIn_of _ (by decide +kernel)) ggX6_scratch_X6_isDirection
set_option maxRecDepth 20000 in
theorem ggX6_scratch_X6_canScratch : GoodIn wsX6_scratch wsX6_canScratch := goodIn_r _ [18, 2, 3, 4, 5, 6, 7, 8, 9, 10, 11, 12, 13, 14, 15, 19, 20, 21, 22, 23, 24, 25] (by decide +kernel) (by decide +kernel)
set_option maxRecDepth 20000 in
theorem gX6_scratch_X6_canScratch : GoodIn wsX6_scratch (va_wsS RX6 149 yX6_canScratch wsX6_canScratch) := goodIn_app (goodIn_of _ (by decide +kernel)) ggX6_scratch_X6_canScratch
set_option maxRecDepth 20000 in
theorem ggX6_scratch_X6_refused : GoodIn wsX6_scratch wsX6_refused := goodIn_r _ [29, 30, 55, 56, 57, 58, 59, 60, 61, 62, 63, 64, 65, 66, 67, 68, 69] (by decide +kernel) (by decide +kernel)
set_option maxRecDepth 20000 in
theorem gX6_scratch_X6_refused : GoodIn wsX6_scratch (wsV RX6 127 RX6 yX6_refused wsX6_refused) := goodIn_app (goodIn_of _ (by decide +kernel)) ggX6_scratch_X6_refused
set_option maxRecDepth 20000 in
theorem ggX6_scratch_X6_remember : GoodIn wsX6_scratch wsX6_remember := goodIn_r _ [34, 35, 36, 1, 37, 38, 4, 39, 55, 56, 57, 58, 59, 60, 61, 62, 63, 64, 65, 66, 67, 68, 69] (by decide +kernel) (by decide +kernel)
set_option maxRecDepth 20000 in
theorem gX6_scratch_X6_remember : GoodIn wsX6_scratch (wsV RX6 192 RX6 yX6_remember wsX6_remember) := goodIn_app (goodIn_of _ (by decide +kernel)) ggX6_scratch_X6_remember
set_option maxRecDepth 20000 in
theorem ggX6_scratch_X6_scratchOn : GoodIn wsX6_scratch wsX6_scratchOn := goodIn_r _ [42, 43, 44, 4, 45, 46, 47, 48, 19, 20, 21, 22, 23, 24, 25, 6, 7, 8, 49, 50, 51, 52, 53, 54] (by decide +kernel) (by decide +kernel)
set_option maxRecDepth 20000 in
theorem gX6_scratch_X6_scratchOn : GoodIn wsX6_scratch (va_wsS RX6 152 yX6_scratchOn wsX6_scratchOn) := goodIn_app (goodIn_of _ (by decide +kernel)) ggX6_scratch_X6_scratchOn
theorem dX6_scratch_0 : decode cX6_scratch 0 = .ok (.aload_n 0, 1) := by decide +kernel
theorem dX6_scratch_1 : decode cX6_scratch 1 = .ok (.aload_n 0, 1) := by decide +kernel
theorem dX6_scratch_2 : decode cX6_scratch 2 = .ok (.getfield 13, 3) := by decide +kernel
theorem dX6_scratch_5 : decode cX6_scratch 5 = .ok (.iload_n 1, 1) := by decide +kernel
theorem dX6_scratch_6 : decode cX6_scratch 6 = .ok (.invokestatic 111, 3) := by decide +kernel
theorem dX6_scratch_9 : decode cX6_scratch 9 = .ok (.ifCond .ne 7, 3) := by decide +kernel
theorem dX6_scratch_12 : decode cX6_scratch 12 = .ok (.iconst 1, 1) := by decide +kernel
theorem dX6_scratch_13 : decode cX6_scratch 13 = .ok (.goto 31, 3) := by decide +kernel
theorem dX6_scratch_16 : decode cX6_scratch 16 = .ok (.iload_n 2, 1) := by decide +kernel
theorem dX6_scratch_17 : decode cX6_scratch 17 = .ok (.invokestatic 115, 3) := by decide +kernel
theorem dX6_scratch_20 : decode cX6_scratch 20 = .ok (.ifCond .ne 7, 3) := by decide +kernel
theorem dX6_scratch_23 : decode cX6_scratch 23 = .ok (.iconst 2, 1) := by decide +kernel
theorem dX6_scratch_24 : decode cX6_scratch 24 = .ok (.goto 20, 3) := by decide +kernel
theorem dX6_scratch_27 : decode cX6_scratch 27 = .ok (.aload_n 0, 1) := by decide +kernel
theorem dX6_scratch_28 : decode cX6_scratch 28 = .ok (.getfield 13, 3) := by decide +kernel
theorem dX6_scratch_31 : decode cX6_scratch 31 = .ok (.iload_n 1, 1) := by decide +kernel
theorem dX6_scratch_32 : decode cX6_scratch 32 = .ok (.iload_n 2, 1) := by decide +kernel
theorem dX6_scratch_33 : decode cX6_scratch 33 = .ok (.invokestatic 149, 3) := by decide +kernel
theorem dX6_scratch_36 : decode cX6_scratch 36 = .ok (.ifCond .eq 7, 3) := by decide +kernel
theorem dX6_scratch_39 : decode cX6_scratch 39 = .ok (.iconst 0, 1) := by decide +kernel
theorem dX6_scratch_40 : decode cX6_scratch 40 = .ok (.goto 4, 3) := by decide +kernel
theorem dX6_scratch_43 : decode cX6_scratch 43 = .ok (.iconst 3, 1) := by decide +kernel
theorem dX6_scratch_44 : decode cX6_scratch 44 = .ok (.invokevirtual 127, 3) := by decide +kernel
theorem dX6_scratch_47 : decode cX6_scratch 47 = .ok (.ifCond .eq 5, 3) := by decide +kernel
theorem dX6_scratch_50 : decode cX6_scratch 50 = .ok (.iconst 0, 1) := by decide +kernel
theorem dX6_scratch_51 : decode cX6_scratch 51 = .ok (.ireturn, 1) := by decide +kernel
theorem dX6_scratch_52 : decode cX6_scratch 52 = .ok (.aload_n 0, 1) := by decide +kernel
theorem dX6_scratch_53 : decode cX6_scratch 53 = .ok (.invokevirtual 192, 3) := by decide +kernel
theorem dX6_scratch_56 : decode cX6_scratch 56 = .ok (.aload_n 0, 1) := by decide +kernel
theorem dX6_scratch_57 : decode cX6_scratch 57 = .ok (.getfield 13, 3) := by decide +kernel
theorem dX6_scratch_60 : decode cX6_scratch 60 = .ok (.iload_n 1, 1) := by decide +kernel
theorem dX6_scratch_61 : decode cX6_scratch 61 = .ok (.iload_n 2, 1) := by decide +kernel
theorem dX6_scratch_62 : decode cX6_scratch 62 = .ok (.invokestatic 152, 3) := by decide +kernel
theorem dX6_scratch_65 : decode cX6_scratch 65 = .ok (.ireturn, 1) := by decide +kernel
set_option maxRecDepth 20000 in
theorem ggX6_border_X6_isDirection : GoodIn wsX6_border wsX6_isDirection := goodIn_r _ [6, 7, 8, 9, 5, 10] (by decide +kernel) (by decide +kernel)
set_option maxRecDepth 20000 in
theorem gX6_border_X6_isDirection : GoodIn wsX6_border (va_wsS RX6 115 yX6_isDirection wsX6_isDirection) := goodIn_app (goodIn_of _ (by decide +kernel)) ggX6_border_X6_isDirection
set_option maxRecDepth 20000 in
theorem ggX6_border_X6_in : GoodIn wsX6_border wsX6_in := goodIn_r _ [10] (by decide +kernel) (by decide +kernel)
set_option maxRecDepth 20000 in
theorem gX6_border_X6_in : GoodIn wsX6_border (va_wsS RX6 51 yX6_in wsX6_in) := goodIn_app (goodIn_of _ (by decide +kernel)) ggX6_border_X6_in
set_option maxRecDepth 20000 in
theorem ggX6_border_X6_refused : GoodIn wsX6_border wsX6_refused := goodIn_r _ [14, 15, 28, 29, 30, 31, 32, 33, 34, 35, 36, 37, 38, 39, 40, 41, 42] (by decide +kernel) (by decide +kernel)
set_option maxRecDepth 20000 in
theorem gX6_border_X6_refused : GoodIn wsX6_border (wsV RX6 127 RX6 yX6_refused wsX6_refused) := goodIn_app (goodIn_of _ (by decide +kernel)) ggX6_border_X6_refused
set_option maxRecDepth 20000 in
theorem ggX6_border_X6_remember : GoodIn wsX6_border wsX6_remember := goodIn_r _ [19, 20, 21, 2, 22, 23, 5, 24, 28, 29, 30, 31, 32, 33, 34, 35, 36, 37, 38, 39, 40, 41, 42] (by decide +kernel) (by decide +kernel)
set_option maxRecDepth 20000 in
theorem gX6_border_X6_remember : GoodIn wsX6_border (wsV RX6 192 RX6 yX6_remember wsX6_remember) := goodIn_app (goodIn_of _ (by decide +kernel)) ggX6_border_X6_remember
set_option maxRecDepth 20000 in
theorem ggX6_border_X6_borderOn : GoodIn wsX6_border wsX6_borderOn := goodIn_r _ [27] (by decide +kernel) (by decide +kernel)
set_option maxRecDepth 20000 in
theorem gX6_border_X6_borderOn : GoodIn wsX6_border (va_wsS RX6 155 yX6_borderOn wsX6_borderOn) := goodIn_app (goodIn_of _ (by decide +kernel)) ggX6_border_X6_borderOn
theorem dX6_border_0 : decode cX6_border 0 = .ok (.aload_n 0, 1) := by decide +kernel
theorem dX6_border_1 : decode cX6_border 1 = .ok (.iload_n 1, 1) := by decide +kernel
theorem dX6_border_2 : decode cX6_border 2 = .ok (.invokestatic 115, 3) := by decide +kernel
theorem dX6_border_5 : decode cX6_border 5 = .ok (.ifCond .eq 19, 3) := by decide +kernel
theorem dX6_border_8 : decode cX6_border 8 = .ok (.iload_n 2, 1) := by decide +kernel
theorem dX6_border_9 : decode cX6_border 9 = .ok (.i2l, 1) := by decide +kernel
theorem dX6_border_10 : decode cX6_border 10 = .ok (.lconst 0, 1) := by decide +kernel
theorem dX6_border_11 : decode cX6_border 11 = .ok (.ldc2_w 55, 3) := by decide +kernel
theorem dX6_border_14 : decode cX6_border 14 = .ok (.invokestatic 51, 3) := by decide +kernel
theorem dX6_border_17 : decode cX6_border 17 = .ok (.ifCond .eq 7, 3) := by decide +kernel
theorem dX6_border_20 : decode cX6_border 20 = .ok (.iconst 0, 1) := by decide +kernel
theorem dX6_border_21 : decode cX6_border 21 = .ok (.goto 4, 3) := by decide +kernel
theorem dX6_border_24 : decode cX6_border 24 = .ok (.iconst 1, 1) := by decide +kernel
theorem dX6_border_25 : decode cX6_border 25 = .ok (.invokevirtual 127, 3) := by decide +kernel
theorem dX6_border_28 : decode cX6_border 28 = .ok (.ifCond .eq 5, 3) := by decide +kernel
theorem dX6_border_31 : decode cX6_border 31 = .ok (.iconst 0, 1) := by decide +kernel
theorem dX6_border_32 : decode cX6_border 32 = .ok (.ireturn, 1) := by decide +kernel
theorem dX6_border_33 : decode cX6_border 33 = .ok (.aload_n 0, 1) := by decide +kernel
theorem dX6_border_34 : decode cX6_border 34 = .ok (.invokevirtual 192, 3) := by decide +kernel
theorem dX6_border_37 : decode cX6_border 37 = .ok (.aload_n 0, 1) := by decide +kernel
theorem dX6_border_38 : decode cX6_border 38 = .ok (.getfield 13, 3) := by decide +kernel
theorem dX6_border_41 : decode cX6_border 41 = .ok (.iload_n 1, 1) := by decide +kernel
theorem dX6_border_42 : decode cX6_border 42 = .ok (.iload_n 2, 1) := by decide +kernel
theorem dX6_border_43 : decode cX6_border 43 = .ok (.invokestatic 155, 3) := by decide +kernel
theorem dX6_border_46 : decode cX6_border 46 = .ok (.ireturn, 1) := by decide +kernel
set_option maxRecDepth 20000 in
theorem ggX6_rule_X6_in : GoodIn wsX6_rule wsX6_in := goodIn_r _ [6] (by decide +kernel) (by decide +kernel)
set_option maxRecDepth 20000 in
theorem gX6_rule_X6_in : GoodIn wsX6_rule (va_wsS RX6 51 yX6_in wsX6_in) := goodIn_app (goodIn_of _ (by decide +kernel)) ggX6_rule_X6_in
set_option maxRecDepth 20000 in
theorem ggX6_rule_X6_refused : GoodIn wsX6_rule wsX6_refused := goodIn_r _ [10, 11, 24, 25, 26, 27, 28, 29, 30, 31, 32, 33, 34, 35, 36, 37, 38] (by decide +kernel) (by decide +kernel)
set_option maxRecDepth 20000 in
theorem gX6_rule_X6_refused : GoodIn wsX6_rule (wsV RX6 127 RX6 yX6_refused wsX6_refused) := goodIn_app (goodIn_of _ (by decide +kernel)) ggX6_rule_X6_refused
set_option maxRecDepth 20000 in
theorem ggX6_rule_X6_remember : GoodIn wsX6_rule wsX6_remember := goodIn_r _ [15, 16, 17, 2, 18, 19, 5, 20, 24, 25, 26, 27, 28, 29, 30, 31, 32, 33, 34, 35, 36, 37, 38] (by decide +kernel) (by decide +kernel)
set_option maxRecDepth 20000 in
theorem gX6_rule_X6_remember : GoodIn wsX6_rule (wsV RX6 192 RX6 yX6_remember wsX6_remember) := goodIn_app (goodIn_of _ (by decide +kernel)) ggX6_rule_X6_remember
set_option maxRecDepth 20000 in
theorem ggX6_rule_X6_ruleOn : GoodIn wsX6_rule wsX6_ruleOn := goodIn_r _ [23] (by decide +kernel) (by decide +kernel)
set_option maxRecDepth 20000 in
theorem gX6_rule_X6_ruleOn : GoodIn wsX6_rule (va_wsS RX6 158 yX6_ruleOn wsX6_ruleOn) := goodIn_app (goodIn_of _ (by decide +kernel)) ggX6_rule_X6_ruleOn
theorem dX6_rule_0 : decode cX6_rule 0 = .ok (.aload_n 0, 1) := by decide +kernel
theorem dX6_rule_1 : decode cX6_rule 1 = .ok (.iload_n 1, 1) := by decide +kernel
theorem dX6_rule_2 : decode cX6_rule 2 = .ok (.i2l, 1) := by decide +kernel
theorem dX6_rule_3 : decode cX6_rule 3 = .ok (.lconst 0, 1) := by decide +kernel
theorem dX6_rule_4 : decode cX6_rule 4 = .ok (.ldc2_w 55, 3) := by decide +kernel
theorem dX6_rule_7 : decode cX6_rule 7 = .ok (.invokestatic 51, 3) := by decide +kernel
theorem dX6_rule_10 : decode cX6_rule 10 = .ok (.ifCond .eq 7, 3) := by decide +kernel
theorem dX6_rule_13 : decode cX6_rule 13 = .ok (.iconst 0, 1) := by decide +kernel
theorem dX6_rule_14 : decode cX6_rule 14 = .ok (.goto 4, 3) := by decide +kernel
theorem dX6_rule_17 : decode cX6_rule 17 = .ok (.iconst 1, 1) := by decide +kernel
theorem dX6_rule_18 : decode cX6_rule 18 = .ok (.invokevirtual 127, 3) := by decide +kernel
theorem dX6_rule_21 : decode cX6_rule 21 = .ok (.ifCond .eq 5, 3) := by decide +kernel
theorem dX6_rule_24 : decode cX6_rule 24 = .ok (.iconst 0, 1) := by decide +kernel
theorem dX6_rule_25 : decode cX6_rule 25 = .ok (.ireturn, 1) := by decide +kernel
theorem dX6_rule_26 : decode cX6_rule 26 = .ok (.aload_n 0, 1) := by decide +kernel
theorem dX6_rule_27 : decode cX6_rule 27 = .ok (.invokevirtual 192, 3) := by decide +kernel
theorem dX6_rule_30 : decode cX6_rule 30 = .ok (.aload_n 0, 1) := by decide +kernel
theorem dX6_rule_31 : decode cX6_rule 31 = .ok (.getfield 13, 3) := by decide +kernel
theorem dX6_rule_34 : decode cX6_rule 34 = .ok (.iload_n 1, 1) := by decide +kernel
theorem dX6_rule_35 : decode cX6_rule 35 = .ok (.invokestatic 158, 3) := by decide +kernel
theorem dX6_rule_38 : decode cX6_rule 38 = .ok (.ireturn, 1) := by decide +kernel
set_option maxRecDepth 20000 in
theorem ggX6_breathe_X6_isCell : GoodIn wsX6_breathe wsX6_isCell := goodIn_r _ [6, 7, 8, 5, 9, 10, 11, 12] (by decide +kernel) (by decide +kernel)
set_option maxRecDepth 20000 in
theorem gX6_breathe_X6_isCell : GoodIn wsX6_breathe (va_wsS RX6 111 yX6_isCell wsX6_isCell) := goodIn_app (goodIn_of _ (by decide +kernel)) ggX6_breathe_X6_isCell
set_option maxRecDepth 20000 in
theorem ggX6_breathe_X6_in : GoodIn wsX6_breathe wsX6_in := goodIn_r _ [12] (by decide +kernel) (by decide +kernel)
set_option maxRecDepth 20000 in
theorem gX6_breathe_X6_in : GoodIn wsX6_breathe (va_wsS RX6 51 yX6_in wsX6_in) := goodIn_app (goodIn_of _ (by decide +kernel)) ggX6_breathe_X6_in
set_option maxRecDepth 20000 in
theorem ggX6_breathe_X6_refused : GoodIn wsX6_breathe wsX6_refused := goodIn_r _ [16, 17, 59, 60, 61, 62, 63, 64, 65, 66, 67, 68, 69, 70, 71, 72, 73] (by decide +kernel) (by decide +kernel)
set_option maxRecDepth 20000 in
theorem gX6_breathe_X6_refused : GoodIn wsX6_breathe (wsV RX6 127 RX6 yX6_refused wsX6_refused) := goodIn_app (goodIn_of _ (by decide +kernel)) ggX6_breathe_X6_refused
set_option maxRecDepth 20000 in
theorem ggX6_breathe_X6_remember : GoodIn wsX6_breathe wsX6_remember := goodIn_r _ [21, 22, 23, 1, 24, 25, 5, 26, 59, 60, 61, 62, 63, 64, 65, 66, 67, 68, 69, 70, 71, 72, 73] (by decide +kernel) (by decide +kernel)
set_option maxRecDepth 20000 in
theorem gX6_breathe_X6_remember : GoodIn wsX6_breathe (wsV RX6 192 RX6 yX6_remember wsX6_remember) := goodIn_app (goodIn_of _ (by decide +kernel)) ggX6_breathe_X6_remember
set_option maxRecDepth 20000 in
theorem ggX6_breathe_X6_breatheOn : GoodIn wsX6_breathe wsX6_breatheOn := goodIn_r _ [29, 30, 31, 32, 5, 33, 7, 8, 9, 34, 35, 36, 37, 38, 39, 40, 41, 42, 43, 44, 45, 46, 47, 48, 49, 50, 51, 52, 53, 54, 55, 56, 57, 58] (by decide +kernel) (by decide +kernel)
set_option maxRecDepth 20000 in
theorem gX6_breathe_X6_breatheOn : GoodIn wsX6_breathe (va_wsS RX6 161 yX6_breatheOn wsX6_breatheOn) := goodIn_app (goodIn_of _ (by decide +kernel)) ggX6_breathe_X6_breatheOn
theorem dX6_breathe_0 : decode cX6_breathe 0 = .ok (.aload_n 0, 1) := by decide +kernel
theorem dX6_breathe_1 : decode cX6_breathe 1 = .ok (.aload_n 0, 1) := by decide +kernel
theorem dX6_breathe_2 : decode cX6_breathe 2 = .ok (.getfield 13, 3) := by decide +kernel
theorem dX6_breathe_5 : decode cX6_breathe 5 = .ok (.iload_n 1, 1) := by decide +kernel
theorem dX6_breathe_6 : decode cX6_breathe 6 = .ok (.invokestatic 111, 3) := by decide +kernel
theorem dX6_breathe_9 : decode cX6_breathe 9 = .ok (.ifCond .ne 7, 3) := by decide +kernel
theorem dX6_breathe_12 : decode cX6_breathe 12 = .ok (.iconst 1, 1) := by decide +kernel
theorem dX6_breathe_13 : decode cX6_breathe 13 = .ok (.goto 20, 3) := by decide +kernel
theorem dX6_breathe_16 : decode cX6_breathe 16 = .ok (.iload_n 2, 1) := by decide +kernel
theorem dX6_breathe_17 : decode cX6_breathe 17 = .ok (.i2l, 1) := by decide +kernel
theorem dX6_breathe_18 : decode cX6_breathe 18 = .ok (.lconst 0, 1) := by decide +kernel
theorem dX6_breathe_19 : decode cX6_breathe 19 = .ok (.ldc2_w 133, 3) := by decide +kernel
theorem dX6_breathe_22 : decode cX6_breathe 22 = .ok (.invokestatic 51, 3) := by decide +kernel
theorem dX6_breathe_25 : decode cX6_breathe 25 = .ok (.ifCond .eq 7, 3) := by decide +kernel
theorem dX6_breathe_28 : decode cX6_breathe 28 = .ok (.iconst 0, 1) := by decide +kernel
theorem dX6_breathe_29 : decode cX6_breathe 29 = .ok (.goto 4, 3) := by decide +kernel
theorem dX6_breathe_32 : decode cX6_breathe 32 = .ok (.iconst 2, 1) := by decide +kernel
theorem dX6_breathe_33 : decode cX6_breathe 33 = .ok (.invokevirtual 127, 3) := by decide +kernel
theorem dX6_breathe_36 : decode cX6_breathe 36 = .ok (.ifCond .eq 5, 3) := by decide +kernel
theorem dX6_breathe_39 : decode cX6_breathe 39 = .ok (.iconst 0, 1) := by decide +kernel
theorem dX6_breathe_40 : decode cX6_breathe 40 = .ok (.ireturn, 1) := by decide +kernel
theorem dX6_breathe_41 : decode cX6_breathe 41 = .ok (.aload_n 0, 1) := by decide +kernel
theorem dX6_breathe_42 : decode cX6_breathe 42 = .ok (.invokevirtual 192, 3) := by decide +kernel
theorem dX6_breathe_45 : decode cX6_breathe 45 = .ok (.aload_n 0, 1) := by decide +kernel
theorem dX6_breathe_46 : decode cX6_breathe 46 = .ok (.getfield 13, 3) := by decide +kernel
theorem dX6_breathe_49 : decode cX6_breathe 49 = .ok (.iload_n 1, 1) := by decide +kernel
theorem dX6_breathe_50 : decode cX6_breathe 50 = .ok (.iload_n 2, 1) := by decide +kernel
theorem dX6_breathe_51 : decode cX6_breathe 51 = .ok (.invokestatic 161, 3) := by decide +kernel
theorem dX6_breathe_54 : decode cX6_breathe 54 = .ok (.ireturn, 1) := by decide +kernel
set_option maxRecDepth 20000 in
theorem ggX6_nights_X6_in : GoodIn wsX6_nights wsX6_in := goodIn_r _ [6] (by decide +kernel) (by decide +kernel)
set_option maxRecDepth 20000 in
theorem gX6_nights_X6_in : GoodIn wsX6_nights (va_wsS RX6 51 yX6_in wsX6_in) := goodIn_app (goodIn_of _ (by decide +kernel)) ggX6_nights_X6_in
set_option maxRecDepth 20000 in
theorem ggX6_nights_X6_refused : GoodIn wsX6_nights wsX6_refused := goodIn_r _ [10, 11, 61, 62, 63, 64, 65, 66, 67, 68, 69, 70, 71, 72, 73, 74, 75] (by decide +kernel) (by decide +kernel)
set_option maxRecDepth 20000 in
theorem gX6_nights_X6_refused : GoodIn wsX6_nights (wsV RX6 127 RX6 yX6_refused wsX6_refused) := goodIn_app (goodIn_of _ (by decide +kernel)) ggX6_nights_X6_refused
set_option maxRecDepth 20000 in
theorem ggX6_nights_X6_remember : GoodIn wsX6_nights wsX6_remember := goodIn_r _ [15, 16, 17, 2, 18, 19, 5, 20, 61, 62, 63, 64, 65, 66, 67, 68, 69, 70, 71, 72, 73, 74, 75] (by decide +kernel) (by decide +kernel)
set_option maxRecDepth 20000 in
theorem gX6_nights_X6_remember : GoodIn wsX6_nights (wsV RX6 192 RX6 yX6_remember wsX6_remember) := goodIn_app (goodIn_of _ (by decide +kernel)) ggX6_nights_X6_remember
set_option maxRecDepth 20000 in
theorem ggX6_nights_X6_nightsOn : GoodIn wsX6_nights wsX6_nightsOn := goodIn_r _ [23, 24, 25, 5, 26, 27, 28, 29, 30, 31, 32, 33, 34, 35, 36, 37, 38, 39, 40, 41, 42, 43, 44, 45, 46, 47, 48, 49, 50, 51, 52, 53, 54, 55, 56, 57, 58, 59, 60] (by decide +kernel) (by decide +kernel)
set_option maxRecDepth 20000 in
theorem gX6_nights_X6_nightsOn : GoodIn wsX6_nights (va_wsS RX6 164 yX6_nightsOn wsX6_nightsOn) := goodIn_app (goodIn_of _ (by decide +kernel)) ggX6_nights_X6_nightsOn
theorem dX6_nights_0 : decode cX6_nights 0 = .ok (.aload_n 0, 1) := by decide +kernel
theorem dX6_nights_1 : decode cX6_nights 1 = .ok (.iload_n 1, 1) := by decide +kernel
theorem dX6_nights_2 : decode cX6_nights 2 = .ok (.i2l, 1) := by decide +kernel
theorem dX6_nights_3 : decode cX6_nights 3 = .ok (.lconst 1, 1) := by decide +kernel
theorem dX6_nights_4 : decode cX6_nights 4 = .ok (.ldc2_w 195, 3) := by decide +kernel
theorem dX6_nights_7 : decode cX6_nights 7 = .ok (.invokestatic 51, 3) := by decide +kernel
theorem dX6_nights_10 : decode cX6_nights 10 = .ok (.ifCond .eq 7, 3) := by decide +kernel
theorem dX6_nights_13 : decode cX6_nights 13 = .ok (.iconst 0, 1) := by decide +kernel
theorem dX6_nights_14 : decode cX6_nights 14 = .ok (.goto 4, 3) := by decide +kernel
theorem dX6_nights_17 : decode cX6_nights 17 = .ok (.iconst 1, 1) := by decide +kernel
theorem dX6_nights_18 : decode cX6_nights 18 = .ok (.invokevirtual 127, 3) := by decide +kernel
theorem dX6_nights_21 : decode cX6_nights 21 = .ok (.ifCond .eq 5, 3) := by decide +kernel
theorem dX6_nights_24 : decode cX6_nights 24 = .ok (.iconst 0, 1) := by decide +kernel
theorem dX6_nights_25 : decode cX6_nights 25 = .ok (.ireturn, 1) := by decide +kernel
theorem dX6_nights_26 : decode cX6_nights 26 = .ok (.aload_n 0, 1) := by decide +kernel
theorem dX6_nights_27 : decode cX6_nights 27 = .ok (.invokevirtual 192, 3) := by decide +kernel
theorem dX6_nights_30 : decode cX6_nights 30 = .ok (.aload_n 0, 1) := by decide +kernel
theorem dX6_nights_31 : decode cX6_nights 31 = .ok (.getfield 13, 3) := by decide +kernel
theorem dX6_nights_34 : decode cX6_nights 34 = .ok (.iload_n 1, 1) := by decide +kernel
theorem dX6_nights_35 : decode cX6_nights 35 = .ok (.invokestatic 164, 3) := by decide +kernel
theorem dX6_nights_38 : decode cX6_nights 38 = .ok (.ireturn, 1) := by decide +kernel
set_option maxRecDepth 20000 in
theorem ggX6_undo_X6_refused : GoodIn wsX6_undo wsX6_refused := goodIn_r _ [8, 9, 13, 14, 15, 16, 17, 18, 19, 20, 21, 22, 23, 24, 25, 26, 27] (by decide +kernel) (by decide +kernel)
set_option maxRecDepth 20000 in
theorem gX6_undo_X6_refused : GoodIn wsX6_undo (wsV RX6 127 RX6 yX6_refused wsX6_refused) := goodIn_app (goodIn_of _ (by decide +kernel)) ggX6_undo_X6_refused
set_option maxRecDepth 20000 in
theorem ggX6_undo_X6_copyState : GoodIn wsX6_undo wsX6_copyState := goodIn_r _ [12] (by decide +kernel) (by decide +kernel)
set_option maxRecDepth 20000 in
theorem gX6_undo_X6_copyState : GoodIn wsX6_undo (va_wsS RX6 174 yX6_copyState wsX6_copyState) := goodIn_app (goodIn_of _ (by decide +kernel)) ggX6_undo_X6_copyState
theorem dX6_undo_0 : decode cX6_undo 0 = .ok (.aload_n 0, 1) := by decide +kernel
theorem dX6_undo_1 : decode cX6_undo 1 = .ok (.aload_n 0, 1) := by decide +kernel
theorem dX6_undo_2 : decode cX6_undo 2 = .ok (.getfield 178, 3) := by decide +kernel
theorem dX6_undo_5 : decode cX6_undo 5 = .ok (.ifCond .ne 7, 3) := by decide +kernel
theorem dX6_undo_8 : decode cX6_undo 8 = .ok (.iconst 1, 1) := by decide +kernel
theorem dX6_undo_9 : decode cX6_undo 9 = .ok (.goto 4, 3) := by decide +kernel
theorem dX6_undo_12 : decode cX6_undo 12 = .ok (.iconst 0, 1) := by decide +kernel
theorem dX6_undo_13 : decode cX6_undo 13 = .ok (.invokevirtual 127, 3) := by decide +kernel
theorem dX6_undo_16 : decode cX6_undo 16 = .ok (.ifCond .eq 5, 3) := by decide +kernel
theorem dX6_undo_19 : decode cX6_undo 19 = .ok (.iconst 0, 1) := by decide +kernel
theorem dX6_undo_20 : decode cX6_undo 20 = .ok (.ireturn, 1) := by decide +kernel
theorem dX6_undo_21 : decode cX6_undo 21 = .ok (.aload_n 0, 1) := by decide +kernel
theorem dX6_undo_22 : decode cX6_undo 22 = .ok (.dup, 1) := by decide +kernel
theorem dX6_undo_23 : decode cX6_undo 23 = .ok (.getfield 178, 3) := by decide +kernel
theorem dX6_undo_26 : decode cX6_undo 26 = .ok (.iconst 1, 1) := by decide +kernel
theorem dX6_undo_27 : decode cX6_undo 27 = .ok (.isub, 1) := by decide +kernel
theorem dX6_undo_28 : decode cX6_undo 28 = .ok (.putfield 178, 3) := by decide +kernel
theorem dX6_undo_31 : decode cX6_undo 31 = .ok (.aload_n 0, 1) := by decide +kernel
theorem dX6_undo_32 : decode cX6_undo 32 = .ok (.getfield 20, 3) := by decide +kernel
theorem dX6_undo_35 : decode cX6_undo 35 = .ok (.bipush 11, 2) := by decide +kernel
theorem dX6_undo_37 : decode cX6_undo 37 = .ok (.aload_n 0, 1) := by decide +kernel
theorem dX6_undo_38 : decode cX6_undo 38 = .ok (.getfield 178, 3) := by decide +kernel
theorem dX6_undo_41 : decode cX6_undo 41 = .ok (.imul, 1) := by decide +kernel
theorem dX6_undo_42 : decode cX6_undo 42 = .ok (.aload_n 0, 1) := by decide +kernel
theorem dX6_undo_43 : decode cX6_undo 43 = .ok (.getfield 13, 3) := by decide +kernel
theorem dX6_undo_46 : decode cX6_undo 46 = .ok (.iconst 0, 1) := by decide +kernel
theorem dX6_undo_47 : decode cX6_undo 47 = .ok (.invokestatic 174, 3) := by decide +kernel
theorem dX6_undo_50 : decode cX6_undo 50 = .ok (.aload_n 0, 1) := by decide +kernel
theorem dX6_undo_51 : decode cX6_undo 51 = .ok (.getfield 178, 3) := by decide +kernel
theorem dX6_undo_54 : decode cX6_undo 54 = .ok (.ireturn, 1) := by decide +kernel
set_option maxRecDepth 20000 in
theorem ggX6_coming_X6_in : GoodIn wsX6_coming wsX6_in := goodIn_r _ [7] (by decide +kernel) (by decide +kernel)
set_option maxRecDepth 20000 in
theorem gX6_coming_X6_in : GoodIn wsX6_coming (va_wsS RX6 51 yX6_in wsX6_in) := goodIn_app (goodIn_of _ (by decide +kernel)) ggX6_coming_X6_in
set_option maxRecDepth 20000 in
theorem ggX6_coming_X6_refused : GoodIn wsX6_coming wsX6_refused := goodIn_r _ [11, 12, 56, 57, 58, 59, 60, 61, 62, 63, 64, 65, 66, 67, 68, 69, 70] (by decide +kernel) (by decide +kernel)
set_option maxRecDepth 20000 in
theorem gX6_coming_X6_refused : GoodIn wsX6_coming (wsV RX6 127 RX6 yX6_refused wsX6_refused) := goodIn_app (goodIn_of _ (by decide +kernel)) ggX6_coming_X6_refused
set_option maxRecDepth 20000 in
theorem ggX6_coming_X6_copyState : GoodIn wsX6_coming wsX6_copyState := goodIn_r _ [15] (by decide +kernel) (by decide +kernel)
set_option maxRecDepth 20000 in
theorem gX6_coming_X6_copyState : GoodIn wsX6_coming (va_wsS RX6 174 yX6_copyState wsX6_copyState) := goodIn_app (goodIn_of _ (by decide +kernel)) ggX6_coming_X6_copyState
set_option maxRecDepth 20000 in
theorem ggX6_coming_X6_nightsOn : GoodIn wsX6_coming wsX6_nightsOn := goodIn_r _ [18, 19, 20, 6, 21, 22, 23, 24, 25, 26, 27, 28, 29, 30, 31, 32, 33, 34, 35, 36, 37, 38, 39, 40, 41, 42, 43, 44, 45, 46, 47, 48, 49, 50, 51, 52, 53, 54, 55] (by decide +kernel) (by decide +kernel)
set_option maxRecDepth 20000 in
theorem gX6_coming_X6_nightsOn : GoodIn wsX6_coming (va_wsS RX6 164 yX6_nightsOn wsX6_nightsOn) := goodIn_app (goodIn_of _ (by decide +kernel)) ggX6_coming_X6_nightsOn
theorem dX6_coming_0 : decode cX6_coming 0 = .ok (.aload_n 0, 1) := by decide +kernel
theorem dX6_coming_1 : decode cX6_coming 1 = .ok (.iload_n 1, 1) := by decide +kernel
theorem dX6_coming_2 : decode cX6_coming 2 = .ok (.i2l, 1) := by decide +kernel
theorem dX6_coming_3 : decode cX6_coming 3 = .ok (.lconst 1, 1) := by decide +kernel
theorem dX6_coming_4 : decode cX6_coming 4 = .ok (.ldc2_w 197, 3) := by decide +kernel
theorem dX6_coming_7 : decode cX6_coming 7 = .ok (.invokestatic 51, 3) := by decide +kernel
theorem dX6_coming_10 : decode cX6_coming 10 = .ok (.ifCond .eq 7, 3) := by decide +kernel
theorem dX6_coming_13 : decode cX6_coming 13 = .ok (.iconst 0, 1) := by decide +kernel
theorem dX6_coming_14 : decode cX6_coming 14 = .ok (.goto 4, 3) := by decide +kernel
theorem dX6_coming_17 : decode cX6_coming 17 = .ok (.iconst 1, 1) := by decide +kernel
theorem dX6_coming_18 : decode cX6_coming 18 = .ok (.invokevirtual 127, 3) := by decide +kernel
theorem dX6_coming_21 : decode cX6_coming 21 = .ok (.ifCond .eq 5, 3) := by decide +kernel
theorem dX6_coming_24 : decode cX6_coming 24 = .ok (.lconst 0, 1) := by decide +kernel
theorem dX6_coming_25 : decode cX6_coming 25 = .ok (.lreturn, 1) := by decide +kernel
theorem dX6_coming_26 : decode cX6_coming 26 = .ok (.aload_n 0, 1) := by decide +kernel
theorem dX6_coming_27 : decode cX6_coming 27 = .ok (.getfield 13, 3) := by decide +kernel
theorem dX6_coming_30 : decode cX6_coming 30 = .ok (.iconst 0, 1) := by decide +kernel
theorem dX6_coming_31 : decode cX6_coming 31 = .ok (.aload_n 0, 1) := by decide +kernel
theorem dX6_coming_32 : decode cX6_coming 32 = .ok (.getfield 17, 3) := by decide +kernel
theorem dX6_coming_35 : decode cX6_coming 35 = .ok (.iconst 0, 1) := by decide +kernel
theorem dX6_coming_36 : decode cX6_coming 36 = .ok (.invokestatic 174, 3) := by decide +kernel
theorem dX6_coming_39 : decode cX6_coming 39 = .ok (.aload_n 0, 1) := by decide +kernel
theorem dX6_coming_40 : decode cX6_coming 40 = .ok (.getfield 17, 3) := by decide +kernel
theorem dX6_coming_43 : decode cX6_coming 43 = .ok (.iload_n 1, 1) := by decide +kernel
theorem dX6_coming_44 : decode cX6_coming 44 = .ok (.invokestatic 164, 3) := by decide +kernel
theorem dX6_coming_47 : decode cX6_coming 47 = .ok (.pop, 1) := by decide +kernel
theorem dX6_coming_48 : decode cX6_coming 48 = .ok (.aload_n 0, 1) := by decide +kernel
theorem dX6_coming_49 : decode cX6_coming 49 = .ok (.getfield 17, 3) := by decide +kernel
theorem dX6_coming_52 : decode cX6_coming 52 = .ok (.bipush 8, 2) := by decide +kernel
theorem dX6_coming_54 : decode cX6_coming 54 = .ok (.laload, 1) := by decide +kernel
theorem dX6_coming_55 : decode cX6_coming 55 = .ok (.lreturn, 1) := by decide +kernel
set_option maxRecDepth 20000 in
theorem ggX6_again_X6_in : GoodIn wsX6_again wsX6_in := goodIn_r _ [7] (by decide +kernel) (by decide +kernel)
set_option maxRecDepth 20000 in
theorem gX6_again_X6_in : GoodIn wsX6_again (va_wsS RX6 51 yX6_in wsX6_in) := goodIn_app (goodIn_of _ (by decide +kernel)) ggX6_again_X6_in
set_option maxRecDepth 20000 in
theorem ggX6_again_X6_refused : GoodIn wsX6_again wsX6_refused := goodIn_r _ [11, 12, 50, 51, 52, 53, 54, 55, 56, 57, 58, 59, 60, 61, 62, 63, 64] (by decide +kernel) (by decide +kernel)
set_option maxRecDepth 20000 in
theorem gX6_again_X6_refused : GoodIn wsX6_again (wsV RX6 127 RX6 yX6_refused wsX6_refused) := goodIn_app (goodIn_of _ (by decide +kernel)) ggX6_again_X6_refused
set_option maxRecDepth 20000 in
theorem ggX6_again_X6_copyState : GoodIn wsX6_again wsX6_copyState := goodIn_r _ [15] (by decide +kernel) (by decide +kernel)
set_option maxRecDepth 20000 in
theorem gX6_again_X6_copyState : GoodIn wsX6_again (va_wsS RX6 174 yX6_copyState wsX6_copyState) := goodIn_app (goodIn_of _ (by decide +kernel)) ggX6_again_X6_copyState
set_option maxRecDepth 20000 in
theorem ggX6_again_X6_nightOn : GoodIn wsX6_again wsX6_nightOn := goodIn_r _ [18, 19, 20, 6, 21, 22, 23, 24, 25, 26, 27, 28, 29, 30, 31, 32, 33, 34, 35, 36, 37, 38, 39, 40, 41, 42, 43, 44, 45, 46, 47, 48, 49] (by decide +kernel) (by decide +kernel)
set_option maxRecDepth 20000 in
theorem gX6_again_X6_nightOn : GoodIn wsX6_again (va_wsS RX6 93 yX6_nightOn wsX6_nightOn) := goodIn_app (goodIn_of _ (by decide +kernel)) ggX6_again_X6_nightOn
theorem dX6_again_0 : decode cX6_again 0 = .ok (.aload_n 0, 1) := by decide +kernel
theorem dX6_again_1 : decode cX6_again 1 = .ok (.iload_n 1, 1) := by decide +kernel
theorem dX6_again_2 : decode cX6_again 2 = .ok (.i2l, 1) := by decide +kernel
theorem dX6_again_3 : decode cX6_again 3 = .ok (.lconst 0, 1) := by decide +kernel
theorem dX6_again_4 : decode cX6_again 4 = .ok (.lconst 1, 1) := by decide +kernel
theorem dX6_again_5 : decode cX6_again 5 = .ok (.invokestatic 51, 3) := by decide +kernel
theorem dX6_again_8 : decode cX6_again 8 = .ok (.ifCond .eq 7, 3) := by decide +kernel
theorem dX6_again_11 : decode cX6_again 11 = .ok (.iconst 0, 1) := by decide +kernel
theorem dX6_again_12 : decode cX6_again 12 = .ok (.goto 4, 3) := by decide +kernel
theorem dX6_again_15 : decode cX6_again 15 = .ok (.iconst 1, 1) := by decide +kernel
theorem dX6_again_16 : decode cX6_again 16 = .ok (.invokevirtual 127, 3) := by decide +kernel
theorem dX6_again_19 : decode cX6_again 19 = .ok (.ifCond .eq 5, 3) := by decide +kernel
theorem dX6_again_22 : decode cX6_again 22 = .ok (.iconst 0, 1) := by decide +kernel
theorem dX6_again_23 : decode cX6_again 23 = .ok (.ireturn, 1) := by decide +kernel
theorem dX6_again_24 : decode cX6_again 24 = .ok (.aload_n 0, 1) := by decide +kernel
theorem dX6_again_25 : decode cX6_again 25 = .ok (.getfield 13, 3) := by decide +kernel
theorem dX6_again_28 : decode cX6_again 28 = .ok (.iconst 0, 1) := by decide +kernel
theorem dX6_again_29 : decode cX6_again 29 = .ok (.aload_n 0, 1) := by decide +kernel
theorem dX6_again_30 : decode cX6_again 30 = .ok (.getfield 17, 3) := by decide +kernel
theorem dX6_again_33 : decode cX6_again 33 = .ok (.iconst 0, 1) := by decide +kernel
theorem dX6_again_34 : decode cX6_again 34 = .ok (.invokestatic 174, 3) := by decide +kernel
theorem dX6_again_37 : decode cX6_again 37 = .ok (.iconst 0, 1) := by decide +kernel
theorem dX6_again_38 : decode cX6_again 38 = .ok (.istore_n 2, 1) := by decide +kernel
theorem dX6_again_39 : decode cX6_again 39 = .ok (.iload_n 2, 1) := by decide +kernel
theorem dX6_again_40 : decode cX6_again 40 = .ok (.sipush 300, 3) := by decide +kernel
theorem dX6_again_43 : decode cX6_again 43 = .ok (.if_icmp .gt 70, 3) := by decide +kernel
theorem dX6_again_46 : decode cX6_again 46 = .ok (.aload_n 0, 1) := by decide +kernel
theorem dX6_again_47 : decode cX6_again 47 = .ok (.getfield 30, 3) := by decide +kernel
theorem dX6_again_50 : decode cX6_again 50 = .ok (.iload_n 2, 1) := by decide +kernel
theorem dX6_again_51 : decode cX6_again 51 = .ok (.aload_n 0, 1) := by decide +kernel
theorem dX6_again_52 : decode cX6_again 52 = .ok (.getfield 17, 3) := by decide +kernel
theorem dX6_again_55 : decode cX6_again 55 = .ok (.bipush 8, 2) := by decide +kernel
theorem dX6_again_57 : decode cX6_again 57 = .ok (.laload, 1) := by decide +kernel
theorem dX6_again_58 : decode cX6_again 58 = .ok (.lastore, 1) := by decide +kernel
theorem dX6_again_59 : decode cX6_again 59 = .ok (.iconst 0, 1) := by decide +kernel
theorem dX6_again_60 : decode cX6_again 60 = .ok (.istore_n 3, 1) := by decide +kernel
theorem dX6_again_61 : decode cX6_again 61 = .ok (.iload_n 3, 1) := by decide +kernel
theorem dX6_again_62 : decode cX6_again 62 = .ok (.iload_n 2, 1) := by decide +kernel
theorem dX6_again_63 : decode cX6_again 63 = .ok (.if_icmp .ge 37, 3) := by decide +kernel
theorem dX6_again_66 : decode cX6_again 66 = .ok (.aload_n 0, 1) := by decide +kernel
theorem dX6_again_67 : decode cX6_again 67 = .ok (.getfield 30, 3) := by decide +kernel
theorem dX6_again_70 : decode cX6_again 70 = .ok (.iload_n 3, 1) := by decide +kernel
theorem dX6_again_71 : decode cX6_again 71 = .ok (.laload, 1) := by decide +kernel
theorem dX6_again_72 : decode cX6_again 72 = .ok (.aload_n 0, 1) := by decide +kernel
theorem dX6_again_73 : decode cX6_again 73 = .ok (.getfield 30, 3) := by decide +kernel
theorem dX6_again_76 : decode cX6_again 76 = .ok (.iload_n 2, 1) := by decide +kernel
theorem dX6_again_77 : decode cX6_again 77 = .ok (.laload, 1) := by decide +kernel
theorem dX6_again_78 : decode cX6_again 78 = .ok (.lcmp, 1) := by decide +kernel
theorem dX6_again_79 : decode cX6_again 79 = .ok (.ifCond .ne 15, 3) := by decide +kernel
theorem dX6_again_82 : decode cX6_again 82 = .ok (.iload_n 1, 1) := by decide +kernel
theorem dX6_again_83 : decode cX6_again 83 = .ok (.ifCond .ne 7, 3) := by decide +kernel
theorem dX6_again_86 : decode cX6_again 86 = .ok (.iload_n 3, 1) := by decide +kernel
theorem dX6_again_87 : decode cX6_again 87 = .ok (.goto 6, 3) := by decide +kernel
theorem dX6_again_90 : decode cX6_again 90 = .ok (.iload_n 2, 1) := by decide +kernel
theorem dX6_again_91 : decode cX6_again 91 = .ok (.iload_n 3, 1) := by decide +kernel
theorem dX6_again_92 : decode cX6_again 92 = .ok (.isub, 1) := by decide +kernel
theorem dX6_again_93 : decode cX6_again 93 = .ok (.ireturn, 1) := by decide +kernel
theorem dX6_again_94 : decode cX6_again 94 = .ok (.iinc 3 1, 3) := by decide +kernel
theorem dX6_again_97 : decode cX6_again 97 = .ok (.goto (-36), 3) := by decide +kernel
theorem dX6_again_100 : decode cX6_again 100 = .ok (.aload_n 0, 1) := by decide +kernel
theorem dX6_again_101 : decode cX6_again 101 = .ok (.getfield 17, 3) := by decide +kernel
theorem dX6_again_104 : decode cX6_again 104 = .ok (.invokestatic 93, 3) := by decide +kernel
theorem dX6_again_107 : decode cX6_again 107 = .ok (.iinc 2 1, 3) := by decide +kernel
theorem dX6_again_110 : decode cX6_again 110 = .ok (.goto (-71), 3) := by decide +kernel
theorem dX6_again_113 : decode cX6_again 113 = .ok (.iconst (-1), 1) := by decide +kernel
theorem dX6_again_114 : decode cX6_again 114 = .ok (.ireturn, 1) := by decide +kernel
set_option maxRecDepth 20000 in
theorem ggX6_befores_X6_refused : GoodIn wsX6_befores wsX6_refused := goodIn_r _ [7, 8, 47, 48, 49, 50, 51, 52, 53, 54, 55, 56, 57, 58, 59, 60, 61] (by decide +kernel) (by decide +kernel)
set_option maxRecDepth 20000 in
theorem gX6_befores_X6_refused : GoodIn wsX6_befores (wsV RX6 127 RX6 yX6_refused wsX6_refused) := goodIn_app (goodIn_of _ (by decide +kernel)) ggX6_befores_X6_refused
set_option maxRecDepth 20000 in
theorem ggX6_befores_X6_layEquations : GoodIn wsX6_befores wsX6_layEquations := goodIn_r _ [12, 1, 13, 14, 15, 16, 17, 6, 18, 19, 20, 21, 22, 23, 24, 25, 26, 27, 28, 29, 30, 31, 32, 33, 34, 35, 36, 37, 38, 39, 40, 41, 42, 47, 48, 49, 50, 51, 52, 53, 54, 55, 56, 57, 58, 59, 60, 61] (by decide +kernel) (by decide +kernel)
set_option maxRecDepth 20000 in
theorem gX6_befores_X6_layEquations : GoodIn wsX6_befores (wsV RX6 199 RX6 yX6_layEquations wsX6_layEquations) := goodIn_app (goodIn_of _ (by decide +kernel)) ggX6_befores_X6_layEquations
set_option maxRecDepth 20000 in
theorem ggX6_befores_X6_solve : GoodIn wsX6_befores wsX6_solve := goodIn_r _ [46, 1, 2, 13, 15, 16, 17, 6, 18, 19, 20, 21, 47, 48, 49, 50, 51, 52, 53, 54, 55, 56, 57, 58, 59, 60, 61] (by decide +kernel) (by decide +kernel)
set_option maxRecDepth 20000 in
theorem gX6_befores_X6_solve : GoodIn wsX6_befores (wsV RX6 202 RX6 yX6_solve wsX6_solve) := goodIn_app (goodIn_of _ (by decide +kernel)) ggX6_befores_X6_solve
set_option maxRecDepth 20000 in
theorem ggX6_befores_X6_many : GoodIn wsX6_befores wsX6_many := goodIn_r _ [18] (by decide +kernel) (by decide +kernel)
set_option maxRecDepth 20000 in
theorem gX6_befores_X6_many : GoodIn wsX6_befores (va_wsS RX6 47 yX6_many wsX6_many) := goodIn_app (goodIn_of _ (by decide +kernel)) ggX6_befores_X6_many
theorem dX6_befores_0 : decode cX6_befores 0 = .ok (.aload_n 0, 1) := by decide +kernel
theorem dX6_befores_1 : decode cX6_befores 1 = .ok (.aload_n 0, 1) := by decide +kernel
theorem dX6_befores_2 : decode cX6_befores 2 = .ok (.getfield 13, 3) := by decide +kernel
theorem dX6_befores_5 : decode cX6_befores 5 = .ok (.iconst 2, 1) := by decide +kernel
theorem dX6_befores_6 : decode cX6_befores 6 = .ok (.laload, 1) := by decide +kernel
theorem dX6_befores_7 : decode cX6_befores 7 = .ok (.lconst 0, 1) := by decide +kernel
theorem dX6_befores_8 : decode cX6_befores 8 = .ok (.lcmp, 1) := by decide +kernel
theorem dX6_befores_9 : decode cX6_befores 9 = .ok (.ifCond .ne 7, 3) := by decide +kernel
theorem dX6_befores_12 : decode cX6_befores 12 = .ok (.iconst 1, 1) := by decide +kernel
theorem dX6_befores_13 : decode cX6_befores 13 = .ok (.goto 4, 3) := by decide +kernel
theorem dX6_befores_16 : decode cX6_befores 16 = .ok (.iconst 0, 1) := by decide +kernel
theorem dX6_befores_17 : decode cX6_befores 17 = .ok (.invokevirtual 127, 3) := by decide +kernel
theorem dX6_befores_20 : decode cX6_befores 20 = .ok (.ifCond .eq 5, 3) := by decide +kernel
theorem dX6_befores_23 : decode cX6_befores 23 = .ok (.iconst 0, 1) := by decide +kernel
theorem dX6_befores_24 : decode cX6_befores 24 = .ok (.ireturn, 1) := by decide +kernel
theorem dX6_befores_25 : decode cX6_befores 25 = .ok (.aload_n 0, 1) := by decide +kernel
theorem dX6_befores_26 : decode cX6_befores 26 = .ok (.invokevirtual 199, 3) := by decide +kernel
theorem dX6_befores_29 : decode cX6_befores 29 = .ok (.aload_n 0, 1) := by decide +kernel
theorem dX6_befores_30 : decode cX6_befores 30 = .ok (.invokevirtual 202, 3) := by decide +kernel
theorem dX6_befores_33 : decode cX6_befores 33 = .ok (.ifCond .eq 18, 3) := by decide +kernel
theorem dX6_befores_36 : decode cX6_befores 36 = .ok (.aload_n 0, 1) := by decide +kernel
theorem dX6_befores_37 : decode cX6_befores 37 = .ok (.getfield 13, 3) := by decide +kernel
theorem dX6_befores_40 : decode cX6_befores 40 = .ok (.invokestatic 47, 3) := by decide +kernel
theorem dX6_befores_43 : decode cX6_befores 43 = .ok (.aload_n 0, 1) := by decide +kernel
theorem dX6_befores_44 : decode cX6_befores 44 = .ok (.getfield 119, 3) := by decide +kernel
theorem dX6_befores_47 : decode cX6_befores 47 = .ok (.isub, 1) := by decide +kernel
theorem dX6_befores_48 : decode cX6_befores 48 = .ok (.goto 4, 3) := by decide +kernel
theorem dX6_befores_51 : decode cX6_befores 51 = .ok (.iconst (-1), 1) := by decide +kernel
theorem dX6_befores_52 : decode cX6_befores 52 = .ok (.ireturn, 1) := by decide +kernel
set_option maxRecDepth 20000 in
theorem ggX6_before_X6_refused : GoodIn wsX6_before wsX6_refused := goodIn_r _ [9, 10, 50, 51, 52, 53, 54, 55, 56, 57, 58, 59, 60, 61, 62, 63, 64] (by decide +kernel) (by decide +kernel)
set_option maxRecDepth 20000 in
theorem gX6_before_X6_refused : GoodIn wsX6_before (wsV RX6 127 RX6 yX6_refused wsX6_refused) := goodIn_app (goodIn_of _ (by decide +kernel)) ggX6_before_X6_refused
set_option maxRecDepth 20000 in
theorem ggX6_before_X6_layEquations : GoodIn wsX6_before wsX6_layEquations := goodIn_r _ [14, 1, 4, 15, 3, 16, 17, 8, 18, 19, 20, 21, 22, 23, 24, 25, 26, 27, 28, 29, 30, 31, 32, 33, 34, 35, 36, 37, 38, 39, 40, 41, 42, 50, 51, 52, 53, 54, 55, 56, 57, 58, 59, 60, 61, 62, 63, 64] (by decide +kernel) (by decide +kernel)
set_option maxRecDepth 20000 in
theorem gX6_before_X6_layEquations : GoodIn wsX6_before (wsV RX6 199 RX6 yX6_layEquations wsX6_layEquations) := goodIn_app (goodIn_of _ (by decide +kernel)) ggX6_before_X6_layEquations
set_option maxRecDepth 20000 in
theorem ggX6_before_X6_solve : GoodIn wsX6_before wsX6_solve := goodIn_r _ [46, 1, 2, 4, 3, 16, 17, 8, 18, 19, 20, 21, 50, 51, 52, 53, 54, 55, 56, 57, 58, 59, 60, 61, 62, 63, 64] (by decide +kernel) (by decide +kernel)
set_option maxRecDepth 20000 in
theorem gX6_before_X6_solve : GoodIn wsX6_before (wsV RX6 202 RX6 yX6_solve wsX6_solve) := goodIn_app (goodIn_of _ (by decide +kernel)) ggX6_before_X6_solve
set_option maxRecDepth 20000 in
theorem ggX6_before_X6_lowest : GoodIn wsX6_before wsX6_lowest := goodIn_r _ [49, 19, 20, 8, 21] (by decide +kernel) (by decide +kernel)
set_option maxRecDepth 20000 in
theorem gX6_before_X6_lowest : GoodIn wsX6_before (va_wsS RX6 206 yX6_lowest wsX6_lowest) := goodIn_app (goodIn_of _ (by decide +kernel)) ggX6_before_X6_lowest
theorem dX6_before_0 : decode cX6_before 0 = .ok (.aload_n 0, 1) := by decide +kernel
theorem dX6_before_1 : decode cX6_before 1 = .ok (.aload_n 0, 1) := by decide +kernel
theorem dX6_before_2 : decode cX6_before 2 = .ok (.getfield 13, 3) := by decide +kernel
theorem dX6_before_5 : decode cX6_before 5 = .ok (.iconst 2, 1) := by decide +kernel
theorem dX6_before_6 : decode cX6_before 6 = .ok (.laload, 1) := by decide +kernel
theorem dX6_before_7 : decode cX6_before 7 = .ok (.lconst 0, 1) := by decide +kernel
theorem dX6_before_8 : decode cX6_before 8 = .ok (.lcmp, 1) := by decide +kernel
theorem dX6_before_9 : decode cX6_before 9 = .ok (.ifCond .ne 7, 3) := by decide +kernel
theorem dX6_before_12 : decode cX6_before 12 = .ok (.iconst 1, 1) := by decide +kernel
theorem dX6_before_13 : decode cX6_before 13 = .ok (.goto 4, 3) := by decide +kernel
theorem dX6_before_16 : decode cX6_before 16 = .ok (.iconst 0, 1) := by decide +kernel
theorem dX6_before_17 : decode cX6_before 17 = .ok (.invokevirtual 127, 3) := by decide +kernel
theorem dX6_before_20 : decode cX6_before 20 = .ok (.ifCond .eq 5, 3) := by decide +kernel
theorem dX6_before_23 : decode cX6_before 23 = .ok (.lconst 0, 1) := by decide +kernel
theorem dX6_before_24 : decode cX6_before 24 = .ok (.lreturn, 1) := by decide +kernel
theorem dX6_before_25 : decode cX6_before 25 = .ok (.aload_n 0, 1) := by decide +kernel
theorem dX6_before_26 : decode cX6_before 26 = .ok (.invokevirtual 199, 3) := by decide +kernel
theorem dX6_before_29 : decode cX6_before 29 = .ok (.aload_n 0, 1) := by decide +kernel
theorem dX6_before_30 : decode cX6_before 30 = .ok (.invokevirtual 202, 3) := by decide +kernel
theorem dX6_before_33 : decode cX6_before 33 = .ok (.ifCond .ne 5, 3) := by decide +kernel
theorem dX6_before_36 : decode cX6_before 36 = .ok (.lconst 0, 1) := by decide +kernel
theorem dX6_before_37 : decode cX6_before 37 = .ok (.lreturn, 1) := by decide +kernel
theorem dX6_before_38 : decode cX6_before 38 = .ok (.lconst 0, 1) := by decide +kernel
theorem dX6_before_39 : decode cX6_before 39 = .ok (.lstore_n 1, 1) := by decide +kernel
theorem dX6_before_40 : decode cX6_before 40 = .ok (.iconst 0, 1) := by decide +kernel
theorem dX6_before_41 : decode cX6_before 41 = .ok (.istore_n 3, 1) := by decide +kernel
theorem dX6_before_42 : decode cX6_before 42 = .ok (.iload_n 3, 1) := by decide +kernel
theorem dX6_before_43 : decode cX6_before 43 = .ok (.aload_n 0, 1) := by decide +kernel
theorem dX6_before_44 : decode cX6_before 44 = .ok (.getfield 119, 3) := by decide +kernel
theorem dX6_before_47 : decode cX6_before 47 = .ok (.if_icmp .ge 36, 3) := by decide +kernel
theorem dX6_before_50 : decode cX6_before 50 = .ok (.lload_n 1, 1) := by decide +kernel
theorem dX6_before_51 : decode cX6_before 51 = .ok (.aload_n 0, 1) := by decide +kernel
theorem dX6_before_52 : decode cX6_before 52 = .ok (.getfield 36, 3) := by decide +kernel
theorem dX6_before_55 : decode cX6_before 55 = .ok (.iload_n 3, 1) := by decide +kernel
theorem dX6_before_56 : decode cX6_before 56 = .ok (.baload, 1) := by decide +kernel
theorem dX6_before_57 : decode cX6_before 57 = .ok (.ifCond .eq 17, 3) := by decide +kernel
theorem dX6_before_60 : decode cX6_before 60 = .ok (.lconst 1, 1) := by decide +kernel
theorem dX6_before_61 : decode cX6_before 61 = .ok (.aload_n 0, 1) := by decide +kernel
theorem dX6_before_62 : decode cX6_before 62 = .ok (.getfield 33, 3) := by decide +kernel
theorem dX6_before_65 : decode cX6_before 65 = .ok (.iload_n 3, 1) := by decide +kernel
theorem dX6_before_66 : decode cX6_before 66 = .ok (.laload, 1) := by decide +kernel
theorem dX6_before_67 : decode cX6_before 67 = .ok (.invokestatic 206, 3) := by decide +kernel
theorem dX6_before_70 : decode cX6_before 70 = .ok (.lshl, 1) := by decide +kernel
theorem dX6_before_71 : decode cX6_before 71 = .ok (.goto 4, 3) := by decide +kernel
theorem dX6_before_74 : decode cX6_before 74 = .ok (.lconst 0, 1) := by decide +kernel
theorem dX6_before_75 : decode cX6_before 75 = .ok (.lor, 1) := by decide +kernel
theorem dX6_before_76 : decode cX6_before 76 = .ok (.lstore_n 1, 1) := by decide +kernel
theorem dX6_before_77 : decode cX6_before 77 = .ok (.iinc 3 1, 3) := by decide +kernel
theorem dX6_before_80 : decode cX6_before 80 = .ok (.goto (-38), 3) := by decide +kernel
theorem dX6_before_83 : decode cX6_before 83 = .ok (.lload_n 1, 1) := by decide +kernel
theorem dX6_before_84 : decode cX6_before 84 = .ok (.lreturn, 1) := by decide +kernel
set_option maxRecDepth 20000 in
theorem ggX6_freezesIn_X6_isCell : GoodIn wsX6_freezesIn wsX6_isCell := goodIn_r _ [6, 7, 8, 5, 9, 10, 11, 12] (by decide +kernel) (by decide +kernel)
set_option maxRecDepth 20000 in
theorem gX6_freezesIn_X6_isCell : GoodIn wsX6_freezesIn (va_wsS RX6 111 yX6_isCell wsX6_isCell) := goodIn_app (goodIn_of _ (by decide +kernel)) ggX6_freezesIn_X6_isCell
set_option maxRecDepth 20000 in
theorem ggX6_freezesIn_X6_refused : GoodIn wsX6_freezesIn wsX6_refused := goodIn_r _ [16, 17, 52, 53, 54, 55, 56, 57, 58, 59, 60, 61, 62, 63, 64, 65, 66] (by decide +kernel) (by decide +kernel)
set_option maxRecDepth 20000 in
theorem gX6_freezesIn_X6_refused : GoodIn wsX6_freezesIn (wsV RX6 127 RX6 yX6_refused wsX6_refused) := goodIn_app (goodIn_of _ (by decide +kernel)) ggX6_freezesIn_X6_refused
set_option maxRecDepth 20000 in
theorem ggX6_freezesIn_X6_copyState : GoodIn wsX6_freezesIn wsX6_copyState := goodIn_r _ [20] (by decide +kernel) (by decide +kernel)
set_option maxRecDepth 20000 in
theorem gX6_freezesIn_X6_copyState : GoodIn wsX6_freezesIn (va_wsS RX6 174 yX6_copyState wsX6_copyState) := goodIn_app (goodIn_of _ (by decide +kernel)) ggX6_freezesIn_X6_copyState
set_option maxRecDepth 20000 in
theorem ggX6_freezesIn_X6_has : GoodIn wsX6_freezesIn wsX6_has := goodIn_r _ [23] (by decide +kernel) (by decide +kernel)
set_option maxRecDepth 20000 in
theorem gX6_freezesIn_X6_has : GoodIn wsX6_freezesIn (va_wsS RX6 61 yX6_has wsX6_has) := goodIn_app (goodIn_of _ (by decide +kernel)) ggX6_freezesIn_X6_has
set_option maxRecDepth 20000 in
theorem ggX6_freezesIn_X6_nightOn : GoodIn wsX6_freezesIn wsX6_nightOn := goodIn_r _ [26, 7, 8, 5, 9, 27, 28, 29, 30, 31, 32, 33, 34, 35, 36, 37, 38, 39, 40, 41, 42, 43, 44, 45, 46, 47, 48, 21, 22, 23, 49, 50, 51] (by decide +kernel) (by decide +kernel)
set_option maxRecDepth 20000 in
theorem gX6_freezesIn_X6_nightOn : GoodIn wsX6_freezesIn (va_wsS RX6 93 yX6_nightOn wsX6_nightOn) := goodIn_app (goodIn_of _ (by decide +kernel)) ggX6_freezesIn_X6_nightOn
theorem dX6_freezesIn_0 : decode cX6_freezesIn 0 = .ok (.aload_n 0, 1) := by decide +kernel
theorem dX6_freezesIn_1 : decode cX6_freezesIn 1 = .ok (.aload_n 0, 1) := by decide +kernel
theorem dX6_freezesIn_2 : decode cX6_freezesIn 2 = .ok (.getfield 13, 3) := by decide +kernel
theorem dX6_freezesIn_5 : decode cX6_freezesIn 5 = .ok (.iload_n 1, 1) := by decide +kernel
theorem dX6_freezesIn_6 : decode cX6_freezesIn 6 = .ok (.invokestatic 111, 3) := by decide +kernel
theorem dX6_freezesIn_9 : decode cX6_freezesIn 9 = .ok (.ifCond .eq 7, 3) := by decide +kernel
theorem dX6_freezesIn_12 : decode cX6_freezesIn 12 = .ok (.iconst 0, 1) := by decide +kernel
theorem dX6_freezesIn_13 : decode cX6_freezesIn 13 = .ok (.goto 4, 3) := by decide +kernel
theorem dX6_freezesIn_16 : decode cX6_freezesIn 16 = .ok (.iconst 1, 1) := by decide +kernel
theorem dX6_freezesIn_17 : decode cX6_freezesIn 17 = .ok (.invokevirtual 127, 3) := by decide +kernel
theorem dX6_freezesIn_20 : decode cX6_freezesIn 20 = .ok (.ifCond .eq 5, 3) := by decide +kernel
theorem dX6_freezesIn_23 : decode cX6_freezesIn 23 = .ok (.iconst 0, 1) := by decide +kernel
theorem dX6_freezesIn_24 : decode cX6_freezesIn 24 = .ok (.ireturn, 1) := by decide +kernel
theorem dX6_freezesIn_25 : decode cX6_freezesIn 25 = .ok (.aload_n 0, 1) := by decide +kernel
theorem dX6_freezesIn_26 : decode cX6_freezesIn 26 = .ok (.getfield 13, 3) := by decide +kernel
theorem dX6_freezesIn_29 : decode cX6_freezesIn 29 = .ok (.iconst 0, 1) := by decide +kernel
theorem dX6_freezesIn_30 : decode cX6_freezesIn 30 = .ok (.aload_n 0, 1) := by decide +kernel
theorem dX6_freezesIn_31 : decode cX6_freezesIn 31 = .ok (.getfield 17, 3) := by decide +kernel
theorem dX6_freezesIn_34 : decode cX6_freezesIn 34 = .ok (.iconst 0, 1) := by decide +kernel
theorem dX6_freezesIn_35 : decode cX6_freezesIn 35 = .ok (.invokestatic 174, 3) := by decide +kernel
theorem dX6_freezesIn_38 : decode cX6_freezesIn 38 = .ok (.iconst 0, 1) := by decide +kernel
theorem dX6_freezesIn_39 : decode cX6_freezesIn 39 = .ok (.istore_n 2, 1) := by decide +kernel
theorem dX6_freezesIn_40 : decode cX6_freezesIn 40 = .ok (.iload_n 2, 1) := by decide +kernel
theorem dX6_freezesIn_41 : decode cX6_freezesIn 41 = .ok (.bipush 100, 2) := by decide +kernel
theorem dX6_freezesIn_43 : decode cX6_freezesIn 43 = .ok (.if_icmp .gt 32, 3) := by decide +kernel
theorem dX6_freezesIn_46 : decode cX6_freezesIn 46 = .ok (.aload_n 0, 1) := by decide +kernel
theorem dX6_freezesIn_47 : decode cX6_freezesIn 47 = .ok (.getfield 17, 3) := by decide +kernel
theorem dX6_freezesIn_50 : decode cX6_freezesIn 50 = .ok (.bipush 8, 2) := by decide +kernel
theorem dX6_freezesIn_52 : decode cX6_freezesIn 52 = .ok (.laload, 1) := by decide +kernel
theorem dX6_freezesIn_53 : decode cX6_freezesIn 53 = .ok (.iload_n 1, 1) := by decide +kernel
theorem dX6_freezesIn_54 : decode cX6_freezesIn 54 = .ok (.invokestatic 61, 3) := by decide +kernel
theorem dX6_freezesIn_57 : decode cX6_freezesIn 57 = .ok (.ifCond .eq 5, 3) := by decide +kernel
theorem dX6_freezesIn_60 : decode cX6_freezesIn 60 = .ok (.iload_n 2, 1) := by decide +kernel
theorem dX6_freezesIn_61 : decode cX6_freezesIn 61 = .ok (.ireturn, 1) := by decide +kernel
theorem dX6_freezesIn_62 : decode cX6_freezesIn 62 = .ok (.aload_n 0, 1) := by decide +kernel
theorem dX6_freezesIn_63 : decode cX6_freezesIn 63 = .ok (.getfield 17, 3) := by decide +kernel
theorem dX6_freezesIn_66 : decode cX6_freezesIn 66 = .ok (.invokestatic 93, 3) := by decide +kernel
theorem dX6_freezesIn_69 : decode cX6_freezesIn 69 = .ok (.iinc 2 1, 3) := by decide +kernel
theorem dX6_freezesIn_72 : decode cX6_freezesIn 72 = .ok (.goto (-32), 3) := by decide +kernel
theorem dX6_freezesIn_75 : decode cX6_freezesIn 75 = .ok (.iconst (-1), 1) := by decide +kernel
theorem dX6_freezesIn_76 : decode cX6_freezesIn 76 = .ok (.ireturn, 1) := by decide +kernel
set_option maxRecDepth 20000 in
theorem ggX6_staysClear_X6_nightOn : GoodIn wsX6_staysClear wsX6_nightOn := goodIn_r _ [4, 5, 6, 3, 7, 8, 9, 10, 11, 12, 13, 14, 15, 16, 17, 18, 19, 20, 21, 22, 23, 24, 25, 26, 27, 28, 29, 30, 31, 32, 33, 34, 35] (by decide +kernel) (by decide +kernel)
set_option maxRecDepth 20000 in
theorem gX6_staysClear_X6_nightOn : GoodIn wsX6_staysClear (va_wsS RX6 93 yX6_nightOn wsX6_nightOn) := goodIn_app (goodIn_of _ (by decide +kernel)) ggX6_staysClear_X6_nightOn
set_option maxRecDepth 20000 in
theorem ggX6_staysClear_X6_has : GoodIn wsX6_staysClear wsX6_has := goodIn_r _ [32] (by decide +kernel) (by decide +kernel)
set_option maxRecDepth 20000 in
theorem gX6_staysClear_X6_has : GoodIn wsX6_staysClear (va_wsS RX6 61 yX6_has wsX6_has) := goodIn_app (goodIn_of _ (by decide +kernel)) ggX6_staysClear_X6_has
theorem dX6_staysClear_0 : decode cX6_staysClear 0 = .ok (.iconst 0, 1) := by decide +kernel
theorem dX6_staysClear_1 : decode cX6_staysClear 1 = .ok (.istore_n 3, 1) := by decide +kernel
theorem dX6_staysClear_2 : decode cX6_staysClear 2 = .ok (.iload_n 3, 1) := by decide +kernel
theorem dX6_staysClear_3 : decode cX6_staysClear 3 = .ok (.iload_n 2, 1) := by decide +kernel
theorem dX6_staysClear_4 : decode cX6_staysClear 4 = .ok (.if_icmp .ge 26, 3) := by decide +kernel
theorem dX6_staysClear_7 : decode cX6_staysClear 7 = .ok (.aload_n 0, 1) := by decide +kernel
theorem dX6_staysClear_8 : decode cX6_staysClear 8 = .ok (.invokestatic 93, 3) := by decide +kernel
theorem dX6_staysClear_11 : decode cX6_staysClear 11 = .ok (.aload_n 0, 1) := by decide +kernel
theorem dX6_staysClear_12 : decode cX6_staysClear 12 = .ok (.bipush 8, 2) := by decide +kernel
theorem dX6_staysClear_14 : decode cX6_staysClear 14 = .ok (.laload, 1) := by decide +kernel
theorem dX6_staysClear_15 : decode cX6_staysClear 15 = .ok (.iload_n 1, 1) := by decide +kernel
theorem dX6_staysClear_16 : decode cX6_staysClear 16 = .ok (.invokestatic 61, 3) := by decide +kernel
theorem dX6_staysClear_19 : decode cX6_staysClear 19 = .ok (.ifCond .eq 5, 3) := by decide +kernel
theorem dX6_staysClear_22 : decode cX6_staysClear 22 = .ok (.iconst 0, 1) := by decide +kernel
theorem dX6_staysClear_23 : decode cX6_staysClear 23 = .ok (.ireturn, 1) := by decide +kernel
theorem dX6_staysClear_24 : decode cX6_staysClear 24 = .ok (.iinc 3 1, 3) := by decide +kernel
theorem dX6_staysClear_27 : decode cX6_staysClear 27 = .ok (.goto (-25), 3) := by decide +kernel
theorem dX6_staysClear_30 : decode cX6_staysClear 30 = .ok (.iconst 1, 1) := by decide +kernel
theorem dX6_staysClear_31 : decode cX6_staysClear 31 = .ok (.ireturn, 1) := by decide +kernel
set_option maxRecDepth 20000 in
theorem ggX6_keeps_X6_isCell : GoodIn wsX6_keeps wsX6_isCell := goodIn_r _ [7, 8, 9, 6, 10, 11, 12, 13] (by decide +kernel) (by decide +kernel)
set_option maxRecDepth 20000 in
theorem gX6_keeps_X6_isCell : GoodIn wsX6_keeps (va_wsS RX6 111 yX6_isCell wsX6_isCell) := goodIn_app (goodIn_of _ (by decide +kernel)) ggX6_keeps_X6_isCell
set_option maxRecDepth 20000 in
theorem ggX6_keeps_X6_in : GoodIn wsX6_keeps wsX6_in := goodIn_r _ [13] (by decide +kernel) (by decide +kernel)
set_option maxRecDepth 20000 in
theorem gX6_keeps_X6_in : GoodIn wsX6_keeps (va_wsS RX6 51 yX6_in wsX6_in) := goodIn_app (goodIn_of _ (by decide +kernel)) ggX6_keeps_X6_in
set_option maxRecDepth 20000 in
theorem ggX6_keeps_X6_refused : GoodIn wsX6_keeps wsX6_refused := goodIn_r _ [17, 18, 59, 60, 61, 62, 63, 64, 65, 66, 67, 68, 69, 70, 71, 72, 73] (by decide +kernel) (by decide +kernel)
set_option maxRecDepth 20000 in
theorem gX6_keeps_X6_refused : GoodIn wsX6_keeps (wsV RX6 127 RX6 yX6_refused wsX6_refused) := goodIn_app (goodIn_of _ (by decide +kernel)) ggX6_keeps_X6_refused
set_option maxRecDepth 20000 in
theorem ggX6_keeps_X6_many : GoodIn wsX6_keeps wsX6_many := goodIn_r _ [10] (by decide +kernel) (by decide +kernel)
set_option maxRecDepth 20000 in
theorem gX6_keeps_X6_many : GoodIn wsX6_keeps (va_wsS RX6 47 yX6_many wsX6_many) := goodIn_app (goodIn_of _ (by decide +kernel)) ggX6_keeps_X6_many
set_option maxRecDepth 20000 in
theorem ggX6_keeps_X6_next : GoodIn wsX6_keeps wsX6_next := goodIn_r _ [21, 22, 23, 6, 24, 25, 26, 27, 28, 29, 30, 31, 8, 9, 10, 32, 33, 34, 35, 36, 37, 38, 39, 40] (by decide +kernel) (by decide +kernel)
set_option maxRecDepth 20000 in
theorem gX6_keeps_X6_next : GoodIn wsX6_keeps (va_wsS RX6 83 yX6_next wsX6_next) := goodIn_app (goodIn_of _ (by decide +kernel)) ggX6_keeps_X6_next
set_option maxRecDepth 20000 in
theorem ggX6_keeps_X6_copyState : GoodIn wsX6_keeps wsX6_copyState := goodIn_r _ [43] (by decide +kernel) (by decide +kernel)
set_option maxRecDepth 20000 in
theorem gX6_keeps_X6_copyState : GoodIn wsX6_keeps (va_wsS RX6 174 yX6_copyState wsX6_copyState) := goodIn_app (goodIn_of _ (by decide +kernel)) ggX6_keeps_X6_copyState
set_option maxRecDepth 20000 in
theorem ggX6_keeps_X6_scratchOn : GoodIn wsX6_keeps wsX6_scratchOn := goodIn_r _ [46, 32, 33, 6, 34, 35, 36, 37, 25, 26, 27, 28, 29, 30, 31, 8, 9, 10, 22, 23, 24, 38, 39, 40] (by decide +kernel) (by decide +kernel)
set_option maxRecDepth 20000 in
theorem gX6_keeps_X6_scratchOn : GoodIn wsX6_keeps (va_wsS RX6 152 yX6_scratchOn wsX6_scratchOn) := goodIn_app (goodIn_of _ (by decide +kernel)) ggX6_keeps_X6_scratchOn
set_option maxRecDepth 20000 in
theorem ggX6_keeps_X6_staysClear : GoodIn wsX6_keeps wsX6_staysClear := goodIn_r _ [49, 50, 51, 6, 52, 8, 9, 10, 53, 54, 55, 19, 20, 21, 22, 23, 24, 25, 26, 27, 28, 29, 30, 31, 32, 33, 34, 35, 36, 37, 38, 39, 40, 56, 57, 58] (by decide +kernel) (by decide +kernel)
set_option maxRecDepth 20000 in
theorem gX6_keeps_X6_staysClear : GoodIn wsX6_keeps (va_wsS RX6 211 yX6_staysClear wsX6_staysClear) := goodIn_app (goodIn_of _ (by decide +kernel)) ggX6_keeps_X6_staysClear
theorem dX6_keeps_0 : decode cX6_keeps 0 = .ok (.aload_n 0, 1) := by decide +kernel
theorem dX6_keeps_1 : decode cX6_keeps 1 = .ok (.aload_n 0, 1) := by decide +kernel
theorem dX6_keeps_2 : decode cX6_keeps 2 = .ok (.getfield 13, 3) := by decide +kernel
theorem dX6_keeps_5 : decode cX6_keeps 5 = .ok (.iload_n 1, 1) := by decide +kernel
theorem dX6_keeps_6 : decode cX6_keeps 6 = .ok (.invokestatic 111, 3) := by decide +kernel
theorem dX6_keeps_9 : decode cX6_keeps 9 = .ok (.ifCond .ne 7, 3) := by decide +kernel
theorem dX6_keeps_12 : decode cX6_keeps 12 = .ok (.iconst 1, 1) := by decide +kernel
theorem dX6_keeps_13 : decode cX6_keeps 13 = .ok (.goto 20, 3) := by decide +kernel
theorem dX6_keeps_16 : decode cX6_keeps 16 = .ok (.iload_n 2, 1) := by decide +kernel
theorem dX6_keeps_17 : decode cX6_keeps 17 = .ok (.i2l, 1) := by decide +kernel
theorem dX6_keeps_18 : decode cX6_keeps 18 = .ok (.lconst 1, 1) := by decide +kernel
theorem dX6_keeps_19 : decode cX6_keeps 19 = .ok (.ldc2_w 209, 3) := by decide +kernel
theorem dX6_keeps_22 : decode cX6_keeps 22 = .ok (.invokestatic 51, 3) := by decide +kernel
theorem dX6_keeps_25 : decode cX6_keeps 25 = .ok (.ifCond .eq 7, 3) := by decide +kernel
theorem dX6_keeps_28 : decode cX6_keeps 28 = .ok (.iconst 0, 1) := by decide +kernel
theorem dX6_keeps_29 : decode cX6_keeps 29 = .ok (.goto 4, 3) := by decide +kernel
theorem dX6_keeps_32 : decode cX6_keeps 32 = .ok (.iconst 2, 1) := by decide +kernel
theorem dX6_keeps_33 : decode cX6_keeps 33 = .ok (.invokevirtual 127, 3) := by decide +kernel
theorem dX6_keeps_36 : decode cX6_keeps 36 = .ok (.ifCond .eq 5, 3) := by decide +kernel
theorem dX6_keeps_39 : decode cX6_keeps 39 = .ok (.iconst 0, 1) := by decide +kernel
theorem dX6_keeps_40 : decode cX6_keeps 40 = .ok (.ireturn, 1) := by decide +kernel
theorem dX6_keeps_41 : decode cX6_keeps 41 = .ok (.aload_n 0, 1) := by decide +kernel
theorem dX6_keeps_42 : decode cX6_keeps 42 = .ok (.getfield 13, 3) := by decide +kernel
theorem dX6_keeps_45 : decode cX6_keeps 45 = .ok (.invokestatic 47, 3) := by decide +kernel
theorem dX6_keeps_48 : decode cX6_keeps 48 = .ok (.istore_n 3, 1) := by decide +kernel
theorem dX6_keeps_49 : decode cX6_keeps 49 = .ok (.iconst 0, 1) := by decide +kernel
theorem dX6_keeps_50 : decode cX6_keeps 50 = .ok (.istore 4, 2) := by decide +kernel
theorem dX6_keeps_52 : decode cX6_keeps 52 = .ok (.iload 4, 2) := by decide +kernel
theorem dX6_keeps_54 : decode cX6_keeps 54 = .ok (.iconst 4, 1) := by decide +kernel
theorem dX6_keeps_55 : decode cX6_keeps 55 = .ok (.iload_n 3, 1) := by decide +kernel
theorem dX6_keeps_56 : decode cX6_keeps 56 = .ok (.imul, 1) := by decide +kernel
theorem dX6_keeps_57 : decode cX6_keeps 57 = .ok (.if_icmp .ge 72, 3) := by decide +kernel
theorem dX6_keeps_60 : decode cX6_keeps 60 = .ok (.aload_n 0, 1) := by decide +kernel
theorem dX6_keeps_61 : decode cX6_keeps 61 = .ok (.getfield 13, 3) := by decide +kernel
theorem dX6_keeps_64 : decode cX6_keeps 64 = .ok (.iload 4, 2) := by decide +kernel
theorem dX6_keeps_66 : decode cX6_keeps 66 = .ok (.iconst 4, 1) := by decide +kernel
theorem dX6_keeps_67 : decode cX6_keeps 67 = .ok (.idiv, 1) := by decide +kernel
theorem dX6_keeps_68 : decode cX6_keeps 68 = .ok (.iload 4, 2) := by decide +kernel
theorem dX6_keeps_70 : decode cX6_keeps 70 = .ok (.iconst 4, 1) := by decide +kernel
theorem dX6_keeps_71 : decode cX6_keeps 71 = .ok (.irem, 1) := by decide +kernel
theorem dX6_keeps_72 : decode cX6_keeps 72 = .ok (.invokestatic 83, 3) := by decide +kernel
theorem dX6_keeps_75 : decode cX6_keeps 75 = .ok (.iconst (-1), 1) := by decide +kernel
theorem dX6_keeps_76 : decode cX6_keeps 76 = .ok (.if_icmp .eq 47, 3) := by decide +kernel
theorem dX6_keeps_79 : decode cX6_keeps 79 = .ok (.aload_n 0, 1) := by decide +kernel
theorem dX6_keeps_80 : decode cX6_keeps 80 = .ok (.getfield 13, 3) := by decide +kernel
theorem dX6_keeps_83 : decode cX6_keeps 83 = .ok (.iconst 0, 1) := by decide +kernel
theorem dX6_keeps_84 : decode cX6_keeps 84 = .ok (.aload_n 0, 1) := by decide +kernel
theorem dX6_keeps_85 : decode cX6_keeps 85 = .ok (.getfield 17, 3) := by decide +kernel
theorem dX6_keeps_88 : decode cX6_keeps 88 = .ok (.iconst 0, 1) := by decide +kernel
theorem dX6_keeps_89 : decode cX6_keeps 89 = .ok (.invokestatic 174, 3) := by decide +kernel
theorem dX6_keeps_92 : decode cX6_keeps 92 = .ok (.aload_n 0, 1) := by decide +kernel
theorem dX6_keeps_93 : decode cX6_keeps 93 = .ok (.getfield 17, 3) := by decide +kernel
theorem dX6_keeps_96 : decode cX6_keeps 96 = .ok (.iload 4, 2) := by decide +kernel
theorem dX6_keeps_98 : decode cX6_keeps 98 = .ok (.iconst 4, 1) := by decide +kernel
theorem dX6_keeps_99 : decode cX6_keeps 99 = .ok (.idiv, 1) := by decide +kernel
theorem dX6_keeps_100 : decode cX6_keeps 100 = .ok (.iload 4, 2) := by decide +kernel
theorem dX6_keeps_102 : decode cX6_keeps 102 = .ok (.iconst 4, 1) := by decide +kernel
theorem dX6_keeps_103 : decode cX6_keeps 103 = .ok (.irem, 1) := by decide +kernel
theorem dX6_keeps_104 : decode cX6_keeps 104 = .ok (.invokestatic 152, 3) := by decide +kernel
theorem dX6_keeps_107 : decode cX6_keeps 107 = .ok (.pop, 1) := by decide +kernel
theorem dX6_keeps_108 : decode cX6_keeps 108 = .ok (.aload_n 0, 1) := by decide +kernel
theorem dX6_keeps_109 : decode cX6_keeps 109 = .ok (.getfield 17, 3) := by decide +kernel
theorem dX6_keeps_112 : decode cX6_keeps 112 = .ok (.iload_n 1, 1) := by decide +kernel
theorem dX6_keeps_113 : decode cX6_keeps 113 = .ok (.iload_n 2, 1) := by decide +kernel
theorem dX6_keeps_114 : decode cX6_keeps 114 = .ok (.invokestatic 211, 3) := by decide +kernel
theorem dX6_keeps_117 : decode cX6_keeps 117 = .ok (.ifCond .eq 6, 3) := by decide +kernel
theorem dX6_keeps_120 : decode cX6_keeps 120 = .ok (.iload 4, 2) := by decide +kernel
theorem dX6_keeps_122 : decode cX6_keeps 122 = .ok (.ireturn, 1) := by decide +kernel
theorem dX6_keeps_123 : decode cX6_keeps 123 = .ok (.iinc 4 1, 3) := by decide +kernel
theorem dX6_keeps_126 : decode cX6_keeps 126 = .ok (.goto (-74), 3) := by decide +kernel
theorem dX6_keeps_129 : decode cX6_keeps 129 = .ok (.iconst (-1), 1) := by decide +kernel
theorem dX6_keeps_130 : decode cX6_keeps 130 = .ok (.ireturn, 1) := by decide +kernel
set_option maxRecDepth 20000 in
theorem ggX6_command_X6_isCell : GoodIn wsX6_command wsX6_isCell := goodIn_r _ [6, 7, 8, 5, 9, 10, 11, 12] (by decide +kernel) (by decide +kernel)
set_option maxRecDepth 20000 in
theorem gX6_command_X6_isCell : GoodIn wsX6_command (va_wsS RX6 111 yX6_isCell wsX6_isCell) := goodIn_app (goodIn_of _ (by decide +kernel)) ggX6_command_X6_isCell
set_option maxRecDepth 20000 in
theorem ggX6_command_X6_flipOn : GoodIn wsX6_command wsX6_flipOn := goodIn_r _ [15, 16, 17, 5, 18] (by decide +kernel) (by decide +kernel)
set_option maxRecDepth 20000 in
theorem gX6_command_X6_flipOn : GoodIn wsX6_command (va_wsS RX6 142 yX6_flipOn wsX6_flipOn) := goodIn_app (goodIn_of _ (by decide +kernel)) ggX6_command_X6_flipOn
set_option maxRecDepth 20000 in
theorem ggX6_command_X6_canScratch : GoodIn wsX6_command wsX6_canScratch := goodIn_r _ [21, 3, 4, 5, 6, 7, 8, 9, 10, 11, 12, 22, 23, 24, 25, 26, 27, 28, 29, 30, 31, 32] (by decide +kernel) (by decide +kernel)
set_option maxRecDepth 20000 in
theorem gX6_command_X6_canScratch : GoodIn wsX6_command (va_wsS RX6 149 yX6_canScratch wsX6_canScratch) := goodIn_app (goodIn_of _ (by decide +kernel)) ggX6_command_X6_canScratch
set_option maxRecDepth 20000 in
theorem ggX6_command_X6_scratchOn : GoodIn wsX6_command wsX6_scratchOn := goodIn_r _ [35, 36, 37, 5, 38, 39, 40, 41, 26, 27, 28, 29, 30, 31, 32, 7, 8, 9, 42, 43, 44, 16, 17, 18] (by decide +kernel) (by decide +kernel)
set_option maxRecDepth 20000 in
theorem gX6_command_X6_scratchOn : GoodIn wsX6_command (va_wsS RX6 152 yX6_scratchOn wsX6_scratchOn) := goodIn_app (goodIn_of _ (by decide +kernel)) ggX6_command_X6_scratchOn
set_option maxRecDepth 20000 in
theorem ggX6_command_X6_borderOn : GoodIn wsX6_command wsX6_borderOn := goodIn_r _ [47] (by decide +kernel) (by decide +kernel)
set_option maxRecDepth 20000 in
theorem gX6_command_X6_borderOn : GoodIn wsX6_command (va_wsS RX6 155 yX6_borderOn wsX6_borderOn) := goodIn_app (goodIn_of _ (by decide +kernel)) ggX6_command_X6_borderOn
set_option maxRecDepth 20000 in
theorem ggX6_command_X6_ruleOn : GoodIn wsX6_command wsX6_ruleOn := goodIn_r _ [50] (by decide +kernel) (by decide +kernel)
set_option maxRecDepth 20000 in
theorem gX6_command_X6_ruleOn : GoodIn wsX6_command (va_wsS RX6 158 yX6_ruleOn wsX6_ruleOn) := goodIn_app (goodIn_of _ (by decide +kernel)) ggX6_command_X6_ruleOn
set_option maxRecDepth 20000 in
theorem ggX6_command_X6_in : GoodIn wsX6_command wsX6_in := goodIn_r _ [12] (by decide +kernel) (by decide +kernel)
set_option maxRecDepth 20000 in
theorem gX6_command_X6_in : GoodIn wsX6_command (va_wsS RX6 51 yX6_in wsX6_in) := goodIn_app (goodIn_of _ (by decide +kernel)) ggX6_command_X6_in
set_option maxRecDepth 20000 in
theorem ggX6_command_X6_nightsOn : GoodIn wsX6_command wsX6_nightsOn := goodIn_r _ [53, 54, 55, 5, 56, 7, 8, 9, 57, 58, 59, 60, 61, 62, 42, 43, 44, 26, 27, 28, 29, 30, 31, 32, 36, 37, 38, 39, 40, 41, 16, 17, 18, 63, 64, 65, 66, 67, 68] (by decide +kernel) (by decide +kernel)
set_option maxRecDepth 20000 in
theorem gX6_command_X6_nightsOn : GoodIn wsX6_command (va_wsS RX6 164 yX6_nightsOn wsX6_nightsOn) := goodIn_app (goodIn_of _ (by decide +kernel)) ggX6_command_X6_nightsOn
set_option maxRecDepth 20000 in
theorem ggX6_command_X6_breatheOn : GoodIn wsX6_command wsX6_breatheOn := goodIn_r _ [71, 72, 73, 74, 5, 75, 7, 8, 9, 16, 17, 18, 60, 61, 62, 42, 43, 44, 26, 27, 28, 29, 30, 31, 32, 36, 37, 38, 39, 40, 41, 66, 67, 68] (by decide +kernel) (by decide +kernel)
set_option maxRecDepth 20000 in
theorem gX6_command_X6_breatheOn : GoodIn wsX6_command (va_wsS RX6 161 yX6_breatheOn wsX6_breatheOn) := goodIn_app (goodIn_of _ (by decide +kernel)) ggX6_command_X6_breatheOn
set_option maxRecDepth 20000 in
theorem ggX6_command_X6_has : GoodIn wsX6_command wsX6_has := goodIn_r _ [18] (by decide +kernel) (by decide +kernel)
set_option maxRecDepth 20000 in
theorem gX6_command_X6_has : GoodIn wsX6_command (va_wsS RX6 61 yX6_has wsX6_has) := goodIn_app (goodIn_of _ (by decide +kernel)) ggX6_command_X6_has
set_option maxRecDepth 20000 in
theorem ggX6_command_X6_cold : GoodIn wsX6_command wsX6_cold := goodIn_r _ [59, 60, 61, 5, 62, 42, 43, 44, 26, 27, 28, 29, 30, 31, 32, 7, 8, 9, 36, 37, 38, 39, 40, 41, 16, 17, 18, 63, 64, 65] (by decide +kernel) (by decide +kernel)
set_option maxRecDepth 20000 in
theorem gX6_command_X6_cold : GoodIn wsX6_command (va_wsS RX6 89 yX6_cold wsX6_cold) := goodIn_app (goodIn_of _ (by decide +kernel)) ggX6_command_X6_cold
set_option maxRecDepth 20000 in
theorem ggX6_command_X6_bits : GoodIn wsX6_command wsX6_bits := goodIn_r _ [68, 16, 17, 5, 18] (by decide +kernel) (by decide +kernel)
set_option maxRecDepth 20000 in
theorem gX6_command_X6_bits : GoodIn wsX6_command (va_wsS RX6 97 yX6_bits wsX6_bits) := goodIn_app (goodIn_of _ (by decide +kernel)) ggX6_command_X6_bits
theorem dX6_command_0 : decode cX6_command 0 = .ok (.iload_n 2, 1) := by decide +kernel
theorem dX6_command_1 : decode cX6_command 1 = .ok (.bipush 10, 2) := by decide +kernel
theorem dX6_command_3 : decode cX6_command 3 = .ok (.idiv, 1) := by decide +kernel
theorem dX6_command_4 : decode cX6_command 4 = .ok (.istore_n 3, 1) := by decide +kernel
theorem dX6_command_5 : decode cX6_command 5 = .ok (.iload_n 2, 1) := by decide +kernel
theorem dX6_command_6 : decode cX6_command 6 = .ok (.bipush 10, 2) := by decide +kernel
theorem dX6_command_8 : decode cX6_command 8 = .ok (.irem, 1) := by decide +kernel
theorem dX6_command_9 : decode cX6_command 9 = .ok (.istore 4, 2) := by decide +kernel
theorem dX6_command_11 : decode cX6_command 11 = .ok (.iload_n 2, 1) := by decide +kernel
theorem dX6_command_12 : decode cX6_command 12 = .ok (.bipush 10, 2) := by decide +kernel
theorem dX6_command_14 : decode cX6_command 14 = .ok (.idiv, 1) := by decide +kernel
theorem dX6_command_15 : decode cX6_command 15 = .ok (.bipush 10, 2) := by decide +kernel
theorem dX6_command_17 : decode cX6_command 17 = .ok (.irem, 1) := by decide +kernel
theorem dX6_command_18 : decode cX6_command 18 = .ok (.istore 5, 2) := by decide +kernel
theorem dX6_command_20 : decode cX6_command 20 = .ok (.aload_n 0, 1) := by decide +kernel
theorem dX6_command_21 : decode cX6_command 21 = .ok (.getfield 17, 3) := by decide +kernel
theorem dX6_command_24 : decode cX6_command 24 = .ok (.iload_n 3, 1) := by decide +kernel
theorem dX6_command_25 : decode cX6_command 25 = .ok (.invokestatic 111, 3) := by decide +kernel
theorem dX6_command_28 : decode cX6_command 28 = .ok (.istore 6, 2) := by decide +kernel
theorem dX6_command_30 : decode cX6_command 30 = .ok (.iload_n 1, 1) := by decide +kernel
theorem dX6_command_31 : decode cX6_command 31 = .ok (.tableswitch 313 1 9 #[49, 76, 108, 146, 168, 197, 221, 263, 287], 49) := by decide +kernel
theorem dX6_command_80 : decode cX6_command 80 = .ok (.iload 4, 2) := by decide +kernel
theorem dX6_command_82 : decode cX6_command 82 = .ok (.ifCond .ne 23, 3) := by decide +kernel
theorem dX6_command_85 : decode cX6_command 85 = .ok (.iload 6, 2) := by decide +kernel
theorem dX6_command_87 : decode cX6_command 87 = .ok (.ifCond .eq 18, 3) := by decide +kernel
theorem dX6_command_90 : decode cX6_command 90 = .ok (.aload_n 0, 1) := by decide +kernel
theorem dX6_command_91 : decode cX6_command 91 = .ok (.getfield 17, 3) := by decide +kernel
theorem dX6_command_94 : decode cX6_command 94 = .ok (.iload_n 3, 1) := by decide +kernel
theorem dX6_command_95 : decode cX6_command 95 = .ok (.invokestatic 142, 3) := by decide +kernel
theorem dX6_command_98 : decode cX6_command 98 = .ok (.ifCond .lt 7, 3) := by decide +kernel
theorem dX6_command_101 : decode cX6_command 101 = .ok (.iconst 1, 1) := by decide +kernel
theorem dX6_command_102 : decode cX6_command 102 = .ok (.goto 4, 3) := by decide +kernel
theorem dX6_command_105 : decode cX6_command 105 = .ok (.iconst 0, 1) := by decide +kernel
theorem dX6_command_106 : decode cX6_command 106 = .ok (.ireturn, 1) := by decide +kernel
theorem dX6_command_107 : decode cX6_command 107 = .ok (.aload_n 0, 1) := by decide +kernel
theorem dX6_command_108 : decode cX6_command 108 = .ok (.getfield 17, 3) := by decide +kernel
theorem dX6_command_111 : decode cX6_command 111 = .ok (.iload_n 3, 1) := by decide +kernel
theorem dX6_command_112 : decode cX6_command 112 = .ok (.iload 4, 2) := by decide +kernel
theorem dX6_command_114 : decode cX6_command 114 = .ok (.invokestatic 149, 3) := by decide +kernel
theorem dX6_command_117 : decode cX6_command 117 = .ok (.ifCond .eq 20, 3) := by decide +kernel
theorem dX6_command_120 : decode cX6_command 120 = .ok (.aload_n 0, 1) := by decide +kernel
theorem dX6_command_121 : decode cX6_command 121 = .ok (.getfield 17, 3) := by decide +kernel
theorem dX6_command_124 : decode cX6_command 124 = .ok (.iload_n 3, 1) := by decide +kernel
theorem dX6_command_125 : decode cX6_command 125 = .ok (.iload 4, 2) := by decide +kernel
theorem dX6_command_127 : decode cX6_command 127 = .ok (.invokestatic 152, 3) := by decide +kernel
theorem dX6_command_130 : decode cX6_command 130 = .ok (.ifCond .lt 7, 3) := by decide +kernel
theorem dX6_command_133 : decode cX6_command 133 = .ok (.iconst 1, 1) := by decide +kernel
theorem dX6_command_134 : decode cX6_command 134 = .ok (.goto 4, 3) := by decide +kernel
theorem dX6_command_137 : decode cX6_command 137 = .ok (.iconst 0, 1) := by decide +kernel
theorem dX6_command_138 : decode cX6_command 138 = .ok (.ireturn, 1) := by decide +kernel
theorem dX6_command_139 : decode cX6_command 139 = .ok (.iload_n 2, 1) := by decide +kernel
theorem dX6_command_140 : decode cX6_command 140 = .ok (.bipush 100, 2) := by decide +kernel
theorem dX6_command_142 : decode cX6_command 142 = .ok (.if_icmp .ge 33, 3) := by decide +kernel
theorem dX6_command_145 : decode cX6_command 145 = .ok (.iload 5, 2) := by decide +kernel
theorem dX6_command_147 : decode cX6_command 147 = .ok (.iconst 4, 1) := by decide +kernel
theorem dX6_command_148 : decode cX6_command 148 = .ok (.if_icmp .ge 27, 3) := by decide +kernel
theorem dX6_command_151 : decode cX6_command 151 = .ok (.iload 4, 2) := by decide +kernel
theorem dX6_command_153 : decode cX6_command 153 = .ok (.iconst 2, 1) := by decide +kernel
theorem dX6_command_154 : decode cX6_command 154 = .ok (.if_icmp .gt 21, 3) := by decide +kernel
theorem dX6_command_157 : decode cX6_command 157 = .ok (.aload_n 0, 1) := by decide +kernel
theorem dX6_command_158 : decode cX6_command 158 = .ok (.getfield 17, 3) := by decide +kernel
theorem dX6_command_161 : decode cX6_command 161 = .ok (.iload 5, 2) := by decide +kernel
theorem dX6_command_163 : decode cX6_command 163 = .ok (.iload 4, 2) := by decide +kernel
theorem dX6_command_165 : decode cX6_command 165 = .ok (.invokestatic 155, 3) := by decide +kernel
theorem dX6_command_168 : decode cX6_command 168 = .ok (.ifCond .lt 7, 3) := by decide +kernel
theorem dX6_command_171 : decode cX6_command 171 = .ok (.iconst 1, 1) := by decide +kernel
theorem dX6_command_172 : decode cX6_command 172 = .ok (.goto 4, 3) := by decide +kernel
theorem dX6_command_175 : decode cX6_command 175 = .ok (.iconst 0, 1) := by decide +kernel
theorem dX6_command_176 : decode cX6_command 176 = .ok (.ireturn, 1) := by decide +kernel
theorem dX6_command_177 : decode cX6_command 177 = .ok (.iload_n 2, 1) := by decide +kernel
theorem dX6_command_178 : decode cX6_command 178 = .ok (.iconst 3, 1) := by decide +kernel
theorem dX6_command_179 : decode cX6_command 179 = .ok (.if_icmp .ge 18, 3) := by decide +kernel
theorem dX6_command_182 : decode cX6_command 182 = .ok (.aload_n 0, 1) := by decide +kernel
theorem dX6_command_183 : decode cX6_command 183 = .ok (.getfield 17, 3) := by decide +kernel
theorem dX6_command_186 : decode cX6_command 186 = .ok (.iload_n 2, 1) := by decide +kernel
theorem dX6_command_187 : decode cX6_command 187 = .ok (.invokestatic 158, 3) := by decide +kernel
theorem dX6_command_190 : decode cX6_command 190 = .ok (.ifCond .lt 7, 3) := by decide +kernel
theorem dX6_command_193 : decode cX6_command 193 = .ok (.iconst 1, 1) := by decide +kernel
theorem dX6_command_194 : decode cX6_command 194 = .ok (.goto 4, 3) := by decide +kernel
theorem dX6_command_197 : decode cX6_command 197 = .ok (.iconst 0, 1) := by decide +kernel
theorem dX6_command_198 : decode cX6_command 198 = .ok (.ireturn, 1) := by decide +kernel
theorem dX6_command_199 : decode cX6_command 199 = .ok (.iload_n 2, 1) := by decide +kernel
theorem dX6_command_200 : decode cX6_command 200 = .ok (.i2l, 1) := by decide +kernel
theorem dX6_command_201 : decode cX6_command 201 = .ok (.lconst 1, 1) := by decide +kernel
theorem dX6_command_202 : decode cX6_command 202 = .ok (.ldc2_w 195, 3) := by decide +kernel
theorem dX6_command_205 : decode cX6_command 205 = .ok (.invokestatic 51, 3) := by decide +kernel
theorem dX6_command_208 : decode cX6_command 208 = .ok (.ifCond .eq 18, 3) := by decide +kernel
theorem dX6_command_211 : decode cX6_command 211 = .ok (.aload_n 0, 1) := by decide +kernel
theorem dX6_command_212 : decode cX6_command 212 = .ok (.getfield 17, 3) := by decide +kernel
theorem dX6_command_215 : decode cX6_command 215 = .ok (.iload_n 2, 1) := by decide +kernel
theorem dX6_command_216 : decode cX6_command 216 = .ok (.invokestatic 164, 3) := by decide +kernel
theorem dX6_command_219 : decode cX6_command 219 = .ok (.ifCond .lt 7, 3) := by decide +kernel
theorem dX6_command_222 : decode cX6_command 222 = .ok (.iconst 1, 1) := by decide +kernel
theorem dX6_command_223 : decode cX6_command 223 = .ok (.goto 4, 3) := by decide +kernel
theorem dX6_command_226 : decode cX6_command 226 = .ok (.iconst 0, 1) := by decide +kernel
theorem dX6_command_227 : decode cX6_command 227 = .ok (.ireturn, 1) := by decide +kernel
theorem dX6_command_228 : decode cX6_command 228 = .ok (.iload 6, 2) := by decide +kernel
theorem dX6_command_230 : decode cX6_command 230 = .ok (.ifCond .eq 20, 3) := by decide +kernel
theorem dX6_command_233 : decode cX6_command 233 = .ok (.aload_n 0, 1) := by decide +kernel
theorem dX6_command_234 : decode cX6_command 234 = .ok (.getfield 17, 3) := by decide +kernel
theorem dX6_command_237 : decode cX6_command 237 = .ok (.iload_n 3, 1) := by decide +kernel
theorem dX6_command_238 : decode cX6_command 238 = .ok (.iload 4, 2) := by decide +kernel
theorem dX6_command_240 : decode cX6_command 240 = .ok (.invokestatic 161, 3) := by decide +kernel
theorem dX6_command_243 : decode cX6_command 243 = .ok (.ifCond .lt 7, 3) := by decide +kernel
theorem dX6_command_246 : decode cX6_command 246 = .ok (.iconst 1, 1) := by decide +kernel
theorem dX6_command_247 : decode cX6_command 247 = .ok (.goto 4, 3) := by decide +kernel
theorem dX6_command_250 : decode cX6_command 250 = .ok (.iconst 0, 1) := by decide +kernel
theorem dX6_command_251 : decode cX6_command 251 = .ok (.ireturn, 1) := by decide +kernel
theorem dX6_command_252 : decode cX6_command 252 = .ok (.iload 6, 2) := by decide +kernel
theorem dX6_command_254 : decode cX6_command 254 = .ok (.ifCond .eq 38, 3) := by decide +kernel
theorem dX6_command_257 : decode cX6_command 257 = .ok (.iload 4, 2) := by decide +kernel
theorem dX6_command_259 : decode cX6_command 259 = .ok (.iconst 2, 1) := by decide +kernel
theorem dX6_command_260 : decode cX6_command 260 = .ok (.if_icmp .ge 32, 3) := by decide +kernel
theorem dX6_command_263 : decode cX6_command 263 = .ok (.aload_n 0, 1) := by decide +kernel
theorem dX6_command_264 : decode cX6_command 264 = .ok (.getfield 17, 3) := by decide +kernel
theorem dX6_command_267 : decode cX6_command 267 = .ok (.bipush 8, 2) := by decide +kernel
theorem dX6_command_269 : decode cX6_command 269 = .ok (.laload, 1) := by decide +kernel
theorem dX6_command_270 : decode cX6_command 270 = .ok (.iload_n 3, 1) := by decide +kernel
theorem dX6_command_271 : decode cX6_command 271 = .ok (.invokestatic 61, 3) := by decide +kernel
theorem dX6_command_274 : decode cX6_command 274 = .ok (.iload 4, 2) := by decide +kernel
theorem dX6_command_276 : decode cX6_command 276 = .ok (.iconst 1, 1) := by decide +kernel
theorem dX6_command_277 : decode cX6_command 277 = .ok (.if_icmp .ne 7, 3) := by decide +kernel
theorem dX6_command_280 : decode cX6_command 280 = .ok (.iconst 1, 1) := by decide +kernel
theorem dX6_command_281 : decode cX6_command 281 = .ok (.goto 4, 3) := by decide +kernel
theorem dX6_command_284 : decode cX6_command 284 = .ok (.iconst 0, 1) := by decide +kernel
theorem dX6_command_285 : decode cX6_command 285 = .ok (.if_icmp .ne 7, 3) := by decide +kernel
theorem dX6_command_288 : decode cX6_command 288 = .ok (.iconst 1, 1) := by decide +kernel
theorem dX6_command_289 : decode cX6_command 289 = .ok (.goto 4, 3) := by decide +kernel
theorem dX6_command_292 : decode cX6_command 292 = .ok (.iconst 0, 1) := by decide +kernel
theorem dX6_command_293 : decode cX6_command 293 = .ok (.ireturn, 1) := by decide +kernel
theorem dX6_command_294 : decode cX6_command 294 = .ok (.iload 6, 2) := by decide +kernel
theorem dX6_command_296 : decode cX6_command 296 = .ok (.ifCond .eq 20, 3) := by decide +kernel
theorem dX6_command_299 : decode cX6_command 299 = .ok (.aload_n 0, 1) := by decide +kernel
theorem dX6_command_300 : decode cX6_command 300 = .ok (.getfield 17, 3) := by decide +kernel
theorem dX6_command_303 : decode cX6_command 303 = .ok (.iload_n 3, 1) := by decide +kernel
theorem dX6_command_304 : decode cX6_command 304 = .ok (.invokestatic 89, 3) := by decide +kernel
theorem dX6_command_307 : decode cX6_command 307 = .ok (.iload 4, 2) := by decide +kernel
theorem dX6_command_309 : decode cX6_command 309 = .ok (.if_icmp .ne 7, 3) := by decide +kernel
theorem dX6_command_312 : decode cX6_command 312 = .ok (.iconst 1, 1) := by decide +kernel
theorem dX6_command_313 : decode cX6_command 313 = .ok (.goto 4, 3) := by decide +kernel
theorem dX6_command_316 : decode cX6_command 316 = .ok (.iconst 0, 1) := by decide +kernel
theorem dX6_command_317 : decode cX6_command 317 = .ok (.ireturn, 1) := by decide +kernel
theorem dX6_command_318 : decode cX6_command 318 = .ok (.iload_n 2, 1) := by decide +kernel
theorem dX6_command_319 : decode cX6_command 319 = .ok (.bipush 100, 2) := by decide +kernel
theorem dX6_command_321 : decode cX6_command 321 = .ok (.if_icmp .ge 21, 3) := by decide +kernel
theorem dX6_command_324 : decode cX6_command 324 = .ok (.aload_n 0, 1) := by decide +kernel
theorem dX6_command_325 : decode cX6_command 325 = .ok (.getfield 17, 3) := by decide +kernel
theorem dX6_command_328 : decode cX6_command 328 = .ok (.bipush 8, 2) := by decide +kernel
theorem dX6_command_330 : decode cX6_command 330 = .ok (.laload, 1) := by decide +kernel
theorem dX6_command_331 : decode cX6_command 331 = .ok (.invokestatic 97, 3) := by decide +kernel
theorem dX6_command_334 : decode cX6_command 334 = .ok (.iload_n 2, 1) := by decide +kernel
theorem dX6_command_335 : decode cX6_command 335 = .ok (.if_icmp .lt 7, 3) := by decide +kernel
theorem dX6_command_338 : decode cX6_command 338 = .ok (.iconst 1, 1) := by decide +kernel
theorem dX6_command_339 : decode cX6_command 339 = .ok (.goto 4, 3) := by decide +kernel
theorem dX6_command_342 : decode cX6_command 342 = .ok (.iconst 0, 1) := by decide +kernel
theorem dX6_command_343 : decode cX6_command 343 = .ok (.ireturn, 1) := by decide +kernel
theorem dX6_command_344 : decode cX6_command 344 = .ok (.iconst 0, 1) := by decide +kernel
theorem dX6_command_345 : decode cX6_command 345 = .ok (.ireturn, 1) := by decide +kernel
set_option maxRecDepth 20000 in
theorem ggX6_runScript_X6_in : GoodIn wsX6_runScript wsX6_in := goodIn_r _ [8] (by decide +kernel) (by decide +kernel)
set_option maxRecDepth 20000 in
theorem gX6_runScript_X6_in : GoodIn wsX6_runScript (va_wsS RX6 51 yX6_in wsX6_in) := goodIn_app (goodIn_of _ (by decide +kernel)) ggX6_runScript_X6_in
set_option maxRecDepth 20000 in
theorem ggX6_runScript_X6_refused : GoodIn wsX6_runScript wsX6_refused := goodIn_r _ [12, 13, 90, 91, 92, 93, 94, 95, 96, 97, 98, 99, 100, 101, 102, 103, 104] (by decide +kernel) (by decide +kernel)
set_option maxRecDepth 20000 in
theorem gX6_runScript_X6_refused : GoodIn wsX6_runScript (wsV RX6 127 RX6 yX6_refused wsX6_refused) := goodIn_app (goodIn_of _ (by decide +kernel)) ggX6_runScript_X6_refused
set_option maxRecDepth 20000 in
theorem ggX6_runScript_X6_copyState : GoodIn wsX6_runScript wsX6_copyState := goodIn_r _ [16] (by decide +kernel) (by decide +kernel)
set_option maxRecDepth 20000 in
theorem gX6_runScript_X6_copyState : GoodIn wsX6_runScript (va_wsS RX6 174 yX6_copyState wsX6_copyState) := goodIn_app (goodIn_of _ (by decide +kernel)) ggX6_runScript_X6_copyState
set_option maxRecDepth 20000 in
theorem ggX6_runScript_X6_command : GoodIn wsX6_runScript wsX6_command := goodIn_r _ [20, 4, 21, 22, 23, 7, 24, 25, 26, 27, 5, 6, 8, 28, 29, 30, 31, 32, 33, 34, 35, 36, 37, 38, 39, 2, 40, 41, 42, 43, 44, 45, 46, 47, 48, 49, 50, 51, 52, 53, 54, 55, 56, 57, 58, 59, 60, 61, 62, 63, 64, 65, 66, 67, 68, 69, 70, 71, 72, 73, 74, 75, 76, 77, 78, 79, 80, 81, 82, 83, 84, 85, 86, 87, 88, 89, 90, 91, 92, 93, 94, 95, 96, 97, 98, 99, 100, 101, 102, 103, 104] (by decide +kernel) (by decide +kernel)
set_option maxRecDepth 20000 in
theorem gX6_runScript_X6_command : GoodIn wsX6_runScript (wsV RX6 216 RX6 yX6_command wsX6_command) := goodIn_app (goodIn_of _ (by decide +kernel)) ggX6_runScript_X6_command
theorem dX6_runScript_0 : decode cX6_runScript 0 = .ok (.lconst 1, 1) := by decide +kernel
theorem dX6_runScript_1 : decode cX6_runScript 1 = .ok (.lstore 4, 2) := by decide +kernel
theorem dX6_runScript_3 : decode cX6_runScript 3 = .ok (.iconst 0, 1) := by decide +kernel
theorem dX6_runScript_4 : decode cX6_runScript 4 = .ok (.istore 6, 2) := by decide +kernel
theorem dX6_runScript_6 : decode cX6_runScript 6 = .ok (.iload 6, 2) := by decide +kernel
theorem dX6_runScript_8 : decode cX6_runScript 8 = .ok (.iload_n 1, 1) := by decide +kernel
theorem dX6_runScript_9 : decode cX6_runScript 9 = .ok (.if_icmp .ge 23, 3) := by decide +kernel
theorem dX6_runScript_12 : decode cX6_runScript 12 = .ok (.iload 6, 2) := by decide +kernel
theorem dX6_runScript_14 : decode cX6_runScript 14 = .ok (.iconst 3, 1) := by decide +kernel
theorem dX6_runScript_15 : decode cX6_runScript 15 = .ok (.if_icmp .ge 17, 3) := by decide +kernel
theorem dX6_runScript_18 : decode cX6_runScript 18 = .ok (.lload 4, 2) := by decide +kernel
theorem dX6_runScript_20 : decode cX6_runScript 20 = .ok (.ldc2_w 214, 3) := by decide +kernel
theorem dX6_runScript_23 : decode cX6_runScript 23 = .ok (.lmul, 1) := by decide +kernel
theorem dX6_runScript_24 : decode cX6_runScript 24 = .ok (.lstore 4, 2) := by decide +kernel
theorem dX6_runScript_26 : decode cX6_runScript 26 = .ok (.iinc 6 1, 3) := by decide +kernel
theorem dX6_runScript_29 : decode cX6_runScript 29 = .ok (.goto (-23), 3) := by decide +kernel
theorem dX6_runScript_32 : decode cX6_runScript 32 = .ok (.aload_n 0, 1) := by decide +kernel
theorem dX6_runScript_33 : decode cX6_runScript 33 = .ok (.iload_n 1, 1) := by decide +kernel
theorem dX6_runScript_34 : decode cX6_runScript 34 = .ok (.i2l, 1) := by decide +kernel
theorem dX6_runScript_35 : decode cX6_runScript 35 = .ok (.lconst 1, 1) := by decide +kernel
theorem dX6_runScript_36 : decode cX6_runScript 36 = .ok (.ldc2_w 59, 3) := by decide +kernel
theorem dX6_runScript_39 : decode cX6_runScript 39 = .ok (.invokestatic 51, 3) := by decide +kernel
theorem dX6_runScript_42 : decode cX6_runScript 42 = .ok (.ifCond .eq 19, 3) := by decide +kernel
theorem dX6_runScript_45 : decode cX6_runScript 45 = .ok (.lload_n 2, 1) := by decide +kernel
theorem dX6_runScript_46 : decode cX6_runScript 46 = .ok (.lconst 0, 1) := by decide +kernel
theorem dX6_runScript_47 : decode cX6_runScript 47 = .ok (.lload 4, 2) := by decide +kernel
theorem dX6_runScript_49 : decode cX6_runScript 49 = .ok (.lconst 1, 1) := by decide +kernel
theorem dX6_runScript_50 : decode cX6_runScript 50 = .ok (.lsub, 1) := by decide +kernel
theorem dX6_runScript_51 : decode cX6_runScript 51 = .ok (.invokestatic 51, 3) := by decide +kernel
theorem dX6_runScript_54 : decode cX6_runScript 54 = .ok (.ifCond .eq 7, 3) := by decide +kernel
theorem dX6_runScript_57 : decode cX6_runScript 57 = .ok (.iconst 0, 1) := by decide +kernel
theorem dX6_runScript_58 : decode cX6_runScript 58 = .ok (.goto 4, 3) := by decide +kernel
theorem dX6_runScript_61 : decode cX6_runScript 61 = .ok (.iconst 1, 1) := by decide +kernel
theorem dX6_runScript_62 : decode cX6_runScript 62 = .ok (.invokevirtual 127, 3) := by decide +kernel
theorem dX6_runScript_65 : decode cX6_runScript 65 = .ok (.ifCond .eq 5, 3) := by decide +kernel
theorem dX6_runScript_68 : decode cX6_runScript 68 = .ok (.iconst 0, 1) := by decide +kernel
theorem dX6_runScript_69 : decode cX6_runScript 69 = .ok (.ireturn, 1) := by decide +kernel
theorem dX6_runScript_70 : decode cX6_runScript 70 = .ok (.aload_n 0, 1) := by decide +kernel
theorem dX6_runScript_71 : decode cX6_runScript 71 = .ok (.getfield 13, 3) := by decide +kernel
theorem dX6_runScript_74 : decode cX6_runScript 74 = .ok (.iconst 0, 1) := by decide +kernel
theorem dX6_runScript_75 : decode cX6_runScript 75 = .ok (.aload_n 0, 1) := by decide +kernel
theorem dX6_runScript_76 : decode cX6_runScript 76 = .ok (.getfield 17, 3) := by decide +kernel
theorem dX6_runScript_79 : decode cX6_runScript 79 = .ok (.iconst 0, 1) := by decide +kernel
theorem dX6_runScript_80 : decode cX6_runScript 80 = .ok (.invokestatic 174, 3) := by decide +kernel
theorem dX6_runScript_83 : decode cX6_runScript 83 = .ok (.iconst 0, 1) := by decide +kernel
theorem dX6_runScript_84 : decode cX6_runScript 84 = .ok (.istore 6, 2) := by decide +kernel
theorem dX6_runScript_86 : decode cX6_runScript 86 = .ok (.iload 6, 2) := by decide +kernel
theorem dX6_runScript_88 : decode cX6_runScript 88 = .ok (.iload_n 1, 1) := by decide +kernel
theorem dX6_runScript_89 : decode cX6_runScript 89 = .ok (.if_icmp .ge 50, 3) := by decide +kernel
theorem dX6_runScript_92 : decode cX6_runScript 92 = .ok (.lload 4, 2) := by decide +kernel
theorem dX6_runScript_94 : decode cX6_runScript 94 = .ok (.ldc2_w 214, 3) := by decide +kernel
theorem dX6_runScript_97 : decode cX6_runScript 97 = .ok (.ldiv, 1) := by decide +kernel
theorem dX6_runScript_98 : decode cX6_runScript 98 = .ok (.lstore 4, 2) := by decide +kernel
theorem dX6_runScript_100 : decode cX6_runScript 100 = .ok (.lload_n 2, 1) := by decide +kernel
theorem dX6_runScript_101 : decode cX6_runScript 101 = .ok (.lload 4, 2) := by decide +kernel
theorem dX6_runScript_103 : decode cX6_runScript 103 = .ok (.ldiv, 1) := by decide +kernel
theorem dX6_runScript_104 : decode cX6_runScript 104 = .ok (.ldc2_w 214, 3) := by decide +kernel
theorem dX6_runScript_107 : decode cX6_runScript 107 = .ok (.lrem, 1) := by decide +kernel
theorem dX6_runScript_108 : decode cX6_runScript 108 = .ok (.l2i, 1) := by decide +kernel
theorem dX6_runScript_109 : decode cX6_runScript 109 = .ok (.istore 7, 2) := by decide +kernel
theorem dX6_runScript_111 : decode cX6_runScript 111 = .ok (.aload_n 0, 1) := by decide +kernel
theorem dX6_runScript_112 : decode cX6_runScript 112 = .ok (.iload 7, 2) := by decide +kernel
theorem dX6_runScript_114 : decode cX6_runScript 114 = .ok (.sipush 1000, 3) := by decide +kernel
theorem dX6_runScript_117 : decode cX6_runScript 117 = .ok (.idiv, 1) := by decide +kernel
theorem dX6_runScript_118 : decode cX6_runScript 118 = .ok (.iload 7, 2) := by decide +kernel
theorem dX6_runScript_120 : decode cX6_runScript 120 = .ok (.sipush 1000, 3) := by decide +kernel
theorem dX6_runScript_123 : decode cX6_runScript 123 = .ok (.irem, 1) := by decide +kernel
theorem dX6_runScript_124 : decode cX6_runScript 124 = .ok (.invokevirtual 216, 3) := by decide +kernel
theorem dX6_runScript_127 : decode cX6_runScript 127 = .ok (.ifCond .ne 6, 3) := by decide +kernel
theorem dX6_runScript_130 : decode cX6_runScript 130 = .ok (.iload 6, 2) := by decide +kernel
theorem dX6_runScript_132 : decode cX6_runScript 132 = .ok (.ireturn, 1) := by decide +kernel
theorem dX6_runScript_133 : decode cX6_runScript 133 = .ok (.iinc 6 1, 3) := by decide +kernel
theorem dX6_runScript_136 : decode cX6_runScript 136 = .ok (.goto (-50), 3) := by decide +kernel
theorem dX6_runScript_139 : decode cX6_runScript 139 = .ok (.iconst (-1), 1) := by decide +kernel
theorem dX6_runScript_140 : decode cX6_runScript 140 = .ok (.ireturn, 1) := by decide +kernel
set_option maxRecDepth 20000 in
theorem ggX6_turn_X6_isCell : GoodIn wsX6_turn wsX6_isCell := goodIn_r _ [4, 5, 6, 3, 7, 8, 9, 10] (by decide +kernel) (by decide +kernel)
set_option maxRecDepth 20000 in
theorem gX6_turn_X6_isCell : GoodIn wsX6_turn (va_wsS RX6 111 yX6_isCell wsX6_isCell) := goodIn_app (goodIn_of _ (by decide +kernel)) ggX6_turn_X6_isCell
set_option maxRecDepth 20000 in
theorem ggX6_turn_X6_flipOn : GoodIn wsX6_turn wsX6_flipOn := goodIn_r _ [13, 14, 15, 3, 16] (by decide +kernel) (by decide +kernel)
set_option maxRecDepth 20000 in
theorem gX6_turn_X6_flipOn : GoodIn wsX6_turn (va_wsS RX6 142 yX6_flipOn wsX6_flipOn) := goodIn_app (goodIn_of _ (by decide +kernel)) ggX6_turn_X6_flipOn
set_option maxRecDepth 20000 in
theorem ggX6_turn_X6_canScratch : GoodIn wsX6_turn wsX6_canScratch := goodIn_r _ [19, 1, 2, 3, 4, 5, 6, 7, 8, 9, 10, 20, 21, 22, 23, 24, 25, 26, 27, 28, 29, 30] (by decide +kernel) (by decide +kernel)
set_option maxRecDepth 20000 in
theorem gX6_turn_X6_canScratch : GoodIn wsX6_turn (va_wsS RX6 149 yX6_canScratch wsX6_canScratch) := goodIn_app (goodIn_of _ (by decide +kernel)) ggX6_turn_X6_canScratch
set_option maxRecDepth 20000 in
theorem ggX6_turn_X6_scratchOn : GoodIn wsX6_turn wsX6_scratchOn := goodIn_r _ [33, 34, 35, 3, 36, 37, 38, 39, 24, 25, 26, 27, 28, 29, 30, 5, 6, 7, 40, 41, 42, 14, 15, 16] (by decide +kernel) (by decide +kernel)
set_option maxRecDepth 20000 in
theorem gX6_turn_X6_scratchOn : GoodIn wsX6_turn (va_wsS RX6 152 yX6_scratchOn wsX6_scratchOn) := goodIn_app (goodIn_of _ (by decide +kernel)) ggX6_turn_X6_scratchOn
set_option maxRecDepth 20000 in
theorem ggX6_turn_X6_borderOn : GoodIn wsX6_turn wsX6_borderOn := goodIn_r _ [45] (by decide +kernel) (by decide +kernel)
set_option maxRecDepth 20000 in
theorem gX6_turn_X6_borderOn : GoodIn wsX6_turn (va_wsS RX6 155 yX6_borderOn wsX6_borderOn) := goodIn_app (goodIn_of _ (by decide +kernel)) ggX6_turn_X6_borderOn
set_option maxRecDepth 20000 in
theorem ggX6_turn_X6_breatheOn : GoodIn wsX6_turn wsX6_breatheOn := goodIn_r _ [48, 49, 50, 51, 3, 52, 5, 6, 7, 14, 15, 16, 53, 54, 55, 40, 41, 42, 24, 25, 26, 27, 28, 29, 30, 34, 35, 36, 37, 38, 39, 56, 57, 58] (by decide +kernel) (by decide +kernel)
set_option maxRecDepth 20000 in
theorem gX6_turn_X6_breatheOn : GoodIn wsX6_turn (va_wsS RX6 161 yX6_breatheOn wsX6_breatheOn) := goodIn_app (goodIn_of _ (by decide +kernel)) ggX6_turn_X6_breatheOn
set_option maxRecDepth 20000 in
theorem ggX6_turn_X6_ruleOn : GoodIn wsX6_turn wsX6_ruleOn := goodIn_r _ [61] (by decide +kernel) (by decide +kernel)
set_option maxRecDepth 20000 in
theorem gX6_turn_X6_ruleOn : GoodIn wsX6_turn (va_wsS RX6 158 yX6_ruleOn wsX6_ruleOn) := goodIn_app (goodIn_of _ (by decide +kernel)) ggX6_turn_X6_ruleOn
set_option maxRecDepth 20000 in
theorem ggX6_turn_X6_nightsOn : GoodIn wsX6_turn wsX6_nightsOn := goodIn_r _ [64, 65, 66, 3, 67, 5, 6, 7, 68, 69, 70, 53, 54, 55, 40, 41, 42, 24, 25, 26, 27, 28, 29, 30, 34, 35, 36, 37, 38, 39, 14, 15, 16, 71, 72, 73, 56, 57, 58] (by decide +kernel) (by decide +kernel)
set_option maxRecDepth 20000 in
theorem gX6_turn_X6_nightsOn : GoodIn wsX6_turn (va_wsS RX6 164 yX6_nightsOn wsX6_nightsOn) := goodIn_app (goodIn_of _ (by decide +kernel)) ggX6_turn_X6_nightsOn
theorem dX6_turn_0 : decode cX6_turn 0 = .ok (.iload_n 1, 1) := by decide +kernel
theorem dX6_turn_1 : decode cX6_turn 1 = .ok (.bipush 8, 2) := by decide +kernel
theorem dX6_turn_3 : decode cX6_turn 3 = .ok (.idiv, 1) := by decide +kernel
theorem dX6_turn_4 : decode cX6_turn 4 = .ok (.istore_n 2, 1) := by decide +kernel
theorem dX6_turn_5 : decode cX6_turn 5 = .ok (.iload_n 1, 1) := by decide +kernel
theorem dX6_turn_6 : decode cX6_turn 6 = .ok (.bipush 8, 2) := by decide +kernel
theorem dX6_turn_8 : decode cX6_turn 8 = .ok (.irem, 1) := by decide +kernel
theorem dX6_turn_9 : decode cX6_turn 9 = .ok (.istore_n 3, 1) := by decide +kernel
theorem dX6_turn_10 : decode cX6_turn 10 = .ok (.iload_n 3, 1) := by decide +kernel
theorem dX6_turn_11 : decode cX6_turn 11 = .ok (.iconst 3, 1) := by decide +kernel
theorem dX6_turn_12 : decode cX6_turn 12 = .ok (.if_icmp .ge 26, 3) := by decide +kernel
theorem dX6_turn_15 : decode cX6_turn 15 = .ok (.aload_n 0, 1) := by decide +kernel
theorem dX6_turn_16 : decode cX6_turn 16 = .ok (.iload_n 2, 1) := by decide +kernel
theorem dX6_turn_17 : decode cX6_turn 17 = .ok (.bipush 64, 2) := by decide +kernel
theorem dX6_turn_19 : decode cX6_turn 19 = .ok (.irem, 1) := by decide +kernel
theorem dX6_turn_20 : decode cX6_turn 20 = .ok (.invokestatic 111, 3) := by decide +kernel
theorem dX6_turn_23 : decode cX6_turn 23 = .ok (.ifCond .eq 144, 3) := by decide +kernel
theorem dX6_turn_26 : decode cX6_turn 26 = .ok (.aload_n 0, 1) := by decide +kernel
theorem dX6_turn_27 : decode cX6_turn 27 = .ok (.iload_n 2, 1) := by decide +kernel
theorem dX6_turn_28 : decode cX6_turn 28 = .ok (.bipush 64, 2) := by decide +kernel
theorem dX6_turn_30 : decode cX6_turn 30 = .ok (.irem, 1) := by decide +kernel
theorem dX6_turn_31 : decode cX6_turn 31 = .ok (.invokestatic 142, 3) := by decide +kernel
theorem dX6_turn_34 : decode cX6_turn 34 = .ok (.pop, 1) := by decide +kernel
theorem dX6_turn_35 : decode cX6_turn 35 = .ok (.goto 132, 3) := by decide +kernel
theorem dX6_turn_38 : decode cX6_turn 38 = .ok (.iload_n 3, 1) := by decide +kernel
theorem dX6_turn_39 : decode cX6_turn 39 = .ok (.iconst 3, 1) := by decide +kernel
theorem dX6_turn_40 : decode cX6_turn 40 = .ok (.if_icmp .ne 38, 3) := by decide +kernel
theorem dX6_turn_43 : decode cX6_turn 43 = .ok (.aload_n 0, 1) := by decide +kernel
theorem dX6_turn_44 : decode cX6_turn 44 = .ok (.iload_n 2, 1) := by decide +kernel
theorem dX6_turn_45 : decode cX6_turn 45 = .ok (.bipush 64, 2) := by decide +kernel
theorem dX6_turn_47 : decode cX6_turn 47 = .ok (.irem, 1) := by decide +kernel
theorem dX6_turn_48 : decode cX6_turn 48 = .ok (.iload_n 2, 1) := by decide +kernel
theorem dX6_turn_49 : decode cX6_turn 49 = .ok (.bipush 64, 2) := by decide +kernel
theorem dX6_turn_51 : decode cX6_turn 51 = .ok (.idiv, 1) := by decide +kernel
theorem dX6_turn_52 : decode cX6_turn 52 = .ok (.iconst 4, 1) := by decide +kernel
theorem dX6_turn_53 : decode cX6_turn 53 = .ok (.irem, 1) := by decide +kernel
theorem dX6_turn_54 : decode cX6_turn 54 = .ok (.invokestatic 149, 3) := by decide +kernel
theorem dX6_turn_57 : decode cX6_turn 57 = .ok (.ifCond .eq 110, 3) := by decide +kernel
theorem dX6_turn_60 : decode cX6_turn 60 = .ok (.aload_n 0, 1) := by decide +kernel
theorem dX6_turn_61 : decode cX6_turn 61 = .ok (.iload_n 2, 1) := by decide +kernel
theorem dX6_turn_62 : decode cX6_turn 62 = .ok (.bipush 64, 2) := by decide +kernel
theorem dX6_turn_64 : decode cX6_turn 64 = .ok (.irem, 1) := by decide +kernel
theorem dX6_turn_65 : decode cX6_turn 65 = .ok (.iload_n 2, 1) := by decide +kernel
theorem dX6_turn_66 : decode cX6_turn 66 = .ok (.bipush 64, 2) := by decide +kernel
theorem dX6_turn_68 : decode cX6_turn 68 = .ok (.idiv, 1) := by decide +kernel
theorem dX6_turn_69 : decode cX6_turn 69 = .ok (.iconst 4, 1) := by decide +kernel
theorem dX6_turn_70 : decode cX6_turn 70 = .ok (.irem, 1) := by decide +kernel
theorem dX6_turn_71 : decode cX6_turn 71 = .ok (.invokestatic 152, 3) := by decide +kernel
theorem dX6_turn_74 : decode cX6_turn 74 = .ok (.pop, 1) := by decide +kernel
theorem dX6_turn_75 : decode cX6_turn 75 = .ok (.goto 92, 3) := by decide +kernel
theorem dX6_turn_78 : decode cX6_turn 78 = .ok (.iload_n 3, 1) := by decide +kernel
theorem dX6_turn_79 : decode cX6_turn 79 = .ok (.iconst 4, 1) := by decide +kernel
theorem dX6_turn_80 : decode cX6_turn 80 = .ok (.if_icmp .ne 60, 3) := by decide +kernel
theorem dX6_turn_83 : decode cX6_turn 83 = .ok (.iload_n 2, 1) := by decide +kernel
theorem dX6_turn_84 : decode cX6_turn 84 = .ok (.bipush 16, 2) := by decide +kernel
theorem dX6_turn_86 : decode cX6_turn 86 = .ok (.idiv, 1) := by decide +kernel
theorem dX6_turn_87 : decode cX6_turn 87 = .ok (.iconst 3, 1) := by decide +kernel
theorem dX6_turn_88 : decode cX6_turn 88 = .ok (.irem, 1) := by decide +kernel
theorem dX6_turn_89 : decode cX6_turn 89 = .ok (.ifCond .ne 19, 3) := by decide +kernel
theorem dX6_turn_92 : decode cX6_turn 92 = .ok (.aload_n 0, 1) := by decide +kernel
theorem dX6_turn_93 : decode cX6_turn 93 = .ok (.iload_n 2, 1) := by decide +kernel
theorem dX6_turn_94 : decode cX6_turn 94 = .ok (.iconst 4, 1) := by decide +kernel
theorem dX6_turn_95 : decode cX6_turn 95 = .ok (.irem, 1) := by decide +kernel
theorem dX6_turn_96 : decode cX6_turn 96 = .ok (.iload_n 2, 1) := by decide +kernel
theorem dX6_turn_97 : decode cX6_turn 97 = .ok (.iconst 4, 1) := by decide +kernel
theorem dX6_turn_98 : decode cX6_turn 98 = .ok (.idiv, 1) := by decide +kernel
theorem dX6_turn_99 : decode cX6_turn 99 = .ok (.iconst 3, 1) := by decide +kernel
theorem dX6_turn_100 : decode cX6_turn 100 = .ok (.irem, 1) := by decide +kernel
theorem dX6_turn_101 : decode cX6_turn 101 = .ok (.invokestatic 155, 3) := by decide +kernel
theorem dX6_turn_104 : decode cX6_turn 104 = .ok (.pop, 1) := by decide +kernel
theorem dX6_turn_105 : decode cX6_turn 105 = .ok (.goto 62, 3) := by decide +kernel
theorem dX6_turn_108 : decode cX6_turn 108 = .ok (.aload_n 0, 1) := by decide +kernel
theorem dX6_turn_109 : decode cX6_turn 109 = .ok (.iload_n 2, 1) := by decide +kernel
theorem dX6_turn_110 : decode cX6_turn 110 = .ok (.bipush 64, 2) := by decide +kernel
theorem dX6_turn_112 : decode cX6_turn 112 = .ok (.idiv, 1) := by decide +kernel
theorem dX6_turn_113 : decode cX6_turn 113 = .ok (.bipush 64, 2) := by decide +kernel
theorem dX6_turn_115 : decode cX6_turn 115 = .ok (.irem, 1) := by decide +kernel
theorem dX6_turn_116 : decode cX6_turn 116 = .ok (.invokestatic 111, 3) := by decide +kernel
theorem dX6_turn_119 : decode cX6_turn 119 = .ok (.ifCond .eq 48, 3) := by decide +kernel
theorem dX6_turn_122 : decode cX6_turn 122 = .ok (.aload_n 0, 1) := by decide +kernel
theorem dX6_turn_123 : decode cX6_turn 123 = .ok (.iload_n 2, 1) := by decide +kernel
theorem dX6_turn_124 : decode cX6_turn 124 = .ok (.bipush 64, 2) := by decide +kernel
theorem dX6_turn_126 : decode cX6_turn 126 = .ok (.idiv, 1) := by decide +kernel
theorem dX6_turn_127 : decode cX6_turn 127 = .ok (.bipush 64, 2) := by decide +kernel
theorem dX6_turn_129 : decode cX6_turn 129 = .ok (.irem, 1) := by decide +kernel
theorem dX6_turn_130 : decode cX6_turn 130 = .ok (.iload_n 2, 1) := by decide +kernel
theorem dX6_turn_131 : decode cX6_turn 131 = .ok (.iconst 4, 1) := by decide +kernel
theorem dX6_turn_132 : decode cX6_turn 132 = .ok (.irem, 1) := by decide +kernel
theorem dX6_turn_133 : decode cX6_turn 133 = .ok (.invokestatic 161, 3) := by decide +kernel
theorem dX6_turn_136 : decode cX6_turn 136 = .ok (.pop, 1) := by decide +kernel
theorem dX6_turn_137 : decode cX6_turn 137 = .ok (.goto 30, 3) := by decide +kernel
theorem dX6_turn_140 : decode cX6_turn 140 = .ok (.iload_n 3, 1) := by decide +kernel
theorem dX6_turn_141 : decode cX6_turn 141 = .ok (.iconst 5, 1) := by decide +kernel
theorem dX6_turn_142 : decode cX6_turn 142 = .ok (.if_icmp .ne 14, 3) := by decide +kernel
theorem dX6_turn_145 : decode cX6_turn 145 = .ok (.aload_n 0, 1) := by decide +kernel
theorem dX6_turn_146 : decode cX6_turn 146 = .ok (.iload_n 2, 1) := by decide +kernel
theorem dX6_turn_147 : decode cX6_turn 147 = .ok (.iconst 3, 1) := by decide +kernel
theorem dX6_turn_148 : decode cX6_turn 148 = .ok (.irem, 1) := by decide +kernel
theorem dX6_turn_149 : decode cX6_turn 149 = .ok (.invokestatic 158, 3) := by decide +kernel
theorem dX6_turn_152 : decode cX6_turn 152 = .ok (.pop, 1) := by decide +kernel
theorem dX6_turn_153 : decode cX6_turn 153 = .ok (.goto 14, 3) := by decide +kernel
theorem dX6_turn_156 : decode cX6_turn 156 = .ok (.aload_n 0, 1) := by decide +kernel
theorem dX6_turn_157 : decode cX6_turn 157 = .ok (.iconst 1, 1) := by decide +kernel
theorem dX6_turn_158 : decode cX6_turn 158 = .ok (.iload_n 2, 1) := by decide +kernel
theorem dX6_turn_159 : decode cX6_turn 159 = .ok (.bipush 6, 2) := by decide +kernel
theorem dX6_turn_161 : decode cX6_turn 161 = .ok (.irem, 1) := by decide +kernel
theorem dX6_turn_162 : decode cX6_turn 162 = .ok (.iadd, 1) := by decide +kernel
theorem dX6_turn_163 : decode cX6_turn 163 = .ok (.invokestatic 164, 3) := by decide +kernel
theorem dX6_turn_166 : decode cX6_turn 166 = .ok (.pop, 1) := by decide +kernel
theorem dX6_turn_167 : decode cX6_turn 167 = .ok (.return_, 1) := by decide +kernel
set_option maxRecDepth 20000 in
theorem ggX6_simulate_X6_in : GoodIn wsX6_simulate wsX6_in := goodIn_r _ [9] (by decide +kernel) (by decide +kernel)
set_option maxRecDepth 20000 in
theorem gX6_simulate_X6_in : GoodIn wsX6_simulate (va_wsS RX6 51 yX6_in wsX6_in) := goodIn_app (goodIn_of _ (by decide +kernel)) ggX6_simulate_X6_in
set_option maxRecDepth 20000 in
theorem ggX6_simulate_X6_refused : GoodIn wsX6_simulate wsX6_refused := goodIn_r _ [13, 14, 96, 97, 98, 99, 100, 101, 102, 103, 104, 105, 106, 107, 108, 109, 110] (by decide +kernel) (by decide +kernel)
set_option maxRecDepth 20000 in
theorem gX6_simulate_X6_refused : GoodIn wsX6_simulate (wsV RX6 127 RX6 yX6_refused wsX6_refused) := goodIn_app (goodIn_of _ (by decide +kernel)) ggX6_simulate_X6_refused
set_option maxRecDepth 20000 in
theorem ggX6_simulate_X6_copyState : GoodIn wsX6_simulate wsX6_copyState := goodIn_r _ [17] (by decide +kernel) (by decide +kernel)
set_option maxRecDepth 20000 in
theorem gX6_simulate_X6_copyState : GoodIn wsX6_simulate (va_wsS RX6 174 yX6_copyState wsX6_copyState) := goodIn_app (goodIn_of _ (by decide +kernel)) ggX6_simulate_X6_copyState
set_option maxRecDepth 20000 in
theorem ggX6_simulate_X6_turn : GoodIn wsX6_simulate wsX6_turn := goodIn_r _ [20, 21, 22, 8, 23, 24, 25, 26, 6, 7, 9, 27, 28, 29, 30, 31, 32, 33, 34, 35, 36, 37, 38, 39, 40, 41, 42, 43, 44, 45, 46, 47, 48, 49, 50, 51, 52, 53, 54, 55, 56, 57, 58, 59, 60, 61, 62, 63, 64, 65, 66, 67, 68, 69, 70, 71, 72, 73, 74, 75, 76, 77, 78, 79, 80, 81, 82, 83, 84, 85, 86, 87, 88, 89] (by decide +kernel) (by decide +kernel)
set_option maxRecDepth 20000 in
theorem gX6_simulate_X6_turn : GoodIn wsX6_simulate (va_wsS RX6 224 yX6_turn wsX6_turn) := goodIn_app (goodIn_of _ (by decide +kernel)) ggX6_simulate_X6_turn
set_option maxRecDepth 20000 in
theorem ggX6_simulate_X6_bits : GoodIn wsX6_simulate wsX6_bits := goodIn_r _ [74, 30, 31, 8, 32] (by decide +kernel) (by decide +kernel)
set_option maxRecDepth 20000 in
theorem gX6_simulate_X6_bits : GoodIn wsX6_simulate (va_wsS RX6 97 yX6_bits wsX6_bits) := goodIn_app (goodIn_of _ (by decide +kernel)) ggX6_simulate_X6_bits
set_option maxRecDepth 20000 in
theorem ggX6_simulate_X6_patches : GoodIn wsX6_simulate wsX6_patches := goodIn_r _ [92, 65, 30, 31, 8, 32, 93, 94, 95, 66, 67, 68, 24, 25, 26, 69, 70, 71, 56, 57, 58, 40, 41, 42, 43, 44, 45, 46, 50, 51, 52, 53, 54, 55] (by decide +kernel) (by decide +kernel)
set_option maxRecDepth 20000 in
theorem gX6_simulate_X6_patches : GoodIn wsX6_simulate (va_wsS RX6 183 yX6_patches wsX6_patches) := goodIn_app (goodIn_of _ (by decide +kernel)) ggX6_simulate_X6_patches
theorem dX6_simulate_0 : decode cX6_simulate 0 = .ok (.aload_n 0, 1) := by decide +kernel
theorem dX6_simulate_1 : decode cX6_simulate 1 = .ok (.iload_n 3, 1) := by decide +kernel
theorem dX6_simulate_2 : decode cX6_simulate 2 = .ok (.i2l, 1) := by decide +kernel
theorem dX6_simulate_3 : decode cX6_simulate 3 = .ok (.lconst 1, 1) := by decide +kernel
theorem dX6_simulate_4 : decode cX6_simulate 4 = .ok (.ldc2_w 195, 3) := by decide +kernel
theorem dX6_simulate_7 : decode cX6_simulate 7 = .ok (.invokestatic 51, 3) := by decide +kernel
theorem dX6_simulate_10 : decode cX6_simulate 10 = .ok (.ifCond .eq 7, 3) := by decide +kernel
theorem dX6_simulate_13 : decode cX6_simulate 13 = .ok (.iconst 0, 1) := by decide +kernel
theorem dX6_simulate_14 : decode cX6_simulate 14 = .ok (.goto 4, 3) := by decide +kernel
theorem dX6_simulate_17 : decode cX6_simulate 17 = .ok (.iconst 1, 1) := by decide +kernel
theorem dX6_simulate_18 : decode cX6_simulate 18 = .ok (.invokevirtual 127, 3) := by decide +kernel
theorem dX6_simulate_21 : decode cX6_simulate 21 = .ok (.ifCond .eq 5, 3) := by decide +kernel
theorem dX6_simulate_24 : decode cX6_simulate 24 = .ok (.iconst 0, 1) := by decide +kernel
theorem dX6_simulate_25 : decode cX6_simulate 25 = .ok (.ireturn, 1) := by decide +kernel
theorem dX6_simulate_26 : decode cX6_simulate 26 = .ok (.aload_n 0, 1) := by decide +kernel
theorem dX6_simulate_27 : decode cX6_simulate 27 = .ok (.getfield 13, 3) := by decide +kernel
theorem dX6_simulate_30 : decode cX6_simulate 30 = .ok (.iconst 0, 1) := by decide +kernel
theorem dX6_simulate_31 : decode cX6_simulate 31 = .ok (.aload_n 0, 1) := by decide +kernel
theorem dX6_simulate_32 : decode cX6_simulate 32 = .ok (.getfield 17, 3) := by decide +kernel
theorem dX6_simulate_35 : decode cX6_simulate 35 = .ok (.iconst 0, 1) := by decide +kernel
theorem dX6_simulate_36 : decode cX6_simulate 36 = .ok (.invokestatic 174, 3) := by decide +kernel
theorem dX6_simulate_39 : decode cX6_simulate 39 = .ok (.lload_n 1, 1) := by decide +kernel
theorem dX6_simulate_40 : decode cX6_simulate 40 = .ok (.lstore 4, 2) := by decide +kernel
theorem dX6_simulate_42 : decode cX6_simulate 42 = .ok (.iconst 0, 1) := by decide +kernel
theorem dX6_simulate_43 : decode cX6_simulate 43 = .ok (.istore 6, 2) := by decide +kernel
theorem dX6_simulate_45 : decode cX6_simulate 45 = .ok (.iload 6, 2) := by decide +kernel
theorem dX6_simulate_47 : decode cX6_simulate 47 = .ok (.iload_n 3, 1) := by decide +kernel
theorem dX6_simulate_48 : decode cX6_simulate 48 = .ok (.if_icmp .ge 34, 3) := by decide +kernel
theorem dX6_simulate_51 : decode cX6_simulate 51 = .ok (.lload 4, 2) := by decide +kernel
theorem dX6_simulate_53 : decode cX6_simulate 53 = .ok (.ldc2_w 220, 3) := by decide +kernel
theorem dX6_simulate_56 : decode cX6_simulate 56 = .ok (.lmul, 1) := by decide +kernel
theorem dX6_simulate_57 : decode cX6_simulate 57 = .ok (.ldc2_w 222, 3) := by decide +kernel
theorem dX6_simulate_60 : decode cX6_simulate 60 = .ok (.ladd, 1) := by decide +kernel
theorem dX6_simulate_61 : decode cX6_simulate 61 = .ok (.lstore 4, 2) := by decide +kernel
theorem dX6_simulate_63 : decode cX6_simulate 63 = .ok (.aload_n 0, 1) := by decide +kernel
theorem dX6_simulate_64 : decode cX6_simulate 64 = .ok (.getfield 17, 3) := by decide +kernel
theorem dX6_simulate_67 : decode cX6_simulate 67 = .ok (.lload 4, 2) := by decide +kernel
theorem dX6_simulate_69 : decode cX6_simulate 69 = .ok (.bipush 33, 2) := by decide +kernel
theorem dX6_simulate_71 : decode cX6_simulate 71 = .ok (.lushr, 1) := by decide +kernel
theorem dX6_simulate_72 : decode cX6_simulate 72 = .ok (.l2i, 1) := by decide +kernel
theorem dX6_simulate_73 : decode cX6_simulate 73 = .ok (.invokestatic 224, 3) := by decide +kernel
theorem dX6_simulate_76 : decode cX6_simulate 76 = .ok (.iinc 6 1, 3) := by decide +kernel
theorem dX6_simulate_79 : decode cX6_simulate 79 = .ok (.goto (-34), 3) := by decide +kernel
theorem dX6_simulate_82 : decode cX6_simulate 82 = .ok (.bipush 100, 2) := by decide +kernel
theorem dX6_simulate_84 : decode cX6_simulate 84 = .ok (.aload_n 0, 1) := by decide +kernel
theorem dX6_simulate_85 : decode cX6_simulate 85 = .ok (.getfield 17, 3) := by decide +kernel
theorem dX6_simulate_88 : decode cX6_simulate 88 = .ok (.bipush 8, 2) := by decide +kernel
theorem dX6_simulate_90 : decode cX6_simulate 90 = .ok (.laload, 1) := by decide +kernel
theorem dX6_simulate_91 : decode cX6_simulate 91 = .ok (.invokestatic 97, 3) := by decide +kernel
theorem dX6_simulate_94 : decode cX6_simulate 94 = .ok (.imul, 1) := by decide +kernel
theorem dX6_simulate_95 : decode cX6_simulate 95 = .ok (.aload_n 0, 1) := by decide +kernel
theorem dX6_simulate_96 : decode cX6_simulate 96 = .ok (.getfield 17, 3) := by decide +kernel
theorem dX6_simulate_99 : decode cX6_simulate 99 = .ok (.invokestatic 183, 3) := by decide +kernel
theorem dX6_simulate_102 : decode cX6_simulate 102 = .ok (.iadd, 1) := by decide +kernel
theorem dX6_simulate_103 : decode cX6_simulate 103 = .ok (.ireturn, 1) := by decide +kernel
set_option maxRecDepth 20000 in
theorem ggX6_save_X6_in : GoodIn wsX6_save wsX6_in := goodIn_r _ [7] (by decide +kernel) (by decide +kernel)
set_option maxRecDepth 20000 in
theorem gX6_save_X6_in : GoodIn wsX6_save (va_wsS RX6 51 yX6_in wsX6_in) := goodIn_app (goodIn_of _ (by decide +kernel)) ggX6_save_X6_in
set_option maxRecDepth 20000 in
theorem ggX6_save_X6_refused : GoodIn wsX6_save wsX6_refused := goodIn_r _ [11, 12, 16, 17, 18, 19, 20, 21, 22, 23, 24, 25, 26, 27, 28, 29, 30] (by decide +kernel) (by decide +kernel)
set_option maxRecDepth 20000 in
theorem gX6_save_X6_refused : GoodIn wsX6_save (wsV RX6 127 RX6 yX6_refused wsX6_refused) := goodIn_app (goodIn_of _ (by decide +kernel)) ggX6_save_X6_refused
set_option maxRecDepth 20000 in
theorem ggX6_save_X6_copyState : GoodIn wsX6_save wsX6_copyState := goodIn_r _ [15] (by decide +kernel) (by decide +kernel)
set_option maxRecDepth 20000 in
theorem gX6_save_X6_copyState : GoodIn wsX6_save (va_wsS RX6 174 yX6_copyState wsX6_copyState) := goodIn_app (goodIn_of _ (by decide +kernel)) ggX6_save_X6_copyState
theorem dX6_save_0 : decode cX6_save 0 = .ok (.aload_n 0, 1) := by decide +kernel
theorem dX6_save_1 : decode cX6_save 1 = .ok (.iload_n 1, 1) := by decide +kernel
theorem dX6_save_2 : decode cX6_save 2 = .ok (.i2l, 1) := by decide +kernel
theorem dX6_save_3 : decode cX6_save 3 = .ok (.lconst 0, 1) := by decide +kernel
theorem dX6_save_4 : decode cX6_save 4 = .ok (.lconst 1, 1) := by decide +kernel
theorem dX6_save_5 : decode cX6_save 5 = .ok (.invokestatic 51, 3) := by decide +kernel
theorem dX6_save_8 : decode cX6_save 8 = .ok (.ifCond .eq 7, 3) := by decide +kernel
theorem dX6_save_11 : decode cX6_save 11 = .ok (.iconst 0, 1) := by decide +kernel
theorem dX6_save_12 : decode cX6_save 12 = .ok (.goto 4, 3) := by decide +kernel
theorem dX6_save_15 : decode cX6_save 15 = .ok (.iconst 1, 1) := by decide +kernel
theorem dX6_save_16 : decode cX6_save 16 = .ok (.invokevirtual 127, 3) := by decide +kernel
theorem dX6_save_19 : decode cX6_save 19 = .ok (.ifCond .eq 5, 3) := by decide +kernel
theorem dX6_save_22 : decode cX6_save 22 = .ok (.iconst 0, 1) := by decide +kernel
theorem dX6_save_23 : decode cX6_save 23 = .ok (.ireturn, 1) := by decide +kernel
theorem dX6_save_24 : decode cX6_save 24 = .ok (.aload_n 0, 1) := by decide +kernel
theorem dX6_save_25 : decode cX6_save 25 = .ok (.getfield 13, 3) := by decide +kernel
theorem dX6_save_28 : decode cX6_save 28 = .ok (.iconst 0, 1) := by decide +kernel
theorem dX6_save_29 : decode cX6_save 29 = .ok (.aload_n 0, 1) := by decide +kernel
theorem dX6_save_30 : decode cX6_save 30 = .ok (.getfield 23, 3) := by decide +kernel
theorem dX6_save_33 : decode cX6_save 33 = .ok (.bipush 11, 2) := by decide +kernel
theorem dX6_save_35 : decode cX6_save 35 = .ok (.iload_n 1, 1) := by decide +kernel
theorem dX6_save_36 : decode cX6_save 36 = .ok (.imul, 1) := by decide +kernel
theorem dX6_save_37 : decode cX6_save 37 = .ok (.invokestatic 174, 3) := by decide +kernel
theorem dX6_save_40 : decode cX6_save 40 = .ok (.aload_n 0, 1) := by decide +kernel
theorem dX6_save_41 : decode cX6_save 41 = .ok (.getfield 26, 3) := by decide +kernel
theorem dX6_save_44 : decode cX6_save 44 = .ok (.iload_n 1, 1) := by decide +kernel
theorem dX6_save_45 : decode cX6_save 45 = .ok (.iconst 1, 1) := by decide +kernel
theorem dX6_save_46 : decode cX6_save 46 = .ok (.bastore, 1) := by decide +kernel
theorem dX6_save_47 : decode cX6_save 47 = .ok (.aload_n 0, 1) := by decide +kernel
theorem dX6_save_48 : decode cX6_save 48 = .ok (.getfield 13, 3) := by decide +kernel
theorem dX6_save_51 : decode cX6_save 51 = .ok (.iconst 3, 1) := by decide +kernel
theorem dX6_save_52 : decode cX6_save 52 = .ok (.laload, 1) := by decide +kernel
theorem dX6_save_53 : decode cX6_save 53 = .ok (.l2i, 1) := by decide +kernel
theorem dX6_save_54 : decode cX6_save 54 = .ok (.ireturn, 1) := by decide +kernel
set_option maxRecDepth 20000 in
theorem ggX6_restore_X6_in : GoodIn wsX6_restore wsX6_in := goodIn_r _ [8] (by decide +kernel) (by decide +kernel)
set_option maxRecDepth 20000 in
theorem gX6_restore_X6_in : GoodIn wsX6_restore (va_wsS RX6 51 yX6_in wsX6_in) := goodIn_app (goodIn_of _ (by decide +kernel)) ggX6_restore_X6_in
set_option maxRecDepth 20000 in
theorem ggX6_restore_X6_refused : GoodIn wsX6_restore wsX6_refused := goodIn_r _ [12, 13, 17, 18, 19, 20, 21, 22, 23, 24, 25, 26, 27, 28, 29, 30, 31] (by decide +kernel) (by decide +kernel)
set_option maxRecDepth 20000 in
theorem gX6_restore_X6_refused : GoodIn wsX6_restore (wsV RX6 127 RX6 yX6_refused wsX6_refused) := goodIn_app (goodIn_of _ (by decide +kernel)) ggX6_restore_X6_refused
set_option maxRecDepth 20000 in
theorem ggX6_restore_X6_copyState : GoodIn wsX6_restore wsX6_copyState := goodIn_r _ [16] (by decide +kernel) (by decide +kernel)
set_option maxRecDepth 20000 in
theorem gX6_restore_X6_copyState : GoodIn wsX6_restore (va_wsS RX6 174 yX6_copyState wsX6_copyState) := goodIn_app (goodIn_of _ (by decide +kernel)) ggX6_restore_X6_copyState
theorem dX6_restore_0 : decode cX6_restore 0 = .ok (.aload_n 0, 1) := by decide +kernel
theorem dX6_restore_1 : decode cX6_restore 1 = .ok (.iload_n 1, 1) := by decide +kernel
theorem dX6_restore_2 : decode cX6_restore 2 = .ok (.i2l, 1) := by decide +kernel
theorem dX6_restore_3 : decode cX6_restore 3 = .ok (.lconst 0, 1) := by decide +kernel
theorem dX6_restore_4 : decode cX6_restore 4 = .ok (.lconst 1, 1) := by decide +kernel
theorem dX6_restore_5 : decode cX6_restore 5 = .ok (.invokestatic 51, 3) := by decide +kernel
theorem dX6_restore_8 : decode cX6_restore 8 = .ok (.ifCond .ne 7, 3) := by decide +kernel
theorem dX6_restore_11 : decode cX6_restore 11 = .ok (.iconst 1, 1) := by decide +kernel
theorem dX6_restore_12 : decode cX6_restore 12 = .ok (.goto 17, 3) := by decide +kernel
theorem dX6_restore_15 : decode cX6_restore 15 = .ok (.aload_n 0, 1) := by decide +kernel
theorem dX6_restore_16 : decode cX6_restore 16 = .ok (.getfield 26, 3) := by decide +kernel
theorem dX6_restore_19 : decode cX6_restore 19 = .ok (.iload_n 1, 1) := by decide +kernel
theorem dX6_restore_20 : decode cX6_restore 20 = .ok (.baload, 1) := by decide +kernel
theorem dX6_restore_21 : decode cX6_restore 21 = .ok (.ifCond .ne 7, 3) := by decide +kernel
theorem dX6_restore_24 : decode cX6_restore 24 = .ok (.iconst 2, 1) := by decide +kernel
theorem dX6_restore_25 : decode cX6_restore 25 = .ok (.goto 4, 3) := by decide +kernel
theorem dX6_restore_28 : decode cX6_restore 28 = .ok (.iconst 0, 1) := by decide +kernel
theorem dX6_restore_29 : decode cX6_restore 29 = .ok (.invokevirtual 127, 3) := by decide +kernel
theorem dX6_restore_32 : decode cX6_restore 32 = .ok (.ifCond .eq 5, 3) := by decide +kernel
theorem dX6_restore_35 : decode cX6_restore 35 = .ok (.iconst 0, 1) := by decide +kernel
theorem dX6_restore_36 : decode cX6_restore 36 = .ok (.ireturn, 1) := by decide +kernel
theorem dX6_restore_37 : decode cX6_restore 37 = .ok (.aload_n 0, 1) := by decide +kernel
theorem dX6_restore_38 : decode cX6_restore 38 = .ok (.getfield 23, 3) := by decide +kernel
theorem dX6_restore_41 : decode cX6_restore 41 = .ok (.bipush 11, 2) := by decide +kernel
theorem dX6_restore_43 : decode cX6_restore 43 = .ok (.iload_n 1, 1) := by decide +kernel
theorem dX6_restore_44 : decode cX6_restore 44 = .ok (.imul, 1) := by decide +kernel
theorem dX6_restore_45 : decode cX6_restore 45 = .ok (.aload_n 0, 1) := by decide +kernel
theorem dX6_restore_46 : decode cX6_restore 46 = .ok (.getfield 13, 3) := by decide +kernel
theorem dX6_restore_49 : decode cX6_restore 49 = .ok (.iconst 0, 1) := by decide +kernel
theorem dX6_restore_50 : decode cX6_restore 50 = .ok (.invokestatic 174, 3) := by decide +kernel
theorem dX6_restore_53 : decode cX6_restore 53 = .ok (.aload_n 0, 1) := by decide +kernel
theorem dX6_restore_54 : decode cX6_restore 54 = .ok (.iconst 0, 1) := by decide +kernel
theorem dX6_restore_55 : decode cX6_restore 55 = .ok (.putfield 178, 3) := by decide +kernel
theorem dX6_restore_58 : decode cX6_restore 58 = .ok (.aload_n 0, 1) := by decide +kernel
theorem dX6_restore_59 : decode cX6_restore 59 = .ok (.getfield 13, 3) := by decide +kernel
theorem dX6_restore_62 : decode cX6_restore 62 = .ok (.iconst 3, 1) := by decide +kernel
theorem dX6_restore_63 : decode cX6_restore 63 = .ok (.laload, 1) := by decide +kernel
theorem dX6_restore_64 : decode cX6_restore 64 = .ok (.l2i, 1) := by decide +kernel
theorem dX6_restore_65 : decode cX6_restore 65 = .ok (.ireturn, 1) := by decide +kernel
theorem dJ13_bitCount_95d88_0 : decode cJ13_bitCount_95d88 0 = .ok (.lload_n 0, 1) := by decide +kernel
theorem dJ13_bitCount_95d88_1 : decode cJ13_bitCount_95d88 1 = .ok (.lload_n 0, 1) := by decide +kernel
theorem dJ13_bitCount_95d88_2 : decode cJ13_bitCount_95d88 2 = .ok (.iconst 1, 1) := by decide +kernel
theorem dJ13_bitCount_95d88_3 : decode cJ13_bitCount_95d88 3 = .ok (.lushr, 1) := by decide +kernel
theorem dJ13_bitCount_95d88_4 : decode cJ13_bitCount_95d88 4 = .ok (.ldc2_w 314, 3) := by decide +kernel
theorem dJ13_bitCount_95d88_7 : decode cJ13_bitCount_95d88 7 = .ok (.land, 1) := by decide +kernel
theorem dJ13_bitCount_95d88_8 : decode cJ13_bitCount_95d88 8 = .ok (.lsub, 1) := by decide +kernel
theorem dJ13_bitCount_95d88_9 : decode cJ13_bitCount_95d88 9 = .ok (.lstore_n 0, 1) := by decide +kernel
theorem dJ13_bitCount_95d88_10 : decode cJ13_bitCount_95d88 10 = .ok (.lload_n 0, 1) := by decide +kernel
theorem dJ13_bitCount_95d88_11 : decode cJ13_bitCount_95d88 11 = .ok (.ldc2_w 316, 3) := by decide +kernel
theorem dJ13_bitCount_95d88_14 : decode cJ13_bitCount_95d88 14 = .ok (.land, 1) := by decide +kernel
theorem dJ13_bitCount_95d88_15 : decode cJ13_bitCount_95d88 15 = .ok (.lload_n 0, 1) := by decide +kernel
theorem dJ13_bitCount_95d88_16 : decode cJ13_bitCount_95d88 16 = .ok (.iconst 2, 1) := by decide +kernel
theorem dJ13_bitCount_95d88_17 : decode cJ13_bitCount_95d88 17 = .ok (.lushr, 1) := by decide +kernel
theorem dJ13_bitCount_95d88_18 : decode cJ13_bitCount_95d88 18 = .ok (.ldc2_w 316, 3) := by decide +kernel
theorem dJ13_bitCount_95d88_21 : decode cJ13_bitCount_95d88 21 = .ok (.land, 1) := by decide +kernel
theorem dJ13_bitCount_95d88_22 : decode cJ13_bitCount_95d88 22 = .ok (.ladd, 1) := by decide +kernel
theorem dJ13_bitCount_95d88_23 : decode cJ13_bitCount_95d88 23 = .ok (.lstore_n 0, 1) := by decide +kernel
theorem dJ13_bitCount_95d88_24 : decode cJ13_bitCount_95d88 24 = .ok (.lload_n 0, 1) := by decide +kernel
theorem dJ13_bitCount_95d88_25 : decode cJ13_bitCount_95d88 25 = .ok (.lload_n 0, 1) := by decide +kernel
theorem dJ13_bitCount_95d88_26 : decode cJ13_bitCount_95d88 26 = .ok (.iconst 4, 1) := by decide +kernel
theorem dJ13_bitCount_95d88_27 : decode cJ13_bitCount_95d88 27 = .ok (.lushr, 1) := by decide +kernel
theorem dJ13_bitCount_95d88_28 : decode cJ13_bitCount_95d88 28 = .ok (.ladd, 1) := by decide +kernel
theorem dJ13_bitCount_95d88_29 : decode cJ13_bitCount_95d88 29 = .ok (.ldc2_w 318, 3) := by decide +kernel
theorem dJ13_bitCount_95d88_32 : decode cJ13_bitCount_95d88 32 = .ok (.land, 1) := by decide +kernel
theorem dJ13_bitCount_95d88_33 : decode cJ13_bitCount_95d88 33 = .ok (.lstore_n 0, 1) := by decide +kernel
theorem dJ13_bitCount_95d88_34 : decode cJ13_bitCount_95d88 34 = .ok (.lload_n 0, 1) := by decide +kernel
theorem dJ13_bitCount_95d88_35 : decode cJ13_bitCount_95d88 35 = .ok (.lload_n 0, 1) := by decide +kernel
theorem dJ13_bitCount_95d88_36 : decode cJ13_bitCount_95d88 36 = .ok (.bipush 8, 2) := by decide +kernel
theorem dJ13_bitCount_95d88_38 : decode cJ13_bitCount_95d88 38 = .ok (.lushr, 1) := by decide +kernel
theorem dJ13_bitCount_95d88_39 : decode cJ13_bitCount_95d88 39 = .ok (.ladd, 1) := by decide +kernel
theorem dJ13_bitCount_95d88_40 : decode cJ13_bitCount_95d88 40 = .ok (.lstore_n 0, 1) := by decide +kernel
theorem dJ13_bitCount_95d88_41 : decode cJ13_bitCount_95d88 41 = .ok (.lload_n 0, 1) := by decide +kernel
theorem dJ13_bitCount_95d88_42 : decode cJ13_bitCount_95d88 42 = .ok (.lload_n 0, 1) := by decide +kernel
theorem dJ13_bitCount_95d88_43 : decode cJ13_bitCount_95d88 43 = .ok (.bipush 16, 2) := by decide +kernel
theorem dJ13_bitCount_95d88_45 : decode cJ13_bitCount_95d88 45 = .ok (.lushr, 1) := by decide +kernel
theorem dJ13_bitCount_95d88_46 : decode cJ13_bitCount_95d88 46 = .ok (.ladd, 1) := by decide +kernel
theorem dJ13_bitCount_95d88_47 : decode cJ13_bitCount_95d88 47 = .ok (.lstore_n 0, 1) := by decide +kernel
theorem dJ13_bitCount_95d88_48 : decode cJ13_bitCount_95d88 48 = .ok (.lload_n 0, 1) := by decide +kernel
theorem dJ13_bitCount_95d88_49 : decode cJ13_bitCount_95d88 49 = .ok (.lload_n 0, 1) := by decide +kernel
theorem dJ13_bitCount_95d88_50 : decode cJ13_bitCount_95d88 50 = .ok (.bipush 32, 2) := by decide +kernel
theorem dJ13_bitCount_95d88_52 : decode cJ13_bitCount_95d88 52 = .ok (.lushr, 1) := by decide +kernel
theorem dJ13_bitCount_95d88_53 : decode cJ13_bitCount_95d88 53 = .ok (.ladd, 1) := by decide +kernel
theorem dJ13_bitCount_95d88_54 : decode cJ13_bitCount_95d88 54 = .ok (.lstore_n 0, 1) := by decide +kernel
theorem dJ13_bitCount_95d88_55 : decode cJ13_bitCount_95d88 55 = .ok (.lload_n 0, 1) := by decide +kernel
theorem dJ13_bitCount_95d88_56 : decode cJ13_bitCount_95d88 56 = .ok (.l2i, 1) := by decide +kernel
theorem dJ13_bitCount_95d88_57 : decode cJ13_bitCount_95d88 57 = .ok (.bipush 127, 2) := by decide +kernel
theorem dJ13_bitCount_95d88_59 : decode cJ13_bitCount_95d88 59 = .ok (.iand, 1) := by decide +kernel
theorem dJ13_bitCount_95d88_60 : decode cJ13_bitCount_95d88 60 = .ok (.ireturn, 1) := by decide +kernel
theorem dJ9_max_7cf53_0 : decode cJ9_max_7cf53 0 = .ok (.iload_n 0, 1) := by decide +kernel
theorem dJ9_max_7cf53_1 : decode cJ9_max_7cf53 1 = .ok (.iload_n 1, 1) := by decide +kernel
theorem dJ9_max_7cf53_2 : decode cJ9_max_7cf53 2 = .ok (.if_icmp .lt 7, 3) := by decide +kernel
theorem dJ9_max_7cf53_5 : decode cJ9_max_7cf53 5 = .ok (.iload_n 0, 1) := by decide +kernel
theorem dJ9_max_7cf53_6 : decode cJ9_max_7cf53 6 = .ok (.goto 4, 3) := by decide +kernel
theorem dJ9_max_7cf53_9 : decode cJ9_max_7cf53 9 = .ok (.iload_n 1, 1) := by decide +kernel
theorem dJ9_max_7cf53_10 : decode cJ9_max_7cf53 10 = .ok (.ireturn, 1) := by decide +kernel
theorem dJ9_min_7cf53_0 : decode cJ9_min_7cf53 0 = .ok (.iload_n 0, 1) := by decide +kernel
theorem dJ9_min_7cf53_1 : decode cJ9_min_7cf53 1 = .ok (.iload_n 1, 1) := by decide +kernel
theorem dJ9_min_7cf53_2 : decode cJ9_min_7cf53 2 = .ok (.if_icmp .gt 7, 3) := by decide +kernel
theorem dJ9_min_7cf53_5 : decode cJ9_min_7cf53 5 = .ok (.iload_n 0, 1) := by decide +kernel
theorem dJ9_min_7cf53_6 : decode cJ9_min_7cf53 6 = .ok (.goto 4, 3) := by decide +kernel
theorem dJ9_min_7cf53_9 : decode cJ9_min_7cf53 9 = .ok (.iload_n 1, 1) := by decide +kernel
theorem dJ9_min_7cf53_10 : decode cJ9_min_7cf53 10 = .ok (.ireturn, 1) := by decide +kernel
