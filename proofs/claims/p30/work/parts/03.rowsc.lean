set_option maxRecDepth 20000 in
theorem ggX0_solve_X0_write : GoodIn wsX0_solve wsX0_write := goodIn_r _ [7, 8, 9, 10, 11, 12, 2, 13, 14, 15, 16, 17, 18, 19, 20, 21, 22, 23, 24, 25, 26, 27, 28, 29, 30, 31, 32, 33, 34, 35, 36, 37, 38, 39, 40, 41, 42, 43, 44, 45, 46, 47, 48, 49, 50, 51, 52, 53, 54, 55, 56, 57, 58, 59, 60, 61, 62, 63, 64, 65, 66, 82, 83, 84, 85, 86, 87, 88, 89, 90, 91, 92, 93, 94, 95, 96, 97] (by decide +kernel) (by decide +kernel)
set_option maxRecDepth 20000 in
theorem gX0_solve_X0_write : GoodIn wsX0_solve (wsV RX0 15 RX0 yX0_write wsX0_write) := goodIn_app (goodIn_of _ (by decide +kernel)) ggX0_solve_X0_write
set_option maxRecDepth 20000 in
theorem ggX0_solve_X0_unusedWith : GoodIn wsX0_solve wsX0_unusedWith := goodIn_r _ [70, 2, 1, 71, 72, 73, 74, 75, 76, 6, 77, 8, 82, 83, 84, 85] (by decide +kernel) (by decide +kernel)
set_option maxRecDepth 20000 in
theorem gX0_solve_X0_unusedWith : GoodIn wsX0_solve (wsV RX0 27 RX0 yX0_unusedWith wsX0_unusedWith) := goodIn_app (goodIn_of _ (by decide +kernel)) ggX0_solve_X0_unusedWith
set_option maxRecDepth 20000 in
theorem ggX0_solve_X0_takeOutOfOthers : GoodIn wsX0_solve wsX0_takeOutOfOthers := goodIn_r _ [81, 14, 2, 8, 74, 75, 76, 6, 77, 71, 72, 73, 82, 83, 84, 85] (by decide +kernel) (by decide +kernel)
set_option maxRecDepth 20000 in
theorem gX0_solve_X0_takeOutOfOthers : GoodIn wsX0_solve (wsV RX0 31 RX0 yX0_takeOutOfOthers wsX0_takeOutOfOthers) := goodIn_app (goodIn_of _ (by decide +kernel)) ggX0_solve_X0_takeOutOfOthers
theorem dX0_solve_0 : decode cX0_solve 0 = .ok (.aload_n 0, 1) := by decide +kernel
theorem dX0_solve_1 : decode cX0_solve 1 = .ok (.aload_n 1, 1) := by decide +kernel
theorem dX0_solve_2 : decode cX0_solve 2 = .ok (.invokevirtual 15, 3) := by decide +kernel
theorem dX0_solve_5 : decode cX0_solve 5 = .ok (.aload_n 0, 1) := by decide +kernel
theorem dX0_solve_6 : decode cX0_solve 6 = .ok (.lconst 0, 1) := by decide +kernel
theorem dX0_solve_7 : decode cX0_solve 7 = .ok (.putfield 19, 3) := by decide +kernel
theorem dX0_solve_10 : decode cX0_solve 10 = .ok (.iconst 0, 1) := by decide +kernel
theorem dX0_solve_11 : decode cX0_solve 11 = .ok (.istore_n 2, 1) := by decide +kernel
theorem dX0_solve_12 : decode cX0_solve 12 = .ok (.iload_n 2, 1) := by decide +kernel
theorem dX0_solve_13 : decode cX0_solve 13 = .ok (.aload_n 0, 1) := by decide +kernel
theorem dX0_solve_14 : decode cX0_solve 14 = .ok (.getfield 23, 3) := by decide +kernel
theorem dX0_solve_17 : decode cX0_solve 17 = .ok (.if_icmp .ge 38, 3) := by decide +kernel
theorem dX0_solve_20 : decode cX0_solve 20 = .ok (.aload_n 0, 1) := by decide +kernel
theorem dX0_solve_21 : decode cX0_solve 21 = .ok (.iload_n 2, 1) := by decide +kernel
theorem dX0_solve_22 : decode cX0_solve 22 = .ok (.invokevirtual 27, 3) := by decide +kernel
theorem dX0_solve_25 : decode cX0_solve 25 = .ok (.istore_n 3, 1) := by decide +kernel
theorem dX0_solve_26 : decode cX0_solve 26 = .ok (.iload_n 3, 1) := by decide +kernel
theorem dX0_solve_27 : decode cX0_solve 27 = .ok (.iconst (-1), 1) := by decide +kernel
theorem dX0_solve_28 : decode cX0_solve 28 = .ok (.if_icmp .eq 21, 3) := by decide +kernel
theorem dX0_solve_31 : decode cX0_solve 31 = .ok (.aload_n 0, 1) := by decide +kernel
theorem dX0_solve_32 : decode cX0_solve 32 = .ok (.dup, 1) := by decide +kernel
theorem dX0_solve_33 : decode cX0_solve 33 = .ok (.getfield 19, 3) := by decide +kernel
theorem dX0_solve_36 : decode cX0_solve 36 = .ok (.lconst 1, 1) := by decide +kernel
theorem dX0_solve_37 : decode cX0_solve 37 = .ok (.iload_n 3, 1) := by decide +kernel
theorem dX0_solve_38 : decode cX0_solve 38 = .ok (.lshl, 1) := by decide +kernel
theorem dX0_solve_39 : decode cX0_solve 39 = .ok (.lor, 1) := by decide +kernel
theorem dX0_solve_40 : decode cX0_solve 40 = .ok (.putfield 19, 3) := by decide +kernel
theorem dX0_solve_43 : decode cX0_solve 43 = .ok (.aload_n 0, 1) := by decide +kernel
theorem dX0_solve_44 : decode cX0_solve 44 = .ok (.iload_n 2, 1) := by decide +kernel
theorem dX0_solve_45 : decode cX0_solve 45 = .ok (.iload_n 3, 1) := by decide +kernel
theorem dX0_solve_46 : decode cX0_solve 46 = .ok (.invokevirtual 31, 3) := by decide +kernel
theorem dX0_solve_49 : decode cX0_solve 49 = .ok (.iinc 2 1, 3) := by decide +kernel
theorem dX0_solve_52 : decode cX0_solve 52 = .ok (.goto (-40), 3) := by decide +kernel
theorem dX0_solve_55 : decode cX0_solve 55 = .ok (.return_, 1) := by decide +kernel
set_option maxRecDepth 20000 in
theorem ggX0_write_X4_after : GoodIn wsX0_write wsX4_after := goodIn_r _ [13, 14, 15, 16, 17, 12, 18, 19, 20, 21, 22, 23, 24, 25, 26, 27, 28, 29, 30, 31, 32, 33, 34, 35, 36, 37, 38, 39, 40, 41, 42, 43, 44, 45, 46, 47, 48, 49, 50, 51, 52, 53, 54, 55, 56, 65, 66, 67, 68, 69, 70, 71, 72, 73, 74, 75, 76] (by decide +kernel) (by decide +kernel)
set_option maxRecDepth 20000 in
theorem gX0_write_X4_after : GoodIn wsX0_write (wsV RX0 35 RX4 yX4_after wsX4_after) := goodIn_app (goodIn_of _ (by decide +kernel)) ggX0_write_X4_after
set_option maxRecDepth 20000 in
theorem ggX0_write_X4_count : GoodIn wsX0_write wsX4_count := goodIn_r _ [60, 37, 36, 65, 66, 67, 68, 69, 70, 71, 72, 73, 74, 75, 76] (by decide +kernel) (by decide +kernel)
set_option maxRecDepth 20000 in
theorem gX0_write_X4_count : GoodIn wsX0_write (wsV RX0 41 RX4 yX4_count wsX4_count) := goodIn_app (goodIn_of _ (by decide +kernel)) ggX0_write_X4_count
theorem dX0_write_0 : decode cX0_write 0 = .ok (.aload_n 1, 1) := by decide +kernel
theorem dX0_write_1 : decode cX0_write 1 = .ok (.lconst 0, 1) := by decide +kernel
theorem dX0_write_2 : decode cX0_write 2 = .ok (.invokevirtual 35, 3) := by decide +kernel
theorem dX0_write_5 : decode cX0_write 5 = .ok (.lstore_n 2, 1) := by decide +kernel
theorem dX0_write_6 : decode cX0_write 6 = .ok (.aload_n 0, 1) := by decide +kernel
theorem dX0_write_7 : decode cX0_write 7 = .ok (.aload_n 1, 1) := by decide +kernel
theorem dX0_write_8 : decode cX0_write 8 = .ok (.invokevirtual 41, 3) := by decide +kernel
theorem dX0_write_11 : decode cX0_write 11 = .ok (.aload_n 0, 1) := by decide +kernel
theorem dX0_write_12 : decode cX0_write 12 = .ok (.getfield 9, 3) := by decide +kernel
theorem dX0_write_15 : decode cX0_write 15 = .ok (.arraylength, 1) := by decide +kernel
theorem dX0_write_16 : decode cX0_write 16 = .ok (.invokestatic 44, 3) := by decide +kernel
theorem dX0_write_19 : decode cX0_write 19 = .ok (.putfield 23, 3) := by decide +kernel
theorem dX0_write_22 : decode cX0_write 22 = .ok (.aload_n 0, 1) := by decide +kernel
theorem dX0_write_23 : decode cX0_write 23 = .ok (.aload_n 1, 1) := by decide +kernel
theorem dX0_write_24 : decode cX0_write 24 = .ok (.getfield 50, 3) := by decide +kernel
theorem dX0_write_27 : decode cX0_write 27 = .ok (.lload_n 2, 1) := by decide +kernel
theorem dX0_write_28 : decode cX0_write 28 = .ok (.lxor, 1) := by decide +kernel
theorem dX0_write_29 : decode cX0_write 29 = .ok (.putfield 53, 3) := by decide +kernel
theorem dX0_write_32 : decode cX0_write 32 = .ok (.iconst 0, 1) := by decide +kernel
theorem dX0_write_33 : decode cX0_write 33 = .ok (.istore 4, 2) := by decide +kernel
theorem dX0_write_35 : decode cX0_write 35 = .ok (.iload 4, 2) := by decide +kernel
theorem dX0_write_37 : decode cX0_write 37 = .ok (.aload_n 0, 1) := by decide +kernel
theorem dX0_write_38 : decode cX0_write 38 = .ok (.getfield 23, 3) := by decide +kernel
theorem dX0_write_41 : decode cX0_write 41 = .ok (.if_icmp .ge 36, 3) := by decide +kernel
theorem dX0_write_44 : decode cX0_write 44 = .ok (.iload 4, 2) := by decide +kernel
theorem dX0_write_46 : decode cX0_write 46 = .ok (.aload_n 0, 1) := by decide +kernel
theorem dX0_write_47 : decode cX0_write 47 = .ok (.getfield 9, 3) := by decide +kernel
theorem dX0_write_50 : decode cX0_write 50 = .ok (.arraylength, 1) := by decide +kernel
theorem dX0_write_51 : decode cX0_write 51 = .ok (.if_icmp .ge 26, 3) := by decide +kernel
theorem dX0_write_54 : decode cX0_write 54 = .ok (.aload_n 0, 1) := by decide +kernel
theorem dX0_write_55 : decode cX0_write 55 = .ok (.getfield 9, 3) := by decide +kernel
theorem dX0_write_58 : decode cX0_write 58 = .ok (.iload 4, 2) := by decide +kernel
theorem dX0_write_60 : decode cX0_write 60 = .ok (.aload_n 1, 1) := by decide +kernel
theorem dX0_write_61 : decode cX0_write 61 = .ok (.lconst 1, 1) := by decide +kernel
theorem dX0_write_62 : decode cX0_write 62 = .ok (.iload 4, 2) := by decide +kernel
theorem dX0_write_64 : decode cX0_write 64 = .ok (.lshl, 1) := by decide +kernel
theorem dX0_write_65 : decode cX0_write 65 = .ok (.invokevirtual 35, 3) := by decide +kernel
theorem dX0_write_68 : decode cX0_write 68 = .ok (.lload_n 2, 1) := by decide +kernel
theorem dX0_write_69 : decode cX0_write 69 = .ok (.lxor, 1) := by decide +kernel
theorem dX0_write_70 : decode cX0_write 70 = .ok (.lastore, 1) := by decide +kernel
theorem dX0_write_71 : decode cX0_write 71 = .ok (.iinc 4 1, 3) := by decide +kernel
theorem dX0_write_74 : decode cX0_write 74 = .ok (.goto (-39), 3) := by decide +kernel
theorem dX0_write_77 : decode cX0_write 77 = .ok (.return_, 1) := by decide +kernel
set_option maxRecDepth 20000 in
theorem ggX0_unusedWith_X5_holds : GoodIn wsX0_unusedWith wsX5_holds := goodIn_r _ [5] (by decide +kernel) (by decide +kernel)
set_option maxRecDepth 20000 in
theorem gX0_unusedWith_X5_holds_n56 : GoodIn wsX0_unusedWith (wsX5_holds) := ggX0_unusedWith_X5_holds
set_option maxRecDepth 20000 in
theorem ggX0_unusedWith_X0_term : GoodIn wsX0_unusedWith wsX0_term := goodIn_r _ [10, 11, 12, 13, 14, 15] (by decide +kernel) (by decide +kernel)
set_option maxRecDepth 20000 in
theorem gX0_unusedWith_X0_term : GoodIn wsX0_unusedWith (wsV RX0 60 RX0 yX0_term wsX0_term) := goodIn_app (goodIn_of _ (by decide +kernel)) ggX0_unusedWith_X0_term
theorem dX0_unusedWith_0 : decode cX0_unusedWith 0 = .ok (.iconst 0, 1) := by decide +kernel
theorem dX0_unusedWith_1 : decode cX0_unusedWith 1 = .ok (.istore_n 2, 1) := by decide +kernel
theorem dX0_unusedWith_2 : decode cX0_unusedWith 2 = .ok (.iload_n 2, 1) := by decide +kernel
theorem dX0_unusedWith_3 : decode cX0_unusedWith 3 = .ok (.aload_n 0, 1) := by decide +kernel
theorem dX0_unusedWith_4 : decode cX0_unusedWith 4 = .ok (.getfield 23, 3) := by decide +kernel
theorem dX0_unusedWith_7 : decode cX0_unusedWith 7 = .ok (.if_icmp .ge 34, 3) := by decide +kernel
theorem dX0_unusedWith_10 : decode cX0_unusedWith 10 = .ok (.aload_n 0, 1) := by decide +kernel
theorem dX0_unusedWith_11 : decode cX0_unusedWith 11 = .ok (.getfield 19, 3) := by decide +kernel
theorem dX0_unusedWith_14 : decode cX0_unusedWith 14 = .ok (.iload_n 2, 1) := by decide +kernel
theorem dX0_unusedWith_15 : decode cX0_unusedWith 15 = .ok (.invokestatic 56, 3) := by decide +kernel
theorem dX0_unusedWith_18 : decode cX0_unusedWith 18 = .ok (.ifCond .ne 17, 3) := by decide +kernel
theorem dX0_unusedWith_21 : decode cX0_unusedWith 21 = .ok (.aload_n 0, 1) := by decide +kernel
theorem dX0_unusedWith_22 : decode cX0_unusedWith 22 = .ok (.iload_n 2, 1) := by decide +kernel
theorem dX0_unusedWith_23 : decode cX0_unusedWith 23 = .ok (.invokevirtual 60, 3) := by decide +kernel
theorem dX0_unusedWith_26 : decode cX0_unusedWith 26 = .ok (.iload_n 1, 1) := by decide +kernel
theorem dX0_unusedWith_27 : decode cX0_unusedWith 27 = .ok (.invokestatic 56, 3) := by decide +kernel
theorem dX0_unusedWith_30 : decode cX0_unusedWith 30 = .ok (.ifCond .eq 5, 3) := by decide +kernel
theorem dX0_unusedWith_33 : decode cX0_unusedWith 33 = .ok (.iload_n 2, 1) := by decide +kernel
theorem dX0_unusedWith_34 : decode cX0_unusedWith 34 = .ok (.ireturn, 1) := by decide +kernel
theorem dX0_unusedWith_35 : decode cX0_unusedWith 35 = .ok (.iinc 2 1, 3) := by decide +kernel
theorem dX0_unusedWith_38 : decode cX0_unusedWith 38 = .ok (.goto (-36), 3) := by decide +kernel
theorem dX0_unusedWith_41 : decode cX0_unusedWith 41 = .ok (.iconst (-1), 1) := by decide +kernel
theorem dX0_unusedWith_42 : decode cX0_unusedWith 42 = .ok (.ireturn, 1) := by decide +kernel
set_option maxRecDepth 20000 in
theorem ggX0_takeOutOfOthers_X0_term : GoodIn wsX0_takeOutOfOthers wsX0_term := goodIn_r _ [8, 3, 12, 13, 14, 15] (by decide +kernel) (by decide +kernel)
set_option maxRecDepth 20000 in
theorem gX0_takeOutOfOthers_X0_term : GoodIn wsX0_takeOutOfOthers (wsV RX0 60 RX0 yX0_term wsX0_term) := goodIn_app (goodIn_of _ (by decide +kernel)) ggX0_takeOutOfOthers_X0_term
set_option maxRecDepth 20000 in
theorem ggX0_takeOutOfOthers_X5_holds : GoodIn wsX0_takeOutOfOthers wsX5_holds := goodIn_r _ [11] (by decide +kernel) (by decide +kernel)
set_option maxRecDepth 20000 in
theorem gX0_takeOutOfOthers_X5_holds_n56 : GoodIn wsX0_takeOutOfOthers (wsX5_holds) := ggX0_takeOutOfOthers_X5_holds
theorem dX0_takeOutOfOthers_0 : decode cX0_takeOutOfOthers 0 = .ok (.aload_n 0, 1) := by decide +kernel
theorem dX0_takeOutOfOthers_1 : decode cX0_takeOutOfOthers 1 = .ok (.iload_n 2, 1) := by decide +kernel
theorem dX0_takeOutOfOthers_2 : decode cX0_takeOutOfOthers 2 = .ok (.invokevirtual 60, 3) := by decide +kernel
theorem dX0_takeOutOfOthers_5 : decode cX0_takeOutOfOthers 5 = .ok (.lstore_n 3, 1) := by decide +kernel
theorem dX0_takeOutOfOthers_6 : decode cX0_takeOutOfOthers 6 = .ok (.aload_n 0, 1) := by decide +kernel
theorem dX0_takeOutOfOthers_7 : decode cX0_takeOutOfOthers 7 = .ok (.getfield 53, 3) := by decide +kernel
theorem dX0_takeOutOfOthers_10 : decode cX0_takeOutOfOthers 10 = .ok (.iload_n 2, 1) := by decide +kernel
theorem dX0_takeOutOfOthers_11 : decode cX0_takeOutOfOthers 11 = .ok (.invokestatic 56, 3) := by decide +kernel
theorem dX0_takeOutOfOthers_14 : decode cX0_takeOutOfOthers 14 = .ok (.istore 5, 2) := by decide +kernel
theorem dX0_takeOutOfOthers_16 : decode cX0_takeOutOfOthers 16 = .ok (.iconst 0, 1) := by decide +kernel
theorem dX0_takeOutOfOthers_17 : decode cX0_takeOutOfOthers 17 = .ok (.istore 6, 2) := by decide +kernel
theorem dX0_takeOutOfOthers_19 : decode cX0_takeOutOfOthers 19 = .ok (.iload 6, 2) := by decide +kernel
theorem dX0_takeOutOfOthers_21 : decode cX0_takeOutOfOthers 21 = .ok (.aload_n 0, 1) := by decide +kernel
theorem dX0_takeOutOfOthers_22 : decode cX0_takeOutOfOthers 22 = .ok (.getfield 23, 3) := by decide +kernel
theorem dX0_takeOutOfOthers_25 : decode cX0_takeOutOfOthers 25 = .ok (.if_icmp .ge 72, 3) := by decide +kernel
theorem dX0_takeOutOfOthers_28 : decode cX0_takeOutOfOthers 28 = .ok (.iload 6, 2) := by decide +kernel
theorem dX0_takeOutOfOthers_30 : decode cX0_takeOutOfOthers 30 = .ok (.aload_n 0, 1) := by decide +kernel
theorem dX0_takeOutOfOthers_31 : decode cX0_takeOutOfOthers 31 = .ok (.getfield 9, 3) := by decide +kernel
theorem dX0_takeOutOfOthers_34 : decode cX0_takeOutOfOthers 34 = .ok (.arraylength, 1) := by decide +kernel
theorem dX0_takeOutOfOthers_35 : decode cX0_takeOutOfOthers 35 = .ok (.if_icmp .ge 62, 3) := by decide +kernel
theorem dX0_takeOutOfOthers_38 : decode cX0_takeOutOfOthers 38 = .ok (.iload 6, 2) := by decide +kernel
theorem dX0_takeOutOfOthers_40 : decode cX0_takeOutOfOthers 40 = .ok (.iload_n 2, 1) := by decide +kernel
theorem dX0_takeOutOfOthers_41 : decode cX0_takeOutOfOthers 41 = .ok (.if_icmp .eq 50, 3) := by decide +kernel
theorem dX0_takeOutOfOthers_44 : decode cX0_takeOutOfOthers 44 = .ok (.aload_n 0, 1) := by decide +kernel
theorem dX0_takeOutOfOthers_45 : decode cX0_takeOutOfOthers 45 = .ok (.getfield 9, 3) := by decide +kernel
theorem dX0_takeOutOfOthers_48 : decode cX0_takeOutOfOthers 48 = .ok (.iload 6, 2) := by decide +kernel
theorem dX0_takeOutOfOthers_50 : decode cX0_takeOutOfOthers 50 = .ok (.laload, 1) := by decide +kernel
theorem dX0_takeOutOfOthers_51 : decode cX0_takeOutOfOthers 51 = .ok (.iload_n 1, 1) := by decide +kernel
theorem dX0_takeOutOfOthers_52 : decode cX0_takeOutOfOthers 52 = .ok (.invokestatic 56, 3) := by decide +kernel
theorem dX0_takeOutOfOthers_55 : decode cX0_takeOutOfOthers 55 = .ok (.ifCond .eq 36, 3) := by decide +kernel
theorem dX0_takeOutOfOthers_58 : decode cX0_takeOutOfOthers 58 = .ok (.aload_n 0, 1) := by decide +kernel
theorem dX0_takeOutOfOthers_59 : decode cX0_takeOutOfOthers 59 = .ok (.getfield 9, 3) := by decide +kernel
theorem dX0_takeOutOfOthers_62 : decode cX0_takeOutOfOthers 62 = .ok (.iload 6, 2) := by decide +kernel
theorem dX0_takeOutOfOthers_64 : decode cX0_takeOutOfOthers 64 = .ok (.dup2, 1) := by decide +kernel
theorem dX0_takeOutOfOthers_65 : decode cX0_takeOutOfOthers 65 = .ok (.laload, 1) := by decide +kernel
theorem dX0_takeOutOfOthers_66 : decode cX0_takeOutOfOthers 66 = .ok (.lload_n 3, 1) := by decide +kernel
theorem dX0_takeOutOfOthers_67 : decode cX0_takeOutOfOthers 67 = .ok (.lxor, 1) := by decide +kernel
theorem dX0_takeOutOfOthers_68 : decode cX0_takeOutOfOthers 68 = .ok (.lastore, 1) := by decide +kernel
theorem dX0_takeOutOfOthers_69 : decode cX0_takeOutOfOthers 69 = .ok (.aload_n 0, 1) := by decide +kernel
theorem dX0_takeOutOfOthers_70 : decode cX0_takeOutOfOthers 70 = .ok (.dup, 1) := by decide +kernel
theorem dX0_takeOutOfOthers_71 : decode cX0_takeOutOfOthers 71 = .ok (.getfield 53, 3) := by decide +kernel
theorem dX0_takeOutOfOthers_74 : decode cX0_takeOutOfOthers 74 = .ok (.iload 5, 2) := by decide +kernel
theorem dX0_takeOutOfOthers_76 : decode cX0_takeOutOfOthers 76 = .ok (.ifCond .eq 10, 3) := by decide +kernel
theorem dX0_takeOutOfOthers_79 : decode cX0_takeOutOfOthers 79 = .ok (.lconst 1, 1) := by decide +kernel
theorem dX0_takeOutOfOthers_80 : decode cX0_takeOutOfOthers 80 = .ok (.iload 6, 2) := by decide +kernel
theorem dX0_takeOutOfOthers_82 : decode cX0_takeOutOfOthers 82 = .ok (.lshl, 1) := by decide +kernel
theorem dX0_takeOutOfOthers_83 : decode cX0_takeOutOfOthers 83 = .ok (.goto 4, 3) := by decide +kernel
theorem dX0_takeOutOfOthers_86 : decode cX0_takeOutOfOthers 86 = .ok (.lconst 0, 1) := by decide +kernel
theorem dX0_takeOutOfOthers_87 : decode cX0_takeOutOfOthers 87 = .ok (.lxor, 1) := by decide +kernel
theorem dX0_takeOutOfOthers_88 : decode cX0_takeOutOfOthers 88 = .ok (.putfield 53, 3) := by decide +kernel
theorem dX0_takeOutOfOthers_91 : decode cX0_takeOutOfOthers 91 = .ok (.iinc 6 1, 3) := by decide +kernel
theorem dX0_takeOutOfOthers_94 : decode cX0_takeOutOfOthers 94 = .ok (.goto (-75), 3) := by decide +kernel
theorem dX0_takeOutOfOthers_97 : decode cX0_takeOutOfOthers 97 = .ok (.return_, 1) := by decide +kernel
theorem dX0_term_0 : decode cX0_term 0 = .ok (.iload_n 1, 1) := by decide +kernel
theorem dX0_term_1 : decode cX0_term 1 = .ok (.ifCond .lt 21, 3) := by decide +kernel
theorem dX0_term_4 : decode cX0_term 4 = .ok (.iload_n 1, 1) := by decide +kernel
theorem dX0_term_5 : decode cX0_term 5 = .ok (.aload_n 0, 1) := by decide +kernel
theorem dX0_term_6 : decode cX0_term 6 = .ok (.getfield 9, 3) := by decide +kernel
theorem dX0_term_9 : decode cX0_term 9 = .ok (.arraylength, 1) := by decide +kernel
theorem dX0_term_10 : decode cX0_term 10 = .ok (.if_icmp .ge 12, 3) := by decide +kernel
theorem dX0_term_13 : decode cX0_term 13 = .ok (.aload_n 0, 1) := by decide +kernel
theorem dX0_term_14 : decode cX0_term 14 = .ok (.getfield 9, 3) := by decide +kernel
theorem dX0_term_17 : decode cX0_term 17 = .ok (.iload_n 1, 1) := by decide +kernel
theorem dX0_term_18 : decode cX0_term 18 = .ok (.laload, 1) := by decide +kernel
theorem dX0_term_19 : decode cX0_term 19 = .ok (.goto 4, 3) := by decide +kernel
theorem dX0_term_22 : decode cX0_term 22 = .ok (.lconst 0, 1) := by decide +kernel
theorem dX0_term_23 : decode cX0_term 23 = .ok (.lreturn, 1) := by decide +kernel
theorem dX0_isSolved_0 : decode cX0_isSolved 0 = .ok (.aload_n 0, 1) := by decide +kernel
theorem dX0_isSolved_1 : decode cX0_isSolved 1 = .ok (.getfield 53, 3) := by decide +kernel
theorem dX0_isSolved_4 : decode cX0_isSolved 4 = .ok (.aload_n 0, 1) := by decide +kernel
theorem dX0_isSolved_5 : decode cX0_isSolved 5 = .ok (.getfield 19, 3) := by decide +kernel
theorem dX0_isSolved_8 : decode cX0_isSolved 8 = .ok (.ldc2_w 64, 3) := by decide +kernel
theorem dX0_isSolved_11 : decode cX0_isSolved 11 = .ok (.lxor, 1) := by decide +kernel
theorem dX0_isSolved_12 : decode cX0_isSolved 12 = .ok (.land, 1) := by decide +kernel
theorem dX0_isSolved_13 : decode cX0_isSolved 13 = .ok (.lconst 0, 1) := by decide +kernel
theorem dX0_isSolved_14 : decode cX0_isSolved 14 = .ok (.lcmp, 1) := by decide +kernel
theorem dX0_isSolved_15 : decode cX0_isSolved 15 = .ok (.ifCond .ne 7, 3) := by decide +kernel
theorem dX0_isSolved_18 : decode cX0_isSolved 18 = .ok (.iconst 1, 1) := by decide +kernel
theorem dX0_isSolved_19 : decode cX0_isSolved 19 = .ok (.goto 4, 3) := by decide +kernel
theorem dX0_isSolved_22 : decode cX0_isSolved 22 = .ok (.iconst 0, 1) := by decide +kernel
theorem dX0_isSolved_23 : decode cX0_isSolved 23 = .ok (.ireturn, 1) := by decide +kernel
set_option maxRecDepth 20000 in
theorem ggX0_free_J13_bitCount_95d88 : GoodIn wsX0_free wsJ13_bitCount_95d88 := goodIn_r _ [6, 7, 8, 9] (by decide +kernel) (by decide +kernel)
set_option maxRecDepth 20000 in
theorem gX0_free_J13_bitCount_95d88 : GoodIn wsX0_free (va_wsS RX0 66 yJ13_bitCount_95d88 wsJ13_bitCount_95d88) := goodIn_app (goodIn_of _ (by decide +kernel)) ggX0_free_J13_bitCount_95d88
theorem dX0_free_0 : decode cX0_free 0 = .ok (.aload_n 0, 1) := by decide +kernel
theorem dX0_free_1 : decode cX0_free 1 = .ok (.getfield 23, 3) := by decide +kernel
theorem dX0_free_4 : decode cX0_free 4 = .ok (.aload_n 0, 1) := by decide +kernel
theorem dX0_free_5 : decode cX0_free 5 = .ok (.getfield 19, 3) := by decide +kernel
theorem dX0_free_8 : decode cX0_free 8 = .ok (.invokestatic 66, 3) := by decide +kernel
theorem dX0_free_11 : decode cX0_free 11 = .ok (.isub, 1) := by decide +kernel
theorem dX0_free_12 : decode cX0_free 12 = .ok (.ireturn, 1) := by decide +kernel
set_option maxRecDepth 20000 in
theorem ggX0_leastSolution_X5_holds : GoodIn wsX0_leastSolution wsX5_holds := goodIn_r _ [6] (by decide +kernel) (by decide +kernel)
set_option maxRecDepth 20000 in
theorem gX0_leastSolution_X5_holds_n56 : GoodIn wsX0_leastSolution (wsX5_holds) := ggX0_leastSolution_X5_holds
set_option maxRecDepth 20000 in
theorem ggX0_leastSolution_X0_term : GoodIn wsX0_leastSolution wsX0_term := goodIn_r _ [11, 12, 13, 14, 15, 16] (by decide +kernel) (by decide +kernel)
set_option maxRecDepth 20000 in
theorem gX0_leastSolution_X0_term : GoodIn wsX0_leastSolution (wsV RX0 60 RX0 yX0_term wsX0_term) := goodIn_app (goodIn_of _ (by decide +kernel)) ggX0_leastSolution_X0_term
theorem dX0_leastSolution_0 : decode cX0_leastSolution 0 = .ok (.lconst 0, 1) := by decide +kernel
theorem dX0_leastSolution_1 : decode cX0_leastSolution 1 = .ok (.lstore_n 1, 1) := by decide +kernel
theorem dX0_leastSolution_2 : decode cX0_leastSolution 2 = .ok (.iconst 0, 1) := by decide +kernel
theorem dX0_leastSolution_3 : decode cX0_leastSolution 3 = .ok (.istore_n 3, 1) := by decide +kernel
theorem dX0_leastSolution_4 : decode cX0_leastSolution 4 = .ok (.iload_n 3, 1) := by decide +kernel
theorem dX0_leastSolution_5 : decode cX0_leastSolution 5 = .ok (.aload_n 0, 1) := by decide +kernel
theorem dX0_leastSolution_6 : decode cX0_leastSolution 6 = .ok (.getfield 23, 3) := by decide +kernel
theorem dX0_leastSolution_9 : decode cX0_leastSolution 9 = .ok (.if_icmp .ge 40, 3) := by decide +kernel
theorem dX0_leastSolution_12 : decode cX0_leastSolution 12 = .ok (.aload_n 0, 1) := by decide +kernel
theorem dX0_leastSolution_13 : decode cX0_leastSolution 13 = .ok (.getfield 19, 3) := by decide +kernel
theorem dX0_leastSolution_16 : decode cX0_leastSolution 16 = .ok (.aload_n 0, 1) := by decide +kernel
theorem dX0_leastSolution_17 : decode cX0_leastSolution 17 = .ok (.getfield 53, 3) := by decide +kernel
theorem dX0_leastSolution_20 : decode cX0_leastSolution 20 = .ok (.land, 1) := by decide +kernel
theorem dX0_leastSolution_21 : decode cX0_leastSolution 21 = .ok (.iload_n 3, 1) := by decide +kernel
theorem dX0_leastSolution_22 : decode cX0_leastSolution 22 = .ok (.invokestatic 56, 3) := by decide +kernel
theorem dX0_leastSolution_25 : decode cX0_leastSolution 25 = .ok (.ifCond .eq 18, 3) := by decide +kernel
theorem dX0_leastSolution_28 : decode cX0_leastSolution 28 = .ok (.lload_n 1, 1) := by decide +kernel
theorem dX0_leastSolution_29 : decode cX0_leastSolution 29 = .ok (.aload_n 0, 1) := by decide +kernel
theorem dX0_leastSolution_30 : decode cX0_leastSolution 30 = .ok (.iload_n 3, 1) := by decide +kernel
theorem dX0_leastSolution_31 : decode cX0_leastSolution 31 = .ok (.invokevirtual 60, 3) := by decide +kernel
theorem dX0_leastSolution_34 : decode cX0_leastSolution 34 = .ok (.aload_n 0, 1) := by decide +kernel
theorem dX0_leastSolution_35 : decode cX0_leastSolution 35 = .ok (.iload_n 3, 1) := by decide +kernel
theorem dX0_leastSolution_36 : decode cX0_leastSolution 36 = .ok (.invokevirtual 60, 3) := by decide +kernel
theorem dX0_leastSolution_39 : decode cX0_leastSolution 39 = .ok (.lneg, 1) := by decide +kernel
theorem dX0_leastSolution_40 : decode cX0_leastSolution 40 = .ok (.land, 1) := by decide +kernel
theorem dX0_leastSolution_41 : decode cX0_leastSolution 41 = .ok (.lor, 1) := by decide +kernel
theorem dX0_leastSolution_42 : decode cX0_leastSolution 42 = .ok (.lstore_n 1, 1) := by decide +kernel
theorem dX0_leastSolution_43 : decode cX0_leastSolution 43 = .ok (.iinc 3 1, 3) := by decide +kernel
theorem dX0_leastSolution_46 : decode cX0_leastSolution 46 = .ok (.goto (-42), 3) := by decide +kernel
theorem dX0_leastSolution_49 : decode cX0_leastSolution 49 = .ok (.lload_n 1, 1) := by decide +kernel
theorem dX0_leastSolution_50 : decode cX0_leastSolution 50 = .ok (.lreturn, 1) := by decide +kernel
set_option maxRecDepth 20000 in
theorem ggX1_init_X4_init : GoodIn wsX1_init wsX4_init := goodIn_r _ [10, 11, 2, 3, 12, 13, 14, 15, 16, 17, 18, 7, 19, 20, 21, 22, 23, 27, 28, 29, 30, 31, 32, 33, 34, 35, 36, 37, 38] (by decide +kernel) (by decide +kernel)
set_option maxRecDepth 20000 in
theorem gX1_init_X4_init : GoodIn wsX1_init (wsX4_init) := ggX1_init_X4_init
theorem dX1_init_0 : decode cX1_init 0 = .ok (.aload_n 0, 1) := by decide +kernel
theorem dX1_init_1 : decode cX1_init 1 = .ok (.invokespecial 3, 3) := by decide +kernel
theorem dX1_init_4 : decode cX1_init 4 = .ok (.aload_n 0, 1) := by decide +kernel
theorem dX1_init_5 : decode cX1_init 5 = .ok (.bipush 14, 2) := by decide +kernel
theorem dX1_init_7 : decode cX1_init 7 = .ok (.anewarray 9, 3) := by decide +kernel
theorem dX1_init_10 : decode cX1_init 10 = .ok (.putfield 11, 3) := by decide +kernel
theorem dX1_init_13 : decode cX1_init 13 = .ok (.iconst 0, 1) := by decide +kernel
theorem dX1_init_14 : decode cX1_init 14 = .ok (.istore_n 1, 1) := by decide +kernel
theorem dX1_init_15 : decode cX1_init 15 = .ok (.iload_n 1, 1) := by decide +kernel
theorem dX1_init_16 : decode cX1_init 16 = .ok (.aload_n 0, 1) := by decide +kernel
theorem dX1_init_17 : decode cX1_init 17 = .ok (.getfield 11, 3) := by decide +kernel
theorem dX1_init_20 : decode cX1_init 20 = .ok (.arraylength, 1) := by decide +kernel
theorem dX1_init_21 : decode cX1_init 21 = .ok (.if_icmp .ge 22, 3) := by decide +kernel
theorem dX1_init_24 : decode cX1_init 24 = .ok (.aload_n 0, 1) := by decide +kernel
theorem dX1_init_25 : decode cX1_init 25 = .ok (.getfield 11, 3) := by decide +kernel
theorem dX1_init_28 : decode cX1_init 28 = .ok (.iload_n 1, 1) := by decide +kernel
theorem dX1_init_29 : decode cX1_init 29 = .ok (.new 9, 3) := by decide +kernel
theorem dX1_init_32 : decode cX1_init 32 = .ok (.dup, 1) := by decide +kernel
theorem dX1_init_33 : decode cX1_init 33 = .ok (.invokespecial 17, 3) := by decide +kernel
theorem dX1_init_36 : decode cX1_init 36 = .ok (.aastore, 1) := by decide +kernel
theorem dX1_init_37 : decode cX1_init 37 = .ok (.iinc 1 1, 3) := by decide +kernel
theorem dX1_init_40 : decode cX1_init 40 = .ok (.goto (-25), 3) := by decide +kernel
theorem dX1_init_43 : decode cX1_init 43 = .ok (.return_, 1) := by decide +kernel
theorem dX1_forget_0 : decode cX1_forget 0 = .ok (.aload_n 0, 1) := by decide +kernel
theorem dX1_forget_1 : decode cX1_forget 1 = .ok (.iconst 0, 1) := by decide +kernel
theorem dX1_forget_2 : decode cX1_forget 2 = .ok (.putfield 18, 3) := by decide +kernel
theorem dX1_forget_5 : decode cX1_forget 5 = .ok (.return_, 1) := by decide +kernel
set_option maxRecDepth 20000 in
theorem ggX1_remember_X1_newestKept : GoodIn wsX1_remember wsX1_newestKept := goodIn_r _ [11, 1, 12, 30, 31, 32] (by decide +kernel) (by decide +kernel)
set_option maxRecDepth 20000 in
theorem gX1_remember_X1_newestKept : GoodIn wsX1_remember (wsV RX1 25 RX1 yX1_newestKept wsX1_newestKept) := goodIn_app (goodIn_of _ (by decide +kernel)) ggX1_remember_X1_newestKept
set_option maxRecDepth 20000 in
theorem ggX1_remember_X4_copy : GoodIn wsX1_remember wsX4_copy := goodIn_r _ [17, 18, 19, 20, 21, 22, 23, 24, 25, 26, 27, 28, 29, 33, 34, 35, 36, 37, 38, 39, 40, 41, 42, 43, 44] (by decide +kernel) (by decide +kernel)
set_option maxRecDepth 20000 in
theorem gX1_remember_X4_copy : GoodIn wsX1_remember (wsV RX1 29 RX4 yX4_copy wsX4_copy) := goodIn_app (goodIn_of _ (by decide +kernel)) ggX1_remember_X4_copy
theorem dX1_remember_0 : decode cX1_remember 0 = .ok (.aload_n 0, 1) := by decide +kernel
theorem dX1_remember_1 : decode cX1_remember 1 = .ok (.aload_n 0, 1) := by decide +kernel
theorem dX1_remember_2 : decode cX1_remember 2 = .ok (.getfield 22, 3) := by decide +kernel
theorem dX1_remember_5 : decode cX1_remember 5 = .ok (.iconst 1, 1) := by decide +kernel
theorem dX1_remember_6 : decode cX1_remember 6 = .ok (.iadd, 1) := by decide +kernel
theorem dX1_remember_7 : decode cX1_remember 7 = .ok (.bipush 14, 2) := by decide +kernel
theorem dX1_remember_9 : decode cX1_remember 9 = .ok (.irem, 1) := by decide +kernel
theorem dX1_remember_10 : decode cX1_remember 10 = .ok (.putfield 22, 3) := by decide +kernel
theorem dX1_remember_13 : decode cX1_remember 13 = .ok (.aload_n 0, 1) := by decide +kernel
theorem dX1_remember_14 : decode cX1_remember 14 = .ok (.invokevirtual 25, 3) := by decide +kernel
theorem dX1_remember_17 : decode cX1_remember 17 = .ok (.astore_n 2, 1) := by decide +kernel
theorem dX1_remember_18 : decode cX1_remember 18 = .ok (.aload_n 2, 1) := by decide +kernel
theorem dX1_remember_19 : decode cX1_remember 19 = .ok (.ifnull 8, 3) := by decide +kernel
theorem dX1_remember_22 : decode cX1_remember 22 = .ok (.aload_n 2, 1) := by decide +kernel
theorem dX1_remember_23 : decode cX1_remember 23 = .ok (.aload_n 1, 1) := by decide +kernel
theorem dX1_remember_24 : decode cX1_remember 24 = .ok (.invokevirtual 29, 3) := by decide +kernel
theorem dX1_remember_27 : decode cX1_remember 27 = .ok (.aload_n 0, 1) := by decide +kernel
theorem dX1_remember_28 : decode cX1_remember 28 = .ok (.aload_n 0, 1) := by decide +kernel
theorem dX1_remember_29 : decode cX1_remember 29 = .ok (.getfield 18, 3) := by decide +kernel
theorem dX1_remember_32 : decode cX1_remember 32 = .ok (.iconst 1, 1) := by decide +kernel
theorem dX1_remember_33 : decode cX1_remember 33 = .ok (.iadd, 1) := by decide +kernel
theorem dX1_remember_34 : decode cX1_remember 34 = .ok (.bipush 14, 2) := by decide +kernel
theorem dX1_remember_36 : decode cX1_remember 36 = .ok (.invokestatic 33, 3) := by decide +kernel
theorem dX1_remember_39 : decode cX1_remember 39 = .ok (.putfield 18, 3) := by decide +kernel
theorem dX1_remember_42 : decode cX1_remember 42 = .ok (.return_, 1) := by decide +kernel
set_option maxRecDepth 20000 in
theorem ggX1_takeBack_X1_newestKept : GoodIn wsX1_takeBack wsX1_newestKept := goodIn_r _ [11, 1, 12, 30, 31, 32] (by decide +kernel) (by decide +kernel)
set_option maxRecDepth 20000 in
theorem gX1_takeBack_X1_newestKept : GoodIn wsX1_takeBack (wsV RX1 25 RX1 yX1_newestKept wsX1_newestKept) := goodIn_app (goodIn_of _ (by decide +kernel)) ggX1_takeBack_X1_newestKept
set_option maxRecDepth 20000 in
theorem ggX1_takeBack_X4_copy : GoodIn wsX1_takeBack wsX4_copy := goodIn_r _ [17, 18, 19, 20, 21, 22, 23, 24, 25, 26, 27, 28, 29, 33, 34, 35, 36, 37, 38, 39, 40, 41, 42, 43, 44] (by decide +kernel) (by decide +kernel)
set_option maxRecDepth 20000 in
theorem gX1_takeBack_X4_copy : GoodIn wsX1_takeBack (wsV RX1 29 RX4 yX4_copy wsX4_copy) := goodIn_app (goodIn_of _ (by decide +kernel)) ggX1_takeBack_X4_copy
theorem dX1_takeBack_0 : decode cX1_takeBack 0 = .ok (.aload_n 0, 1) := by decide +kernel
theorem dX1_takeBack_1 : decode cX1_takeBack 1 = .ok (.invokevirtual 25, 3) := by decide +kernel
theorem dX1_takeBack_4 : decode cX1_takeBack 4 = .ok (.astore_n 2, 1) := by decide +kernel
theorem dX1_takeBack_5 : decode cX1_takeBack 5 = .ok (.aload_n 2, 1) := by decide +kernel
theorem dX1_takeBack_6 : decode cX1_takeBack 6 = .ok (.ifnull 8, 3) := by decide +kernel
theorem dX1_takeBack_9 : decode cX1_takeBack 9 = .ok (.aload_n 1, 1) := by decide +kernel
theorem dX1_takeBack_10 : decode cX1_takeBack 10 = .ok (.aload_n 2, 1) := by decide +kernel
theorem dX1_takeBack_11 : decode cX1_takeBack 11 = .ok (.invokevirtual 29, 3) := by decide +kernel
theorem dX1_takeBack_14 : decode cX1_takeBack 14 = .ok (.aload_n 0, 1) := by decide +kernel
theorem dX1_takeBack_15 : decode cX1_takeBack 15 = .ok (.aload_n 0, 1) := by decide +kernel
theorem dX1_takeBack_16 : decode cX1_takeBack 16 = .ok (.getfield 22, 3) := by decide +kernel
theorem dX1_takeBack_19 : decode cX1_takeBack 19 = .ok (.bipush 14, 2) := by decide +kernel
theorem dX1_takeBack_21 : decode cX1_takeBack 21 = .ok (.iadd, 1) := by decide +kernel
theorem dX1_takeBack_22 : decode cX1_takeBack 22 = .ok (.iconst 1, 1) := by decide +kernel
theorem dX1_takeBack_23 : decode cX1_takeBack 23 = .ok (.isub, 1) := by decide +kernel
theorem dX1_takeBack_24 : decode cX1_takeBack 24 = .ok (.bipush 14, 2) := by decide +kernel
theorem dX1_takeBack_26 : decode cX1_takeBack 26 = .ok (.irem, 1) := by decide +kernel
theorem dX1_takeBack_27 : decode cX1_takeBack 27 = .ok (.putfield 22, 3) := by decide +kernel
theorem dX1_takeBack_30 : decode cX1_takeBack 30 = .ok (.aload_n 0, 1) := by decide +kernel
theorem dX1_takeBack_31 : decode cX1_takeBack 31 = .ok (.aload_n 0, 1) := by decide +kernel
theorem dX1_takeBack_32 : decode cX1_takeBack 32 = .ok (.getfield 18, 3) := by decide +kernel
theorem dX1_takeBack_35 : decode cX1_takeBack 35 = .ok (.iconst 1, 1) := by decide +kernel
theorem dX1_takeBack_36 : decode cX1_takeBack 36 = .ok (.isub, 1) := by decide +kernel
theorem dX1_takeBack_37 : decode cX1_takeBack 37 = .ok (.iconst 0, 1) := by decide +kernel
theorem dX1_takeBack_38 : decode cX1_takeBack 38 = .ok (.invokestatic 39, 3) := by decide +kernel
theorem dX1_takeBack_41 : decode cX1_takeBack 41 = .ok (.putfield 18, 3) := by decide +kernel
theorem dX1_takeBack_44 : decode cX1_takeBack 44 = .ok (.return_, 1) := by decide +kernel
theorem dX1_newestKept_0 : decode cX1_newestKept 0 = .ok (.aload_n 0, 1) := by decide +kernel
theorem dX1_newestKept_1 : decode cX1_newestKept 1 = .ok (.getfield 22, 3) := by decide +kernel
theorem dX1_newestKept_4 : decode cX1_newestKept 4 = .ok (.ifCond .lt 27, 3) := by decide +kernel
theorem dX1_newestKept_7 : decode cX1_newestKept 7 = .ok (.aload_n 0, 1) := by decide +kernel
theorem dX1_newestKept_8 : decode cX1_newestKept 8 = .ok (.getfield 22, 3) := by decide +kernel
theorem dX1_newestKept_11 : decode cX1_newestKept 11 = .ok (.aload_n 0, 1) := by decide +kernel
theorem dX1_newestKept_12 : decode cX1_newestKept 12 = .ok (.getfield 11, 3) := by decide +kernel
theorem dX1_newestKept_15 : decode cX1_newestKept 15 = .ok (.arraylength, 1) := by decide +kernel
theorem dX1_newestKept_16 : decode cX1_newestKept 16 = .ok (.if_icmp .ge 15, 3) := by decide +kernel
theorem dX1_newestKept_19 : decode cX1_newestKept 19 = .ok (.aload_n 0, 1) := by decide +kernel
theorem dX1_newestKept_20 : decode cX1_newestKept 20 = .ok (.getfield 11, 3) := by decide +kernel
theorem dX1_newestKept_23 : decode cX1_newestKept 23 = .ok (.aload_n 0, 1) := by decide +kernel
theorem dX1_newestKept_24 : decode cX1_newestKept 24 = .ok (.getfield 22, 3) := by decide +kernel
theorem dX1_newestKept_27 : decode cX1_newestKept 27 = .ok (.aaload, 1) := by decide +kernel
theorem dX1_newestKept_28 : decode cX1_newestKept 28 = .ok (.goto 4, 3) := by decide +kernel
theorem dX1_newestKept_31 : decode cX1_newestKept 31 = .ok (.aconst_null, 1) := by decide +kernel
theorem dX1_newestKept_32 : decode cX1_newestKept 32 = .ok (.areturn, 1) := by decide +kernel
set_option maxRecDepth 20000 in
theorem ggX2_init_X4_init : GoodIn wsX2_init wsX4_init := goodIn_r _ [10, 11, 2, 3, 12, 13, 14, 15, 16, 17, 18, 6, 19, 20, 21, 22, 23, 24, 25, 26, 27, 28, 29, 30, 31, 32, 33, 34, 35] (by decide +kernel) (by decide +kernel)
set_option maxRecDepth 20000 in
theorem gX2_init_X4_init : GoodIn wsX2_init (wsX4_init) := ggX2_init_X4_init
theorem dX2_init_0 : decode cX2_init 0 = .ok (.aload_n 0, 1) := by decide +kernel
theorem dX2_init_1 : decode cX2_init 1 = .ok (.invokespecial 1, 3) := by decide +kernel
theorem dX2_init_4 : decode cX2_init 4 = .ok (.aload_n 0, 1) := by decide +kernel
theorem dX2_init_5 : decode cX2_init 5 = .ok (.new 7, 3) := by decide +kernel
theorem dX2_init_8 : decode cX2_init 8 = .ok (.dup, 1) := by decide +kernel
theorem dX2_init_9 : decode cX2_init 9 = .ok (.invokespecial 9, 3) := by decide +kernel
theorem dX2_init_12 : decode cX2_init 12 = .ok (.putfield 10, 3) := by decide +kernel
theorem dX2_init_15 : decode cX2_init 15 = .ok (.return_, 1) := by decide +kernel
set_option maxRecDepth 20000 in
theorem ggX2_put_X4_copy : GoodIn wsX2_put wsX4_copy := goodIn_r _ [7, 8, 9, 10, 11, 12, 13, 14, 15, 16, 17, 18, 19, 22, 23, 24, 25, 26, 27, 28, 29, 30, 31, 32, 33] (by decide +kernel) (by decide +kernel)
set_option maxRecDepth 20000 in
theorem gX2_put_X4_copy : GoodIn wsX2_put (wsV RX2 16 RX4 yX4_copy wsX4_copy) := goodIn_app (goodIn_of _ (by decide +kernel)) ggX2_put_X4_copy
theorem dX2_put_0 : decode cX2_put 0 = .ok (.aload_n 0, 1) := by decide +kernel
theorem dX2_put_1 : decode cX2_put 1 = .ok (.getfield 10, 3) := by decide +kernel
theorem dX2_put_4 : decode cX2_put 4 = .ok (.aload_n 1, 1) := by decide +kernel
theorem dX2_put_5 : decode cX2_put 5 = .ok (.invokevirtual 16, 3) := by decide +kernel
theorem dX2_put_8 : decode cX2_put 8 = .ok (.aload_n 0, 1) := by decide +kernel
theorem dX2_put_9 : decode cX2_put 9 = .ok (.iconst 1, 1) := by decide +kernel
theorem dX2_put_10 : decode cX2_put 10 = .ok (.putfield 20, 3) := by decide +kernel
theorem dX2_put_13 : decode cX2_put 13 = .ok (.return_, 1) := by decide +kernel
theorem dX2_empty_0 : decode cX2_empty 0 = .ok (.aload_n 0, 1) := by decide +kernel
theorem dX2_empty_1 : decode cX2_empty 1 = .ok (.iconst 0, 1) := by decide +kernel
theorem dX2_empty_2 : decode cX2_empty 2 = .ok (.putfield 20, 3) := by decide +kernel
theorem dX2_empty_5 : decode cX2_empty 5 = .ok (.return_, 1) := by decide +kernel
theorem dX3_init_0 : decode cX3_init 0 = .ok (.aload_n 0, 1) := by decide +kernel
theorem dX3_init_1 : decode cX3_init 1 = .ok (.invokespecial 3, 3) := by decide +kernel
theorem dX3_init_4 : decode cX3_init 4 = .ok (.aload_n 0, 1) := by decide +kernel
theorem dX3_init_5 : decode cX3_init 5 = .ok (.bipush 120, 2) := by decide +kernel
theorem dX3_init_7 : decode cX3_init 7 = .ok (.newarray .char, 2) := by decide +kernel
theorem dX3_init_9 : decode cX3_init 9 = .ok (.putfield 9, 3) := by decide +kernel
theorem dX3_init_12 : decode cX3_init 12 = .ok (.return_, 1) := by decide +kernel
theorem dX3_isFull_0 : decode cX3_isFull 0 = .ok (.aload_n 0, 1) := by decide +kernel
theorem dX3_isFull_1 : decode cX3_isFull 1 = .ok (.getfield 15, 3) := by decide +kernel
theorem dX3_isFull_4 : decode cX3_isFull 4 = .ok (.aload_n 0, 1) := by decide +kernel
theorem dX3_isFull_5 : decode cX3_isFull 5 = .ok (.getfield 9, 3) := by decide +kernel
theorem dX3_isFull_8 : decode cX3_isFull 8 = .ok (.arraylength, 1) := by decide +kernel
theorem dX3_isFull_9 : decode cX3_isFull 9 = .ok (.if_icmp .lt 7, 3) := by decide +kernel
theorem dX3_isFull_12 : decode cX3_isFull 12 = .ok (.iconst 1, 1) := by decide +kernel
theorem dX3_isFull_13 : decode cX3_isFull 13 = .ok (.goto 4, 3) := by decide +kernel
theorem dX3_isFull_16 : decode cX3_isFull 16 = .ok (.iconst 0, 1) := by decide +kernel
theorem dX3_isFull_17 : decode cX3_isFull 17 = .ok (.ireturn, 1) := by decide +kernel
theorem dX3_add_0 : decode cX3_add 0 = .ok (.aload_n 0, 1) := by decide +kernel
theorem dX3_add_1 : decode cX3_add 1 = .ok (.getfield 15, 3) := by decide +kernel
theorem dX3_add_4 : decode cX3_add 4 = .ok (.ifCond .lt 35, 3) := by decide +kernel
theorem dX3_add_7 : decode cX3_add 7 = .ok (.aload_n 0, 1) := by decide +kernel
theorem dX3_add_8 : decode cX3_add 8 = .ok (.getfield 15, 3) := by decide +kernel
theorem dX3_add_11 : decode cX3_add 11 = .ok (.aload_n 0, 1) := by decide +kernel
theorem dX3_add_12 : decode cX3_add 12 = .ok (.getfield 9, 3) := by decide +kernel
theorem dX3_add_15 : decode cX3_add 15 = .ok (.arraylength, 1) := by decide +kernel
theorem dX3_add_16 : decode cX3_add 16 = .ok (.if_icmp .ge 23, 3) := by decide +kernel
theorem dX3_add_19 : decode cX3_add 19 = .ok (.aload_n 0, 1) := by decide +kernel
theorem dX3_add_20 : decode cX3_add 20 = .ok (.getfield 9, 3) := by decide +kernel
theorem dX3_add_23 : decode cX3_add 23 = .ok (.aload_n 0, 1) := by decide +kernel
theorem dX3_add_24 : decode cX3_add 24 = .ok (.getfield 15, 3) := by decide +kernel
theorem dX3_add_27 : decode cX3_add 27 = .ok (.iload_n 1, 1) := by decide +kernel
theorem dX3_add_28 : decode cX3_add 28 = .ok (.castore, 1) := by decide +kernel
theorem dX3_add_29 : decode cX3_add 29 = .ok (.aload_n 0, 1) := by decide +kernel
theorem dX3_add_30 : decode cX3_add 30 = .ok (.dup, 1) := by decide +kernel
theorem dX3_add_31 : decode cX3_add 31 = .ok (.getfield 15, 3) := by decide +kernel
theorem dX3_add_34 : decode cX3_add 34 = .ok (.iconst 1, 1) := by decide +kernel
theorem dX3_add_35 : decode cX3_add 35 = .ok (.iadd, 1) := by decide +kernel
theorem dX3_add_36 : decode cX3_add 36 = .ok (.putfield 15, 3) := by decide +kernel
theorem dX3_add_39 : decode cX3_add 39 = .ok (.aload_n 0, 1) := by decide +kernel
theorem dX3_add_40 : decode cX3_add 40 = .ok (.getfield 15, 3) := by decide +kernel
theorem dX3_add_43 : decode cX3_add 43 = .ok (.ireturn, 1) := by decide +kernel
set_option maxRecDepth 20000 in
theorem ggX3_firstError_X3_readWindow : GoodIn wsX3_firstError wsX3_readWindow := goodIn_r _ [7, 1, 8, 9, 10, 6, 11, 2, 12, 13, 14, 15, 16, 17, 18, 19, 20, 21, 22, 23, 24, 25, 26, 36, 37, 38, 39, 40, 41] (by decide +kernel) (by decide +kernel)
set_option maxRecDepth 20000 in
theorem gX3_firstError_X3_readWindow : GoodIn wsX3_firstError (wsV RX3 19 RX3 yX3_readWindow wsX3_readWindow) := goodIn_app (goodIn_of _ (by decide +kernel)) ggX3_firstError_X3_readWindow
set_option maxRecDepth 20000 in
theorem ggX3_firstError_X3_readCommand : GoodIn wsX3_firstError wsX3_readCommand := goodIn_r _ [30, 1, 2, 31, 26, 8, 9, 10, 6, 11, 12, 32, 33, 34, 35, 13, 14, 15, 16, 17, 18, 19, 20, 21, 22, 23, 24, 25, 36, 37, 38, 39, 40, 41] (by decide +kernel) (by decide +kernel)
set_option maxRecDepth 20000 in
theorem gX3_firstError_X3_readCommand : GoodIn wsX3_firstError (wsV RX3 26 RX3 yX3_readCommand wsX3_readCommand) := goodIn_app (goodIn_of _ (by decide +kernel)) ggX3_firstError_X3_readCommand
theorem dX3_firstError_0 : decode cX3_firstError 0 = .ok (.aload_n 0, 1) := by decide +kernel
theorem dX3_firstError_1 : decode cX3_firstError 1 = .ok (.invokevirtual 19, 3) := by decide +kernel
theorem dX3_firstError_4 : decode cX3_firstError 4 = .ok (.ifCond .ne 8, 3) := by decide +kernel
theorem dX3_firstError_7 : decode cX3_firstError 7 = .ok (.aload_n 0, 1) := by decide +kernel
theorem dX3_firstError_8 : decode cX3_firstError 8 = .ok (.getfield 23, 3) := by decide +kernel
theorem dX3_firstError_11 : decode cX3_firstError 11 = .ok (.ireturn, 1) := by decide +kernel
theorem dX3_firstError_12 : decode cX3_firstError 12 = .ok (.iconst 0, 1) := by decide +kernel
theorem dX3_firstError_13 : decode cX3_firstError 13 = .ok (.istore_n 1, 1) := by decide +kernel
theorem dX3_firstError_14 : decode cX3_firstError 14 = .ok (.iload_n 1, 1) := by decide +kernel
theorem dX3_firstError_15 : decode cX3_firstError 15 = .ok (.bipush 120, 2) := by decide +kernel
theorem dX3_firstError_17 : decode cX3_firstError 17 = .ok (.if_icmp .ge 32, 3) := by decide +kernel
theorem dX3_firstError_20 : decode cX3_firstError 20 = .ok (.aload_n 0, 1) := by decide +kernel
theorem dX3_firstError_21 : decode cX3_firstError 21 = .ok (.getfield 23, 3) := by decide +kernel
theorem dX3_firstError_24 : decode cX3_firstError 24 = .ok (.aload_n 0, 1) := by decide +kernel
theorem dX3_firstError_25 : decode cX3_firstError 25 = .ok (.getfield 15, 3) := by decide +kernel
theorem dX3_firstError_28 : decode cX3_firstError 28 = .ok (.if_icmp .ge 21, 3) := by decide +kernel
theorem dX3_firstError_31 : decode cX3_firstError 31 = .ok (.aload_n 0, 1) := by decide +kernel
theorem dX3_firstError_32 : decode cX3_firstError 32 = .ok (.invokevirtual 26, 3) := by decide +kernel
theorem dX3_firstError_35 : decode cX3_firstError 35 = .ok (.ifCond .ne 8, 3) := by decide +kernel
theorem dX3_firstError_38 : decode cX3_firstError 38 = .ok (.aload_n 0, 1) := by decide +kernel
theorem dX3_firstError_39 : decode cX3_firstError 39 = .ok (.getfield 23, 3) := by decide +kernel
theorem dX3_firstError_42 : decode cX3_firstError 42 = .ok (.ireturn, 1) := by decide +kernel
theorem dX3_firstError_43 : decode cX3_firstError 43 = .ok (.iinc 1 1, 3) := by decide +kernel
theorem dX3_firstError_46 : decode cX3_firstError 46 = .ok (.goto (-32), 3) := by decide +kernel
theorem dX3_firstError_49 : decode cX3_firstError 49 = .ok (.iconst (-1), 1) := by decide +kernel
theorem dX3_firstError_50 : decode cX3_firstError 50 = .ok (.ireturn, 1) := by decide +kernel
set_option maxRecDepth 20000 in
theorem ggX3_readWindow_X3_sign : GoodIn wsX3_readWindow wsX3_sign := goodIn_r _ [6, 1, 7, 8, 23, 24, 25, 26, 27, 28] (by decide +kernel) (by decide +kernel)
set_option maxRecDepth 20000 in
theorem gX3_readWindow_X3_sign : GoodIn wsX3_readWindow (wsV RX3 29 RX3 yX3_sign wsX3_sign) := goodIn_app (goodIn_of _ (by decide +kernel)) ggX3_readWindow_X3_sign
set_option maxRecDepth 20000 in
theorem ggX3_readWindow_X3_readFirst : GoodIn wsX3_readWindow wsX3_readFirst := goodIn_r _ [12, 13, 14, 15, 16, 5, 17, 1, 2, 3, 4, 6, 7, 8, 23, 24, 25, 26, 27, 28] (by decide +kernel) (by decide +kernel)
set_option maxRecDepth 20000 in
theorem gX3_readWindow_X3_readFirst : GoodIn wsX3_readWindow (wsV RX3 33 RX3 yX3_readFirst wsX3_readFirst) := goodIn_app (goodIn_of _ (by decide +kernel)) ggX3_readWindow_X3_readFirst
set_option maxRecDepth 20000 in
theorem ggX3_readWindow_X3_readSecond : GoodIn wsX3_readWindow wsX3_readSecond := goodIn_r _ [21, 22, 14, 15, 16, 5, 17, 1, 2, 3, 4, 6, 7, 8, 23, 24, 25, 26, 27, 28] (by decide +kernel) (by decide +kernel)
set_option maxRecDepth 20000 in
theorem gX3_readWindow_X3_readSecond : GoodIn wsX3_readWindow (wsV RX3 37 RX3 yX3_readSecond wsX3_readSecond) := goodIn_app (goodIn_of _ (by decide +kernel)) ggX3_readWindow_X3_readSecond
theorem dX3_readWindow_0 : decode cX3_readWindow 0 = .ok (.aload_n 0, 1) := by decide +kernel
theorem dX3_readWindow_1 : decode cX3_readWindow 1 = .ok (.iconst 0, 1) := by decide +kernel
theorem dX3_readWindow_2 : decode cX3_readWindow 2 = .ok (.putfield 23, 3) := by decide +kernel
theorem dX3_readWindow_5 : decode cX3_readWindow 5 = .ok (.aload_n 0, 1) := by decide +kernel
theorem dX3_readWindow_6 : decode cX3_readWindow 6 = .ok (.invokevirtual 29, 3) := by decide +kernel
theorem dX3_readWindow_9 : decode cX3_readWindow 9 = .ok (.bipush 87, 2) := by decide +kernel
theorem dX3_readWindow_11 : decode cX3_readWindow 11 = .ok (.if_icmp .eq 5, 3) := by decide +kernel
theorem dX3_readWindow_14 : decode cX3_readWindow 14 = .ok (.iconst 0, 1) := by decide +kernel
theorem dX3_readWindow_15 : decode cX3_readWindow 15 = .ok (.ireturn, 1) := by decide +kernel
theorem dX3_readWindow_16 : decode cX3_readWindow 16 = .ok (.aload_n 0, 1) := by decide +kernel
theorem dX3_readWindow_17 : decode cX3_readWindow 17 = .ok (.dup, 1) := by decide +kernel
theorem dX3_readWindow_18 : decode cX3_readWindow 18 = .ok (.getfield 23, 3) := by decide +kernel
theorem dX3_readWindow_21 : decode cX3_readWindow 21 = .ok (.iconst 1, 1) := by decide +kernel
theorem dX3_readWindow_22 : decode cX3_readWindow 22 = .ok (.iadd, 1) := by decide +kernel
theorem dX3_readWindow_23 : decode cX3_readWindow 23 = .ok (.putfield 23, 3) := by decide +kernel
theorem dX3_readWindow_26 : decode cX3_readWindow 26 = .ok (.aload_n 0, 1) := by decide +kernel
theorem dX3_readWindow_27 : decode cX3_readWindow 27 = .ok (.iconst 1, 1) := by decide +kernel
theorem dX3_readWindow_28 : decode cX3_readWindow 28 = .ok (.iconst 2, 1) := by decide +kernel
theorem dX3_readWindow_29 : decode cX3_readWindow 29 = .ok (.bipush 8, 2) := by decide +kernel
theorem dX3_readWindow_31 : decode cX3_readWindow 31 = .ok (.invokevirtual 33, 3) := by decide +kernel
theorem dX3_readWindow_34 : decode cX3_readWindow 34 = .ok (.ifCond .eq 17, 3) := by decide +kernel
theorem dX3_readWindow_37 : decode cX3_readWindow 37 = .ok (.aload_n 0, 1) := by decide +kernel
theorem dX3_readWindow_38 : decode cX3_readWindow 38 = .ok (.iconst 2, 1) := by decide +kernel
theorem dX3_readWindow_39 : decode cX3_readWindow 39 = .ok (.bipush 8, 2) := by decide +kernel
theorem dX3_readWindow_41 : decode cX3_readWindow 41 = .ok (.invokevirtual 37, 3) := by decide +kernel
theorem dX3_readWindow_44 : decode cX3_readWindow 44 = .ok (.ifCond .eq 7, 3) := by decide +kernel
theorem dX3_readWindow_47 : decode cX3_readWindow 47 = .ok (.iconst 1, 1) := by decide +kernel
theorem dX3_readWindow_48 : decode cX3_readWindow 48 = .ok (.goto 4, 3) := by decide +kernel
theorem dX3_readWindow_51 : decode cX3_readWindow 51 = .ok (.iconst 0, 1) := by decide +kernel
theorem dX3_readWindow_52 : decode cX3_readWindow 52 = .ok (.ireturn, 1) := by decide +kernel
set_option maxRecDepth 20000 in
theorem ggX3_readCommand_X3_sign : GoodIn wsX3_readCommand wsX3_sign := goodIn_r _ [9, 1, 2, 10, 28, 29, 30, 31, 32, 33] (by decide +kernel) (by decide +kernel)
set_option maxRecDepth 20000 in
theorem gX3_readCommand_X3_sign : GoodIn wsX3_readCommand (wsV RX3 29 RX3 yX3_sign wsX3_sign) := goodIn_app (goodIn_of _ (by decide +kernel)) ggX3_readCommand_X3_sign
set_option maxRecDepth 20000 in
theorem ggX3_readCommand_X3_readCell : GoodIn wsX3_readCommand wsX3_readCell := goodIn_r _ [14, 15, 16, 17, 8, 18, 19, 20, 21, 22, 23, 1, 5, 6, 7, 9, 2, 10, 28, 29, 30, 31, 32, 33] (by decide +kernel) (by decide +kernel)
set_option maxRecDepth 20000 in
theorem gX3_readCommand_X3_readCell : GoodIn wsX3_readCommand (wsV RX3 48 RX3 yX3_readCell wsX3_readCell) := goodIn_app (goodIn_of _ (by decide +kernel)) ggX3_readCommand_X3_readCell
set_option maxRecDepth 20000 in
theorem ggX3_readCommand_X3_readSecond : GoodIn wsX3_readCommand wsX3_readSecond := goodIn_r _ [27, 4, 20, 21, 22, 8, 23, 1, 5, 6, 7, 9, 2, 10, 28, 29, 30, 31, 32, 33] (by decide +kernel) (by decide +kernel)
set_option maxRecDepth 20000 in
theorem gX3_readCommand_X3_readSecond : GoodIn wsX3_readCommand (wsV RX3 37 RX3 yX3_readSecond wsX3_readSecond) := goodIn_app (goodIn_of _ (by decide +kernel)) ggX3_readCommand_X3_readSecond
set_option maxRecDepth 20000 in
theorem ggX3_readCommand_X3_readFirst : GoodIn wsX3_readCommand wsX3_readFirst := goodIn_r _ [18, 19, 20, 21, 22, 8, 23, 1, 5, 6, 7, 9, 2, 10, 28, 29, 30, 31, 32, 33] (by decide +kernel) (by decide +kernel)
set_option maxRecDepth 20000 in
theorem gX3_readCommand_X3_readFirst : GoodIn wsX3_readCommand (wsV RX3 33 RX3 yX3_readFirst wsX3_readFirst) := goodIn_app (goodIn_of _ (by decide +kernel)) ggX3_readCommand_X3_readFirst
theorem dX3_readCommand_0 : decode cX3_readCommand 0 = .ok (.aload_n 0, 1) := by decide +kernel
theorem dX3_readCommand_1 : decode cX3_readCommand 1 = .ok (.getfield 23, 3) := by decide +kernel
theorem dX3_readCommand_4 : decode cX3_readCommand 4 = .ok (.aload_n 0, 1) := by decide +kernel
theorem dX3_readCommand_5 : decode cX3_readCommand 5 = .ok (.getfield 15, 3) := by decide +kernel
theorem dX3_readCommand_8 : decode cX3_readCommand 8 = .ok (.if_icmp .lt 5, 3) := by decide +kernel
theorem dX3_readCommand_11 : decode cX3_readCommand 11 = .ok (.iconst 0, 1) := by decide +kernel
theorem dX3_readCommand_12 : decode cX3_readCommand 12 = .ok (.ireturn, 1) := by decide +kernel
theorem dX3_readCommand_13 : decode cX3_readCommand 13 = .ok (.aload_n 0, 1) := by decide +kernel
theorem dX3_readCommand_14 : decode cX3_readCommand 14 = .ok (.aload_n 0, 1) := by decide +kernel
theorem dX3_readCommand_15 : decode cX3_readCommand 15 = .ok (.invokevirtual 29, 3) := by decide +kernel
theorem dX3_readCommand_18 : decode cX3_readCommand 18 = .ok (.i2c, 1) := by decide +kernel
theorem dX3_readCommand_19 : decode cX3_readCommand 19 = .ok (.putfield 41, 3) := by decide +kernel
theorem dX3_readCommand_22 : decode cX3_readCommand 22 = .ok (.aload_n 0, 1) := by decide +kernel
theorem dX3_readCommand_23 : decode cX3_readCommand 23 = .ok (.iconst 0, 1) := by decide +kernel
theorem dX3_readCommand_24 : decode cX3_readCommand 24 = .ok (.putfield 45, 3) := by decide +kernel
theorem dX3_readCommand_27 : decode cX3_readCommand 27 = .ok (.aload_n 0, 1) := by decide +kernel
theorem dX3_readCommand_28 : decode cX3_readCommand 28 = .ok (.getfield 41, 3) := by decide +kernel
theorem dX3_readCommand_31 : decode cX3_readCommand 31 = .ok (.tableswitch 241 98 116 #[136, 241, 241, 241, 89, 241, 241, 241, 241, 241, 241, 241, 222, 241, 241, 241, 171, 104, 189], 89) := by decide +kernel
theorem dX3_readCommand_120 : decode cX3_readCommand 120 = .ok (.aload_n 0, 1) := by decide +kernel
theorem dX3_readCommand_121 : decode cX3_readCommand 121 = .ok (.dup, 1) := by decide +kernel
theorem dX3_readCommand_122 : decode cX3_readCommand 122 = .ok (.getfield 23, 3) := by decide +kernel
theorem dX3_readCommand_125 : decode cX3_readCommand 125 = .ok (.iconst 1, 1) := by decide +kernel
theorem dX3_readCommand_126 : decode cX3_readCommand 126 = .ok (.iadd, 1) := by decide +kernel
theorem dX3_readCommand_127 : decode cX3_readCommand 127 = .ok (.putfield 23, 3) := by decide +kernel
theorem dX3_readCommand_130 : decode cX3_readCommand 130 = .ok (.aload_n 0, 1) := by decide +kernel
theorem dX3_readCommand_131 : decode cX3_readCommand 131 = .ok (.invokevirtual 48, 3) := by decide +kernel
theorem dX3_readCommand_134 : decode cX3_readCommand 134 = .ok (.ireturn, 1) := by decide +kernel
theorem dX3_readCommand_135 : decode cX3_readCommand 135 = .ok (.aload_n 0, 1) := by decide +kernel
theorem dX3_readCommand_136 : decode cX3_readCommand 136 = .ok (.dup, 1) := by decide +kernel
theorem dX3_readCommand_137 : decode cX3_readCommand 137 = .ok (.getfield 23, 3) := by decide +kernel
theorem dX3_readCommand_140 : decode cX3_readCommand 140 = .ok (.iconst 1, 1) := by decide +kernel
theorem dX3_readCommand_141 : decode cX3_readCommand 141 = .ok (.iadd, 1) := by decide +kernel
theorem dX3_readCommand_142 : decode cX3_readCommand 142 = .ok (.putfield 23, 3) := by decide +kernel
theorem dX3_readCommand_145 : decode cX3_readCommand 145 = .ok (.aload_n 0, 1) := by decide +kernel
theorem dX3_readCommand_146 : decode cX3_readCommand 146 = .ok (.invokevirtual 48, 3) := by decide +kernel
theorem dX3_readCommand_149 : decode cX3_readCommand 149 = .ok (.ifCond .eq 16, 3) := by decide +kernel
theorem dX3_readCommand_152 : decode cX3_readCommand 152 = .ok (.aload_n 0, 1) := by decide +kernel
theorem dX3_readCommand_153 : decode cX3_readCommand 153 = .ok (.iconst 0, 1) := by decide +kernel
theorem dX3_readCommand_154 : decode cX3_readCommand 154 = .ok (.iconst 3, 1) := by decide +kernel
theorem dX3_readCommand_155 : decode cX3_readCommand 155 = .ok (.invokevirtual 37, 3) := by decide +kernel
theorem dX3_readCommand_158 : decode cX3_readCommand 158 = .ok (.ifCond .eq 7, 3) := by decide +kernel
theorem dX3_readCommand_161 : decode cX3_readCommand 161 = .ok (.iconst 1, 1) := by decide +kernel
theorem dX3_readCommand_162 : decode cX3_readCommand 162 = .ok (.goto 4, 3) := by decide +kernel
theorem dX3_readCommand_165 : decode cX3_readCommand 165 = .ok (.iconst 0, 1) := by decide +kernel
theorem dX3_readCommand_166 : decode cX3_readCommand 166 = .ok (.ireturn, 1) := by decide +kernel
theorem dX3_readCommand_167 : decode cX3_readCommand 167 = .ok (.aload_n 0, 1) := by decide +kernel
theorem dX3_readCommand_168 : decode cX3_readCommand 168 = .ok (.dup, 1) := by decide +kernel
theorem dX3_readCommand_169 : decode cX3_readCommand 169 = .ok (.getfield 23, 3) := by decide +kernel
theorem dX3_readCommand_172 : decode cX3_readCommand 172 = .ok (.iconst 1, 1) := by decide +kernel
theorem dX3_readCommand_173 : decode cX3_readCommand 173 = .ok (.iadd, 1) := by decide +kernel
theorem dX3_readCommand_174 : decode cX3_readCommand 174 = .ok (.putfield 23, 3) := by decide +kernel
theorem dX3_readCommand_177 : decode cX3_readCommand 177 = .ok (.aload_n 0, 1) := by decide +kernel
theorem dX3_readCommand_178 : decode cX3_readCommand 178 = .ok (.iconst 1, 1) := by decide +kernel
theorem dX3_readCommand_179 : decode cX3_readCommand 179 = .ok (.iconst 0, 1) := by decide +kernel
theorem dX3_readCommand_180 : decode cX3_readCommand 180 = .ok (.iconst 3, 1) := by decide +kernel
theorem dX3_readCommand_181 : decode cX3_readCommand 181 = .ok (.invokevirtual 33, 3) := by decide +kernel
theorem dX3_readCommand_184 : decode cX3_readCommand 184 = .ok (.ifCond .eq 16, 3) := by decide +kernel
theorem dX3_readCommand_187 : decode cX3_readCommand 187 = .ok (.aload_n 0, 1) := by decide +kernel
theorem dX3_readCommand_188 : decode cX3_readCommand 188 = .ok (.iconst 0, 1) := by decide +kernel
theorem dX3_readCommand_189 : decode cX3_readCommand 189 = .ok (.iconst 2, 1) := by decide +kernel
theorem dX3_readCommand_190 : decode cX3_readCommand 190 = .ok (.invokevirtual 37, 3) := by decide +kernel
theorem dX3_readCommand_193 : decode cX3_readCommand 193 = .ok (.ifCond .eq 7, 3) := by decide +kernel
theorem dX3_readCommand_196 : decode cX3_readCommand 196 = .ok (.iconst 1, 1) := by decide +kernel
theorem dX3_readCommand_197 : decode cX3_readCommand 197 = .ok (.goto 4, 3) := by decide +kernel
theorem dX3_readCommand_200 : decode cX3_readCommand 200 = .ok (.iconst 0, 1) := by decide +kernel
theorem dX3_readCommand_201 : decode cX3_readCommand 201 = .ok (.ireturn, 1) := by decide +kernel
theorem dX3_readCommand_202 : decode cX3_readCommand 202 = .ok (.aload_n 0, 1) := by decide +kernel
theorem dX3_readCommand_203 : decode cX3_readCommand 203 = .ok (.dup, 1) := by decide +kernel
theorem dX3_readCommand_204 : decode cX3_readCommand 204 = .ok (.getfield 23, 3) := by decide +kernel
theorem dX3_readCommand_207 : decode cX3_readCommand 207 = .ok (.iconst 1, 1) := by decide +kernel
theorem dX3_readCommand_208 : decode cX3_readCommand 208 = .ok (.iadd, 1) := by decide +kernel
theorem dX3_readCommand_209 : decode cX3_readCommand 209 = .ok (.putfield 23, 3) := by decide +kernel
theorem dX3_readCommand_212 : decode cX3_readCommand 212 = .ok (.aload_n 0, 1) := by decide +kernel
theorem dX3_readCommand_213 : decode cX3_readCommand 213 = .ok (.iconst 1, 1) := by decide +kernel
theorem dX3_readCommand_214 : decode cX3_readCommand 214 = .ok (.iconst 0, 1) := by decide +kernel
theorem dX3_readCommand_215 : decode cX3_readCommand 215 = .ok (.iconst 2, 1) := by decide +kernel
theorem dX3_readCommand_216 : decode cX3_readCommand 216 = .ok (.invokevirtual 33, 3) := by decide +kernel
theorem dX3_readCommand_219 : decode cX3_readCommand 219 = .ok (.ireturn, 1) := by decide +kernel
theorem dX3_readCommand_220 : decode cX3_readCommand 220 = .ok (.aload_n 0, 1) := by decide +kernel
theorem dX3_readCommand_221 : decode cX3_readCommand 221 = .ok (.dup, 1) := by decide +kernel
theorem dX3_readCommand_222 : decode cX3_readCommand 222 = .ok (.getfield 23, 3) := by decide +kernel
theorem dX3_readCommand_225 : decode cX3_readCommand 225 = .ok (.iconst 1, 1) := by decide +kernel
theorem dX3_readCommand_226 : decode cX3_readCommand 226 = .ok (.iadd, 1) := by decide +kernel
theorem dX3_readCommand_227 : decode cX3_readCommand 227 = .ok (.putfield 23, 3) := by decide +kernel
theorem dX3_readCommand_230 : decode cX3_readCommand 230 = .ok (.aload_n 0, 1) := by decide +kernel
theorem dX3_readCommand_231 : decode cX3_readCommand 231 = .ok (.invokevirtual 48, 3) := by decide +kernel
theorem dX3_readCommand_234 : decode cX3_readCommand 234 = .ok (.ifCond .eq 17, 3) := by decide +kernel
theorem dX3_readCommand_237 : decode cX3_readCommand 237 = .ok (.aload_n 0, 1) := by decide +kernel
theorem dX3_readCommand_238 : decode cX3_readCommand 238 = .ok (.iconst 0, 1) := by decide +kernel
theorem dX3_readCommand_239 : decode cX3_readCommand 239 = .ok (.bipush 9, 2) := by decide +kernel
theorem dX3_readCommand_241 : decode cX3_readCommand 241 = .ok (.invokevirtual 37, 3) := by decide +kernel
theorem dX3_readCommand_244 : decode cX3_readCommand 244 = .ok (.ifCond .eq 7, 3) := by decide +kernel
theorem dX3_readCommand_247 : decode cX3_readCommand 247 = .ok (.iconst 1, 1) := by decide +kernel
theorem dX3_readCommand_248 : decode cX3_readCommand 248 = .ok (.goto 4, 3) := by decide +kernel
theorem dX3_readCommand_251 : decode cX3_readCommand 251 = .ok (.iconst 0, 1) := by decide +kernel
theorem dX3_readCommand_252 : decode cX3_readCommand 252 = .ok (.ireturn, 1) := by decide +kernel
theorem dX3_readCommand_253 : decode cX3_readCommand 253 = .ok (.aload_n 0, 1) := by decide +kernel
theorem dX3_readCommand_254 : decode cX3_readCommand 254 = .ok (.dup, 1) := by decide +kernel
theorem dX3_readCommand_255 : decode cX3_readCommand 255 = .ok (.getfield 23, 3) := by decide +kernel
theorem dX3_readCommand_258 : decode cX3_readCommand 258 = .ok (.iconst 1, 1) := by decide +kernel
theorem dX3_readCommand_259 : decode cX3_readCommand 259 = .ok (.iadd, 1) := by decide +kernel
theorem dX3_readCommand_260 : decode cX3_readCommand 260 = .ok (.putfield 23, 3) := by decide +kernel
theorem dX3_readCommand_263 : decode cX3_readCommand 263 = .ok (.aload_n 0, 1) := by decide +kernel
theorem dX3_readCommand_264 : decode cX3_readCommand 264 = .ok (.iconst 2, 1) := by decide +kernel
theorem dX3_readCommand_265 : decode cX3_readCommand 265 = .ok (.iconst 1, 1) := by decide +kernel
theorem dX3_readCommand_266 : decode cX3_readCommand 266 = .ok (.bipush 60, 2) := by decide +kernel
theorem dX3_readCommand_268 : decode cX3_readCommand 268 = .ok (.invokevirtual 33, 3) := by decide +kernel
theorem dX3_readCommand_271 : decode cX3_readCommand 271 = .ok (.ireturn, 1) := by decide +kernel
theorem dX3_readCommand_272 : decode cX3_readCommand 272 = .ok (.iconst 0, 1) := by decide +kernel
theorem dX3_readCommand_273 : decode cX3_readCommand 273 = .ok (.ireturn, 1) := by decide +kernel
set_option maxRecDepth 20000 in
theorem ggX3_readCell_X3_readFirst : GoodIn wsX3_readCell wsX3_readFirst := goodIn_r _ [5, 6, 7, 8, 9, 4, 10, 11, 12, 13, 14, 15, 16, 17, 18, 19, 20, 21, 22, 23] (by decide +kernel) (by decide +kernel)
set_option maxRecDepth 20000 in
theorem gX3_readCell_X3_readFirst : GoodIn wsX3_readCell (wsV RX3 33 RX3 yX3_readFirst wsX3_readFirst) := goodIn_app (goodIn_of _ (by decide +kernel)) ggX3_readCell_X3_readFirst
theorem dX3_readCell_0 : decode cX3_readCell 0 = .ok (.aload_n 0, 1) := by decide +kernel
theorem dX3_readCell_1 : decode cX3_readCell 1 = .ok (.iconst 2, 1) := by decide +kernel
theorem dX3_readCell_2 : decode cX3_readCell 2 = .ok (.iconst 0, 1) := by decide +kernel
theorem dX3_readCell_3 : decode cX3_readCell 3 = .ok (.bipush 63, 2) := by decide +kernel
theorem dX3_readCell_5 : decode cX3_readCell 5 = .ok (.invokevirtual 33, 3) := by decide +kernel
theorem dX3_readCell_8 : decode cX3_readCell 8 = .ok (.ireturn, 1) := by decide +kernel
set_option maxRecDepth 20000 in
theorem ggX3_readFirst_X3_readNumber : GoodIn wsX3_readFirst wsX3_readNumber := goodIn_r _ [6, 7, 8, 9, 10, 5, 11, 12, 13, 14, 15, 16, 17, 18, 19] (by decide +kernel) (by decide +kernel)
set_option maxRecDepth 20000 in
theorem gX3_readFirst_X3_readNumber : GoodIn wsX3_readFirst (wsV RX3 51 RX3 yX3_readNumber wsX3_readNumber) := goodIn_app (goodIn_of _ (by decide +kernel)) ggX3_readFirst_X3_readNumber
theorem dX3_readFirst_0 : decode cX3_readFirst 0 = .ok (.aload_n 0, 1) := by decide +kernel
theorem dX3_readFirst_1 : decode cX3_readFirst 1 = .ok (.aload_n 0, 1) := by decide +kernel
theorem dX3_readFirst_2 : decode cX3_readFirst 2 = .ok (.iload_n 1, 1) := by decide +kernel
theorem dX3_readFirst_3 : decode cX3_readFirst 3 = .ok (.iload_n 2, 1) := by decide +kernel
theorem dX3_readFirst_4 : decode cX3_readFirst 4 = .ok (.iload_n 3, 1) := by decide +kernel
theorem dX3_readFirst_5 : decode cX3_readFirst 5 = .ok (.invokevirtual 51, 3) := by decide +kernel
theorem dX3_readFirst_8 : decode cX3_readFirst 8 = .ok (.putfield 55, 3) := by decide +kernel
theorem dX3_readFirst_11 : decode cX3_readFirst 11 = .ok (.aload_n 0, 1) := by decide +kernel
theorem dX3_readFirst_12 : decode cX3_readFirst 12 = .ok (.getfield 55, 3) := by decide +kernel
theorem dX3_readFirst_15 : decode cX3_readFirst 15 = .ok (.iconst (-1), 1) := by decide +kernel
theorem dX3_readFirst_16 : decode cX3_readFirst 16 = .ok (.if_icmp .eq 7, 3) := by decide +kernel
theorem dX3_readFirst_19 : decode cX3_readFirst 19 = .ok (.iconst 1, 1) := by decide +kernel
theorem dX3_readFirst_20 : decode cX3_readFirst 20 = .ok (.goto 4, 3) := by decide +kernel
theorem dX3_readFirst_23 : decode cX3_readFirst 23 = .ok (.iconst 0, 1) := by decide +kernel
theorem dX3_readFirst_24 : decode cX3_readFirst 24 = .ok (.ireturn, 1) := by decide +kernel
set_option maxRecDepth 20000 in
theorem ggX3_readSecond_X3_readNumber : GoodIn wsX3_readSecond wsX3_readNumber := goodIn_r _ [6, 7, 8, 9, 10, 5, 11, 12, 13, 14, 15, 16, 17, 18, 19] (by decide +kernel) (by decide +kernel)
set_option maxRecDepth 20000 in
theorem gX3_readSecond_X3_readNumber : GoodIn wsX3_readSecond (wsV RX3 51 RX3 yX3_readNumber wsX3_readNumber) := goodIn_app (goodIn_of _ (by decide +kernel)) ggX3_readSecond_X3_readNumber
theorem dX3_readSecond_0 : decode cX3_readSecond 0 = .ok (.aload_n 0, 1) := by decide +kernel
theorem dX3_readSecond_1 : decode cX3_readSecond 1 = .ok (.aload_n 0, 1) := by decide +kernel
theorem dX3_readSecond_2 : decode cX3_readSecond 2 = .ok (.iconst 1, 1) := by decide +kernel
theorem dX3_readSecond_3 : decode cX3_readSecond 3 = .ok (.iload_n 1, 1) := by decide +kernel
theorem dX3_readSecond_4 : decode cX3_readSecond 4 = .ok (.iload_n 2, 1) := by decide +kernel
theorem dX3_readSecond_5 : decode cX3_readSecond 5 = .ok (.invokevirtual 51, 3) := by decide +kernel
theorem dX3_readSecond_8 : decode cX3_readSecond 8 = .ok (.putfield 45, 3) := by decide +kernel
theorem dX3_readSecond_11 : decode cX3_readSecond 11 = .ok (.aload_n 0, 1) := by decide +kernel
theorem dX3_readSecond_12 : decode cX3_readSecond 12 = .ok (.getfield 45, 3) := by decide +kernel
theorem dX3_readSecond_15 : decode cX3_readSecond 15 = .ok (.iconst (-1), 1) := by decide +kernel
theorem dX3_readSecond_16 : decode cX3_readSecond 16 = .ok (.if_icmp .eq 7, 3) := by decide +kernel
theorem dX3_readSecond_19 : decode cX3_readSecond 19 = .ok (.iconst 1, 1) := by decide +kernel
theorem dX3_readSecond_20 : decode cX3_readSecond 20 = .ok (.goto 4, 3) := by decide +kernel
theorem dX3_readSecond_23 : decode cX3_readSecond 23 = .ok (.iconst 0, 1) := by decide +kernel
theorem dX3_readSecond_24 : decode cX3_readSecond 24 = .ok (.ireturn, 1) := by decide +kernel
set_option maxRecDepth 20000 in
theorem ggX3_readNumber_X3_sign : GoodIn wsX3_readNumber wsX3_sign := goodIn_r _ [6, 1, 7, 8, 9, 10, 11, 12, 13, 14] (by decide +kernel) (by decide +kernel)
set_option maxRecDepth 20000 in
theorem gX3_readNumber_X3_sign : GoodIn wsX3_readNumber (wsV RX3 29 RX3 yX3_sign wsX3_sign) := goodIn_app (goodIn_of _ (by decide +kernel)) ggX3_readNumber_X3_sign
theorem dX3_readNumber_0 : decode cX3_readNumber 0 = .ok (.iconst 0, 1) := by decide +kernel
theorem dX3_readNumber_1 : decode cX3_readNumber 1 = .ok (.istore 4, 2) := by decide +kernel
theorem dX3_readNumber_3 : decode cX3_readNumber 3 = .ok (.iload_n 1, 1) := by decide +kernel
theorem dX3_readNumber_4 : decode cX3_readNumber 4 = .ok (.iconst 2, 1) := by decide +kernel
theorem dX3_readNumber_5 : decode cX3_readNumber 5 = .ok (.if_icmp .ne 8, 3) := by decide +kernel
theorem dX3_readNumber_8 : decode cX3_readNumber 8 = .ok (.bipush 100, 2) := by decide +kernel
theorem dX3_readNumber_10 : decode cX3_readNumber 10 = .ok (.goto 5, 3) := by decide +kernel
theorem dX3_readNumber_13 : decode cX3_readNumber 13 = .ok (.bipush 10, 2) := by decide +kernel
theorem dX3_readNumber_15 : decode cX3_readNumber 15 = .ok (.istore 5, 2) := by decide +kernel
theorem dX3_readNumber_17 : decode cX3_readNumber 17 = .ok (.iconst 0, 1) := by decide +kernel
theorem dX3_readNumber_18 : decode cX3_readNumber 18 = .ok (.istore 6, 2) := by decide +kernel
theorem dX3_readNumber_20 : decode cX3_readNumber 20 = .ok (.iload 6, 2) := by decide +kernel
theorem dX3_readNumber_22 : decode cX3_readNumber 22 = .ok (.iload_n 1, 1) := by decide +kernel
theorem dX3_readNumber_23 : decode cX3_readNumber 23 = .ok (.if_icmp .ge 80, 3) := by decide +kernel
theorem dX3_readNumber_26 : decode cX3_readNumber 26 = .ok (.aload_n 0, 1) := by decide +kernel
theorem dX3_readNumber_27 : decode cX3_readNumber 27 = .ok (.invokevirtual 29, 3) := by decide +kernel
theorem dX3_readNumber_30 : decode cX3_readNumber 30 = .ok (.istore 7, 2) := by decide +kernel
theorem dX3_readNumber_32 : decode cX3_readNumber 32 = .ok (.iload 7, 2) := by decide +kernel
theorem dX3_readNumber_34 : decode cX3_readNumber 34 = .ok (.bipush 48, 2) := by decide +kernel
theorem dX3_readNumber_36 : decode cX3_readNumber 36 = .ok (.if_icmp .lt 10, 3) := by decide +kernel
theorem dX3_readNumber_39 : decode cX3_readNumber 39 = .ok (.iload 7, 2) := by decide +kernel
theorem dX3_readNumber_41 : decode cX3_readNumber 41 = .ok (.bipush 57, 2) := by decide +kernel
theorem dX3_readNumber_43 : decode cX3_readNumber 43 = .ok (.if_icmp .le 5, 3) := by decide +kernel
theorem dX3_readNumber_46 : decode cX3_readNumber 46 = .ok (.iconst (-1), 1) := by decide +kernel
theorem dX3_readNumber_47 : decode cX3_readNumber 47 = .ok (.ireturn, 1) := by decide +kernel
theorem dX3_readNumber_48 : decode cX3_readNumber 48 = .ok (.iload 5, 2) := by decide +kernel
theorem dX3_readNumber_50 : decode cX3_readNumber 50 = .ok (.bipush 10, 2) := by decide +kernel
theorem dX3_readNumber_52 : decode cX3_readNumber 52 = .ok (.idiv, 1) := by decide +kernel
theorem dX3_readNumber_53 : decode cX3_readNumber 53 = .ok (.istore 5, 2) := by decide +kernel
theorem dX3_readNumber_55 : decode cX3_readNumber 55 = .ok (.iload 4, 2) := by decide +kernel
theorem dX3_readNumber_57 : decode cX3_readNumber 57 = .ok (.iload 7, 2) := by decide +kernel
theorem dX3_readNumber_59 : decode cX3_readNumber 59 = .ok (.bipush 48, 2) := by decide +kernel
theorem dX3_readNumber_61 : decode cX3_readNumber 61 = .ok (.isub, 1) := by decide +kernel
theorem dX3_readNumber_62 : decode cX3_readNumber 62 = .ok (.iload 5, 2) := by decide +kernel
theorem dX3_readNumber_64 : decode cX3_readNumber 64 = .ok (.imul, 1) := by decide +kernel
theorem dX3_readNumber_65 : decode cX3_readNumber 65 = .ok (.iadd, 1) := by decide +kernel
theorem dX3_readNumber_66 : decode cX3_readNumber 66 = .ok (.istore 4, 2) := by decide +kernel
theorem dX3_readNumber_68 : decode cX3_readNumber 68 = .ok (.iload 4, 2) := by decide +kernel
theorem dX3_readNumber_70 : decode cX3_readNumber 70 = .ok (.iload_n 3, 1) := by decide +kernel
theorem dX3_readNumber_71 : decode cX3_readNumber 71 = .ok (.if_icmp .gt 14, 3) := by decide +kernel
theorem dX3_readNumber_74 : decode cX3_readNumber 74 = .ok (.iload 4, 2) := by decide +kernel
theorem dX3_readNumber_76 : decode cX3_readNumber 76 = .ok (.iload 5, 2) := by decide +kernel
theorem dX3_readNumber_78 : decode cX3_readNumber 78 = .ok (.iadd, 1) := by decide +kernel
theorem dX3_readNumber_79 : decode cX3_readNumber 79 = .ok (.iconst 1, 1) := by decide +kernel
theorem dX3_readNumber_80 : decode cX3_readNumber 80 = .ok (.isub, 1) := by decide +kernel
theorem dX3_readNumber_81 : decode cX3_readNumber 81 = .ok (.iload_n 2, 1) := by decide +kernel
theorem dX3_readNumber_82 : decode cX3_readNumber 82 = .ok (.if_icmp .ge 5, 3) := by decide +kernel
theorem dX3_readNumber_85 : decode cX3_readNumber 85 = .ok (.iconst (-1), 1) := by decide +kernel
theorem dX3_readNumber_86 : decode cX3_readNumber 86 = .ok (.ireturn, 1) := by decide +kernel
theorem dX3_readNumber_87 : decode cX3_readNumber 87 = .ok (.aload_n 0, 1) := by decide +kernel
theorem dX3_readNumber_88 : decode cX3_readNumber 88 = .ok (.dup, 1) := by decide +kernel
theorem dX3_readNumber_89 : decode cX3_readNumber 89 = .ok (.getfield 23, 3) := by decide +kernel
theorem dX3_readNumber_92 : decode cX3_readNumber 92 = .ok (.iconst 1, 1) := by decide +kernel
theorem dX3_readNumber_93 : decode cX3_readNumber 93 = .ok (.iadd, 1) := by decide +kernel
theorem dX3_readNumber_94 : decode cX3_readNumber 94 = .ok (.putfield 23, 3) := by decide +kernel
theorem dX3_readNumber_97 : decode cX3_readNumber 97 = .ok (.iinc 6 1, 3) := by decide +kernel
theorem dX3_readNumber_100 : decode cX3_readNumber 100 = .ok (.goto (-80), 3) := by decide +kernel
theorem dX3_readNumber_103 : decode cX3_readNumber 103 = .ok (.iload 4, 2) := by decide +kernel
theorem dX3_readNumber_105 : decode cX3_readNumber 105 = .ok (.ireturn, 1) := by decide +kernel
theorem dX3_sign_0 : decode cX3_sign 0 = .ok (.aload_n 0, 1) := by decide +kernel
theorem dX3_sign_1 : decode cX3_sign 1 = .ok (.getfield 23, 3) := by decide +kernel
theorem dX3_sign_4 : decode cX3_sign 4 = .ok (.ifCond .lt 38, 3) := by decide +kernel
theorem dX3_sign_7 : decode cX3_sign 7 = .ok (.aload_n 0, 1) := by decide +kernel
theorem dX3_sign_8 : decode cX3_sign 8 = .ok (.getfield 23, 3) := by decide +kernel
theorem dX3_sign_11 : decode cX3_sign 11 = .ok (.aload_n 0, 1) := by decide +kernel
theorem dX3_sign_12 : decode cX3_sign 12 = .ok (.getfield 15, 3) := by decide +kernel
theorem dX3_sign_15 : decode cX3_sign 15 = .ok (.if_icmp .ge 27, 3) := by decide +kernel
theorem dX3_sign_18 : decode cX3_sign 18 = .ok (.aload_n 0, 1) := by decide +kernel
theorem dX3_sign_19 : decode cX3_sign 19 = .ok (.getfield 23, 3) := by decide +kernel
theorem dX3_sign_22 : decode cX3_sign 22 = .ok (.aload_n 0, 1) := by decide +kernel
theorem dX3_sign_23 : decode cX3_sign 23 = .ok (.getfield 9, 3) := by decide +kernel
theorem dX3_sign_26 : decode cX3_sign 26 = .ok (.arraylength, 1) := by decide +kernel
theorem dX3_sign_27 : decode cX3_sign 27 = .ok (.if_icmp .ge 15, 3) := by decide +kernel
theorem dX3_sign_30 : decode cX3_sign 30 = .ok (.aload_n 0, 1) := by decide +kernel
theorem dX3_sign_31 : decode cX3_sign 31 = .ok (.getfield 9, 3) := by decide +kernel
theorem dX3_sign_34 : decode cX3_sign 34 = .ok (.aload_n 0, 1) := by decide +kernel
theorem dX3_sign_35 : decode cX3_sign 35 = .ok (.getfield 23, 3) := by decide +kernel
theorem dX3_sign_38 : decode cX3_sign 38 = .ok (.caload, 1) := by decide +kernel
theorem dX3_sign_39 : decode cX3_sign 39 = .ok (.goto 4, 3) := by decide +kernel
theorem dX3_sign_42 : decode cX3_sign 42 = .ok (.iconst (-1), 1) := by decide +kernel
theorem dX3_sign_43 : decode cX3_sign 43 = .ok (.ireturn, 1) := by decide +kernel
set_option maxRecDepth 20000 in
theorem ggX4_init_X4_layOut : GoodIn wsX4_init wsX4_layOut := goodIn_r _ [12, 5, 13, 4, 14, 15, 16, 17, 18, 19, 20, 21, 22, 23, 24, 25, 26, 27, 28] (by decide +kernel) (by decide +kernel)
set_option maxRecDepth 20000 in
theorem gX4_init_X4_layOut : GoodIn wsX4_init (wsV RX4 24 RX4 yX4_layOut wsX4_layOut) := goodIn_app (goodIn_of _ (by decide +kernel)) ggX4_init_X4_layOut
theorem dX4_init_0 : decode cX4_init 0 = .ok (.aload_n 0, 1) := by decide +kernel
theorem dX4_init_1 : decode cX4_init 1 = .ok (.invokespecial 3, 3) := by decide +kernel
theorem dX4_init_4 : decode cX4_init 4 = .ok (.aload_n 0, 1) := by decide +kernel
theorem dX4_init_5 : decode cX4_init 5 = .ok (.iconst 4, 1) := by decide +kernel
theorem dX4_init_6 : decode cX4_init 6 = .ok (.putfield 9, 3) := by decide +kernel
theorem dX4_init_9 : decode cX4_init 9 = .ok (.aload_n 0, 1) := by decide +kernel
theorem dX4_init_10 : decode cX4_init 10 = .ok (.iconst 4, 1) := by decide +kernel
theorem dX4_init_11 : decode cX4_init 11 = .ok (.putfield 15, 3) := by decide +kernel
theorem dX4_init_14 : decode cX4_init 14 = .ok (.aload_n 0, 1) := by decide +kernel
theorem dX4_init_15 : decode cX4_init 15 = .ok (.iconst 0, 1) := by decide +kernel
theorem dX4_init_16 : decode cX4_init 16 = .ok (.putfield 18, 3) := by decide +kernel
theorem dX4_init_19 : decode cX4_init 19 = .ok (.aload_n 0, 1) := by decide +kernel
theorem dX4_init_20 : decode cX4_init 20 = .ok (.iconst 0, 1) := by decide +kernel
theorem dX4_init_21 : decode cX4_init 21 = .ok (.putfield 21, 3) := by decide +kernel
theorem dX4_init_24 : decode cX4_init 24 = .ok (.aload_n 0, 1) := by decide +kernel
theorem dX4_init_25 : decode cX4_init 25 = .ok (.invokevirtual 24, 3) := by decide +kernel
theorem dX4_init_28 : decode cX4_init 28 = .ok (.return_, 1) := by decide +kernel
theorem dX4_copy_0 : decode cX4_copy 0 = .ok (.aload_n 0, 1) := by decide +kernel
theorem dX4_copy_1 : decode cX4_copy 1 = .ok (.aload_n 1, 1) := by decide +kernel
theorem dX4_copy_2 : decode cX4_copy 2 = .ok (.getfield 9, 3) := by decide +kernel
theorem dX4_copy_5 : decode cX4_copy 5 = .ok (.putfield 9, 3) := by decide +kernel
theorem dX4_copy_8 : decode cX4_copy 8 = .ok (.aload_n 0, 1) := by decide +kernel
theorem dX4_copy_9 : decode cX4_copy 9 = .ok (.aload_n 1, 1) := by decide +kernel
theorem dX4_copy_10 : decode cX4_copy 10 = .ok (.getfield 15, 3) := by decide +kernel
theorem dX4_copy_13 : decode cX4_copy 13 = .ok (.putfield 15, 3) := by decide +kernel
theorem dX4_copy_16 : decode cX4_copy 16 = .ok (.aload_n 0, 1) := by decide +kernel
theorem dX4_copy_17 : decode cX4_copy 17 = .ok (.aload_n 1, 1) := by decide +kernel
theorem dX4_copy_18 : decode cX4_copy 18 = .ok (.getfield 18, 3) := by decide +kernel
theorem dX4_copy_21 : decode cX4_copy 21 = .ok (.putfield 18, 3) := by decide +kernel
theorem dX4_copy_24 : decode cX4_copy 24 = .ok (.aload_n 0, 1) := by decide +kernel
theorem dX4_copy_25 : decode cX4_copy 25 = .ok (.aload_n 1, 1) := by decide +kernel
theorem dX4_copy_26 : decode cX4_copy 26 = .ok (.getfield 21, 3) := by decide +kernel
theorem dX4_copy_29 : decode cX4_copy 29 = .ok (.putfield 21, 3) := by decide +kernel
theorem dX4_copy_32 : decode cX4_copy 32 = .ok (.aload_n 0, 1) := by decide +kernel
theorem dX4_copy_33 : decode cX4_copy 33 = .ok (.aload_n 1, 1) := by decide +kernel
theorem dX4_copy_34 : decode cX4_copy 34 = .ok (.getfield 27, 3) := by decide +kernel
theorem dX4_copy_37 : decode cX4_copy 37 = .ok (.putfield 27, 3) := by decide +kernel
theorem dX4_copy_40 : decode cX4_copy 40 = .ok (.aload_n 0, 1) := by decide +kernel
theorem dX4_copy_41 : decode cX4_copy 41 = .ok (.aload_n 1, 1) := by decide +kernel
theorem dX4_copy_42 : decode cX4_copy 42 = .ok (.getfield 31, 3) := by decide +kernel
theorem dX4_copy_45 : decode cX4_copy 45 = .ok (.putfield 31, 3) := by decide +kernel
theorem dX4_copy_48 : decode cX4_copy 48 = .ok (.aload_n 0, 1) := by decide +kernel
theorem dX4_copy_49 : decode cX4_copy 49 = .ok (.aload_n 1, 1) := by decide +kernel
theorem dX4_copy_50 : decode cX4_copy 50 = .ok (.getfield 34, 3) := by decide +kernel
theorem dX4_copy_53 : decode cX4_copy 53 = .ok (.putfield 34, 3) := by decide +kernel
theorem dX4_copy_56 : decode cX4_copy 56 = .ok (.aload_n 0, 1) := by decide +kernel
theorem dX4_copy_57 : decode cX4_copy 57 = .ok (.aload_n 1, 1) := by decide +kernel
theorem dX4_copy_58 : decode cX4_copy 58 = .ok (.getfield 37, 3) := by decide +kernel
theorem dX4_copy_61 : decode cX4_copy 61 = .ok (.putfield 37, 3) := by decide +kernel
theorem dX4_copy_64 : decode cX4_copy 64 = .ok (.aload_n 0, 1) := by decide +kernel
theorem dX4_copy_65 : decode cX4_copy 65 = .ok (.aload_n 1, 1) := by decide +kernel
theorem dX4_copy_66 : decode cX4_copy 66 = .ok (.getfield 40, 3) := by decide +kernel
theorem dX4_copy_69 : decode cX4_copy 69 = .ok (.putfield 40, 3) := by decide +kernel
theorem dX4_copy_72 : decode cX4_copy 72 = .ok (.aload_n 0, 1) := by decide +kernel
theorem dX4_copy_73 : decode cX4_copy 73 = .ok (.aload_n 1, 1) := by decide +kernel
theorem dX4_copy_74 : decode cX4_copy 74 = .ok (.getfield 43, 3) := by decide +kernel
theorem dX4_copy_77 : decode cX4_copy 77 = .ok (.putfield 43, 3) := by decide +kernel
theorem dX4_copy_80 : decode cX4_copy 80 = .ok (.aload_n 0, 1) := by decide +kernel
theorem dX4_copy_81 : decode cX4_copy 81 = .ok (.aload_n 1, 1) := by decide +kernel
theorem dX4_copy_82 : decode cX4_copy 82 = .ok (.getfield 46, 3) := by decide +kernel
theorem dX4_copy_85 : decode cX4_copy 85 = .ok (.putfield 46, 3) := by decide +kernel
theorem dX4_copy_88 : decode cX4_copy 88 = .ok (.aload_n 0, 1) := by decide +kernel
theorem dX4_copy_89 : decode cX4_copy 89 = .ok (.aload_n 1, 1) := by decide +kernel
theorem dX4_copy_90 : decode cX4_copy 90 = .ok (.getfield 49, 3) := by decide +kernel
theorem dX4_copy_93 : decode cX4_copy 93 = .ok (.putfield 49, 3) := by decide +kernel
theorem dX4_copy_96 : decode cX4_copy 96 = .ok (.return_, 1) := by decide +kernel
set_option maxRecDepth 20000 in
theorem ggX4_renew_X4_replace : GoodIn wsX4_renew wsX4_replace := goodIn_r _ [7, 8, 9, 10, 11, 12, 13, 14, 15, 16, 6, 17, 18, 19, 20, 21, 22, 23, 24, 25, 26, 27, 28, 29, 30, 31, 32, 33] (by decide +kernel) (by decide +kernel)
set_option maxRecDepth 20000 in
theorem gX4_renew_X4_replace : GoodIn wsX4_renew (wsV RX4 52 RX4 yX4_replace wsX4_replace) := goodIn_app (goodIn_of _ (by decide +kernel)) ggX4_renew_X4_replace
theorem dX4_renew_0 : decode cX4_renew 0 = .ok (.aload_n 0, 1) := by decide +kernel
theorem dX4_renew_1 : decode cX4_renew 1 = .ok (.iconst 0, 1) := by decide +kernel
theorem dX4_renew_2 : decode cX4_renew 2 = .ok (.putfield 18, 3) := by decide +kernel
theorem dX4_renew_5 : decode cX4_renew 5 = .ok (.aload_n 0, 1) := by decide +kernel
theorem dX4_renew_6 : decode cX4_renew 6 = .ok (.iconst 0, 1) := by decide +kernel
theorem dX4_renew_7 : decode cX4_renew 7 = .ok (.putfield 21, 3) := by decide +kernel
theorem dX4_renew_10 : decode cX4_renew 10 = .ok (.aload_n 0, 1) := by decide +kernel
theorem dX4_renew_11 : decode cX4_renew 11 = .ok (.iload_n 1, 1) := by decide +kernel
theorem dX4_renew_12 : decode cX4_renew 12 = .ok (.iload_n 2, 1) := by decide +kernel
theorem dX4_renew_13 : decode cX4_renew 13 = .ok (.invokevirtual 52, 3) := by decide +kernel
theorem dX4_renew_16 : decode cX4_renew 16 = .ok (.return_, 1) := by decide +kernel
set_option maxRecDepth 20000 in
theorem ggX4_replace_X4_layOut : GoodIn wsX4_replace wsX4_layOut := goodIn_r _ [11, 2, 12, 1, 13, 14, 15, 16, 17, 18, 19, 20, 21, 22, 23, 24, 25, 26, 27] (by decide +kernel) (by decide +kernel)
set_option maxRecDepth 20000 in
theorem gX4_replace_X4_layOut : GoodIn wsX4_replace (wsV RX4 24 RX4 yX4_layOut wsX4_layOut) := goodIn_app (goodIn_of _ (by decide +kernel)) ggX4_replace_X4_layOut
theorem dX4_replace_0 : decode cX4_replace 0 = .ok (.aload_n 0, 1) := by decide +kernel
theorem dX4_replace_1 : decode cX4_replace 1 = .ok (.iload_n 1, 1) := by decide +kernel
theorem dX4_replace_2 : decode cX4_replace 2 = .ok (.putfield 9, 3) := by decide +kernel
theorem dX4_replace_5 : decode cX4_replace 5 = .ok (.aload_n 0, 1) := by decide +kernel
theorem dX4_replace_6 : decode cX4_replace 6 = .ok (.iload_n 2, 1) := by decide +kernel
theorem dX4_replace_7 : decode cX4_replace 7 = .ok (.putfield 15, 3) := by decide +kernel
theorem dX4_replace_10 : decode cX4_replace 10 = .ok (.aload_n 0, 1) := by decide +kernel
theorem dX4_replace_11 : decode cX4_replace 11 = .ok (.lconst 0, 1) := by decide +kernel
theorem dX4_replace_12 : decode cX4_replace 12 = .ok (.putfield 27, 3) := by decide +kernel
theorem dX4_replace_15 : decode cX4_replace 15 = .ok (.aload_n 0, 1) := by decide +kernel
theorem dX4_replace_16 : decode cX4_replace 16 = .ok (.iconst 0, 1) := by decide +kernel
theorem dX4_replace_17 : decode cX4_replace 17 = .ok (.putfield 31, 3) := by decide +kernel
theorem dX4_replace_20 : decode cX4_replace 20 = .ok (.aload_n 0, 1) := by decide +kernel
theorem dX4_replace_21 : decode cX4_replace 21 = .ok (.lconst 0, 1) := by decide +kernel
theorem dX4_replace_22 : decode cX4_replace 22 = .ok (.putfield 46, 3) := by decide +kernel
theorem dX4_replace_25 : decode cX4_replace 25 = .ok (.aload_n 0, 1) := by decide +kernel
theorem dX4_replace_26 : decode cX4_replace 26 = .ok (.lconst 0, 1) := by decide +kernel
theorem dX4_replace_27 : decode cX4_replace 27 = .ok (.putfield 49, 3) := by decide +kernel
theorem dX4_replace_30 : decode cX4_replace 30 = .ok (.aload_n 0, 1) := by decide +kernel
theorem dX4_replace_31 : decode cX4_replace 31 = .ok (.invokevirtual 24, 3) := by decide +kernel
theorem dX4_replace_34 : decode cX4_replace 34 = .ok (.return_, 1) := by decide +kernel
theorem dX4_layOut_0 : decode cX4_layOut 0 = .ok (.aload_n 0, 1) := by decide +kernel
theorem dX4_layOut_1 : decode cX4_layOut 1 = .ok (.lconst 1, 1) := by decide +kernel
theorem dX4_layOut_2 : decode cX4_layOut 2 = .ok (.aload_n 0, 1) := by decide +kernel
theorem dX4_layOut_3 : decode cX4_layOut 3 = .ok (.getfield 15, 3) := by decide +kernel
theorem dX4_layOut_6 : decode cX4_layOut 6 = .ok (.lshl, 1) := by decide +kernel
theorem dX4_layOut_7 : decode cX4_layOut 7 = .ok (.lconst 1, 1) := by decide +kernel
theorem dX4_layOut_8 : decode cX4_layOut 8 = .ok (.lsub, 1) := by decide +kernel
theorem dX4_layOut_9 : decode cX4_layOut 9 = .ok (.putfield 34, 3) := by decide +kernel
theorem dX4_layOut_12 : decode cX4_layOut 12 = .ok (.aload_n 0, 1) := by decide +kernel
theorem dX4_layOut_13 : decode cX4_layOut 13 = .ok (.aload_n 0, 1) := by decide +kernel
theorem dX4_layOut_14 : decode cX4_layOut 14 = .ok (.getfield 34, 3) := by decide +kernel
theorem dX4_layOut_17 : decode cX4_layOut 17 = .ok (.aload_n 0, 1) := by decide +kernel
theorem dX4_layOut_18 : decode cX4_layOut 18 = .ok (.getfield 9, 3) := by decide +kernel
theorem dX4_layOut_21 : decode cX4_layOut 21 = .ok (.iconst 1, 1) := by decide +kernel
theorem dX4_layOut_22 : decode cX4_layOut 22 = .ok (.isub, 1) := by decide +kernel
theorem dX4_layOut_23 : decode cX4_layOut 23 = .ok (.aload_n 0, 1) := by decide +kernel
theorem dX4_layOut_24 : decode cX4_layOut 24 = .ok (.getfield 15, 3) := by decide +kernel
theorem dX4_layOut_27 : decode cX4_layOut 27 = .ok (.imul, 1) := by decide +kernel
theorem dX4_layOut_28 : decode cX4_layOut 28 = .ok (.lshl, 1) := by decide +kernel
theorem dX4_layOut_29 : decode cX4_layOut 29 = .ok (.putfield 40, 3) := by decide +kernel
theorem dX4_layOut_32 : decode cX4_layOut 32 = .ok (.aload_n 0, 1) := by decide +kernel
theorem dX4_layOut_33 : decode cX4_layOut 33 = .ok (.lconst 0, 1) := by decide +kernel
theorem dX4_layOut_34 : decode cX4_layOut 34 = .ok (.putfield 43, 3) := by decide +kernel
theorem dX4_layOut_37 : decode cX4_layOut 37 = .ok (.iconst 0, 1) := by decide +kernel
theorem dX4_layOut_38 : decode cX4_layOut 38 = .ok (.istore_n 1, 1) := by decide +kernel
theorem dX4_layOut_39 : decode cX4_layOut 39 = .ok (.iload_n 1, 1) := by decide +kernel
theorem dX4_layOut_40 : decode cX4_layOut 40 = .ok (.aload_n 0, 1) := by decide +kernel
theorem dX4_layOut_41 : decode cX4_layOut 41 = .ok (.getfield 9, 3) := by decide +kernel
theorem dX4_layOut_44 : decode cX4_layOut 44 = .ok (.if_icmp .ge 26, 3) := by decide +kernel
theorem dX4_layOut_47 : decode cX4_layOut 47 = .ok (.aload_n 0, 1) := by decide +kernel
theorem dX4_layOut_48 : decode cX4_layOut 48 = .ok (.dup, 1) := by decide +kernel
theorem dX4_layOut_49 : decode cX4_layOut 49 = .ok (.getfield 43, 3) := by decide +kernel
theorem dX4_layOut_52 : decode cX4_layOut 52 = .ok (.lconst 1, 1) := by decide +kernel
theorem dX4_layOut_53 : decode cX4_layOut 53 = .ok (.iload_n 1, 1) := by decide +kernel
theorem dX4_layOut_54 : decode cX4_layOut 54 = .ok (.aload_n 0, 1) := by decide +kernel
theorem dX4_layOut_55 : decode cX4_layOut 55 = .ok (.getfield 15, 3) := by decide +kernel
theorem dX4_layOut_58 : decode cX4_layOut 58 = .ok (.imul, 1) := by decide +kernel
theorem dX4_layOut_59 : decode cX4_layOut 59 = .ok (.lshl, 1) := by decide +kernel
theorem dX4_layOut_60 : decode cX4_layOut 60 = .ok (.lor, 1) := by decide +kernel
theorem dX4_layOut_61 : decode cX4_layOut 61 = .ok (.putfield 43, 3) := by decide +kernel
theorem dX4_layOut_64 : decode cX4_layOut 64 = .ok (.iinc 1 1, 3) := by decide +kernel
theorem dX4_layOut_67 : decode cX4_layOut 67 = .ok (.goto (-28), 3) := by decide +kernel
theorem dX4_layOut_70 : decode cX4_layOut 70 = .ok (.aload_n 0, 1) := by decide +kernel
theorem dX4_layOut_71 : decode cX4_layOut 71 = .ok (.aload_n 0, 1) := by decide +kernel
theorem dX4_layOut_72 : decode cX4_layOut 72 = .ok (.getfield 43, 3) := by decide +kernel
theorem dX4_layOut_75 : decode cX4_layOut 75 = .ok (.aload_n 0, 1) := by decide +kernel
theorem dX4_layOut_76 : decode cX4_layOut 76 = .ok (.getfield 15, 3) := by decide +kernel
theorem dX4_layOut_79 : decode cX4_layOut 79 = .ok (.iconst 1, 1) := by decide +kernel
theorem dX4_layOut_80 : decode cX4_layOut 80 = .ok (.isub, 1) := by decide +kernel
theorem dX4_layOut_81 : decode cX4_layOut 81 = .ok (.lshl, 1) := by decide +kernel
theorem dX4_layOut_82 : decode cX4_layOut 82 = .ok (.putfield 37, 3) := by decide +kernel
theorem dX4_layOut_85 : decode cX4_layOut 85 = .ok (.return_, 1) := by decide +kernel
theorem dX4_count_0 : decode cX4_count 0 = .ok (.aload_n 0, 1) := by decide +kernel
theorem dX4_count_1 : decode cX4_count 1 = .ok (.getfield 9, 3) := by decide +kernel
theorem dX4_count_4 : decode cX4_count 4 = .ok (.aload_n 0, 1) := by decide +kernel
theorem dX4_count_5 : decode cX4_count 5 = .ok (.getfield 15, 3) := by decide +kernel
theorem dX4_count_8 : decode cX4_count 8 = .ok (.imul, 1) := by decide +kernel
theorem dX4_count_9 : decode cX4_count 9 = .ok (.ireturn, 1) := by decide +kernel
theorem dX4_hasCell_0 : decode cX4_hasCell 0 = .ok (.iload_n 1, 1) := by decide +kernel
theorem dX4_hasCell_1 : decode cX4_hasCell 1 = .ok (.ifCond .lt 20, 3) := by decide +kernel
theorem dX4_hasCell_4 : decode cX4_hasCell 4 = .ok (.iload_n 1, 1) := by decide +kernel
theorem dX4_hasCell_5 : decode cX4_hasCell 5 = .ok (.aload_n 0, 1) := by decide +kernel
theorem dX4_hasCell_6 : decode cX4_hasCell 6 = .ok (.getfield 9, 3) := by decide +kernel
theorem dX4_hasCell_9 : decode cX4_hasCell 9 = .ok (.aload_n 0, 1) := by decide +kernel
theorem dX4_hasCell_10 : decode cX4_hasCell 10 = .ok (.getfield 15, 3) := by decide +kernel
theorem dX4_hasCell_13 : decode cX4_hasCell 13 = .ok (.imul, 1) := by decide +kernel
theorem dX4_hasCell_14 : decode cX4_hasCell 14 = .ok (.if_icmp .ge 7, 3) := by decide +kernel
theorem dX4_hasCell_17 : decode cX4_hasCell 17 = .ok (.iconst 1, 1) := by decide +kernel
theorem dX4_hasCell_18 : decode cX4_hasCell 18 = .ok (.goto 4, 3) := by decide +kernel
theorem dX4_hasCell_21 : decode cX4_hasCell 21 = .ok (.iconst 0, 1) := by decide +kernel
theorem dX4_hasCell_22 : decode cX4_hasCell 22 = .ok (.ireturn, 1) := by decide +kernel
set_option maxRecDepth 20000 in
theorem ggX4_isFrozen_X5_holds : GoodIn wsX4_isFrozen wsX5_holds := goodIn_r _ [4] (by decide +kernel) (by decide +kernel)
set_option maxRecDepth 20000 in
theorem gX4_isFrozen_X5_holds_n56 : GoodIn wsX4_isFrozen (wsX5_holds) := ggX4_isFrozen_X5_holds
theorem dX4_isFrozen_0 : decode cX4_isFrozen 0 = .ok (.aload_n 0, 1) := by decide +kernel
theorem dX4_isFrozen_1 : decode cX4_isFrozen 1 = .ok (.getfield 27, 3) := by decide +kernel
theorem dX4_isFrozen_4 : decode cX4_isFrozen 4 = .ok (.iload_n 1, 1) := by decide +kernel
theorem dX4_isFrozen_5 : decode cX4_isFrozen 5 = .ok (.invokestatic 56, 3) := by decide +kernel
theorem dX4_isFrozen_8 : decode cX4_isFrozen 8 = .ok (.ireturn, 1) := by decide +kernel
theorem dX4_kind_0 : decode cX4_kind 0 = .ok (.aload_n 0, 1) := by decide +kernel
theorem dX4_kind_1 : decode cX4_kind 1 = .ok (.getfield 31, 3) := by decide +kernel
theorem dX4_kind_4 : decode cX4_kind 4 = .ok (.iconst 2, 1) := by decide +kernel
theorem dX4_kind_5 : decode cX4_kind 5 = .ok (.iload_n 1, 1) := by decide +kernel
theorem dX4_kind_6 : decode cX4_kind 6 = .ok (.imul, 1) := by decide +kernel
theorem dX4_kind_7 : decode cX4_kind 7 = .ok (.iushr, 1) := by decide +kernel
theorem dX4_kind_8 : decode cX4_kind 8 = .ok (.iconst 3, 1) := by decide +kernel
theorem dX4_kind_9 : decode cX4_kind 9 = .ok (.iand, 1) := by decide +kernel
theorem dX4_kind_10 : decode cX4_kind 10 = .ok (.ireturn, 1) := by decide +kernel
set_option maxRecDepth 20000 in
theorem ggX4_beside_X4_along : GoodIn wsX4_beside wsX4_along := goodIn_r _ [5, 6, 7, 8, 9, 28, 29, 30, 31, 32, 33, 34, 35, 36, 37, 38, 39] (by decide +kernel) (by decide +kernel)
set_option maxRecDepth 20000 in
theorem gX4_beside_X4_along : GoodIn wsX4_beside (wsV RX4 60 RX4 yX4_along wsX4_along) := goodIn_app (goodIn_of _ (by decide +kernel)) ggX4_beside_X4_along
set_option maxRecDepth 20000 in
theorem ggX4_beside_X5_holds : GoodIn wsX4_beside wsX5_holds := goodIn_r _ [12] (by decide +kernel) (by decide +kernel)
set_option maxRecDepth 20000 in
theorem gX4_beside_X5_holds_n56 : GoodIn wsX4_beside (wsX5_holds) := ggX4_beside_X5_holds
set_option maxRecDepth 20000 in
theorem ggX4_beside_X4_step : GoodIn wsX4_beside wsX4_step := goodIn_r _ [16, 17, 28, 29, 30, 31, 32, 33, 34, 35, 36, 37, 38, 39] (by decide +kernel) (by decide +kernel)
set_option maxRecDepth 20000 in
theorem gX4_beside_X4_step : GoodIn wsX4_beside (wsV RX4 64 RX4 yX4_step wsX4_step) := goodIn_app (goodIn_of _ (by decide +kernel)) ggX4_beside_X4_step
set_option maxRecDepth 20000 in
theorem ggX4_beside_X4_kind : GoodIn wsX4_beside wsX4_kind := goodIn_r _ [21, 22, 28, 29, 30, 31, 32, 33, 34, 35, 36, 37, 38, 39] (by decide +kernel) (by decide +kernel)
set_option maxRecDepth 20000 in
theorem gX4_beside_X4_kind : GoodIn wsX4_beside (wsV RX4 68 RX4 yX4_kind wsX4_kind) := goodIn_app (goodIn_of _ (by decide +kernel)) ggX4_beside_X4_kind
set_option maxRecDepth 20000 in
theorem ggX4_beside_X4_stepsAcross : GoodIn wsX4_beside wsX4_stepsAcross := goodIn_r _ [26, 27, 17, 13, 14, 15, 4, 16, 28, 29, 30, 31, 32, 33, 34, 35, 36, 37, 38, 39] (by decide +kernel) (by decide +kernel)
set_option maxRecDepth 20000 in
theorem gX4_beside_X4_stepsAcross : GoodIn wsX4_beside (wsV RX4 71 RX4 yX4_stepsAcross wsX4_stepsAcross) := goodIn_app (goodIn_of _ (by decide +kernel)) ggX4_beside_X4_stepsAcross
theorem dX4_beside_0 : decode cX4_beside 0 = .ok (.aload_n 0, 1) := by decide +kernel
theorem dX4_beside_1 : decode cX4_beside 1 = .ok (.iload_n 2, 1) := by decide +kernel
theorem dX4_beside_2 : decode cX4_beside 2 = .ok (.invokevirtual 60, 3) := by decide +kernel
theorem dX4_beside_5 : decode cX4_beside 5 = .ok (.iload_n 1, 1) := by decide +kernel
theorem dX4_beside_6 : decode cX4_beside 6 = .ok (.invokestatic 56, 3) := by decide +kernel
theorem dX4_beside_9 : decode cX4_beside 9 = .ok (.ifCond .ne 11, 3) := by decide +kernel
theorem dX4_beside_12 : decode cX4_beside 12 = .ok (.iload_n 1, 1) := by decide +kernel
theorem dX4_beside_13 : decode cX4_beside 13 = .ok (.aload_n 0, 1) := by decide +kernel
theorem dX4_beside_14 : decode cX4_beside 14 = .ok (.iload_n 2, 1) := by decide +kernel
theorem dX4_beside_15 : decode cX4_beside 15 = .ok (.invokevirtual 64, 3) := by decide +kernel
theorem dX4_beside_18 : decode cX4_beside 18 = .ok (.iadd, 1) := by decide +kernel
theorem dX4_beside_19 : decode cX4_beside 19 = .ok (.ireturn, 1) := by decide +kernel
theorem dX4_beside_20 : decode cX4_beside 20 = .ok (.aload_n 0, 1) := by decide +kernel
theorem dX4_beside_21 : decode cX4_beside 21 = .ok (.iload_n 2, 1) := by decide +kernel
theorem dX4_beside_22 : decode cX4_beside 22 = .ok (.invokevirtual 68, 3) := by decide +kernel
theorem dX4_beside_25 : decode cX4_beside 25 = .ok (.iconst 2, 1) := by decide +kernel
theorem dX4_beside_26 : decode cX4_beside 26 = .ok (.if_icmp .ne 13, 3) := by decide +kernel
theorem dX4_beside_29 : decode cX4_beside 29 = .ok (.iload_n 1, 1) := by decide +kernel
theorem dX4_beside_30 : decode cX4_beside 30 = .ok (.aload_n 0, 1) := by decide +kernel
theorem dX4_beside_31 : decode cX4_beside 31 = .ok (.iload_n 2, 1) := by decide +kernel
theorem dX4_beside_32 : decode cX4_beside 32 = .ok (.invokevirtual 71, 3) := by decide +kernel
theorem dX4_beside_35 : decode cX4_beside 35 = .ok (.isub, 1) := by decide +kernel
theorem dX4_beside_36 : decode cX4_beside 36 = .ok (.goto 4, 3) := by decide +kernel
theorem dX4_beside_39 : decode cX4_beside 39 = .ok (.iconst (-1), 1) := by decide +kernel
theorem dX4_beside_40 : decode cX4_beside 40 = .ok (.ireturn, 1) := by decide +kernel
theorem dX4_along_0 : decode cX4_along 0 = .ok (.iload_n 1, 1) := by decide +kernel
theorem dX4_along_1 : decode cX4_along 1 = .ok (.tableswitch 42 0 2 #[27, 32, 37], 27) := by decide +kernel
theorem dX4_along_28 : decode cX4_along 28 = .ok (.aload_n 0, 1) := by decide +kernel
theorem dX4_along_29 : decode cX4_along 29 = .ok (.getfield 34, 3) := by decide +kernel
theorem dX4_along_32 : decode cX4_along 32 = .ok (.lreturn, 1) := by decide +kernel
theorem dX4_along_33 : decode cX4_along 33 = .ok (.aload_n 0, 1) := by decide +kernel
theorem dX4_along_34 : decode cX4_along 34 = .ok (.getfield 37, 3) := by decide +kernel
theorem dX4_along_37 : decode cX4_along 37 = .ok (.lreturn, 1) := by decide +kernel
theorem dX4_along_38 : decode cX4_along 38 = .ok (.aload_n 0, 1) := by decide +kernel
theorem dX4_along_39 : decode cX4_along 39 = .ok (.getfield 40, 3) := by decide +kernel
theorem dX4_along_42 : decode cX4_along 42 = .ok (.lreturn, 1) := by decide +kernel
theorem dX4_along_43 : decode cX4_along 43 = .ok (.aload_n 0, 1) := by decide +kernel
theorem dX4_along_44 : decode cX4_along 44 = .ok (.getfield 43, 3) := by decide +kernel
theorem dX4_along_47 : decode cX4_along 47 = .ok (.lreturn, 1) := by decide +kernel
theorem dX4_step_0 : decode cX4_step 0 = .ok (.iload_n 1, 1) := by decide +kernel
theorem dX4_step_1 : decode cX4_step 1 = .ok (.tableswitch 40 0 2 #[27, 33, 35], 27) := by decide +kernel
theorem dX4_step_28 : decode cX4_step 28 = .ok (.aload_n 0, 1) := by decide +kernel
theorem dX4_step_29 : decode cX4_step 29 = .ok (.getfield 15, 3) := by decide +kernel
theorem dX4_step_32 : decode cX4_step 32 = .ok (.ineg, 1) := by decide +kernel
theorem dX4_step_33 : decode cX4_step 33 = .ok (.ireturn, 1) := by decide +kernel
theorem dX4_step_34 : decode cX4_step 34 = .ok (.iconst 1, 1) := by decide +kernel
theorem dX4_step_35 : decode cX4_step 35 = .ok (.ireturn, 1) := by decide +kernel
theorem dX4_step_36 : decode cX4_step 36 = .ok (.aload_n 0, 1) := by decide +kernel
theorem dX4_step_37 : decode cX4_step 37 = .ok (.getfield 15, 3) := by decide +kernel
theorem dX4_step_40 : decode cX4_step 40 = .ok (.ireturn, 1) := by decide +kernel
theorem dX4_step_41 : decode cX4_step 41 = .ok (.iconst (-1), 1) := by decide +kernel
theorem dX4_step_42 : decode cX4_step 42 = .ok (.ireturn, 1) := by decide +kernel
set_option maxRecDepth 20000 in
theorem ggX4_stepsAcross_X4_step : GoodIn wsX4_stepsAcross wsX4_step := goodIn_r _ [7, 2, 8, 9, 10, 11, 12, 13, 14, 15, 16, 17, 18, 19] (by decide +kernel) (by decide +kernel)
set_option maxRecDepth 20000 in
theorem gX4_stepsAcross_X4_step : GoodIn wsX4_stepsAcross (wsV RX4 64 RX4 yX4_step wsX4_step) := goodIn_app (goodIn_of _ (by decide +kernel)) ggX4_stepsAcross_X4_step
theorem dX4_stepsAcross_0 : decode cX4_stepsAcross 0 = .ok (.aload_n 0, 1) := by decide +kernel
theorem dX4_stepsAcross_1 : decode cX4_stepsAcross 1 = .ok (.iload_n 1, 1) := by decide +kernel
theorem dX4_stepsAcross_2 : decode cX4_stepsAcross 2 = .ok (.invokevirtual 64, 3) := by decide +kernel
theorem dX4_stepsAcross_5 : decode cX4_stepsAcross 5 = .ok (.iload_n 1, 1) := by decide +kernel
theorem dX4_stepsAcross_6 : decode cX4_stepsAcross 6 = .ok (.ifCond .eq 8, 3) := by decide +kernel
theorem dX4_stepsAcross_9 : decode cX4_stepsAcross 9 = .ok (.iload_n 1, 1) := by decide +kernel
theorem dX4_stepsAcross_10 : decode cX4_stepsAcross 10 = .ok (.iconst 2, 1) := by decide +kernel
theorem dX4_stepsAcross_11 : decode cX4_stepsAcross 11 = .ok (.if_icmp .ne 10, 3) := by decide +kernel
theorem dX4_stepsAcross_14 : decode cX4_stepsAcross 14 = .ok (.aload_n 0, 1) := by decide +kernel
theorem dX4_stepsAcross_15 : decode cX4_stepsAcross 15 = .ok (.getfield 9, 3) := by decide +kernel
theorem dX4_stepsAcross_18 : decode cX4_stepsAcross 18 = .ok (.goto 7, 3) := by decide +kernel
theorem dX4_stepsAcross_21 : decode cX4_stepsAcross 21 = .ok (.aload_n 0, 1) := by decide +kernel
theorem dX4_stepsAcross_22 : decode cX4_stepsAcross 22 = .ok (.getfield 15, 3) := by decide +kernel
theorem dX4_stepsAcross_25 : decode cX4_stepsAcross 25 = .ok (.iconst 1, 1) := by decide +kernel
theorem dX4_stepsAcross_26 : decode cX4_stepsAcross 26 = .ok (.isub, 1) := by decide +kernel
theorem dX4_stepsAcross_27 : decode cX4_stepsAcross 27 = .ok (.imul, 1) := by decide +kernel
theorem dX4_stepsAcross_28 : decode cX4_stepsAcross 28 = .ok (.ireturn, 1) := by decide +kernel
set_option maxRecDepth 20000 in
theorem ggX4_isScratched_X4_beside : GoodIn wsX4_isScratched wsX4_beside := goodIn_r _ [7, 8, 9, 10, 6, 11, 12, 13, 14, 15, 16, 17, 18, 19, 20, 21, 22, 23, 24, 25, 26, 27, 28, 29, 30, 31, 32, 33, 34, 35, 36, 37, 38, 39, 40, 41, 42, 43, 44, 45] (by decide +kernel) (by decide +kernel)
set_option maxRecDepth 20000 in
theorem gX4_isScratched_X4_beside : GoodIn wsX4_isScratched (wsV RX4 74 RX4 yX4_beside wsX4_beside) := goodIn_app (goodIn_of _ (by decide +kernel)) ggX4_isScratched_X4_beside
set_option maxRecDepth 20000 in
theorem ggX4_isScratched_X5_holds : GoodIn wsX4_isScratched wsX5_holds := goodIn_r _ [18] (by decide +kernel) (by decide +kernel)
set_option maxRecDepth 20000 in
theorem gX4_isScratched_X5_holds_n56 : GoodIn wsX4_isScratched (wsX5_holds) := ggX4_isScratched_X5_holds
theorem dX4_isScratched_0 : decode cX4_isScratched 0 = .ok (.aload_n 0, 1) := by decide +kernel
theorem dX4_isScratched_1 : decode cX4_isScratched 1 = .ok (.iload_n 1, 1) := by decide +kernel
theorem dX4_isScratched_2 : decode cX4_isScratched 2 = .ok (.iload_n 2, 1) := by decide +kernel
theorem dX4_isScratched_3 : decode cX4_isScratched 3 = .ok (.invokevirtual 74, 3) := by decide +kernel
theorem dX4_isScratched_6 : decode cX4_isScratched 6 = .ok (.istore_n 3, 1) := by decide +kernel
theorem dX4_isScratched_7 : decode cX4_isScratched 7 = .ok (.iload_n 3, 1) := by decide +kernel
theorem dX4_isScratched_8 : decode cX4_isScratched 8 = .ok (.iconst (-1), 1) := by decide +kernel
theorem dX4_isScratched_9 : decode cX4_isScratched 9 = .ok (.if_icmp .ne 5, 3) := by decide +kernel
theorem dX4_isScratched_12 : decode cX4_isScratched 12 = .ok (.iconst 0, 1) := by decide +kernel
theorem dX4_isScratched_13 : decode cX4_isScratched 13 = .ok (.ireturn, 1) := by decide +kernel
theorem dX4_isScratched_14 : decode cX4_isScratched 14 = .ok (.iload_n 2, 1) := by decide +kernel
theorem dX4_isScratched_15 : decode cX4_isScratched 15 = .ok (.tableswitch 52 0 2 #[25, 34, 43], 25) := by decide +kernel
theorem dX4_isScratched_40 : decode cX4_isScratched 40 = .ok (.aload_n 0, 1) := by decide +kernel
theorem dX4_isScratched_41 : decode cX4_isScratched 41 = .ok (.getfield 49, 3) := by decide +kernel
theorem dX4_isScratched_44 : decode cX4_isScratched 44 = .ok (.iload_n 3, 1) := by decide +kernel
theorem dX4_isScratched_45 : decode cX4_isScratched 45 = .ok (.invokestatic 56, 3) := by decide +kernel
theorem dX4_isScratched_48 : decode cX4_isScratched 48 = .ok (.ireturn, 1) := by decide +kernel
theorem dX4_isScratched_49 : decode cX4_isScratched 49 = .ok (.aload_n 0, 1) := by decide +kernel
theorem dX4_isScratched_50 : decode cX4_isScratched 50 = .ok (.getfield 46, 3) := by decide +kernel
theorem dX4_isScratched_53 : decode cX4_isScratched 53 = .ok (.iload_n 1, 1) := by decide +kernel
theorem dX4_isScratched_54 : decode cX4_isScratched 54 = .ok (.invokestatic 56, 3) := by decide +kernel
theorem dX4_isScratched_57 : decode cX4_isScratched 57 = .ok (.ireturn, 1) := by decide +kernel
theorem dX4_isScratched_58 : decode cX4_isScratched 58 = .ok (.aload_n 0, 1) := by decide +kernel
theorem dX4_isScratched_59 : decode cX4_isScratched 59 = .ok (.getfield 49, 3) := by decide +kernel
theorem dX4_isScratched_62 : decode cX4_isScratched 62 = .ok (.iload_n 1, 1) := by decide +kernel
theorem dX4_isScratched_63 : decode cX4_isScratched 63 = .ok (.invokestatic 56, 3) := by decide +kernel
theorem dX4_isScratched_66 : decode cX4_isScratched 66 = .ok (.ireturn, 1) := by decide +kernel
theorem dX4_isScratched_67 : decode cX4_isScratched 67 = .ok (.aload_n 0, 1) := by decide +kernel
theorem dX4_isScratched_68 : decode cX4_isScratched 68 = .ok (.getfield 46, 3) := by decide +kernel
theorem dX4_isScratched_71 : decode cX4_isScratched 71 = .ok (.iload_n 3, 1) := by decide +kernel
theorem dX4_isScratched_72 : decode cX4_isScratched 72 = .ok (.invokestatic 56, 3) := by decide +kernel
theorem dX4_isScratched_75 : decode cX4_isScratched 75 = .ok (.ireturn, 1) := by decide +kernel
set_option maxRecDepth 20000 in
theorem ggX4_scratchesAt_X4_isScratched : GoodIn wsX4_scratchesAt wsX4_isScratched := goodIn_r _ [5, 6, 7, 8, 9, 10, 4, 11, 12, 13, 14, 15, 16, 17, 18, 19, 20, 21, 22, 23, 24, 25, 26, 27, 28, 29, 30, 31, 32, 33, 34, 35, 36, 37, 38, 39, 40, 41, 42, 43, 44, 45, 46, 47, 48, 49] (by decide +kernel) (by decide +kernel)
set_option maxRecDepth 20000 in
theorem gX4_scratchesAt_X4_isScratched : GoodIn wsX4_scratchesAt (wsV RX4 78 RX4 yX4_isScratched wsX4_isScratched) := goodIn_app (goodIn_of _ (by decide +kernel)) ggX4_scratchesAt_X4_isScratched
theorem dX4_scratchesAt_0 : decode cX4_scratchesAt 0 = .ok (.iconst 0, 1) := by decide +kernel
theorem dX4_scratchesAt_1 : decode cX4_scratchesAt 1 = .ok (.istore_n 2, 1) := by decide +kernel
theorem dX4_scratchesAt_2 : decode cX4_scratchesAt 2 = .ok (.iconst 0, 1) := by decide +kernel
theorem dX4_scratchesAt_3 : decode cX4_scratchesAt 3 = .ok (.istore_n 3, 1) := by decide +kernel
theorem dX4_scratchesAt_4 : decode cX4_scratchesAt 4 = .ok (.iload_n 3, 1) := by decide +kernel
theorem dX4_scratchesAt_5 : decode cX4_scratchesAt 5 = .ok (.iconst 3, 1) := by decide +kernel
theorem dX4_scratchesAt_6 : decode cX4_scratchesAt 6 = .ok (.if_icmp .gt 24, 3) := by decide +kernel
theorem dX4_scratchesAt_9 : decode cX4_scratchesAt 9 = .ok (.aload_n 0, 1) := by decide +kernel
theorem dX4_scratchesAt_10 : decode cX4_scratchesAt 10 = .ok (.iload_n 1, 1) := by decide +kernel
theorem dX4_scratchesAt_11 : decode cX4_scratchesAt 11 = .ok (.iload_n 3, 1) := by decide +kernel
theorem dX4_scratchesAt_12 : decode cX4_scratchesAt 12 = .ok (.invokevirtual 78, 3) := by decide +kernel
theorem dX4_scratchesAt_15 : decode cX4_scratchesAt 15 = .ok (.ifCond .eq 9, 3) := by decide +kernel
theorem dX4_scratchesAt_18 : decode cX4_scratchesAt 18 = .ok (.iload_n 2, 1) := by decide +kernel
theorem dX4_scratchesAt_19 : decode cX4_scratchesAt 19 = .ok (.iconst 1, 1) := by decide +kernel
theorem dX4_scratchesAt_20 : decode cX4_scratchesAt 20 = .ok (.iload_n 3, 1) := by decide +kernel
theorem dX4_scratchesAt_21 : decode cX4_scratchesAt 21 = .ok (.ishl, 1) := by decide +kernel
theorem dX4_scratchesAt_22 : decode cX4_scratchesAt 22 = .ok (.ior, 1) := by decide +kernel
theorem dX4_scratchesAt_23 : decode cX4_scratchesAt 23 = .ok (.istore_n 2, 1) := by decide +kernel
theorem dX4_scratchesAt_24 : decode cX4_scratchesAt 24 = .ok (.iinc 3 1, 3) := by decide +kernel
theorem dX4_scratchesAt_27 : decode cX4_scratchesAt 27 = .ok (.goto (-23), 3) := by decide +kernel
theorem dX4_scratchesAt_30 : decode cX4_scratchesAt 30 = .ok (.iload_n 2, 1) := by decide +kernel
theorem dX4_scratchesAt_31 : decode cX4_scratchesAt 31 = .ok (.ireturn, 1) := by decide +kernel
set_option maxRecDepth 20000 in
theorem ggX4_scratches_X4_kind : GoodIn wsX4_scratches wsX4_kind := goodIn_r _ [10, 11, 19, 20, 21, 22, 23, 24, 25, 26, 27, 28, 29, 30] (by decide +kernel) (by decide +kernel)
set_option maxRecDepth 20000 in
theorem gX4_scratches_X4_kind : GoodIn wsX4_scratches (wsV RX4 68 RX4 yX4_kind wsX4_kind) := goodIn_app (goodIn_of _ (by decide +kernel)) ggX4_scratches_X4_kind
set_option maxRecDepth 20000 in
theorem ggX4_scratches_J13_bitCount_95d88 : GoodIn wsX4_scratches wsJ13_bitCount_95d88 := goodIn_r _ [15, 16, 17, 18] (by decide +kernel) (by decide +kernel)
set_option maxRecDepth 20000 in
theorem gX4_scratches_J13_bitCount_95d88 : GoodIn wsX4_scratches (va_wsS RX4 84 yJ13_bitCount_95d88 wsJ13_bitCount_95d88) := goodIn_app (goodIn_of _ (by decide +kernel)) ggX4_scratches_J13_bitCount_95d88
theorem dX4_scratches_0 : decode cX4_scratches 0 = .ok (.aload_n 0, 1) := by decide +kernel
theorem dX4_scratches_1 : decode cX4_scratches 1 = .ok (.iconst 1, 1) := by decide +kernel
theorem dX4_scratches_2 : decode cX4_scratches 2 = .ok (.invokevirtual 68, 3) := by decide +kernel
theorem dX4_scratches_5 : decode cX4_scratches 5 = .ok (.iconst 2, 1) := by decide +kernel
theorem dX4_scratches_6 : decode cX4_scratches 6 = .ok (.if_icmp .ne 10, 3) := by decide +kernel
theorem dX4_scratches_9 : decode cX4_scratches 9 = .ok (.aload_n 0, 1) := by decide +kernel
theorem dX4_scratches_10 : decode cX4_scratches 10 = .ok (.getfield 46, 3) := by decide +kernel
theorem dX4_scratches_13 : decode cX4_scratches 13 = .ok (.goto 16, 3) := by decide +kernel
theorem dX4_scratches_16 : decode cX4_scratches 16 = .ok (.aload_n 0, 1) := by decide +kernel
theorem dX4_scratches_17 : decode cX4_scratches 17 = .ok (.getfield 46, 3) := by decide +kernel
theorem dX4_scratches_20 : decode cX4_scratches 20 = .ok (.aload_n 0, 1) := by decide +kernel
theorem dX4_scratches_21 : decode cX4_scratches 21 = .ok (.getfield 37, 3) := by decide +kernel
theorem dX4_scratches_24 : decode cX4_scratches 24 = .ok (.ldc2_w 82, 3) := by decide +kernel
theorem dX4_scratches_27 : decode cX4_scratches 27 = .ok (.lxor, 1) := by decide +kernel
theorem dX4_scratches_28 : decode cX4_scratches 28 = .ok (.land, 1) := by decide +kernel
theorem dX4_scratches_29 : decode cX4_scratches 29 = .ok (.lstore_n 1, 1) := by decide +kernel
theorem dX4_scratches_30 : decode cX4_scratches 30 = .ok (.aload_n 0, 1) := by decide +kernel
theorem dX4_scratches_31 : decode cX4_scratches 31 = .ok (.iconst 2, 1) := by decide +kernel
theorem dX4_scratches_32 : decode cX4_scratches 32 = .ok (.invokevirtual 68, 3) := by decide +kernel
theorem dX4_scratches_35 : decode cX4_scratches 35 = .ok (.iconst 2, 1) := by decide +kernel
theorem dX4_scratches_36 : decode cX4_scratches 36 = .ok (.if_icmp .ne 10, 3) := by decide +kernel
theorem dX4_scratches_39 : decode cX4_scratches 39 = .ok (.aload_n 0, 1) := by decide +kernel
theorem dX4_scratches_40 : decode cX4_scratches 40 = .ok (.getfield 49, 3) := by decide +kernel
theorem dX4_scratches_43 : decode cX4_scratches 43 = .ok (.goto 16, 3) := by decide +kernel
theorem dX4_scratches_46 : decode cX4_scratches 46 = .ok (.aload_n 0, 1) := by decide +kernel
theorem dX4_scratches_47 : decode cX4_scratches 47 = .ok (.getfield 49, 3) := by decide +kernel
theorem dX4_scratches_50 : decode cX4_scratches 50 = .ok (.aload_n 0, 1) := by decide +kernel
theorem dX4_scratches_51 : decode cX4_scratches 51 = .ok (.getfield 40, 3) := by decide +kernel
theorem dX4_scratches_54 : decode cX4_scratches 54 = .ok (.ldc2_w 82, 3) := by decide +kernel
theorem dX4_scratches_57 : decode cX4_scratches 57 = .ok (.lxor, 1) := by decide +kernel
theorem dX4_scratches_58 : decode cX4_scratches 58 = .ok (.land, 1) := by decide +kernel
theorem dX4_scratches_59 : decode cX4_scratches 59 = .ok (.lstore_n 3, 1) := by decide +kernel
theorem dX4_scratches_60 : decode cX4_scratches 60 = .ok (.lload_n 1, 1) := by decide +kernel
theorem dX4_scratches_61 : decode cX4_scratches 61 = .ok (.invokestatic 84, 3) := by decide +kernel
theorem dX4_scratches_64 : decode cX4_scratches 64 = .ok (.lload_n 3, 1) := by decide +kernel
theorem dX4_scratches_65 : decode cX4_scratches 65 = .ok (.invokestatic 84, 3) := by decide +kernel
theorem dX4_scratches_68 : decode cX4_scratches 68 = .ok (.iadd, 1) := by decide +kernel
theorem dX4_scratches_69 : decode cX4_scratches 69 = .ok (.ireturn, 1) := by decide +kernel
set_option maxRecDepth 20000 in
theorem ggX4_reaching_X4_kind : GoodIn wsX4_reaching wsX4_kind := goodIn_r _ [8, 9, 32, 33, 34, 35, 36, 37, 38, 39, 40, 41, 42, 43] (by decide +kernel) (by decide +kernel)
set_option maxRecDepth 20000 in
theorem gX4_reaching_X4_kind : GoodIn wsX4_reaching (wsV RX4 68 RX4 yX4_kind wsX4_kind) := goodIn_app (goodIn_of _ (by decide +kernel)) ggX4_reaching_X4_kind
set_option maxRecDepth 20000 in
theorem ggX4_reaching_X4_fromAbove : GoodIn wsX4_reaching wsX4_fromAbove := goodIn_r _ [13, 14, 2, 15, 16, 32, 33, 34, 35, 36, 37, 38, 39, 40, 41, 42, 43] (by decide +kernel) (by decide +kernel)
set_option maxRecDepth 20000 in
theorem gX4_reaching_X4_fromAbove : GoodIn wsX4_reaching (wsV RX4 90 RX4 yX4_fromAbove wsX4_fromAbove) := goodIn_app (goodIn_of _ (by decide +kernel)) ggX4_reaching_X4_fromAbove
set_option maxRecDepth 20000 in
theorem ggX4_reaching_X4_fromRight : GoodIn wsX4_reaching wsX4_fromRight := goodIn_r _ [20, 21, 2, 15, 32, 33, 34, 35, 36, 37, 38, 39, 40, 41, 42, 43] (by decide +kernel) (by decide +kernel)
set_option maxRecDepth 20000 in
theorem gX4_reaching_X4_fromRight : GoodIn wsX4_reaching (wsV RX4 94 RX4 yX4_fromRight wsX4_fromRight) := goodIn_app (goodIn_of _ (by decide +kernel)) ggX4_reaching_X4_fromRight
set_option maxRecDepth 20000 in
theorem ggX4_reaching_X4_fromBelow : GoodIn wsX4_reaching wsX4_fromBelow := goodIn_r _ [25, 26, 2, 15, 16, 32, 33, 34, 35, 36, 37, 38, 39, 40, 41, 42, 43] (by decide +kernel) (by decide +kernel)
set_option maxRecDepth 20000 in
theorem gX4_reaching_X4_fromBelow : GoodIn wsX4_reaching (wsV RX4 97 RX4 yX4_fromBelow wsX4_fromBelow) := goodIn_app (goodIn_of _ (by decide +kernel)) ggX4_reaching_X4_fromBelow
set_option maxRecDepth 20000 in
theorem ggX4_reaching_X4_fromLeft : GoodIn wsX4_reaching wsX4_fromLeft := goodIn_r _ [30, 31, 2, 15, 32, 33, 34, 35, 36, 37, 38, 39, 40, 41, 42, 43] (by decide +kernel) (by decide +kernel)
set_option maxRecDepth 20000 in
theorem gX4_reaching_X4_fromLeft : GoodIn wsX4_reaching (wsV RX4 100 RX4 yX4_fromLeft wsX4_fromLeft) := goodIn_app (goodIn_of _ (by decide +kernel)) ggX4_reaching_X4_fromLeft
theorem dX4_reaching_0 : decode cX4_reaching 0 = .ok (.aload_n 0, 1) := by decide +kernel
theorem dX4_reaching_1 : decode cX4_reaching 1 = .ok (.iload_n 3, 1) := by decide +kernel
theorem dX4_reaching_2 : decode cX4_reaching 2 = .ok (.invokevirtual 68, 3) := by decide +kernel
theorem dX4_reaching_5 : decode cX4_reaching 5 = .ok (.iconst 2, 1) := by decide +kernel
theorem dX4_reaching_6 : decode cX4_reaching 6 = .ok (.if_icmp .ne 7, 3) := by decide +kernel
theorem dX4_reaching_9 : decode cX4_reaching 9 = .ok (.iconst 1, 1) := by decide +kernel
theorem dX4_reaching_10 : decode cX4_reaching 10 = .ok (.goto 4, 3) := by decide +kernel
theorem dX4_reaching_13 : decode cX4_reaching 13 = .ok (.iconst 0, 1) := by decide +kernel
theorem dX4_reaching_14 : decode cX4_reaching 14 = .ok (.istore 4, 2) := by decide +kernel
theorem dX4_reaching_16 : decode cX4_reaching 16 = .ok (.iload_n 3, 1) := by decide +kernel
theorem dX4_reaching_17 : decode cX4_reaching 17 = .ok (.tableswitch 78 0 2 #[27, 44, 61], 27) := by decide +kernel
theorem dX4_reaching_44 : decode cX4_reaching 44 = .ok (.aload_n 0, 1) := by decide +kernel
theorem dX4_reaching_45 : decode cX4_reaching 45 = .ok (.lload_n 1, 1) := by decide +kernel
theorem dX4_reaching_46 : decode cX4_reaching 46 = .ok (.aload_n 0, 1) := by decide +kernel
theorem dX4_reaching_47 : decode cX4_reaching 47 = .ok (.getfield 49, 3) := by decide +kernel
theorem dX4_reaching_50 : decode cX4_reaching 50 = .ok (.ldc2_w 82, 3) := by decide +kernel
theorem dX4_reaching_53 : decode cX4_reaching 53 = .ok (.lxor, 1) := by decide +kernel
theorem dX4_reaching_54 : decode cX4_reaching 54 = .ok (.land, 1) := by decide +kernel
theorem dX4_reaching_55 : decode cX4_reaching 55 = .ok (.iload 4, 2) := by decide +kernel
theorem dX4_reaching_57 : decode cX4_reaching 57 = .ok (.invokevirtual 90, 3) := by decide +kernel
theorem dX4_reaching_60 : decode cX4_reaching 60 = .ok (.lreturn, 1) := by decide +kernel
theorem dX4_reaching_61 : decode cX4_reaching 61 = .ok (.aload_n 0, 1) := by decide +kernel
theorem dX4_reaching_62 : decode cX4_reaching 62 = .ok (.lload_n 1, 1) := by decide +kernel
theorem dX4_reaching_63 : decode cX4_reaching 63 = .ok (.iload 4, 2) := by decide +kernel
theorem dX4_reaching_65 : decode cX4_reaching 65 = .ok (.invokevirtual 94, 3) := by decide +kernel
theorem dX4_reaching_68 : decode cX4_reaching 68 = .ok (.aload_n 0, 1) := by decide +kernel
theorem dX4_reaching_69 : decode cX4_reaching 69 = .ok (.getfield 46, 3) := by decide +kernel
theorem dX4_reaching_72 : decode cX4_reaching 72 = .ok (.ldc2_w 82, 3) := by decide +kernel
theorem dX4_reaching_75 : decode cX4_reaching 75 = .ok (.lxor, 1) := by decide +kernel
theorem dX4_reaching_76 : decode cX4_reaching 76 = .ok (.land, 1) := by decide +kernel
theorem dX4_reaching_77 : decode cX4_reaching 77 = .ok (.lreturn, 1) := by decide +kernel
theorem dX4_reaching_78 : decode cX4_reaching 78 = .ok (.aload_n 0, 1) := by decide +kernel
theorem dX4_reaching_79 : decode cX4_reaching 79 = .ok (.lload_n 1, 1) := by decide +kernel
theorem dX4_reaching_80 : decode cX4_reaching 80 = .ok (.iload 4, 2) := by decide +kernel
theorem dX4_reaching_82 : decode cX4_reaching 82 = .ok (.invokevirtual 97, 3) := by decide +kernel
theorem dX4_reaching_85 : decode cX4_reaching 85 = .ok (.aload_n 0, 1) := by decide +kernel
theorem dX4_reaching_86 : decode cX4_reaching 86 = .ok (.getfield 49, 3) := by decide +kernel
theorem dX4_reaching_89 : decode cX4_reaching 89 = .ok (.ldc2_w 82, 3) := by decide +kernel
theorem dX4_reaching_92 : decode cX4_reaching 92 = .ok (.lxor, 1) := by decide +kernel
theorem dX4_reaching_93 : decode cX4_reaching 93 = .ok (.land, 1) := by decide +kernel
theorem dX4_reaching_94 : decode cX4_reaching 94 = .ok (.lreturn, 1) := by decide +kernel
theorem dX4_reaching_95 : decode cX4_reaching 95 = .ok (.aload_n 0, 1) := by decide +kernel
theorem dX4_reaching_96 : decode cX4_reaching 96 = .ok (.lload_n 1, 1) := by decide +kernel
theorem dX4_reaching_97 : decode cX4_reaching 97 = .ok (.aload_n 0, 1) := by decide +kernel
theorem dX4_reaching_98 : decode cX4_reaching 98 = .ok (.getfield 46, 3) := by decide +kernel
theorem dX4_reaching_101 : decode cX4_reaching 101 = .ok (.ldc2_w 82, 3) := by decide +kernel
theorem dX4_reaching_104 : decode cX4_reaching 104 = .ok (.lxor, 1) := by decide +kernel
theorem dX4_reaching_105 : decode cX4_reaching 105 = .ok (.land, 1) := by decide +kernel
theorem dX4_reaching_106 : decode cX4_reaching 106 = .ok (.iload 4, 2) := by decide +kernel
theorem dX4_reaching_108 : decode cX4_reaching 108 = .ok (.invokevirtual 100, 3) := by decide +kernel
theorem dX4_reaching_111 : decode cX4_reaching 111 = .ok (.lreturn, 1) := by decide +kernel
theorem dX4_fromAbove_0 : decode cX4_fromAbove 0 = .ok (.lload_n 1, 1) := by decide +kernel
theorem dX4_fromAbove_1 : decode cX4_fromAbove 1 = .ok (.aload_n 0, 1) := by decide +kernel
theorem dX4_fromAbove_2 : decode cX4_fromAbove 2 = .ok (.getfield 40, 3) := by decide +kernel
theorem dX4_fromAbove_5 : decode cX4_fromAbove 5 = .ok (.ldc2_w 82, 3) := by decide +kernel
theorem dX4_fromAbove_8 : decode cX4_fromAbove 8 = .ok (.lxor, 1) := by decide +kernel
theorem dX4_fromAbove_9 : decode cX4_fromAbove 9 = .ok (.land, 1) := by decide +kernel
theorem dX4_fromAbove_10 : decode cX4_fromAbove 10 = .ok (.aload_n 0, 1) := by decide +kernel
theorem dX4_fromAbove_11 : decode cX4_fromAbove 11 = .ok (.getfield 15, 3) := by decide +kernel
theorem dX4_fromAbove_14 : decode cX4_fromAbove 14 = .ok (.lshl, 1) := by decide +kernel
theorem dX4_fromAbove_15 : decode cX4_fromAbove 15 = .ok (.lstore 4, 2) := by decide +kernel
theorem dX4_fromAbove_17 : decode cX4_fromAbove 17 = .ok (.iload_n 3, 1) := by decide +kernel
theorem dX4_fromAbove_18 : decode cX4_fromAbove 18 = .ok (.ifCond .eq 27, 3) := by decide +kernel
theorem dX4_fromAbove_21 : decode cX4_fromAbove 21 = .ok (.lload 4, 2) := by decide +kernel
theorem dX4_fromAbove_23 : decode cX4_fromAbove 23 = .ok (.lload_n 1, 1) := by decide +kernel
theorem dX4_fromAbove_24 : decode cX4_fromAbove 24 = .ok (.aload_n 0, 1) := by decide +kernel
theorem dX4_fromAbove_25 : decode cX4_fromAbove 25 = .ok (.getfield 40, 3) := by decide +kernel
theorem dX4_fromAbove_28 : decode cX4_fromAbove 28 = .ok (.land, 1) := by decide +kernel
theorem dX4_fromAbove_29 : decode cX4_fromAbove 29 = .ok (.aload_n 0, 1) := by decide +kernel
theorem dX4_fromAbove_30 : decode cX4_fromAbove 30 = .ok (.getfield 9, 3) := by decide +kernel
theorem dX4_fromAbove_33 : decode cX4_fromAbove 33 = .ok (.iconst 1, 1) := by decide +kernel
theorem dX4_fromAbove_34 : decode cX4_fromAbove 34 = .ok (.isub, 1) := by decide +kernel
theorem dX4_fromAbove_35 : decode cX4_fromAbove 35 = .ok (.aload_n 0, 1) := by decide +kernel
theorem dX4_fromAbove_36 : decode cX4_fromAbove 36 = .ok (.getfield 15, 3) := by decide +kernel
theorem dX4_fromAbove_39 : decode cX4_fromAbove 39 = .ok (.imul, 1) := by decide +kernel
theorem dX4_fromAbove_40 : decode cX4_fromAbove 40 = .ok (.lushr, 1) := by decide +kernel
theorem dX4_fromAbove_41 : decode cX4_fromAbove 41 = .ok (.lor, 1) := by decide +kernel
theorem dX4_fromAbove_42 : decode cX4_fromAbove 42 = .ok (.goto 5, 3) := by decide +kernel
theorem dX4_fromAbove_45 : decode cX4_fromAbove 45 = .ok (.lload 4, 2) := by decide +kernel
theorem dX4_fromAbove_47 : decode cX4_fromAbove 47 = .ok (.lreturn, 1) := by decide +kernel
theorem dX4_fromRight_0 : decode cX4_fromRight 0 = .ok (.lload_n 1, 1) := by decide +kernel
theorem dX4_fromRight_1 : decode cX4_fromRight 1 = .ok (.aload_n 0, 1) := by decide +kernel
theorem dX4_fromRight_2 : decode cX4_fromRight 2 = .ok (.getfield 43, 3) := by decide +kernel
theorem dX4_fromRight_5 : decode cX4_fromRight 5 = .ok (.ldc2_w 82, 3) := by decide +kernel
theorem dX4_fromRight_8 : decode cX4_fromRight 8 = .ok (.lxor, 1) := by decide +kernel
theorem dX4_fromRight_9 : decode cX4_fromRight 9 = .ok (.land, 1) := by decide +kernel
theorem dX4_fromRight_10 : decode cX4_fromRight 10 = .ok (.iconst 1, 1) := by decide +kernel
theorem dX4_fromRight_11 : decode cX4_fromRight 11 = .ok (.lushr, 1) := by decide +kernel
theorem dX4_fromRight_12 : decode cX4_fromRight 12 = .ok (.lstore 4, 2) := by decide +kernel
theorem dX4_fromRight_14 : decode cX4_fromRight 14 = .ok (.iload_n 3, 1) := by decide +kernel
theorem dX4_fromRight_15 : decode cX4_fromRight 15 = .ok (.ifCond .eq 22, 3) := by decide +kernel
theorem dX4_fromRight_18 : decode cX4_fromRight 18 = .ok (.lload 4, 2) := by decide +kernel
theorem dX4_fromRight_20 : decode cX4_fromRight 20 = .ok (.lload_n 1, 1) := by decide +kernel
theorem dX4_fromRight_21 : decode cX4_fromRight 21 = .ok (.aload_n 0, 1) := by decide +kernel
theorem dX4_fromRight_22 : decode cX4_fromRight 22 = .ok (.getfield 43, 3) := by decide +kernel
theorem dX4_fromRight_25 : decode cX4_fromRight 25 = .ok (.land, 1) := by decide +kernel
theorem dX4_fromRight_26 : decode cX4_fromRight 26 = .ok (.aload_n 0, 1) := by decide +kernel
theorem dX4_fromRight_27 : decode cX4_fromRight 27 = .ok (.getfield 15, 3) := by decide +kernel
theorem dX4_fromRight_30 : decode cX4_fromRight 30 = .ok (.iconst 1, 1) := by decide +kernel
theorem dX4_fromRight_31 : decode cX4_fromRight 31 = .ok (.isub, 1) := by decide +kernel
theorem dX4_fromRight_32 : decode cX4_fromRight 32 = .ok (.lshl, 1) := by decide +kernel
theorem dX4_fromRight_33 : decode cX4_fromRight 33 = .ok (.lor, 1) := by decide +kernel
theorem dX4_fromRight_34 : decode cX4_fromRight 34 = .ok (.goto 5, 3) := by decide +kernel
theorem dX4_fromRight_37 : decode cX4_fromRight 37 = .ok (.lload 4, 2) := by decide +kernel
theorem dX4_fromRight_39 : decode cX4_fromRight 39 = .ok (.lreturn, 1) := by decide +kernel
theorem dX4_fromBelow_0 : decode cX4_fromBelow 0 = .ok (.lload_n 1, 1) := by decide +kernel
theorem dX4_fromBelow_1 : decode cX4_fromBelow 1 = .ok (.aload_n 0, 1) := by decide +kernel
theorem dX4_fromBelow_2 : decode cX4_fromBelow 2 = .ok (.getfield 34, 3) := by decide +kernel
theorem dX4_fromBelow_5 : decode cX4_fromBelow 5 = .ok (.ldc2_w 82, 3) := by decide +kernel
theorem dX4_fromBelow_8 : decode cX4_fromBelow 8 = .ok (.lxor, 1) := by decide +kernel
theorem dX4_fromBelow_9 : decode cX4_fromBelow 9 = .ok (.land, 1) := by decide +kernel
theorem dX4_fromBelow_10 : decode cX4_fromBelow 10 = .ok (.aload_n 0, 1) := by decide +kernel
theorem dX4_fromBelow_11 : decode cX4_fromBelow 11 = .ok (.getfield 15, 3) := by decide +kernel
theorem dX4_fromBelow_14 : decode cX4_fromBelow 14 = .ok (.lushr, 1) := by decide +kernel
theorem dX4_fromBelow_15 : decode cX4_fromBelow 15 = .ok (.lstore 4, 2) := by decide +kernel
theorem dX4_fromBelow_17 : decode cX4_fromBelow 17 = .ok (.iload_n 3, 1) := by decide +kernel
theorem dX4_fromBelow_18 : decode cX4_fromBelow 18 = .ok (.ifCond .eq 27, 3) := by decide +kernel
theorem dX4_fromBelow_21 : decode cX4_fromBelow 21 = .ok (.lload 4, 2) := by decide +kernel
theorem dX4_fromBelow_23 : decode cX4_fromBelow 23 = .ok (.lload_n 1, 1) := by decide +kernel
theorem dX4_fromBelow_24 : decode cX4_fromBelow 24 = .ok (.aload_n 0, 1) := by decide +kernel
theorem dX4_fromBelow_25 : decode cX4_fromBelow 25 = .ok (.getfield 34, 3) := by decide +kernel
theorem dX4_fromBelow_28 : decode cX4_fromBelow 28 = .ok (.land, 1) := by decide +kernel
theorem dX4_fromBelow_29 : decode cX4_fromBelow 29 = .ok (.aload_n 0, 1) := by decide +kernel
theorem dX4_fromBelow_30 : decode cX4_fromBelow 30 = .ok (.getfield 9, 3) := by decide +kernel
theorem dX4_fromBelow_33 : decode cX4_fromBelow 33 = .ok (.iconst 1, 1) := by decide +kernel
theorem dX4_fromBelow_34 : decode cX4_fromBelow 34 = .ok (.isub, 1) := by decide +kernel
theorem dX4_fromBelow_35 : decode cX4_fromBelow 35 = .ok (.aload_n 0, 1) := by decide +kernel
theorem dX4_fromBelow_36 : decode cX4_fromBelow 36 = .ok (.getfield 15, 3) := by decide +kernel
theorem dX4_fromBelow_39 : decode cX4_fromBelow 39 = .ok (.imul, 1) := by decide +kernel
theorem dX4_fromBelow_40 : decode cX4_fromBelow 40 = .ok (.lshl, 1) := by decide +kernel
theorem dX4_fromBelow_41 : decode cX4_fromBelow 41 = .ok (.lor, 1) := by decide +kernel
theorem dX4_fromBelow_42 : decode cX4_fromBelow 42 = .ok (.goto 5, 3) := by decide +kernel
theorem dX4_fromBelow_45 : decode cX4_fromBelow 45 = .ok (.lload 4, 2) := by decide +kernel
theorem dX4_fromBelow_47 : decode cX4_fromBelow 47 = .ok (.lreturn, 1) := by decide +kernel
theorem dX4_fromLeft_0 : decode cX4_fromLeft 0 = .ok (.lload_n 1, 1) := by decide +kernel
theorem dX4_fromLeft_1 : decode cX4_fromLeft 1 = .ok (.aload_n 0, 1) := by decide +kernel
theorem dX4_fromLeft_2 : decode cX4_fromLeft 2 = .ok (.getfield 37, 3) := by decide +kernel
theorem dX4_fromLeft_5 : decode cX4_fromLeft 5 = .ok (.ldc2_w 82, 3) := by decide +kernel
theorem dX4_fromLeft_8 : decode cX4_fromLeft 8 = .ok (.lxor, 1) := by decide +kernel
theorem dX4_fromLeft_9 : decode cX4_fromLeft 9 = .ok (.land, 1) := by decide +kernel
theorem dX4_fromLeft_10 : decode cX4_fromLeft 10 = .ok (.iconst 1, 1) := by decide +kernel
theorem dX4_fromLeft_11 : decode cX4_fromLeft 11 = .ok (.lshl, 1) := by decide +kernel
theorem dX4_fromLeft_12 : decode cX4_fromLeft 12 = .ok (.lstore 4, 2) := by decide +kernel
theorem dX4_fromLeft_14 : decode cX4_fromLeft 14 = .ok (.iload_n 3, 1) := by decide +kernel
theorem dX4_fromLeft_15 : decode cX4_fromLeft 15 = .ok (.ifCond .eq 22, 3) := by decide +kernel
theorem dX4_fromLeft_18 : decode cX4_fromLeft 18 = .ok (.lload 4, 2) := by decide +kernel
theorem dX4_fromLeft_20 : decode cX4_fromLeft 20 = .ok (.lload_n 1, 1) := by decide +kernel
theorem dX4_fromLeft_21 : decode cX4_fromLeft 21 = .ok (.aload_n 0, 1) := by decide +kernel
theorem dX4_fromLeft_22 : decode cX4_fromLeft 22 = .ok (.getfield 37, 3) := by decide +kernel
theorem dX4_fromLeft_25 : decode cX4_fromLeft 25 = .ok (.land, 1) := by decide +kernel
theorem dX4_fromLeft_26 : decode cX4_fromLeft 26 = .ok (.aload_n 0, 1) := by decide +kernel
theorem dX4_fromLeft_27 : decode cX4_fromLeft 27 = .ok (.getfield 15, 3) := by decide +kernel
theorem dX4_fromLeft_30 : decode cX4_fromLeft 30 = .ok (.iconst 1, 1) := by decide +kernel
theorem dX4_fromLeft_31 : decode cX4_fromLeft 31 = .ok (.isub, 1) := by decide +kernel
theorem dX4_fromLeft_32 : decode cX4_fromLeft 32 = .ok (.lushr, 1) := by decide +kernel
theorem dX4_fromLeft_33 : decode cX4_fromLeft 33 = .ok (.lor, 1) := by decide +kernel
theorem dX4_fromLeft_34 : decode cX4_fromLeft 34 = .ok (.goto 5, 3) := by decide +kernel
theorem dX4_fromLeft_37 : decode cX4_fromLeft 37 = .ok (.lload 4, 2) := by decide +kernel
theorem dX4_fromLeft_39 : decode cX4_fromLeft 39 = .ok (.lreturn, 1) := by decide +kernel
set_option maxRecDepth 20000 in
theorem ggX4_around_X4_reaching : GoodIn wsX4_around wsX4_reaching := goodIn_r _ [5, 6, 7, 8, 9, 10, 11, 4, 12, 13, 14, 15, 16, 17, 18, 19, 20, 21, 22, 23, 24, 25, 26, 27, 28, 29, 30, 31, 32, 33, 34, 35, 36, 37, 38, 39, 40, 41, 42, 43, 44, 45, 46, 47] (by decide +kernel) (by decide +kernel)
set_option maxRecDepth 20000 in
theorem gX4_around_X4_reaching : GoodIn wsX4_around (wsV RX4 103 RX4 yX4_reaching wsX4_reaching) := goodIn_app (goodIn_of _ (by decide +kernel)) ggX4_around_X4_reaching
theorem dX4_around_0 : decode cX4_around 0 = .ok (.aload_n 0, 1) := by decide +kernel
theorem dX4_around_1 : decode cX4_around 1 = .ok (.lload_n 1, 1) := by decide +kernel
theorem dX4_around_2 : decode cX4_around 2 = .ok (.iconst 0, 1) := by decide +kernel
theorem dX4_around_3 : decode cX4_around 3 = .ok (.invokevirtual 103, 3) := by decide +kernel
theorem dX4_around_6 : decode cX4_around 6 = .ok (.aload_n 0, 1) := by decide +kernel
theorem dX4_around_7 : decode cX4_around 7 = .ok (.lload_n 1, 1) := by decide +kernel
theorem dX4_around_8 : decode cX4_around 8 = .ok (.iconst 1, 1) := by decide +kernel
theorem dX4_around_9 : decode cX4_around 9 = .ok (.invokevirtual 103, 3) := by decide +kernel
theorem dX4_around_12 : decode cX4_around 12 = .ok (.lor, 1) := by decide +kernel
theorem dX4_around_13 : decode cX4_around 13 = .ok (.aload_n 0, 1) := by decide +kernel
theorem dX4_around_14 : decode cX4_around 14 = .ok (.lload_n 1, 1) := by decide +kernel
theorem dX4_around_15 : decode cX4_around 15 = .ok (.iconst 2, 1) := by decide +kernel
theorem dX4_around_16 : decode cX4_around 16 = .ok (.invokevirtual 103, 3) := by decide +kernel
theorem dX4_around_19 : decode cX4_around 19 = .ok (.lor, 1) := by decide +kernel
theorem dX4_around_20 : decode cX4_around 20 = .ok (.aload_n 0, 1) := by decide +kernel
theorem dX4_around_21 : decode cX4_around 21 = .ok (.lload_n 1, 1) := by decide +kernel
theorem dX4_around_22 : decode cX4_around 22 = .ok (.iconst 3, 1) := by decide +kernel
theorem dX4_around_23 : decode cX4_around 23 = .ok (.invokevirtual 103, 3) := by decide +kernel
theorem dX4_around_26 : decode cX4_around 26 = .ok (.lor, 1) := by decide +kernel
theorem dX4_around_27 : decode cX4_around 27 = .ok (.lreturn, 1) := by decide +kernel
set_option maxRecDepth 20000 in
theorem ggX4_cold_X4_coldFrom : GoodIn wsX4_cold wsX4_coldFrom := goodIn_r _ [6, 7, 8, 9, 5, 10, 11, 12, 13, 14, 15, 16, 17, 18, 19, 20, 21, 22, 23, 24, 25, 26, 27, 28, 29, 30, 31, 32, 33, 34, 35, 36, 37, 38, 39, 40, 41, 42, 43, 44, 48, 49, 50, 51, 52, 53, 54, 55, 56, 57, 58, 59] (by decide +kernel) (by decide +kernel)
set_option maxRecDepth 20000 in
theorem gX4_cold_X4_coldFrom : GoodIn wsX4_cold (wsV RX4 107 RX4 yX4_coldFrom wsX4_coldFrom) := goodIn_app (goodIn_of _ (by decide +kernel)) ggX4_cold_X4_coldFrom
set_option maxRecDepth 20000 in
theorem ggX4_cold_X5_holds : GoodIn wsX4_cold wsX5_holds := goodIn_r _ [47] (by decide +kernel) (by decide +kernel)
set_option maxRecDepth 20000 in
theorem gX4_cold_X5_holds_n56 : GoodIn wsX4_cold (wsX5_holds) := ggX4_cold_X5_holds
theorem dX4_cold_0 : decode cX4_cold 0 = .ok (.iconst 0, 1) := by decide +kernel
theorem dX4_cold_1 : decode cX4_cold 1 = .ok (.istore_n 2, 1) := by decide +kernel
theorem dX4_cold_2 : decode cX4_cold 2 = .ok (.iconst 0, 1) := by decide +kernel
theorem dX4_cold_3 : decode cX4_cold 3 = .ok (.istore_n 3, 1) := by decide +kernel
theorem dX4_cold_4 : decode cX4_cold 4 = .ok (.iload_n 3, 1) := by decide +kernel
theorem dX4_cold_5 : decode cX4_cold 5 = .ok (.iconst 3, 1) := by decide +kernel
theorem dX4_cold_6 : decode cX4_cold 6 = .ok (.if_icmp .gt 28, 3) := by decide +kernel
theorem dX4_cold_9 : decode cX4_cold 9 = .ok (.aload_n 0, 1) := by decide +kernel
theorem dX4_cold_10 : decode cX4_cold 10 = .ok (.aload_n 0, 1) := by decide +kernel
theorem dX4_cold_11 : decode cX4_cold 11 = .ok (.getfield 27, 3) := by decide +kernel
theorem dX4_cold_14 : decode cX4_cold 14 = .ok (.iload_n 3, 1) := by decide +kernel
theorem dX4_cold_15 : decode cX4_cold 15 = .ok (.invokevirtual 107, 3) := by decide +kernel
theorem dX4_cold_18 : decode cX4_cold 18 = .ok (.iload_n 1, 1) := by decide +kernel
theorem dX4_cold_19 : decode cX4_cold 19 = .ok (.invokestatic 56, 3) := by decide +kernel
theorem dX4_cold_22 : decode cX4_cold 22 = .ok (.ifCond .eq 6, 3) := by decide +kernel
theorem dX4_cold_25 : decode cX4_cold 25 = .ok (.iinc 2 1, 3) := by decide +kernel
theorem dX4_cold_28 : decode cX4_cold 28 = .ok (.iinc 3 1, 3) := by decide +kernel
theorem dX4_cold_31 : decode cX4_cold 31 = .ok (.goto (-27), 3) := by decide +kernel
theorem dX4_cold_34 : decode cX4_cold 34 = .ok (.iload_n 2, 1) := by decide +kernel
theorem dX4_cold_35 : decode cX4_cold 35 = .ok (.ireturn, 1) := by decide +kernel
set_option maxRecDepth 20000 in
theorem ggX4_coldFrom_X4_kind : GoodIn wsX4_coldFrom wsX4_kind := goodIn_r _ [5, 6, 40, 41, 42, 43, 44, 45, 46, 47, 48, 49, 50, 51] (by decide +kernel) (by decide +kernel)
set_option maxRecDepth 20000 in
theorem gX4_coldFrom_X4_kind : GoodIn wsX4_coldFrom (wsV RX4 68 RX4 yX4_kind wsX4_kind) := goodIn_app (goodIn_of _ (by decide +kernel)) ggX4_coldFrom_X4_kind
set_option maxRecDepth 20000 in
theorem ggX4_coldFrom_X4_reaching : GoodIn wsX4_coldFrom wsX4_reaching := goodIn_r _ [10, 11, 12, 13, 1, 2, 3, 4, 5, 6, 14, 15, 16, 17, 18, 19, 20, 21, 22, 23, 24, 25, 26, 27, 28, 29, 30, 31, 32, 33, 34, 35, 40, 41, 42, 43, 44, 45, 46, 47, 48, 49, 50, 51] (by decide +kernel) (by decide +kernel)
set_option maxRecDepth 20000 in
theorem gX4_coldFrom_X4_reaching : GoodIn wsX4_coldFrom (wsV RX4 103 RX4 yX4_reaching wsX4_reaching) := goodIn_app (goodIn_of _ (by decide +kernel)) ggX4_coldFrom_X4_reaching
set_option maxRecDepth 20000 in
theorem ggX4_coldFrom_X4_along : GoodIn wsX4_coldFrom wsX4_along := goodIn_r _ [39, 30, 35, 18, 25, 40, 41, 42, 43, 44, 45, 46, 47, 48, 49, 50, 51] (by decide +kernel) (by decide +kernel)
set_option maxRecDepth 20000 in
theorem gX4_coldFrom_X4_along : GoodIn wsX4_coldFrom (wsV RX4 60 RX4 yX4_along wsX4_along) := goodIn_app (goodIn_of _ (by decide +kernel)) ggX4_coldFrom_X4_along
theorem dX4_coldFrom_0 : decode cX4_coldFrom 0 = .ok (.aload_n 0, 1) := by decide +kernel
theorem dX4_coldFrom_1 : decode cX4_coldFrom 1 = .ok (.iload_n 3, 1) := by decide +kernel
theorem dX4_coldFrom_2 : decode cX4_coldFrom 2 = .ok (.invokevirtual 68, 3) := by decide +kernel
theorem dX4_coldFrom_5 : decode cX4_coldFrom 5 = .ok (.iconst 1, 1) := by decide +kernel
theorem dX4_coldFrom_6 : decode cX4_coldFrom 6 = .ok (.if_icmp .ne 18, 3) := by decide +kernel
theorem dX4_coldFrom_9 : decode cX4_coldFrom 9 = .ok (.aload_n 0, 1) := by decide +kernel
theorem dX4_coldFrom_10 : decode cX4_coldFrom 10 = .ok (.lload_n 1, 1) := by decide +kernel
theorem dX4_coldFrom_11 : decode cX4_coldFrom 11 = .ok (.iload_n 3, 1) := by decide +kernel
theorem dX4_coldFrom_12 : decode cX4_coldFrom 12 = .ok (.invokevirtual 103, 3) := by decide +kernel
theorem dX4_coldFrom_15 : decode cX4_coldFrom 15 = .ok (.aload_n 0, 1) := by decide +kernel
theorem dX4_coldFrom_16 : decode cX4_coldFrom 16 = .ok (.iload_n 3, 1) := by decide +kernel
theorem dX4_coldFrom_17 : decode cX4_coldFrom 17 = .ok (.invokevirtual 60, 3) := by decide +kernel
theorem dX4_coldFrom_20 : decode cX4_coldFrom 20 = .ok (.lor, 1) := by decide +kernel
theorem dX4_coldFrom_21 : decode cX4_coldFrom 21 = .ok (.goto 9, 3) := by decide +kernel
theorem dX4_coldFrom_24 : decode cX4_coldFrom 24 = .ok (.aload_n 0, 1) := by decide +kernel
theorem dX4_coldFrom_25 : decode cX4_coldFrom 25 = .ok (.lload_n 1, 1) := by decide +kernel
theorem dX4_coldFrom_26 : decode cX4_coldFrom 26 = .ok (.iload_n 3, 1) := by decide +kernel
theorem dX4_coldFrom_27 : decode cX4_coldFrom 27 = .ok (.invokevirtual 103, 3) := by decide +kernel
theorem dX4_coldFrom_30 : decode cX4_coldFrom 30 = .ok (.lreturn, 1) := by decide +kernel
set_option maxRecDepth 20000 in
theorem ggX4_after_X4_coldFrom : GoodIn wsX4_after wsX4_coldFrom := goodIn_r _ [6, 7, 8, 9, 5, 10, 11, 12, 13, 14, 15, 16, 17, 18, 19, 20, 21, 22, 23, 24, 25, 26, 27, 28, 29, 30, 31, 32, 33, 34, 35, 36, 37, 38, 39, 40, 41, 42, 43, 44, 45, 46, 47, 48, 49, 50, 51, 52, 53, 54, 55, 56] (by decide +kernel) (by decide +kernel)
set_option maxRecDepth 20000 in
theorem gX4_after_X4_coldFrom : GoodIn wsX4_after (wsV RX4 107 RX4 yX4_coldFrom wsX4_coldFrom) := goodIn_app (goodIn_of _ (by decide +kernel)) ggX4_after_X4_coldFrom
theorem dX4_after_0 : decode cX4_after 0 = .ok (.aload_n 0, 1) := by decide +kernel
theorem dX4_after_1 : decode cX4_after 1 = .ok (.lload_n 1, 1) := by decide +kernel
theorem dX4_after_2 : decode cX4_after 2 = .ok (.iconst 0, 1) := by decide +kernel
theorem dX4_after_3 : decode cX4_after 3 = .ok (.invokevirtual 107, 3) := by decide +kernel
theorem dX4_after_6 : decode cX4_after 6 = .ok (.aload_n 0, 1) := by decide +kernel
theorem dX4_after_7 : decode cX4_after 7 = .ok (.lload_n 1, 1) := by decide +kernel
theorem dX4_after_8 : decode cX4_after 8 = .ok (.iconst 1, 1) := by decide +kernel
theorem dX4_after_9 : decode cX4_after 9 = .ok (.invokevirtual 107, 3) := by decide +kernel
theorem dX4_after_12 : decode cX4_after 12 = .ok (.lxor, 1) := by decide +kernel
theorem dX4_after_13 : decode cX4_after 13 = .ok (.aload_n 0, 1) := by decide +kernel
theorem dX4_after_14 : decode cX4_after 14 = .ok (.lload_n 1, 1) := by decide +kernel
theorem dX4_after_15 : decode cX4_after 15 = .ok (.iconst 2, 1) := by decide +kernel
theorem dX4_after_16 : decode cX4_after 16 = .ok (.invokevirtual 107, 3) := by decide +kernel
theorem dX4_after_19 : decode cX4_after 19 = .ok (.lxor, 1) := by decide +kernel
theorem dX4_after_20 : decode cX4_after 20 = .ok (.aload_n 0, 1) := by decide +kernel
theorem dX4_after_21 : decode cX4_after 21 = .ok (.lload_n 1, 1) := by decide +kernel
theorem dX4_after_22 : decode cX4_after 22 = .ok (.iconst 3, 1) := by decide +kernel
theorem dX4_after_23 : decode cX4_after 23 = .ok (.invokevirtual 107, 3) := by decide +kernel
theorem dX4_after_26 : decode cX4_after 26 = .ok (.lxor, 1) := by decide +kernel
theorem dX4_after_27 : decode cX4_after 27 = .ok (.lstore_n 3, 1) := by decide +kernel
theorem dX4_after_28 : decode cX4_after 28 = .ok (.aload_n 0, 1) := by decide +kernel
theorem dX4_after_29 : decode cX4_after 29 = .ok (.getfield 18, 3) := by decide +kernel
theorem dX4_after_32 : decode cX4_after 32 = .ok (.ifCond .ne 7, 3) := by decide +kernel
theorem dX4_after_35 : decode cX4_after 35 = .ok (.lload_n 1, 1) := by decide +kernel
theorem dX4_after_36 : decode cX4_after 36 = .ok (.lload_n 3, 1) := by decide +kernel
theorem dX4_after_37 : decode cX4_after 37 = .ok (.lor, 1) := by decide +kernel
theorem dX4_after_38 : decode cX4_after 38 = .ok (.lreturn, 1) := by decide +kernel
theorem dX4_after_39 : decode cX4_after 39 = .ok (.aload_n 0, 1) := by decide +kernel
theorem dX4_after_40 : decode cX4_after 40 = .ok (.getfield 18, 3) := by decide +kernel
theorem dX4_after_43 : decode cX4_after 43 = .ok (.iconst 1, 1) := by decide +kernel
theorem dX4_after_44 : decode cX4_after 44 = .ok (.if_icmp .ne 7, 3) := by decide +kernel
theorem dX4_after_47 : decode cX4_after 47 = .ok (.lload_n 3, 1) := by decide +kernel
theorem dX4_after_48 : decode cX4_after 48 = .ok (.goto 6, 3) := by decide +kernel
theorem dX4_after_51 : decode cX4_after 51 = .ok (.lload_n 1, 1) := by decide +kernel
theorem dX4_after_52 : decode cX4_after 52 = .ok (.lload_n 3, 1) := by decide +kernel
theorem dX4_after_53 : decode cX4_after 53 = .ok (.lxor, 1) := by decide +kernel
theorem dX4_after_54 : decode cX4_after 54 = .ok (.lreturn, 1) := by decide +kernel
set_option maxRecDepth 20000 in
theorem ggX4_staysClear_X4_after : GoodIn wsX4_staysClear wsX4_after := goodIn_r _ [6, 7, 8, 9, 10, 5, 11, 12, 13, 14, 15, 16, 17, 18, 19, 20, 21, 22, 23, 24, 25, 26, 27, 28, 29, 30, 31, 32, 33, 34, 35, 36, 37, 38, 39, 40, 41, 42, 43, 44, 45, 46, 47, 48, 49, 53, 54, 55, 56, 57, 58, 59, 60, 61, 62, 63, 64] (by decide +kernel) (by decide +kernel)
set_option maxRecDepth 20000 in
theorem gX4_staysClear_X4_after : GoodIn wsX4_staysClear (wsV RX4 110 RX4 yX4_after wsX4_after) := goodIn_app (goodIn_of _ (by decide +kernel)) ggX4_staysClear_X4_after
set_option maxRecDepth 20000 in
theorem ggX4_staysClear_X5_holds : GoodIn wsX4_staysClear wsX5_holds := goodIn_r _ [52] (by decide +kernel) (by decide +kernel)
set_option maxRecDepth 20000 in
theorem gX4_staysClear_X5_holds_n56 : GoodIn wsX4_staysClear (wsX5_holds) := ggX4_staysClear_X5_holds
theorem dX4_staysClear_0 : decode cX4_staysClear 0 = .ok (.aload_n 0, 1) := by decide +kernel
theorem dX4_staysClear_1 : decode cX4_staysClear 1 = .ok (.getfield 27, 3) := by decide +kernel
theorem dX4_staysClear_4 : decode cX4_staysClear 4 = .ok (.lstore_n 3, 1) := by decide +kernel
theorem dX4_staysClear_5 : decode cX4_staysClear 5 = .ok (.iconst 0, 1) := by decide +kernel
theorem dX4_staysClear_6 : decode cX4_staysClear 6 = .ok (.istore 5, 2) := by decide +kernel
theorem dX4_staysClear_8 : decode cX4_staysClear 8 = .ok (.iload 5, 2) := by decide +kernel
theorem dX4_staysClear_10 : decode cX4_staysClear 10 = .ok (.iload_n 2, 1) := by decide +kernel
theorem dX4_staysClear_11 : decode cX4_staysClear 11 = .ok (.if_icmp .ge 25, 3) := by decide +kernel
theorem dX4_staysClear_14 : decode cX4_staysClear 14 = .ok (.aload_n 0, 1) := by decide +kernel
theorem dX4_staysClear_15 : decode cX4_staysClear 15 = .ok (.lload_n 3, 1) := by decide +kernel
theorem dX4_staysClear_16 : decode cX4_staysClear 16 = .ok (.invokevirtual 110, 3) := by decide +kernel
theorem dX4_staysClear_19 : decode cX4_staysClear 19 = .ok (.lstore_n 3, 1) := by decide +kernel
theorem dX4_staysClear_20 : decode cX4_staysClear 20 = .ok (.lload_n 3, 1) := by decide +kernel
theorem dX4_staysClear_21 : decode cX4_staysClear 21 = .ok (.iload_n 1, 1) := by decide +kernel
theorem dX4_staysClear_22 : decode cX4_staysClear 22 = .ok (.invokestatic 56, 3) := by decide +kernel
theorem dX4_staysClear_25 : decode cX4_staysClear 25 = .ok (.ifCond .eq 5, 3) := by decide +kernel
theorem dX4_staysClear_28 : decode cX4_staysClear 28 = .ok (.iconst 0, 1) := by decide +kernel
theorem dX4_staysClear_29 : decode cX4_staysClear 29 = .ok (.ireturn, 1) := by decide +kernel
theorem dX4_staysClear_30 : decode cX4_staysClear 30 = .ok (.iinc 5 1, 3) := by decide +kernel
theorem dX4_staysClear_33 : decode cX4_staysClear 33 = .ok (.goto (-25), 3) := by decide +kernel
theorem dX4_staysClear_36 : decode cX4_staysClear 36 = .ok (.iconst 1, 1) := by decide +kernel
theorem dX4_staysClear_37 : decode cX4_staysClear 37 = .ok (.ireturn, 1) := by decide +kernel
set_option maxRecDepth 20000 in
theorem ggX4_patchAt_X4_patchFrom : GoodIn wsX4_patchAt wsX4_patchFrom := goodIn_r _ [6, 1, 7, 8, 9, 5, 10, 11, 12, 13, 14, 15, 16, 17, 18, 19, 20, 21, 22, 23, 24, 25, 26, 27, 28, 29, 30, 31, 32, 33, 34, 35, 36, 37, 38, 39, 40, 41, 42, 43, 44, 45, 46, 47, 48, 49, 50, 51, 52, 53, 54, 55, 56] (by decide +kernel) (by decide +kernel)
set_option maxRecDepth 20000 in
theorem gX4_patchAt_X4_patchFrom : GoodIn wsX4_patchAt (wsV RX4 114 RX4 yX4_patchFrom wsX4_patchFrom) := goodIn_app (goodIn_of _ (by decide +kernel)) ggX4_patchAt_X4_patchFrom
theorem dX4_patchAt_0 : decode cX4_patchAt 0 = .ok (.aload_n 0, 1) := by decide +kernel
theorem dX4_patchAt_1 : decode cX4_patchAt 1 = .ok (.lconst 1, 1) := by decide +kernel
theorem dX4_patchAt_2 : decode cX4_patchAt 2 = .ok (.iload_n 1, 1) := by decide +kernel
theorem dX4_patchAt_3 : decode cX4_patchAt 3 = .ok (.lshl, 1) := by decide +kernel
theorem dX4_patchAt_4 : decode cX4_patchAt 4 = .ok (.aload_n 0, 1) := by decide +kernel
theorem dX4_patchAt_5 : decode cX4_patchAt 5 = .ok (.getfield 27, 3) := by decide +kernel
theorem dX4_patchAt_8 : decode cX4_patchAt 8 = .ok (.land, 1) := by decide +kernel
theorem dX4_patchAt_9 : decode cX4_patchAt 9 = .ok (.invokevirtual 114, 3) := by decide +kernel
theorem dX4_patchAt_12 : decode cX4_patchAt 12 = .ok (.lreturn, 1) := by decide +kernel
set_option maxRecDepth 20000 in
theorem ggX4_patchFrom_X4_around : GoodIn wsX4_patchFrom wsX4_around := goodIn_r _ [6, 7, 8, 9, 5, 10, 11, 12, 13, 14, 15, 16, 17, 18, 19, 20, 21, 22, 23, 24, 25, 26, 27, 28, 29, 30, 31, 32, 33, 34, 35, 36, 37, 38, 39, 40, 41, 42, 43, 44, 45, 46, 47, 48, 49, 50, 51, 52] (by decide +kernel) (by decide +kernel)
set_option maxRecDepth 20000 in
theorem gX4_patchFrom_X4_around : GoodIn wsX4_patchFrom (wsV RX4 117 RX4 yX4_around wsX4_around) := goodIn_app (goodIn_of _ (by decide +kernel)) ggX4_patchFrom_X4_around
theorem dX4_patchFrom_0 : decode cX4_patchFrom 0 = .ok (.lload_n 1, 1) := by decide +kernel
theorem dX4_patchFrom_1 : decode cX4_patchFrom 1 = .ok (.lstore_n 3, 1) := by decide +kernel
theorem dX4_patchFrom_2 : decode cX4_patchFrom 2 = .ok (.iconst 0, 1) := by decide +kernel
theorem dX4_patchFrom_3 : decode cX4_patchFrom 3 = .ok (.istore 5, 2) := by decide +kernel
theorem dX4_patchFrom_5 : decode cX4_patchFrom 5 = .ok (.iload 5, 2) := by decide +kernel
theorem dX4_patchFrom_7 : decode cX4_patchFrom 7 = .ok (.bipush 64, 2) := by decide +kernel
theorem dX4_patchFrom_9 : decode cX4_patchFrom 9 = .ok (.if_icmp .ge 35, 3) := by decide +kernel
theorem dX4_patchFrom_12 : decode cX4_patchFrom 12 = .ok (.lload_n 3, 1) := by decide +kernel
theorem dX4_patchFrom_13 : decode cX4_patchFrom 13 = .ok (.aload_n 0, 1) := by decide +kernel
theorem dX4_patchFrom_14 : decode cX4_patchFrom 14 = .ok (.lload_n 3, 1) := by decide +kernel
theorem dX4_patchFrom_15 : decode cX4_patchFrom 15 = .ok (.invokevirtual 117, 3) := by decide +kernel
theorem dX4_patchFrom_18 : decode cX4_patchFrom 18 = .ok (.aload_n 0, 1) := by decide +kernel
theorem dX4_patchFrom_19 : decode cX4_patchFrom 19 = .ok (.getfield 27, 3) := by decide +kernel
theorem dX4_patchFrom_22 : decode cX4_patchFrom 22 = .ok (.land, 1) := by decide +kernel
theorem dX4_patchFrom_23 : decode cX4_patchFrom 23 = .ok (.lor, 1) := by decide +kernel
theorem dX4_patchFrom_24 : decode cX4_patchFrom 24 = .ok (.lstore 6, 2) := by decide +kernel
theorem dX4_patchFrom_26 : decode cX4_patchFrom 26 = .ok (.lload 6, 2) := by decide +kernel
theorem dX4_patchFrom_28 : decode cX4_patchFrom 28 = .ok (.lload_n 3, 1) := by decide +kernel
theorem dX4_patchFrom_29 : decode cX4_patchFrom 29 = .ok (.lcmp, 1) := by decide +kernel
theorem dX4_patchFrom_30 : decode cX4_patchFrom 30 = .ok (.ifCond .ne 5, 3) := by decide +kernel
theorem dX4_patchFrom_33 : decode cX4_patchFrom 33 = .ok (.lload_n 3, 1) := by decide +kernel
theorem dX4_patchFrom_34 : decode cX4_patchFrom 34 = .ok (.lreturn, 1) := by decide +kernel
theorem dX4_patchFrom_35 : decode cX4_patchFrom 35 = .ok (.lload 6, 2) := by decide +kernel
theorem dX4_patchFrom_37 : decode cX4_patchFrom 37 = .ok (.lstore_n 3, 1) := by decide +kernel
theorem dX4_patchFrom_38 : decode cX4_patchFrom 38 = .ok (.iinc 5 1, 3) := by decide +kernel
theorem dX4_patchFrom_41 : decode cX4_patchFrom 41 = .ok (.goto (-36), 3) := by decide +kernel
theorem dX4_patchFrom_44 : decode cX4_patchFrom 44 = .ok (.lload_n 3, 1) := by decide +kernel
theorem dX4_patchFrom_45 : decode cX4_patchFrom 45 = .ok (.lreturn, 1) := by decide +kernel
set_option maxRecDepth 20000 in
theorem ggX4_patches_X4_patchFrom : GoodIn wsX4_patches wsX4_patchFrom := goodIn_r _ [7, 1, 8, 9, 10, 6, 11, 12, 13, 14, 15, 16, 2, 17, 18, 19, 20, 21, 22, 23, 24, 25, 26, 27, 28, 29, 30, 31, 32, 33, 34, 35, 36, 37, 38, 39, 40, 41, 42, 43, 44, 45, 46, 47, 48, 49, 50, 51, 52, 53, 54, 55, 56] (by decide +kernel) (by decide +kernel)
set_option maxRecDepth 20000 in
theorem gX4_patches_X4_patchFrom : GoodIn wsX4_patches (wsV RX4 114 RX4 yX4_patchFrom wsX4_patchFrom) := goodIn_app (goodIn_of _ (by decide +kernel)) ggX4_patches_X4_patchFrom
theorem dX4_patches_0 : decode cX4_patches 0 = .ok (.aload_n 0, 1) := by decide +kernel
theorem dX4_patches_1 : decode cX4_patches 1 = .ok (.getfield 27, 3) := by decide +kernel
theorem dX4_patches_4 : decode cX4_patches 4 = .ok (.lstore_n 1, 1) := by decide +kernel
theorem dX4_patches_5 : decode cX4_patches 5 = .ok (.iconst 0, 1) := by decide +kernel
theorem dX4_patches_6 : decode cX4_patches 6 = .ok (.istore_n 3, 1) := by decide +kernel
theorem dX4_patches_7 : decode cX4_patches 7 = .ok (.iconst 0, 1) := by decide +kernel
theorem dX4_patches_8 : decode cX4_patches 8 = .ok (.istore 4, 2) := by decide +kernel
theorem dX4_patches_10 : decode cX4_patches 10 = .ok (.iload 4, 2) := by decide +kernel
theorem dX4_patches_12 : decode cX4_patches 12 = .ok (.bipush 64, 2) := by decide +kernel
theorem dX4_patches_14 : decode cX4_patches 14 = .ok (.if_icmp .ge 33, 3) := by decide +kernel
theorem dX4_patches_17 : decode cX4_patches 17 = .ok (.lload_n 1, 1) := by decide +kernel
theorem dX4_patches_18 : decode cX4_patches 18 = .ok (.lconst 0, 1) := by decide +kernel
theorem dX4_patches_19 : decode cX4_patches 19 = .ok (.lcmp, 1) := by decide +kernel
theorem dX4_patches_20 : decode cX4_patches 20 = .ok (.ifCond .eq 27, 3) := by decide +kernel
theorem dX4_patches_23 : decode cX4_patches 23 = .ok (.lload_n 1, 1) := by decide +kernel
theorem dX4_patches_24 : decode cX4_patches 24 = .ok (.aload_n 0, 1) := by decide +kernel
theorem dX4_patches_25 : decode cX4_patches 25 = .ok (.lload_n 1, 1) := by decide +kernel
theorem dX4_patches_26 : decode cX4_patches 26 = .ok (.lload_n 1, 1) := by decide +kernel
theorem dX4_patches_27 : decode cX4_patches 27 = .ok (.lneg, 1) := by decide +kernel
theorem dX4_patches_28 : decode cX4_patches 28 = .ok (.land, 1) := by decide +kernel
theorem dX4_patches_29 : decode cX4_patches 29 = .ok (.invokevirtual 114, 3) := by decide +kernel
theorem dX4_patches_32 : decode cX4_patches 32 = .ok (.ldc2_w 82, 3) := by decide +kernel
theorem dX4_patches_35 : decode cX4_patches 35 = .ok (.lxor, 1) := by decide +kernel
theorem dX4_patches_36 : decode cX4_patches 36 = .ok (.land, 1) := by decide +kernel
theorem dX4_patches_37 : decode cX4_patches 37 = .ok (.lstore_n 1, 1) := by decide +kernel
theorem dX4_patches_38 : decode cX4_patches 38 = .ok (.iinc 3 1, 3) := by decide +kernel
theorem dX4_patches_41 : decode cX4_patches 41 = .ok (.iinc 4 1, 3) := by decide +kernel
theorem dX4_patches_44 : decode cX4_patches 44 = .ok (.goto (-34), 3) := by decide +kernel
theorem dX4_patches_47 : decode cX4_patches 47 = .ok (.iload_n 3, 1) := by decide +kernel
theorem dX4_patches_48 : decode cX4_patches 48 = .ok (.ireturn, 1) := by decide +kernel
set_option maxRecDepth 20000 in
theorem ggX4_largestPatch_X4_patchFrom : GoodIn wsX4_largestPatch wsX4_patchFrom := goodIn_r _ [11, 1, 12, 13, 14, 10, 15, 16, 17, 18, 19, 20, 2, 21, 22, 23, 24, 25, 26, 27, 28, 29, 30, 31, 32, 33, 34, 35, 36, 37, 38, 39, 40, 41, 42, 43, 44, 45, 46, 47, 48, 56, 57, 58, 59, 60, 61, 62, 63, 64, 65, 66, 67] (by decide +kernel) (by decide +kernel)
set_option maxRecDepth 20000 in
theorem gX4_largestPatch_X4_patchFrom : GoodIn wsX4_largestPatch (wsV RX4 114 RX4 yX4_patchFrom wsX4_patchFrom) := goodIn_app (goodIn_of _ (by decide +kernel)) ggX4_largestPatch_X4_patchFrom
set_option maxRecDepth 20000 in
theorem ggX4_largestPatch_J13_bitCount_95d88 : GoodIn wsX4_largestPatch wsJ13_bitCount_95d88 := goodIn_r _ [52, 53, 54, 55] (by decide +kernel) (by decide +kernel)
set_option maxRecDepth 20000 in
theorem gX4_largestPatch_J13_bitCount_95d88 : GoodIn wsX4_largestPatch (va_wsS RX4 84 yJ13_bitCount_95d88 wsJ13_bitCount_95d88) := goodIn_app (goodIn_of _ (by decide +kernel)) ggX4_largestPatch_J13_bitCount_95d88
theorem dX4_largestPatch_0 : decode cX4_largestPatch 0 = .ok (.aload_n 0, 1) := by decide +kernel
theorem dX4_largestPatch_1 : decode cX4_largestPatch 1 = .ok (.getfield 27, 3) := by decide +kernel
theorem dX4_largestPatch_4 : decode cX4_largestPatch 4 = .ok (.lstore_n 1, 1) := by decide +kernel
theorem dX4_largestPatch_5 : decode cX4_largestPatch 5 = .ok (.iconst 0, 1) := by decide +kernel
theorem dX4_largestPatch_6 : decode cX4_largestPatch 6 = .ok (.istore_n 3, 1) := by decide +kernel
theorem dX4_largestPatch_7 : decode cX4_largestPatch 7 = .ok (.iconst 0, 1) := by decide +kernel
theorem dX4_largestPatch_8 : decode cX4_largestPatch 8 = .ok (.istore 4, 2) := by decide +kernel
theorem dX4_largestPatch_10 : decode cX4_largestPatch 10 = .ok (.iload 4, 2) := by decide +kernel
theorem dX4_largestPatch_12 : decode cX4_largestPatch 12 = .ok (.bipush 64, 2) := by decide +kernel
theorem dX4_largestPatch_14 : decode cX4_largestPatch 14 = .ok (.if_icmp .ge 44, 3) := by decide +kernel
theorem dX4_largestPatch_17 : decode cX4_largestPatch 17 = .ok (.lload_n 1, 1) := by decide +kernel
theorem dX4_largestPatch_18 : decode cX4_largestPatch 18 = .ok (.lconst 0, 1) := by decide +kernel
theorem dX4_largestPatch_19 : decode cX4_largestPatch 19 = .ok (.lcmp, 1) := by decide +kernel
theorem dX4_largestPatch_20 : decode cX4_largestPatch 20 = .ok (.ifCond .eq 38, 3) := by decide +kernel
theorem dX4_largestPatch_23 : decode cX4_largestPatch 23 = .ok (.aload_n 0, 1) := by decide +kernel
theorem dX4_largestPatch_24 : decode cX4_largestPatch 24 = .ok (.lload_n 1, 1) := by decide +kernel
theorem dX4_largestPatch_25 : decode cX4_largestPatch 25 = .ok (.lload_n 1, 1) := by decide +kernel
theorem dX4_largestPatch_26 : decode cX4_largestPatch 26 = .ok (.lneg, 1) := by decide +kernel
theorem dX4_largestPatch_27 : decode cX4_largestPatch 27 = .ok (.land, 1) := by decide +kernel
theorem dX4_largestPatch_28 : decode cX4_largestPatch 28 = .ok (.invokevirtual 114, 3) := by decide +kernel
theorem dX4_largestPatch_31 : decode cX4_largestPatch 31 = .ok (.lstore 5, 2) := by decide +kernel
theorem dX4_largestPatch_33 : decode cX4_largestPatch 33 = .ok (.lload_n 1, 1) := by decide +kernel
theorem dX4_largestPatch_34 : decode cX4_largestPatch 34 = .ok (.lload 5, 2) := by decide +kernel
theorem dX4_largestPatch_36 : decode cX4_largestPatch 36 = .ok (.ldc2_w 82, 3) := by decide +kernel
theorem dX4_largestPatch_39 : decode cX4_largestPatch 39 = .ok (.lxor, 1) := by decide +kernel
theorem dX4_largestPatch_40 : decode cX4_largestPatch 40 = .ok (.land, 1) := by decide +kernel
theorem dX4_largestPatch_41 : decode cX4_largestPatch 41 = .ok (.lstore_n 1, 1) := by decide +kernel
theorem dX4_largestPatch_42 : decode cX4_largestPatch 42 = .ok (.iload_n 3, 1) := by decide +kernel
theorem dX4_largestPatch_43 : decode cX4_largestPatch 43 = .ok (.lload 5, 2) := by decide +kernel
theorem dX4_largestPatch_45 : decode cX4_largestPatch 45 = .ok (.invokestatic 84, 3) := by decide +kernel
theorem dX4_largestPatch_48 : decode cX4_largestPatch 48 = .ok (.invokestatic 120, 3) := by decide +kernel
theorem dX4_largestPatch_51 : decode cX4_largestPatch 51 = .ok (.istore_n 3, 1) := by decide +kernel
theorem dX4_largestPatch_52 : decode cX4_largestPatch 52 = .ok (.iinc 4 1, 3) := by decide +kernel
theorem dX4_largestPatch_55 : decode cX4_largestPatch 55 = .ok (.goto (-45), 3) := by decide +kernel
theorem dX4_largestPatch_58 : decode cX4_largestPatch 58 = .ok (.iload_n 3, 1) := by decide +kernel
theorem dX4_largestPatch_59 : decode cX4_largestPatch 59 = .ok (.ireturn, 1) := by decide +kernel
set_option maxRecDepth 20000 in
theorem ggX4_turn_X4_hasCell : GoodIn wsX4_turn wsX4_hasCell := goodIn_r _ [6, 7, 8, 16, 17, 18, 19, 20, 21, 22, 23, 24, 25, 26, 27] (by decide +kernel) (by decide +kernel)
set_option maxRecDepth 20000 in
theorem gX4_turn_X4_hasCell : GoodIn wsX4_turn (wsV RX4 125 RX4 yX4_hasCell wsX4_hasCell) := goodIn_app (goodIn_of _ (by decide +kernel)) ggX4_turn_X4_hasCell
set_option maxRecDepth 20000 in
theorem ggX4_turn_X4_isFrozen : GoodIn wsX4_turn wsX4_isFrozen := goodIn_r _ [12, 1, 13, 14, 15, 16, 17, 18, 19, 20, 21, 22, 23, 24, 25, 26, 27] (by decide +kernel) (by decide +kernel)
set_option maxRecDepth 20000 in
theorem gX4_turn_X4_isFrozen : GoodIn wsX4_turn (wsV RX4 129 RX4 yX4_isFrozen wsX4_isFrozen) := goodIn_app (goodIn_of _ (by decide +kernel)) ggX4_turn_X4_isFrozen
theorem dX4_turn_0 : decode cX4_turn 0 = .ok (.aload_n 0, 1) := by decide +kernel
theorem dX4_turn_1 : decode cX4_turn 1 = .ok (.iload_n 1, 1) := by decide +kernel
theorem dX4_turn_2 : decode cX4_turn 2 = .ok (.invokevirtual 125, 3) := by decide +kernel
theorem dX4_turn_5 : decode cX4_turn 5 = .ok (.ifCond .ne 5, 3) := by decide +kernel
theorem dX4_turn_8 : decode cX4_turn 8 = .ok (.iconst (-1), 1) := by decide +kernel
theorem dX4_turn_9 : decode cX4_turn 9 = .ok (.ireturn, 1) := by decide +kernel
theorem dX4_turn_10 : decode cX4_turn 10 = .ok (.aload_n 0, 1) := by decide +kernel
theorem dX4_turn_11 : decode cX4_turn 11 = .ok (.dup, 1) := by decide +kernel
theorem dX4_turn_12 : decode cX4_turn 12 = .ok (.getfield 27, 3) := by decide +kernel
theorem dX4_turn_15 : decode cX4_turn 15 = .ok (.lconst 1, 1) := by decide +kernel
theorem dX4_turn_16 : decode cX4_turn 16 = .ok (.iload_n 1, 1) := by decide +kernel
theorem dX4_turn_17 : decode cX4_turn 17 = .ok (.lshl, 1) := by decide +kernel
theorem dX4_turn_18 : decode cX4_turn 18 = .ok (.lxor, 1) := by decide +kernel
theorem dX4_turn_19 : decode cX4_turn 19 = .ok (.putfield 27, 3) := by decide +kernel
theorem dX4_turn_22 : decode cX4_turn 22 = .ok (.aload_n 0, 1) := by decide +kernel
theorem dX4_turn_23 : decode cX4_turn 23 = .ok (.iload_n 1, 1) := by decide +kernel
theorem dX4_turn_24 : decode cX4_turn 24 = .ok (.invokevirtual 129, 3) := by decide +kernel
theorem dX4_turn_27 : decode cX4_turn 27 = .ok (.ifCond .eq 7, 3) := by decide +kernel
theorem dX4_turn_30 : decode cX4_turn 30 = .ok (.iconst 1, 1) := by decide +kernel
theorem dX4_turn_31 : decode cX4_turn 31 = .ok (.goto 4, 3) := by decide +kernel
theorem dX4_turn_34 : decode cX4_turn 34 = .ok (.iconst 0, 1) := by decide +kernel
theorem dX4_turn_35 : decode cX4_turn 35 = .ok (.ireturn, 1) := by decide +kernel
set_option maxRecDepth 20000 in
theorem ggX4_scrape_X4_hasCell : GoodIn wsX4_scrape wsX4_hasCell := goodIn_r _ [7, 8, 9, 44, 45, 46, 47, 48, 49, 50, 51, 52, 53, 54, 55] (by decide +kernel) (by decide +kernel)
set_option maxRecDepth 20000 in
theorem gX4_scrape_X4_hasCell : GoodIn wsX4_scrape (wsV RX4 125 RX4 yX4_hasCell wsX4_hasCell) := goodIn_app (goodIn_of _ (by decide +kernel)) ggX4_scrape_X4_hasCell
set_option maxRecDepth 20000 in
theorem ggX4_scrape_X5_isWithin : GoodIn wsX4_scrape wsX5_isWithin := goodIn_r _ [12] (by decide +kernel) (by decide +kernel)
set_option maxRecDepth 20000 in
theorem gX4_scrape_X5_isWithin_n132 : GoodIn wsX4_scrape (wsX5_isWithin) := ggX4_scrape_X5_isWithin
set_option maxRecDepth 20000 in
theorem ggX4_scrape_X4_beside : GoodIn wsX4_scrape wsX4_beside := goodIn_r _ [16, 17, 18, 19, 6, 20, 21, 22, 23, 24, 25, 11, 26, 27, 28, 29, 30, 9, 31, 32, 33, 34, 35, 36, 37, 38, 39, 8, 44, 45, 46, 47, 48, 49, 50, 51, 52, 53, 54, 55] (by decide +kernel) (by decide +kernel)
set_option maxRecDepth 20000 in
theorem gX4_scrape_X4_beside : GoodIn wsX4_scrape (wsV RX4 74 RX4 yX4_beside wsX4_beside) := goodIn_app (goodIn_of _ (by decide +kernel)) ggX4_scrape_X4_beside
set_option maxRecDepth 20000 in
theorem ggX4_scrape_X4_isScratched : GoodIn wsX4_scrape wsX4_isScratched := goodIn_r _ [43, 2, 1, 13, 14, 15, 6, 16, 17, 18, 19, 20, 21, 22, 23, 24, 25, 11, 26, 27, 28, 29, 30, 9, 31, 32, 33, 34, 35, 36, 37, 38, 39, 8, 44, 45, 46, 47, 48, 49, 50, 51, 52, 53, 54, 55] (by decide +kernel) (by decide +kernel)
set_option maxRecDepth 20000 in
theorem gX4_scrape_X4_isScratched : GoodIn wsX4_scrape (wsV RX4 78 RX4 yX4_isScratched wsX4_isScratched) := goodIn_app (goodIn_of _ (by decide +kernel)) ggX4_scrape_X4_isScratched
theorem dX4_scrape_0 : decode cX4_scrape 0 = .ok (.aload_n 0, 1) := by decide +kernel
theorem dX4_scrape_1 : decode cX4_scrape 1 = .ok (.iload_n 1, 1) := by decide +kernel
theorem dX4_scrape_2 : decode cX4_scrape 2 = .ok (.invokevirtual 125, 3) := by decide +kernel
theorem dX4_scrape_5 : decode cX4_scrape 5 = .ok (.ifCond .eq 12, 3) := by decide +kernel
theorem dX4_scrape_8 : decode cX4_scrape 8 = .ok (.iload_n 2, 1) := by decide +kernel
theorem dX4_scrape_9 : decode cX4_scrape 9 = .ok (.iconst 0, 1) := by decide +kernel
theorem dX4_scrape_10 : decode cX4_scrape 10 = .ok (.iconst 3, 1) := by decide +kernel
theorem dX4_scrape_11 : decode cX4_scrape 11 = .ok (.invokestatic 132, 3) := by decide +kernel
theorem dX4_scrape_14 : decode cX4_scrape 14 = .ok (.ifCond .ne 5, 3) := by decide +kernel
theorem dX4_scrape_17 : decode cX4_scrape 17 = .ok (.iconst (-1), 1) := by decide +kernel
theorem dX4_scrape_18 : decode cX4_scrape 18 = .ok (.ireturn, 1) := by decide +kernel
theorem dX4_scrape_19 : decode cX4_scrape 19 = .ok (.aload_n 0, 1) := by decide +kernel
theorem dX4_scrape_20 : decode cX4_scrape 20 = .ok (.iload_n 1, 1) := by decide +kernel
theorem dX4_scrape_21 : decode cX4_scrape 21 = .ok (.iload_n 2, 1) := by decide +kernel
theorem dX4_scrape_22 : decode cX4_scrape 22 = .ok (.invokevirtual 74, 3) := by decide +kernel
theorem dX4_scrape_25 : decode cX4_scrape 25 = .ok (.istore_n 3, 1) := by decide +kernel
theorem dX4_scrape_26 : decode cX4_scrape 26 = .ok (.iload_n 3, 1) := by decide +kernel
theorem dX4_scrape_27 : decode cX4_scrape 27 = .ok (.iconst (-1), 1) := by decide +kernel
theorem dX4_scrape_28 : decode cX4_scrape 28 = .ok (.if_icmp .ne 5, 3) := by decide +kernel
theorem dX4_scrape_31 : decode cX4_scrape 31 = .ok (.iconst (-1), 1) := by decide +kernel
theorem dX4_scrape_32 : decode cX4_scrape 32 = .ok (.ireturn, 1) := by decide +kernel
theorem dX4_scrape_33 : decode cX4_scrape 33 = .ok (.lconst 1, 1) := by decide +kernel
theorem dX4_scrape_34 : decode cX4_scrape 34 = .ok (.iload_n 2, 1) := by decide +kernel
theorem dX4_scrape_35 : decode cX4_scrape 35 = .ok (.iconst 1, 1) := by decide +kernel
theorem dX4_scrape_36 : decode cX4_scrape 36 = .ok (.if_icmp .eq 8, 3) := by decide +kernel
theorem dX4_scrape_39 : decode cX4_scrape 39 = .ok (.iload_n 2, 1) := by decide +kernel
theorem dX4_scrape_40 : decode cX4_scrape 40 = .ok (.iconst 2, 1) := by decide +kernel
theorem dX4_scrape_41 : decode cX4_scrape 41 = .ok (.if_icmp .ne 7, 3) := by decide +kernel
theorem dX4_scrape_44 : decode cX4_scrape 44 = .ok (.iload_n 1, 1) := by decide +kernel
theorem dX4_scrape_45 : decode cX4_scrape 45 = .ok (.goto 4, 3) := by decide +kernel
theorem dX4_scrape_48 : decode cX4_scrape 48 = .ok (.iload_n 3, 1) := by decide +kernel
theorem dX4_scrape_49 : decode cX4_scrape 49 = .ok (.lshl, 1) := by decide +kernel
theorem dX4_scrape_50 : decode cX4_scrape 50 = .ok (.lstore 4, 2) := by decide +kernel
theorem dX4_scrape_52 : decode cX4_scrape 52 = .ok (.iload_n 2, 1) := by decide +kernel
theorem dX4_scrape_53 : decode cX4_scrape 53 = .ok (.iconst 1, 1) := by decide +kernel
theorem dX4_scrape_54 : decode cX4_scrape 54 = .ok (.if_icmp .eq 8, 3) := by decide +kernel
theorem dX4_scrape_57 : decode cX4_scrape 57 = .ok (.iload_n 2, 1) := by decide +kernel
theorem dX4_scrape_58 : decode cX4_scrape 58 = .ok (.iconst 3, 1) := by decide +kernel
theorem dX4_scrape_59 : decode cX4_scrape 59 = .ok (.if_icmp .ne 17, 3) := by decide +kernel
theorem dX4_scrape_62 : decode cX4_scrape 62 = .ok (.aload_n 0, 1) := by decide +kernel
theorem dX4_scrape_63 : decode cX4_scrape 63 = .ok (.dup, 1) := by decide +kernel
theorem dX4_scrape_64 : decode cX4_scrape 64 = .ok (.getfield 46, 3) := by decide +kernel
theorem dX4_scrape_67 : decode cX4_scrape 67 = .ok (.lload 4, 2) := by decide +kernel
theorem dX4_scrape_69 : decode cX4_scrape 69 = .ok (.lxor, 1) := by decide +kernel
theorem dX4_scrape_70 : decode cX4_scrape 70 = .ok (.putfield 46, 3) := by decide +kernel
theorem dX4_scrape_73 : decode cX4_scrape 73 = .ok (.goto 14, 3) := by decide +kernel
theorem dX4_scrape_76 : decode cX4_scrape 76 = .ok (.aload_n 0, 1) := by decide +kernel
theorem dX4_scrape_77 : decode cX4_scrape 77 = .ok (.dup, 1) := by decide +kernel
theorem dX4_scrape_78 : decode cX4_scrape 78 = .ok (.getfield 49, 3) := by decide +kernel
theorem dX4_scrape_81 : decode cX4_scrape 81 = .ok (.lload 4, 2) := by decide +kernel
theorem dX4_scrape_83 : decode cX4_scrape 83 = .ok (.lxor, 1) := by decide +kernel
theorem dX4_scrape_84 : decode cX4_scrape 84 = .ok (.putfield 49, 3) := by decide +kernel
theorem dX4_scrape_87 : decode cX4_scrape 87 = .ok (.aload_n 0, 1) := by decide +kernel
theorem dX4_scrape_88 : decode cX4_scrape 88 = .ok (.iload_n 1, 1) := by decide +kernel
theorem dX4_scrape_89 : decode cX4_scrape 89 = .ok (.iload_n 2, 1) := by decide +kernel
theorem dX4_scrape_90 : decode cX4_scrape 90 = .ok (.invokevirtual 78, 3) := by decide +kernel
theorem dX4_scrape_93 : decode cX4_scrape 93 = .ok (.ifCond .eq 7, 3) := by decide +kernel
theorem dX4_scrape_96 : decode cX4_scrape 96 = .ok (.iconst 1, 1) := by decide +kernel
theorem dX4_scrape_97 : decode cX4_scrape 97 = .ok (.goto 4, 3) := by decide +kernel
theorem dX4_scrape_100 : decode cX4_scrape 100 = .ok (.iconst 0, 1) := by decide +kernel
theorem dX4_scrape_101 : decode cX4_scrape 101 = .ok (.ireturn, 1) := by decide +kernel
set_option maxRecDepth 20000 in
theorem ggX4_putKind_X5_isWithin : GoodIn wsX4_putKind wsX5_isWithin := goodIn_r _ [3] (by decide +kernel) (by decide +kernel)
set_option maxRecDepth 20000 in
theorem gX4_putKind_X5_isWithin_n132 : GoodIn wsX4_putKind (wsX5_isWithin) := ggX4_putKind_X5_isWithin
set_option maxRecDepth 20000 in
theorem ggX4_putKind_X4_kind : GoodIn wsX4_putKind wsX4_kind := goodIn_r _ [8, 9, 14, 15, 16, 17, 18, 19, 20, 21, 22, 23, 24, 25] (by decide +kernel) (by decide +kernel)
set_option maxRecDepth 20000 in
theorem gX4_putKind_X4_kind : GoodIn wsX4_putKind (wsV RX4 68 RX4 yX4_kind wsX4_kind) := goodIn_app (goodIn_of _ (by decide +kernel)) ggX4_putKind_X4_kind
set_option maxRecDepth 20000 in
theorem ggX4_putKind_X4_overwriteKind : GoodIn wsX4_putKind wsX4_overwriteKind := goodIn_r _ [13, 9, 14, 15, 16, 17, 18, 19, 20, 21, 22, 23, 24, 25] (by decide +kernel) (by decide +kernel)
set_option maxRecDepth 20000 in
theorem gX4_putKind_X4_overwriteKind : GoodIn wsX4_putKind (wsV RX4 136 RX4 yX4_overwriteKind wsX4_overwriteKind) := goodIn_app (goodIn_of _ (by decide +kernel)) ggX4_putKind_X4_overwriteKind
theorem dX4_putKind_0 : decode cX4_putKind 0 = .ok (.iload_n 1, 1) := by decide +kernel
theorem dX4_putKind_1 : decode cX4_putKind 1 = .ok (.iconst 0, 1) := by decide +kernel
theorem dX4_putKind_2 : decode cX4_putKind 2 = .ok (.iconst 3, 1) := by decide +kernel
theorem dX4_putKind_3 : decode cX4_putKind 3 = .ok (.invokestatic 132, 3) := by decide +kernel
theorem dX4_putKind_6 : decode cX4_putKind 6 = .ok (.ifCond .eq 12, 3) := by decide +kernel
theorem dX4_putKind_9 : decode cX4_putKind 9 = .ok (.iload_n 2, 1) := by decide +kernel
theorem dX4_putKind_10 : decode cX4_putKind 10 = .ok (.iconst 0, 1) := by decide +kernel
theorem dX4_putKind_11 : decode cX4_putKind 11 = .ok (.iconst 2, 1) := by decide +kernel
theorem dX4_putKind_12 : decode cX4_putKind 12 = .ok (.invokestatic 132, 3) := by decide +kernel
theorem dX4_putKind_15 : decode cX4_putKind 15 = .ok (.ifCond .ne 5, 3) := by decide +kernel
theorem dX4_putKind_18 : decode cX4_putKind 18 = .ok (.iconst (-1), 1) := by decide +kernel
theorem dX4_putKind_19 : decode cX4_putKind 19 = .ok (.ireturn, 1) := by decide +kernel
theorem dX4_putKind_20 : decode cX4_putKind 20 = .ok (.aload_n 0, 1) := by decide +kernel
theorem dX4_putKind_21 : decode cX4_putKind 21 = .ok (.iload_n 1, 1) := by decide +kernel
theorem dX4_putKind_22 : decode cX4_putKind 22 = .ok (.invokevirtual 68, 3) := by decide +kernel
theorem dX4_putKind_25 : decode cX4_putKind 25 = .ok (.istore_n 3, 1) := by decide +kernel
theorem dX4_putKind_26 : decode cX4_putKind 26 = .ok (.aload_n 0, 1) := by decide +kernel
theorem dX4_putKind_27 : decode cX4_putKind 27 = .ok (.iload_n 1, 1) := by decide +kernel
theorem dX4_putKind_28 : decode cX4_putKind 28 = .ok (.iload_n 2, 1) := by decide +kernel
theorem dX4_putKind_29 : decode cX4_putKind 29 = .ok (.invokevirtual 136, 3) := by decide +kernel
theorem dX4_putKind_32 : decode cX4_putKind 32 = .ok (.iload_n 3, 1) := by decide +kernel
theorem dX4_putKind_33 : decode cX4_putKind 33 = .ok (.iconst 2, 1) := by decide +kernel
theorem dX4_putKind_34 : decode cX4_putKind 34 = .ok (.if_icmp .eq 8, 3) := by decide +kernel
theorem dX4_putKind_37 : decode cX4_putKind 37 = .ok (.iload_n 2, 1) := by decide +kernel
theorem dX4_putKind_38 : decode cX4_putKind 38 = .ok (.iconst 2, 1) := by decide +kernel
theorem dX4_putKind_39 : decode cX4_putKind 39 = .ok (.if_icmp .ne 11, 3) := by decide +kernel
theorem dX4_putKind_42 : decode cX4_putKind 42 = .ok (.aload_n 0, 1) := by decide +kernel
theorem dX4_putKind_43 : decode cX4_putKind 43 = .ok (.iload_n 1, 1) := by decide +kernel
theorem dX4_putKind_44 : decode cX4_putKind 44 = .ok (.iconst 2, 1) := by decide +kernel
theorem dX4_putKind_45 : decode cX4_putKind 45 = .ok (.ixor, 1) := by decide +kernel
theorem dX4_putKind_46 : decode cX4_putKind 46 = .ok (.iload_n 2, 1) := by decide +kernel
theorem dX4_putKind_47 : decode cX4_putKind 47 = .ok (.invokevirtual 136, 3) := by decide +kernel
theorem dX4_putKind_50 : decode cX4_putKind 50 = .ok (.iload_n 3, 1) := by decide +kernel
theorem dX4_putKind_51 : decode cX4_putKind 51 = .ok (.ireturn, 1) := by decide +kernel
theorem dX4_overwriteKind_0 : decode cX4_overwriteKind 0 = .ok (.aload_n 0, 1) := by decide +kernel
theorem dX4_overwriteKind_1 : decode cX4_overwriteKind 1 = .ok (.aload_n 0, 1) := by decide +kernel
theorem dX4_overwriteKind_2 : decode cX4_overwriteKind 2 = .ok (.getfield 31, 3) := by decide +kernel
theorem dX4_overwriteKind_5 : decode cX4_overwriteKind 5 = .ok (.iconst 3, 1) := by decide +kernel
theorem dX4_overwriteKind_6 : decode cX4_overwriteKind 6 = .ok (.iconst 2, 1) := by decide +kernel
theorem dX4_overwriteKind_7 : decode cX4_overwriteKind 7 = .ok (.iload_n 1, 1) := by decide +kernel
theorem dX4_overwriteKind_8 : decode cX4_overwriteKind 8 = .ok (.imul, 1) := by decide +kernel
theorem dX4_overwriteKind_9 : decode cX4_overwriteKind 9 = .ok (.ishl, 1) := by decide +kernel
theorem dX4_overwriteKind_10 : decode cX4_overwriteKind 10 = .ok (.iconst (-1), 1) := by decide +kernel
theorem dX4_overwriteKind_11 : decode cX4_overwriteKind 11 = .ok (.ixor, 1) := by decide +kernel
theorem dX4_overwriteKind_12 : decode cX4_overwriteKind 12 = .ok (.iand, 1) := by decide +kernel
theorem dX4_overwriteKind_13 : decode cX4_overwriteKind 13 = .ok (.iload_n 2, 1) := by decide +kernel
theorem dX4_overwriteKind_14 : decode cX4_overwriteKind 14 = .ok (.iconst 2, 1) := by decide +kernel
theorem dX4_overwriteKind_15 : decode cX4_overwriteKind 15 = .ok (.iload_n 1, 1) := by decide +kernel
theorem dX4_overwriteKind_16 : decode cX4_overwriteKind 16 = .ok (.imul, 1) := by decide +kernel
theorem dX4_overwriteKind_17 : decode cX4_overwriteKind 17 = .ok (.ishl, 1) := by decide +kernel
theorem dX4_overwriteKind_18 : decode cX4_overwriteKind 18 = .ok (.ior, 1) := by decide +kernel
theorem dX4_overwriteKind_19 : decode cX4_overwriteKind 19 = .ok (.putfield 31, 3) := by decide +kernel
theorem dX4_overwriteKind_22 : decode cX4_overwriteKind 22 = .ok (.return_, 1) := by decide +kernel
set_option maxRecDepth 20000 in
theorem ggX4_putRule_X5_isWithin : GoodIn wsX4_putRule wsX5_isWithin := goodIn_r _ [4] (by decide +kernel) (by decide +kernel)
set_option maxRecDepth 20000 in
theorem gX4_putRule_X5_isWithin_n132 : GoodIn wsX4_putRule (wsX5_isWithin) := ggX4_putRule_X5_isWithin
theorem dX4_putRule_0 : decode cX4_putRule 0 = .ok (.iload_n 1, 1) := by decide +kernel
theorem dX4_putRule_1 : decode cX4_putRule 1 = .ok (.iconst 0, 1) := by decide +kernel
theorem dX4_putRule_2 : decode cX4_putRule 2 = .ok (.iconst 2, 1) := by decide +kernel
theorem dX4_putRule_3 : decode cX4_putRule 3 = .ok (.invokestatic 132, 3) := by decide +kernel
theorem dX4_putRule_6 : decode cX4_putRule 6 = .ok (.ifCond .ne 5, 3) := by decide +kernel
theorem dX4_putRule_9 : decode cX4_putRule 9 = .ok (.iconst (-1), 1) := by decide +kernel
theorem dX4_putRule_10 : decode cX4_putRule 10 = .ok (.ireturn, 1) := by decide +kernel
theorem dX4_putRule_11 : decode cX4_putRule 11 = .ok (.aload_n 0, 1) := by decide +kernel
theorem dX4_putRule_12 : decode cX4_putRule 12 = .ok (.getfield 18, 3) := by decide +kernel
theorem dX4_putRule_15 : decode cX4_putRule 15 = .ok (.istore_n 2, 1) := by decide +kernel
theorem dX4_putRule_16 : decode cX4_putRule 16 = .ok (.aload_n 0, 1) := by decide +kernel
theorem dX4_putRule_17 : decode cX4_putRule 17 = .ok (.iload_n 1, 1) := by decide +kernel
theorem dX4_putRule_18 : decode cX4_putRule 18 = .ok (.putfield 18, 3) := by decide +kernel
theorem dX4_putRule_21 : decode cX4_putRule 21 = .ok (.iload_n 2, 1) := by decide +kernel
theorem dX4_putRule_22 : decode cX4_putRule 22 = .ok (.ireturn, 1) := by decide +kernel
set_option maxRecDepth 20000 in
theorem ggX4_thaw_X4_hasCell : GoodIn wsX4_thaw wsX4_hasCell := goodIn_r _ [7, 8, 9, 55, 56, 57, 58, 59, 60, 61, 62, 63, 64, 65, 66] (by decide +kernel) (by decide +kernel)
set_option maxRecDepth 20000 in
theorem gX4_thaw_X4_hasCell : GoodIn wsX4_thaw (wsV RX4 125 RX4 yX4_hasCell wsX4_hasCell) := goodIn_app (goodIn_of _ (by decide +kernel)) ggX4_thaw_X4_hasCell
set_option maxRecDepth 20000 in
theorem ggX4_thaw_X5_isWithin : GoodIn wsX4_thaw wsX5_isWithin := goodIn_r _ [12] (by decide +kernel) (by decide +kernel)
set_option maxRecDepth 20000 in
theorem gX4_thaw_X5_isWithin_n132 : GoodIn wsX4_thaw (wsX5_isWithin) := ggX4_thaw_X5_isWithin
set_option maxRecDepth 20000 in
theorem ggX4_thaw_X4_around : GoodIn wsX4_thaw wsX4_around := goodIn_r _ [16, 17, 18, 19, 6, 20, 21, 2, 22, 23, 24, 25, 26, 27, 28, 29, 30, 31, 32, 9, 8, 33, 34, 35, 36, 37, 38, 39, 40, 41, 42, 43, 44, 45, 46, 47, 55, 56, 57, 58, 59, 60, 61, 62, 63, 64, 65, 66] (by decide +kernel) (by decide +kernel)
set_option maxRecDepth 20000 in
theorem gX4_thaw_X4_around : GoodIn wsX4_thaw (wsV RX4 117 RX4 yX4_around wsX4_around) := goodIn_app (goodIn_of _ (by decide +kernel)) ggX4_thaw_X4_around
set_option maxRecDepth 20000 in
theorem ggX4_thaw_J13_bitCount_95d88 : GoodIn wsX4_thaw wsJ13_bitCount_95d88 := goodIn_r _ [51, 52, 53, 54] (by decide +kernel) (by decide +kernel)
set_option maxRecDepth 20000 in
theorem gX4_thaw_J13_bitCount_95d88 : GoodIn wsX4_thaw (va_wsS RX4 84 yJ13_bitCount_95d88 wsJ13_bitCount_95d88) := goodIn_app (goodIn_of _ (by decide +kernel)) ggX4_thaw_J13_bitCount_95d88
theorem dX4_thaw_0 : decode cX4_thaw 0 = .ok (.aload_n 0, 1) := by decide +kernel
theorem dX4_thaw_1 : decode cX4_thaw 1 = .ok (.iload_n 1, 1) := by decide +kernel
theorem dX4_thaw_2 : decode cX4_thaw 2 = .ok (.invokevirtual 125, 3) := by decide +kernel
theorem dX4_thaw_5 : decode cX4_thaw 5 = .ok (.ifCond .eq 13, 3) := by decide +kernel
theorem dX4_thaw_8 : decode cX4_thaw 8 = .ok (.iload_n 2, 1) := by decide +kernel
theorem dX4_thaw_9 : decode cX4_thaw 9 = .ok (.iconst 0, 1) := by decide +kernel
theorem dX4_thaw_10 : decode cX4_thaw 10 = .ok (.bipush 9, 2) := by decide +kernel
theorem dX4_thaw_12 : decode cX4_thaw 12 = .ok (.invokestatic 132, 3) := by decide +kernel
theorem dX4_thaw_15 : decode cX4_thaw 15 = .ok (.ifCond .ne 5, 3) := by decide +kernel
theorem dX4_thaw_18 : decode cX4_thaw 18 = .ok (.iconst (-1), 1) := by decide +kernel
theorem dX4_thaw_19 : decode cX4_thaw 19 = .ok (.ireturn, 1) := by decide +kernel
theorem dX4_thaw_20 : decode cX4_thaw 20 = .ok (.lconst 1, 1) := by decide +kernel
theorem dX4_thaw_21 : decode cX4_thaw 21 = .ok (.iload_n 1, 1) := by decide +kernel
theorem dX4_thaw_22 : decode cX4_thaw 22 = .ok (.lshl, 1) := by decide +kernel
theorem dX4_thaw_23 : decode cX4_thaw 23 = .ok (.lstore_n 3, 1) := by decide +kernel
theorem dX4_thaw_24 : decode cX4_thaw 24 = .ok (.iconst 0, 1) := by decide +kernel
theorem dX4_thaw_25 : decode cX4_thaw 25 = .ok (.istore 5, 2) := by decide +kernel
theorem dX4_thaw_27 : decode cX4_thaw 27 = .ok (.iload 5, 2) := by decide +kernel
theorem dX4_thaw_29 : decode cX4_thaw 29 = .ok (.iload_n 2, 1) := by decide +kernel
theorem dX4_thaw_30 : decode cX4_thaw 30 = .ok (.if_icmp .ge 17, 3) := by decide +kernel
theorem dX4_thaw_33 : decode cX4_thaw 33 = .ok (.lload_n 3, 1) := by decide +kernel
theorem dX4_thaw_34 : decode cX4_thaw 34 = .ok (.aload_n 0, 1) := by decide +kernel
theorem dX4_thaw_35 : decode cX4_thaw 35 = .ok (.lload_n 3, 1) := by decide +kernel
theorem dX4_thaw_36 : decode cX4_thaw 36 = .ok (.invokevirtual 117, 3) := by decide +kernel
theorem dX4_thaw_39 : decode cX4_thaw 39 = .ok (.lor, 1) := by decide +kernel
theorem dX4_thaw_40 : decode cX4_thaw 40 = .ok (.lstore_n 3, 1) := by decide +kernel
theorem dX4_thaw_41 : decode cX4_thaw 41 = .ok (.iinc 5 1, 3) := by decide +kernel
theorem dX4_thaw_44 : decode cX4_thaw 44 = .ok (.goto (-17), 3) := by decide +kernel
theorem dX4_thaw_47 : decode cX4_thaw 47 = .ok (.aload_n 0, 1) := by decide +kernel
theorem dX4_thaw_48 : decode cX4_thaw 48 = .ok (.getfield 27, 3) := by decide +kernel
theorem dX4_thaw_51 : decode cX4_thaw 51 = .ok (.lload_n 3, 1) := by decide +kernel
theorem dX4_thaw_52 : decode cX4_thaw 52 = .ok (.land, 1) := by decide +kernel
theorem dX4_thaw_53 : decode cX4_thaw 53 = .ok (.invokestatic 84, 3) := by decide +kernel
theorem dX4_thaw_56 : decode cX4_thaw 56 = .ok (.istore 5, 2) := by decide +kernel
theorem dX4_thaw_58 : decode cX4_thaw 58 = .ok (.aload_n 0, 1) := by decide +kernel
theorem dX4_thaw_59 : decode cX4_thaw 59 = .ok (.dup, 1) := by decide +kernel
theorem dX4_thaw_60 : decode cX4_thaw 60 = .ok (.getfield 27, 3) := by decide +kernel
theorem dX4_thaw_63 : decode cX4_thaw 63 = .ok (.lload_n 3, 1) := by decide +kernel
theorem dX4_thaw_64 : decode cX4_thaw 64 = .ok (.ldc2_w 82, 3) := by decide +kernel
theorem dX4_thaw_67 : decode cX4_thaw 67 = .ok (.lxor, 1) := by decide +kernel
theorem dX4_thaw_68 : decode cX4_thaw 68 = .ok (.land, 1) := by decide +kernel
theorem dX4_thaw_69 : decode cX4_thaw 69 = .ok (.putfield 27, 3) := by decide +kernel
theorem dX4_thaw_72 : decode cX4_thaw 72 = .ok (.iload 5, 2) := by decide +kernel
theorem dX4_thaw_74 : decode cX4_thaw 74 = .ok (.ireturn, 1) := by decide +kernel
set_option maxRecDepth 20000 in
theorem ggX4_pass_X5_isWithin : GoodIn wsX4_pass wsX5_isWithin := goodIn_r _ [5] (by decide +kernel) (by decide +kernel)
set_option maxRecDepth 20000 in
theorem gX4_pass_X5_isWithin_n132 : GoodIn wsX4_pass (wsX5_isWithin) := ggX4_pass_X5_isWithin
set_option maxRecDepth 20000 in
theorem ggX4_pass_X4_after : GoodIn wsX4_pass wsX4_after := goodIn_r _ [10, 11, 12, 13, 14, 9, 15, 16, 17, 18, 19, 20, 21, 22, 23, 24, 25, 26, 27, 28, 29, 30, 31, 32, 33, 34, 35, 36, 37, 38, 39, 40, 41, 42, 43, 44, 45, 46, 47, 48, 49, 50, 51, 52, 53, 61, 62, 63, 64, 65, 66, 67, 68, 69, 70, 71, 72] (by decide +kernel) (by decide +kernel)
set_option maxRecDepth 20000 in
theorem gX4_pass_X4_after : GoodIn wsX4_pass (wsV RX4 110 RX4 yX4_after wsX4_after) := goodIn_app (goodIn_of _ (by decide +kernel)) ggX4_pass_X4_after
set_option maxRecDepth 20000 in
theorem ggX4_pass_J13_bitCount_95d88 : GoodIn wsX4_pass wsJ13_bitCount_95d88 := goodIn_r _ [57, 58, 59, 60] (by decide +kernel) (by decide +kernel)
set_option maxRecDepth 20000 in
theorem gX4_pass_J13_bitCount_95d88 : GoodIn wsX4_pass (va_wsS RX4 84 yJ13_bitCount_95d88 wsJ13_bitCount_95d88) := goodIn_app (goodIn_of _ (by decide +kernel)) ggX4_pass_J13_bitCount_95d88
theorem dX4_pass_0 : decode cX4_pass 0 = .ok (.iload_n 1, 1) := by decide +kernel
theorem dX4_pass_1 : decode cX4_pass 1 = .ok (.iconst 1, 1) := by decide +kernel
theorem dX4_pass_2 : decode cX4_pass 2 = .ok (.bipush 60, 2) := by decide +kernel
theorem dX4_pass_4 : decode cX4_pass 4 = .ok (.invokestatic 132, 3) := by decide +kernel
theorem dX4_pass_7 : decode cX4_pass 7 = .ok (.ifCond .ne 5, 3) := by decide +kernel
theorem dX4_pass_10 : decode cX4_pass 10 = .ok (.iconst (-1), 1) := by decide +kernel
theorem dX4_pass_11 : decode cX4_pass 11 = .ok (.ireturn, 1) := by decide +kernel
theorem dX4_pass_12 : decode cX4_pass 12 = .ok (.iconst 0, 1) := by decide +kernel
theorem dX4_pass_13 : decode cX4_pass 13 = .ok (.istore_n 2, 1) := by decide +kernel
theorem dX4_pass_14 : decode cX4_pass 14 = .ok (.iload_n 2, 1) := by decide +kernel
theorem dX4_pass_15 : decode cX4_pass 15 = .ok (.iload_n 1, 1) := by decide +kernel
theorem dX4_pass_16 : decode cX4_pass 16 = .ok (.if_icmp .ge 21, 3) := by decide +kernel
theorem dX4_pass_19 : decode cX4_pass 19 = .ok (.aload_n 0, 1) := by decide +kernel
theorem dX4_pass_20 : decode cX4_pass 20 = .ok (.aload_n 0, 1) := by decide +kernel
theorem dX4_pass_21 : decode cX4_pass 21 = .ok (.aload_n 0, 1) := by decide +kernel
theorem dX4_pass_22 : decode cX4_pass 22 = .ok (.getfield 27, 3) := by decide +kernel
theorem dX4_pass_25 : decode cX4_pass 25 = .ok (.invokevirtual 110, 3) := by decide +kernel
theorem dX4_pass_28 : decode cX4_pass 28 = .ok (.putfield 27, 3) := by decide +kernel
theorem dX4_pass_31 : decode cX4_pass 31 = .ok (.iinc 2 1, 3) := by decide +kernel
theorem dX4_pass_34 : decode cX4_pass 34 = .ok (.goto (-20), 3) := by decide +kernel
theorem dX4_pass_37 : decode cX4_pass 37 = .ok (.aload_n 0, 1) := by decide +kernel
theorem dX4_pass_38 : decode cX4_pass 38 = .ok (.dup, 1) := by decide +kernel
theorem dX4_pass_39 : decode cX4_pass 39 = .ok (.getfield 21, 3) := by decide +kernel
theorem dX4_pass_42 : decode cX4_pass 42 = .ok (.iload_n 1, 1) := by decide +kernel
theorem dX4_pass_43 : decode cX4_pass 43 = .ok (.iadd, 1) := by decide +kernel
theorem dX4_pass_44 : decode cX4_pass 44 = .ok (.putfield 21, 3) := by decide +kernel
theorem dX4_pass_47 : decode cX4_pass 47 = .ok (.aload_n 0, 1) := by decide +kernel
theorem dX4_pass_48 : decode cX4_pass 48 = .ok (.getfield 27, 3) := by decide +kernel
theorem dX4_pass_51 : decode cX4_pass 51 = .ok (.invokestatic 84, 3) := by decide +kernel
theorem dX4_pass_54 : decode cX4_pass 54 = .ok (.ireturn, 1) := by decide +kernel
set_option maxRecDepth 20000 in
theorem ggX5_init_X3_init : GoodIn wsX5_init wsX3_init := goodIn_r _ [30, 31, 2, 3, 32, 33, 69, 70, 71, 72, 73, 74] (by decide +kernel) (by decide +kernel)
set_option maxRecDepth 20000 in
theorem gX5_init_X3_init : GoodIn wsX5_init (wsX3_init) := ggX5_init_X3_init
set_option maxRecDepth 20000 in
theorem ggX5_init_X4_init : GoodIn wsX5_init wsX4_init := goodIn_r _ [36, 37, 2, 3, 38, 39, 40, 41, 42, 43, 44, 10, 45, 46, 47, 48, 49, 83, 84, 85, 86, 87, 88, 89, 90, 91, 92, 93, 94] (by decide +kernel) (by decide +kernel)
set_option maxRecDepth 20000 in
theorem gX5_init_X4_init : GoodIn wsX5_init (wsX4_init) := ggX5_init_X4_init
set_option maxRecDepth 20000 in
theorem ggX5_init_X1_init : GoodIn wsX5_init wsX1_init := goodIn_r _ [52, 53, 2, 3, 54, 55, 9, 10, 56, 35, 36, 37, 38, 39, 40, 41, 42, 43, 44, 45, 46, 47, 48, 49, 95, 96, 97, 83, 84, 85, 86, 87, 88, 89, 90, 91, 92, 93, 94] (by decide +kernel) (by decide +kernel)
set_option maxRecDepth 20000 in
theorem gX5_init_X1_init : GoodIn wsX5_init (wsX1_init) := ggX5_init_X1_init
set_option maxRecDepth 20000 in
theorem ggX5_init_X2_init : GoodIn wsX5_init wsX2_init := goodIn_r _ [59, 60, 2, 3, 61, 9, 10, 62, 63, 35, 36, 37, 38, 39, 40, 41, 42, 43, 44, 45, 46, 47, 48, 49, 83, 84, 85, 86, 87, 88, 89, 90, 91, 92, 93, 94, 98, 99] (by decide +kernel) (by decide +kernel)
set_option maxRecDepth 20000 in
theorem gX5_init_X2_init : GoodIn wsX5_init (wsX2_init) := ggX5_init_X2_init
set_option maxRecDepth 20000 in
theorem ggX5_init_X0_init : GoodIn wsX5_init wsX0_init := goodIn_r _ [66, 67, 2, 3, 26, 68, 100, 101, 102, 103] (by decide +kernel) (by decide +kernel)
set_option maxRecDepth 20000 in
theorem gX5_init_X0_init : GoodIn wsX5_init (wsX0_init) := ggX5_init_X0_init
theorem dX5_init_0 : decode cX5_init 0 = .ok (.aload_n 0, 1) := by decide +kernel
theorem dX5_init_1 : decode cX5_init 1 = .ok (.invokespecial 1, 3) := by decide +kernel
theorem dX5_init_4 : decode cX5_init 4 = .ok (.aload_n 0, 1) := by decide +kernel
theorem dX5_init_5 : decode cX5_init 5 = .ok (.new 7, 3) := by decide +kernel
theorem dX5_init_8 : decode cX5_init 8 = .ok (.dup, 1) := by decide +kernel
theorem dX5_init_9 : decode cX5_init 9 = .ok (.invokespecial 9, 3) := by decide +kernel
theorem dX5_init_12 : decode cX5_init 12 = .ok (.putfield 10, 3) := by decide +kernel
theorem dX5_init_15 : decode cX5_init 15 = .ok (.aload_n 0, 1) := by decide +kernel
theorem dX5_init_16 : decode cX5_init 16 = .ok (.new 16, 3) := by decide +kernel
theorem dX5_init_19 : decode cX5_init 19 = .ok (.dup, 1) := by decide +kernel
theorem dX5_init_20 : decode cX5_init 20 = .ok (.invokespecial 18, 3) := by decide +kernel
theorem dX5_init_23 : decode cX5_init 23 = .ok (.putfield 19, 3) := by decide +kernel
theorem dX5_init_26 : decode cX5_init 26 = .ok (.aload_n 0, 1) := by decide +kernel
theorem dX5_init_27 : decode cX5_init 27 = .ok (.new 16, 3) := by decide +kernel
theorem dX5_init_30 : decode cX5_init 30 = .ok (.dup, 1) := by decide +kernel
theorem dX5_init_31 : decode cX5_init 31 = .ok (.invokespecial 18, 3) := by decide +kernel
theorem dX5_init_34 : decode cX5_init 34 = .ok (.putfield 23, 3) := by decide +kernel
theorem dX5_init_37 : decode cX5_init 37 = .ok (.aload_n 0, 1) := by decide +kernel
theorem dX5_init_38 : decode cX5_init 38 = .ok (.new 26, 3) := by decide +kernel
theorem dX5_init_41 : decode cX5_init 41 = .ok (.dup, 1) := by decide +kernel
theorem dX5_init_42 : decode cX5_init 42 = .ok (.invokespecial 28, 3) := by decide +kernel
theorem dX5_init_45 : decode cX5_init 45 = .ok (.putfield 29, 3) := by decide +kernel
theorem dX5_init_48 : decode cX5_init 48 = .ok (.aload_n 0, 1) := by decide +kernel
theorem dX5_init_49 : decode cX5_init 49 = .ok (.new 33, 3) := by decide +kernel
theorem dX5_init_52 : decode cX5_init 52 = .ok (.dup, 1) := by decide +kernel
theorem dX5_init_53 : decode cX5_init 53 = .ok (.invokespecial 35, 3) := by decide +kernel
theorem dX5_init_56 : decode cX5_init 56 = .ok (.putfield 36, 3) := by decide +kernel
theorem dX5_init_59 : decode cX5_init 59 = .ok (.aload_n 0, 1) := by decide +kernel
theorem dX5_init_60 : decode cX5_init 60 = .ok (.new 33, 3) := by decide +kernel
theorem dX5_init_63 : decode cX5_init 63 = .ok (.dup, 1) := by decide +kernel
theorem dX5_init_64 : decode cX5_init 64 = .ok (.invokespecial 35, 3) := by decide +kernel
theorem dX5_init_67 : decode cX5_init 67 = .ok (.putfield 40, 3) := by decide +kernel
theorem dX5_init_70 : decode cX5_init 70 = .ok (.aload_n 0, 1) := by decide +kernel
theorem dX5_init_71 : decode cX5_init 71 = .ok (.new 43, 3) := by decide +kernel
theorem dX5_init_74 : decode cX5_init 74 = .ok (.dup, 1) := by decide +kernel
theorem dX5_init_75 : decode cX5_init 75 = .ok (.invokespecial 45, 3) := by decide +kernel
theorem dX5_init_78 : decode cX5_init 78 = .ok (.putfield 46, 3) := by decide +kernel
theorem dX5_init_81 : decode cX5_init 81 = .ok (.aload_n 0, 1) := by decide +kernel
theorem dX5_init_82 : decode cX5_init 82 = .ok (.sipush 301, 3) := by decide +kernel
theorem dX5_init_85 : decode cX5_init 85 = .ok (.newarray .long, 2) := by decide +kernel
theorem dX5_init_87 : decode cX5_init 87 = .ok (.putfield 50, 3) := by decide +kernel
theorem dX5_init_90 : decode cX5_init 90 = .ok (.return_, 1) := by decide +kernel
set_option maxRecDepth 20000 in
theorem ggX5_append_X5_needRange : GoodIn wsX5_append wsX5_needRange := goodIn_ca (goodIn_r _ [8, 9, 10, 11, 12, 7, 13] (by decide +kernel) (by decide +kernel)) (goodIn_sub (fun _ h => List.mem_cons_of_mem _ (List.mem_append_right _ h)) (by decide +kernel))
set_option maxRecDepth 20000 in
theorem gX5_append_X5_needRange : GoodIn wsX5_append (wsV RX5 54 RX5 yX5_needRange wsX5_needRange) := goodIn_app (goodIn_of _ (by decide +kernel)) ggX5_append_X5_needRange
set_option maxRecDepth 20000 in
theorem ggX5_append_X3_isFull : GoodIn wsX5_append wsX3_isFull := goodIn_r _ [18, 19, 20, 33, 34, 35, 36, 37, 38] (by decide +kernel) (by decide +kernel)
set_option maxRecDepth 20000 in
theorem gX5_append_X3_isFull : GoodIn wsX5_append (wsV RX5 58 RX3 yX3_isFull wsX3_isFull) := goodIn_app (goodIn_of _ (by decide +kernel)) ggX5_append_X3_isFull
set_option maxRecDepth 20000 in
theorem ggX5_append_X3_add : GoodIn wsX5_append wsX3_add := goodIn_r _ [24, 19, 20, 33, 34, 35, 36, 37, 38] (by decide +kernel) (by decide +kernel)
set_option maxRecDepth 20000 in
theorem gX5_append_X3_add : GoodIn wsX5_append (wsV RX5 69 RX3 yX3_add wsX3_add) := goodIn_app (goodIn_of _ (by decide +kernel)) ggX5_append_X3_add
theorem dX5_append_0 : decode cX5_append 0 = .ok (.aload_n 0, 1) := by decide +kernel
theorem dX5_append_1 : decode cX5_append 1 = .ok (.iload_n 1, 1) := by decide +kernel
theorem dX5_append_2 : decode cX5_append 2 = .ok (.iconst 0, 1) := by decide +kernel
theorem dX5_append_3 : decode cX5_append 3 = .ok (.sipush 255, 3) := by decide +kernel
theorem dX5_append_6 : decode cX5_append 6 = .ok (.invokevirtual 54, 3) := by decide +kernel
theorem dX5_append_9 : decode cX5_append 9 = .ok (.aload_n 0, 1) := by decide +kernel
theorem dX5_append_10 : decode cX5_append 10 = .ok (.getfield 10, 3) := by decide +kernel
theorem dX5_append_13 : decode cX5_append 13 = .ok (.invokevirtual 58, 3) := by decide +kernel
theorem dX5_append_16 : decode cX5_append 16 = .ok (.ifCond .eq 13, 3) := by decide +kernel
theorem dX5_append_19 : decode cX5_append 19 = .ok (.new 62, 3) := by decide +kernel
theorem dX5_append_22 : decode cX5_append 22 = .ok (.dup, 1) := by decide +kernel
theorem dX5_append_23 : decode cX5_append 23 = .ok (.ldc 64, 2) := by decide +kernel
theorem dX5_append_25 : decode cX5_append 25 = .ok (.invokespecial 66, 3) := by decide +kernel
theorem dX5_append_28 : decode cX5_append 28 = .ok (.athrow, 1) := by decide +kernel
theorem dX5_append_29 : decode cX5_append 29 = .ok (.aload_n 0, 1) := by decide +kernel
theorem dX5_append_30 : decode cX5_append 30 = .ok (.getfield 10, 3) := by decide +kernel
theorem dX5_append_33 : decode cX5_append 33 = .ok (.iload_n 1, 1) := by decide +kernel
theorem dX5_append_34 : decode cX5_append 34 = .ok (.i2c, 1) := by decide +kernel
theorem dX5_append_35 : decode cX5_append 35 = .ok (.invokevirtual 69, 3) := by decide +kernel
theorem dX5_append_38 : decode cX5_append 38 = .ok (.ireturn, 1) := by decide +kernel
set_option maxRecDepth 20000 in
theorem ggX5_load_X3_firstError : GoodIn wsX5_load wsX3_firstError := goodIn_r _ [15, 16, 17, 18, 19, 20, 14, 21, 22, 23, 24, 25, 26, 27, 28, 29, 30, 31, 32, 33, 34, 35, 36, 37, 38, 39, 40, 41, 42, 43, 44, 45, 46, 47, 48, 49, 206, 207, 208, 209, 210, 211] (by decide +kernel) (by decide +kernel)
set_option maxRecDepth 20000 in
theorem gX5_load_X3_firstError : GoodIn wsX5_load (wsV RX5 77 RX3 yX3_firstError wsX3_firstError) := goodIn_app (goodIn_of _ (by decide +kernel)) ggX5_load_X3_firstError
set_option maxRecDepth 20000 in
theorem ggX5_load_X1_forget : GoodIn wsX5_load wsX1_forget := goodIn_r _ [54, 55, 212, 213, 214] (by decide +kernel) (by decide +kernel)
set_option maxRecDepth 20000 in
theorem gX5_load_X1_forget : GoodIn wsX5_load (wsV RX5 82 RX1 yX1_forget wsX1_forget) := goodIn_app (goodIn_of _ (by decide +kernel)) ggX5_load_X1_forget
set_option maxRecDepth 20000 in
theorem ggX5_load_X2_empty : GoodIn wsX5_load wsX2_empty := goodIn_r _ [60, 61, 215, 216] (by decide +kernel) (by decide +kernel)
set_option maxRecDepth 20000 in
theorem gX5_load_X2_empty : GoodIn wsX5_load (wsV RX5 85 RX2 yX2_empty wsX2_empty) := goodIn_app (goodIn_of _ (by decide +kernel)) ggX5_load_X2_empty
set_option maxRecDepth 20000 in
theorem ggX5_load_X3_readWindow : GoodIn wsX5_load wsX3_readWindow := goodIn_r _ [21, 16, 22, 23, 24, 14, 25, 17, 26, 27, 28, 29, 30, 31, 32, 33, 34, 35, 36, 37, 38, 39, 40, 206, 207, 208, 209, 210, 211] (by decide +kernel) (by decide +kernel)
set_option maxRecDepth 20000 in
theorem gX5_load_X3_readWindow : GoodIn wsX5_load (wsV RX5 87 RX3 yX3_readWindow wsX3_readWindow) := goodIn_app (goodIn_of _ (by decide +kernel)) ggX5_load_X3_readWindow
set_option maxRecDepth 20000 in
theorem ggX5_load_X4_renew : GoodIn wsX5_load wsX4_renew := goodIn_r _ [67, 68, 69, 70, 71, 72, 66, 73, 74, 75, 76, 77, 78, 79, 80, 81, 82, 83, 84, 85, 86, 87, 217, 218, 219, 220, 221, 222, 223, 224, 225, 226, 227, 228] (by decide +kernel) (by decide +kernel)
set_option maxRecDepth 20000 in
theorem gX5_load_X4_renew : GoodIn wsX5_load (wsV RX5 97 RX4 yX4_renew wsX4_renew) := goodIn_app (goodIn_of _ (by decide +kernel)) ggX5_load_X4_renew
set_option maxRecDepth 20000 in
theorem ggX5_load_X3_readCommand : GoodIn wsX5_load wsX3_readCommand := goodIn_r _ [44, 16, 17, 45, 40, 22, 23, 24, 14, 25, 26, 46, 47, 48, 49, 27, 28, 29, 30, 31, 32, 33, 34, 35, 36, 37, 38, 39, 206, 207, 208, 209, 210, 211] (by decide +kernel) (by decide +kernel)
set_option maxRecDepth 20000 in
theorem gX5_load_X3_readCommand : GoodIn wsX5_load (wsV RX5 101 RX3 yX3_readCommand wsX3_readCommand) := goodIn_app (goodIn_of _ (by decide +kernel)) ggX5_load_X3_readCommand
set_option maxRecDepth 20000 in
theorem ggX5_load_X5_obey : GoodIn wsX5_load wsX5_obey := goodIn_r _ [93, 7, 94, 95, 96, 66, 97, 76, 98, 99, 100, 101, 74, 75, 102, 103, 104, 105, 106, 92, 107, 108, 109, 110, 111, 78, 79, 112, 113, 114, 115, 116, 117, 118, 119, 120, 121, 84, 87, 85, 86, 122, 123, 124, 125, 126, 127, 128, 129, 77, 130, 131, 132, 133, 134, 135, 136, 137, 138, 139, 140, 141, 142, 143, 144, 145, 146, 147, 148, 149, 68, 150, 151, 152, 153, 154, 155, 156, 157, 158, 159, 160, 161, 162, 163, 164, 165, 166, 167, 168, 169, 170, 171, 172, 173, 174, 175, 176, 177, 178, 179, 180, 181, 182, 183, 184, 185, 186, 187, 188, 189, 69, 190, 191, 192, 193, 194, 195, 196, 197, 198, 199, 200, 201, 202, 203, 204, 205, 217, 218, 219, 220, 221, 222, 223, 224, 225, 226, 227, 228] (by decide +kernel) (by decide +kernel)
set_option maxRecDepth 20000 in
theorem gX5_load_X5_obey : GoodIn wsX5_load (wsV RX5 108 RX5 yX5_obey wsX5_obey) := goodIn_app (goodIn_of _ (by decide +kernel)) ggX5_load_X5_obey
theorem dX5_load_0 : decode cX5_load 0 = .ok (.aload_n 0, 1) := by decide +kernel
theorem dX5_load_1 : decode cX5_load 1 = .ok (.getfield 10, 3) := by decide +kernel
theorem dX5_load_4 : decode cX5_load 4 = .ok (.invokevirtual 77, 3) := by decide +kernel
theorem dX5_load_7 : decode cX5_load 7 = .ok (.iconst (-1), 1) := by decide +kernel
theorem dX5_load_8 : decode cX5_load 8 = .ok (.if_icmp .eq 13, 3) := by decide +kernel
theorem dX5_load_11 : decode cX5_load 11 = .ok (.new 62, 3) := by decide +kernel
theorem dX5_load_14 : decode cX5_load 14 = .ok (.dup, 1) := by decide +kernel
theorem dX5_load_15 : decode cX5_load 15 = .ok (.ldc 80, 2) := by decide +kernel
theorem dX5_load_17 : decode cX5_load 17 = .ok (.invokespecial 66, 3) := by decide +kernel
theorem dX5_load_20 : decode cX5_load 20 = .ok (.athrow, 1) := by decide +kernel
theorem dX5_load_21 : decode cX5_load 21 = .ok (.aload_n 0, 1) := by decide +kernel
theorem dX5_load_22 : decode cX5_load 22 = .ok (.getfield 29, 3) := by decide +kernel
theorem dX5_load_25 : decode cX5_load 25 = .ok (.invokevirtual 82, 3) := by decide +kernel
theorem dX5_load_28 : decode cX5_load 28 = .ok (.aload_n 0, 1) := by decide +kernel
theorem dX5_load_29 : decode cX5_load 29 = .ok (.getfield 36, 3) := by decide +kernel
theorem dX5_load_32 : decode cX5_load 32 = .ok (.invokevirtual 85, 3) := by decide +kernel
theorem dX5_load_35 : decode cX5_load 35 = .ok (.aload_n 0, 1) := by decide +kernel
theorem dX5_load_36 : decode cX5_load 36 = .ok (.getfield 40, 3) := by decide +kernel
theorem dX5_load_39 : decode cX5_load 39 = .ok (.invokevirtual 85, 3) := by decide +kernel
theorem dX5_load_42 : decode cX5_load 42 = .ok (.aload_n 0, 1) := by decide +kernel
theorem dX5_load_43 : decode cX5_load 43 = .ok (.getfield 10, 3) := by decide +kernel
theorem dX5_load_46 : decode cX5_load 46 = .ok (.invokevirtual 87, 3) := by decide +kernel
theorem dX5_load_49 : decode cX5_load 49 = .ok (.pop, 1) := by decide +kernel
theorem dX5_load_50 : decode cX5_load 50 = .ok (.aload_n 0, 1) := by decide +kernel
theorem dX5_load_51 : decode cX5_load 51 = .ok (.getfield 19, 3) := by decide +kernel
theorem dX5_load_54 : decode cX5_load 54 = .ok (.aload_n 0, 1) := by decide +kernel
theorem dX5_load_55 : decode cX5_load 55 = .ok (.getfield 10, 3) := by decide +kernel
theorem dX5_load_58 : decode cX5_load 58 = .ok (.getfield 90, 3) := by decide +kernel
theorem dX5_load_61 : decode cX5_load 61 = .ok (.aload_n 0, 1) := by decide +kernel
theorem dX5_load_62 : decode cX5_load 62 = .ok (.getfield 10, 3) := by decide +kernel
theorem dX5_load_65 : decode cX5_load 65 = .ok (.getfield 94, 3) := by decide +kernel
theorem dX5_load_68 : decode cX5_load 68 = .ok (.invokevirtual 97, 3) := by decide +kernel
theorem dX5_load_71 : decode cX5_load 71 = .ok (.iconst 0, 1) := by decide +kernel
theorem dX5_load_72 : decode cX5_load 72 = .ok (.istore_n 1, 1) := by decide +kernel
theorem dX5_load_73 : decode cX5_load 73 = .ok (.iconst 0, 1) := by decide +kernel
theorem dX5_load_74 : decode cX5_load 74 = .ok (.istore_n 2, 1) := by decide +kernel
theorem dX5_load_75 : decode cX5_load 75 = .ok (.iload_n 2, 1) := by decide +kernel
theorem dX5_load_76 : decode cX5_load 76 = .ok (.bipush 120, 2) := by decide +kernel
theorem dX5_load_78 : decode cX5_load 78 = .ok (.if_icmp .ge 51, 3) := by decide +kernel
theorem dX5_load_81 : decode cX5_load 81 = .ok (.aload_n 0, 1) := by decide +kernel
theorem dX5_load_82 : decode cX5_load 82 = .ok (.getfield 10, 3) := by decide +kernel
theorem dX5_load_85 : decode cX5_load 85 = .ok (.invokevirtual 101, 3) := by decide +kernel
theorem dX5_load_88 : decode cX5_load 88 = .ok (.ifCond .eq 41, 3) := by decide +kernel
theorem dX5_load_91 : decode cX5_load 91 = .ok (.aload_n 0, 1) := by decide +kernel
theorem dX5_load_92 : decode cX5_load 92 = .ok (.aload_n 0, 1) := by decide +kernel
theorem dX5_load_93 : decode cX5_load 93 = .ok (.getfield 10, 3) := by decide +kernel
theorem dX5_load_96 : decode cX5_load 96 = .ok (.getfield 104, 3) := by decide +kernel
theorem dX5_load_99 : decode cX5_load 99 = .ok (.aload_n 0, 1) := by decide +kernel
theorem dX5_load_100 : decode cX5_load 100 = .ok (.getfield 10, 3) := by decide +kernel
theorem dX5_load_103 : decode cX5_load 103 = .ok (.getfield 90, 3) := by decide +kernel
theorem dX5_load_106 : decode cX5_load 106 = .ok (.aload_n 0, 1) := by decide +kernel
theorem dX5_load_107 : decode cX5_load 107 = .ok (.getfield 10, 3) := by decide +kernel
theorem dX5_load_110 : decode cX5_load 110 = .ok (.getfield 94, 3) := by decide +kernel
theorem dX5_load_113 : decode cX5_load 113 = .ok (.invokevirtual 108, 3) := by decide +kernel
theorem dX5_load_116 : decode cX5_load 116 = .ok (.iconst (-1), 1) := by decide +kernel
theorem dX5_load_117 : decode cX5_load 117 = .ok (.if_icmp .ne 6, 3) := by decide +kernel
theorem dX5_load_120 : decode cX5_load 120 = .ok (.iinc 1 1, 3) := by decide +kernel
theorem dX5_load_123 : decode cX5_load 123 = .ok (.iinc 2 1, 3) := by decide +kernel
theorem dX5_load_126 : decode cX5_load 126 = .ok (.goto (-51), 3) := by decide +kernel
theorem dX5_load_129 : decode cX5_load 129 = .ok (.iload_n 1, 1) := by decide +kernel
theorem dX5_load_130 : decode cX5_load 130 = .ok (.ireturn, 1) := by decide +kernel
set_option maxRecDepth 20000 in
theorem ggX5_obey_X4_turn : GoodIn wsX5_obey wsX4_turn := goodIn_r _ [6, 7, 8, 9, 10, 5, 11, 12, 13, 14, 15, 16, 17, 18, 19, 20, 128, 129, 130, 131, 132, 133, 134, 135, 136, 137, 138, 139] (by decide +kernel) (by decide +kernel)
set_option maxRecDepth 20000 in
theorem gX5_obey_X4_turn : GoodIn wsX5_obey (wsV RX5 112 RX4 yX4_turn wsX4_turn) := goodIn_app (goodIn_of _ (by decide +kernel)) ggX5_obey_X4_turn
set_option maxRecDepth 20000 in
theorem ggX5_obey_X4_scrape : GoodIn wsX5_obey wsX4_scrape := goodIn_r _ [24, 25, 26, 8, 9, 10, 5, 11, 12, 13, 27, 19, 28, 29, 30, 31, 32, 33, 34, 35, 36, 37, 38, 39, 40, 18, 20, 41, 42, 43, 44, 45, 46, 47, 48, 49, 50, 51, 52, 53, 54, 55, 56, 57, 128, 129, 130, 131, 132, 133, 134, 135, 136, 137, 138, 139] (by decide +kernel) (by decide +kernel)
set_option maxRecDepth 20000 in
theorem gX5_obey_X4_scrape : GoodIn wsX5_obey (wsV RX5 116 RX4 yX4_scrape wsX4_scrape) := goodIn_app (goodIn_of _ (by decide +kernel)) ggX5_obey_X4_scrape
set_option maxRecDepth 20000 in
theorem ggX5_obey_X4_putKind : GoodIn wsX5_obey wsX4_putKind := goodIn_r _ [61, 27, 19, 28, 45, 46, 47, 5, 48, 49, 62, 63, 64, 65, 128, 129, 130, 131, 132, 133, 134, 135, 136, 137, 138, 139] (by decide +kernel) (by decide +kernel)
set_option maxRecDepth 20000 in
theorem gX5_obey_X4_putKind : GoodIn wsX5_obey (wsV RX5 120 RX4 yX4_putKind wsX4_putKind) := goodIn_app (goodIn_of _ (by decide +kernel)) ggX5_obey_X4_putKind
set_option maxRecDepth 20000 in
theorem ggX5_obey_X4_putRule : GoodIn wsX5_obey wsX4_putRule := goodIn_r _ [69, 70, 27, 19, 28, 128, 129, 130, 131, 132, 133, 134, 135, 136, 137, 138, 139] (by decide +kernel) (by decide +kernel)
set_option maxRecDepth 20000 in
theorem gX5_obey_X4_putRule : GoodIn wsX5_obey (wsV RX5 123 RX4 yX4_putRule wsX4_putRule) := goodIn_app (goodIn_of _ (by decide +kernel)) ggX5_obey_X4_putRule
set_option maxRecDepth 20000 in
theorem ggX5_obey_X4_thaw : GoodIn wsX5_obey wsX4_thaw := goodIn_r _ [74, 7, 75, 8, 9, 10, 5, 11, 12, 13, 27, 19, 28, 76, 77, 78, 79, 80, 81, 82, 83, 26, 25, 45, 46, 47, 48, 49, 84, 85, 86, 87, 39, 88, 89, 90, 91, 40, 92, 93, 94, 95, 37, 96, 97, 98, 99, 38, 100, 101, 102, 103, 104, 105, 106, 128, 129, 130, 131, 132, 133, 134, 135, 136, 137, 138, 139] (by decide +kernel) (by decide +kernel)
set_option maxRecDepth 20000 in
theorem gX5_obey_X4_thaw : GoodIn wsX5_obey (wsV RX5 126 RX4 yX4_thaw wsX4_thaw) := goodIn_app (goodIn_of _ (by decide +kernel)) ggX5_obey_X4_thaw
set_option maxRecDepth 20000 in
theorem ggX5_obey_X4_pass : GoodIn wsX5_obey wsX4_pass := goodIn_r _ [110, 7, 111, 27, 19, 28, 112, 113, 114, 5, 115, 70, 116, 117, 118, 119, 45, 46, 47, 48, 49, 80, 81, 82, 83, 26, 75, 25, 84, 85, 86, 87, 39, 13, 12, 88, 89, 90, 91, 40, 92, 93, 94, 95, 37, 96, 97, 98, 99, 38, 33, 34, 35, 36, 100, 101, 102, 103, 104, 105, 106, 128, 129, 130, 131, 132, 133, 134, 135, 136, 137, 138, 139] (by decide +kernel) (by decide +kernel)
set_option maxRecDepth 20000 in
theorem gX5_obey_X4_pass : GoodIn wsX5_obey (wsV RX5 129 RX4 yX4_pass wsX4_pass) := goodIn_app (goodIn_of _ (by decide +kernel)) ggX5_obey_X4_pass
theorem dX5_obey_0 : decode cX5_obey 0 = .ok (.iload_n 1, 1) := by decide +kernel
theorem dX5_obey_1 : decode cX5_obey 1 = .ok (.tableswitch 148 98 116 #[110, 148, 148, 148, 91, 148, 148, 148, 148, 148, 148, 148, 139, 148, 148, 148, 120, 100, 129], 91) := by decide +kernel
theorem dX5_obey_92 : decode cX5_obey 92 = .ok (.aload_n 0, 1) := by decide +kernel
theorem dX5_obey_93 : decode cX5_obey 93 = .ok (.getfield 19, 3) := by decide +kernel
theorem dX5_obey_96 : decode cX5_obey 96 = .ok (.iload_n 2, 1) := by decide +kernel
theorem dX5_obey_97 : decode cX5_obey 97 = .ok (.invokevirtual 112, 3) := by decide +kernel
theorem dX5_obey_100 : decode cX5_obey 100 = .ok (.ireturn, 1) := by decide +kernel
theorem dX5_obey_101 : decode cX5_obey 101 = .ok (.aload_n 0, 1) := by decide +kernel
theorem dX5_obey_102 : decode cX5_obey 102 = .ok (.getfield 19, 3) := by decide +kernel
theorem dX5_obey_105 : decode cX5_obey 105 = .ok (.iload_n 2, 1) := by decide +kernel
theorem dX5_obey_106 : decode cX5_obey 106 = .ok (.iload_n 3, 1) := by decide +kernel
theorem dX5_obey_107 : decode cX5_obey 107 = .ok (.invokevirtual 116, 3) := by decide +kernel
theorem dX5_obey_110 : decode cX5_obey 110 = .ok (.ireturn, 1) := by decide +kernel
theorem dX5_obey_111 : decode cX5_obey 111 = .ok (.aload_n 0, 1) := by decide +kernel
theorem dX5_obey_112 : decode cX5_obey 112 = .ok (.getfield 19, 3) := by decide +kernel
theorem dX5_obey_115 : decode cX5_obey 115 = .ok (.iload_n 2, 1) := by decide +kernel
theorem dX5_obey_116 : decode cX5_obey 116 = .ok (.iload_n 3, 1) := by decide +kernel
theorem dX5_obey_117 : decode cX5_obey 117 = .ok (.invokevirtual 120, 3) := by decide +kernel
theorem dX5_obey_120 : decode cX5_obey 120 = .ok (.ireturn, 1) := by decide +kernel
theorem dX5_obey_121 : decode cX5_obey 121 = .ok (.aload_n 0, 1) := by decide +kernel
theorem dX5_obey_122 : decode cX5_obey 122 = .ok (.getfield 19, 3) := by decide +kernel
theorem dX5_obey_125 : decode cX5_obey 125 = .ok (.iload_n 2, 1) := by decide +kernel
theorem dX5_obey_126 : decode cX5_obey 126 = .ok (.invokevirtual 123, 3) := by decide +kernel
theorem dX5_obey_129 : decode cX5_obey 129 = .ok (.ireturn, 1) := by decide +kernel
theorem dX5_obey_130 : decode cX5_obey 130 = .ok (.aload_n 0, 1) := by decide +kernel
theorem dX5_obey_131 : decode cX5_obey 131 = .ok (.getfield 19, 3) := by decide +kernel
theorem dX5_obey_134 : decode cX5_obey 134 = .ok (.iload_n 2, 1) := by decide +kernel
theorem dX5_obey_135 : decode cX5_obey 135 = .ok (.iload_n 3, 1) := by decide +kernel
theorem dX5_obey_136 : decode cX5_obey 136 = .ok (.invokevirtual 126, 3) := by decide +kernel
theorem dX5_obey_139 : decode cX5_obey 139 = .ok (.ireturn, 1) := by decide +kernel
theorem dX5_obey_140 : decode cX5_obey 140 = .ok (.aload_n 0, 1) := by decide +kernel
theorem dX5_obey_141 : decode cX5_obey 141 = .ok (.getfield 19, 3) := by decide +kernel
theorem dX5_obey_144 : decode cX5_obey 144 = .ok (.iload_n 2, 1) := by decide +kernel
theorem dX5_obey_145 : decode cX5_obey 145 = .ok (.invokevirtual 129, 3) := by decide +kernel
theorem dX5_obey_148 : decode cX5_obey 148 = .ok (.ireturn, 1) := by decide +kernel
theorem dX5_obey_149 : decode cX5_obey 149 = .ok (.iconst (-1), 1) := by decide +kernel
theorem dX5_obey_150 : decode cX5_obey 150 = .ok (.ireturn, 1) := by decide +kernel
set_option maxRecDepth 20000 in
theorem ggX5_about_J13_bitCount_95d88 : GoodIn wsX5_about wsJ13_bitCount_95d88 := goodIn_r _ [12, 13, 14, 15] (by decide +kernel) (by decide +kernel)
set_option maxRecDepth 20000 in
theorem gX5_about_J13_bitCount_95d88 : GoodIn wsX5_about (va_wsS RX5 142 yJ13_bitCount_95d88 wsJ13_bitCount_95d88) := goodIn_app (goodIn_of _ (by decide +kernel)) ggX5_about_J13_bitCount_95d88
set_option maxRecDepth 20000 in
theorem ggX5_about_X4_scratches : GoodIn wsX5_about wsX4_scratches := goodIn_r _ [20, 21, 22, 23, 24, 25, 26, 27, 28, 19, 29, 30, 31, 10, 11, 12, 13, 14, 15, 85, 86, 87, 88, 89, 90, 91, 92, 93, 94, 95, 96] (by decide +kernel) (by decide +kernel)
set_option maxRecDepth 20000 in
theorem gX5_about_X4_scratches : GoodIn wsX5_about (wsV RX5 148 RX4 yX4_scratches wsX4_scratches) := goodIn_app (goodIn_of _ (by decide +kernel)) ggX5_about_X4_scratches
set_option maxRecDepth 20000 in
theorem ggX5_about_X4_patches : GoodIn wsX5_about wsX4_patches := goodIn_r _ [35, 36, 23, 37, 38, 39, 19, 40, 41, 42, 43, 44, 45, 46, 47, 48, 24, 21, 26, 27, 28, 29, 30, 49, 50, 51, 52, 25, 53, 54, 55, 56, 57, 58, 59, 60, 61, 62, 63, 64, 65, 66, 67, 68, 22, 85, 86, 87, 88, 89, 90, 91, 92, 93, 94, 95, 96] (by decide +kernel) (by decide +kernel)
set_option maxRecDepth 20000 in
theorem gX5_about_X4_patches : GoodIn wsX5_about (wsV RX5 157 RX4 yX4_patches wsX4_patches) := goodIn_app (goodIn_of _ (by decide +kernel)) ggX5_about_X4_patches
set_option maxRecDepth 20000 in
theorem ggX5_about_X4_largestPatch : GoodIn wsX5_about wsX4_largestPatch := goodIn_r _ [72, 36, 23, 73, 74, 75, 76, 37, 38, 39, 19, 40, 41, 42, 43, 44, 45, 46, 47, 48, 24, 21, 26, 27, 28, 29, 30, 49, 50, 51, 52, 25, 53, 54, 55, 56, 57, 58, 59, 60, 61, 62, 63, 64, 65, 66, 67, 68, 22, 31, 10, 11, 12, 13, 14, 15, 85, 86, 87, 88, 89, 90, 91, 92, 93, 94, 95, 96] (by decide +kernel) (by decide +kernel)
set_option maxRecDepth 20000 in
theorem gX5_about_X4_largestPatch : GoodIn wsX5_about (wsV RX5 160 RX4 yX4_largestPatch wsX4_largestPatch) := goodIn_app (goodIn_of _ (by decide +kernel)) ggX5_about_X4_largestPatch
theorem dX5_about_0 : decode cX5_about 0 = .ok (.iload_n 1, 1) := by decide +kernel
theorem dX5_about_1 : decode cX5_about 1 = .ok (.tableswitch 114 0 7 #[47, 55, 63, 74, 82, 90, 98, 106], 47) := by decide +kernel
theorem dX5_about_48 : decode cX5_about 48 = .ok (.aload_n 0, 1) := by decide +kernel
theorem dX5_about_49 : decode cX5_about 49 = .ok (.getfield 19, 3) := by decide +kernel
theorem dX5_about_52 : decode cX5_about 52 = .ok (.getfield 132, 3) := by decide +kernel
theorem dX5_about_55 : decode cX5_about 55 = .ok (.ireturn, 1) := by decide +kernel
theorem dX5_about_56 : decode cX5_about 56 = .ok (.aload_n 0, 1) := by decide +kernel
theorem dX5_about_57 : decode cX5_about 57 = .ok (.getfield 19, 3) := by decide +kernel
theorem dX5_about_60 : decode cX5_about 60 = .ok (.getfield 135, 3) := by decide +kernel
theorem dX5_about_63 : decode cX5_about 63 = .ok (.ireturn, 1) := by decide +kernel
theorem dX5_about_64 : decode cX5_about 64 = .ok (.aload_n 0, 1) := by decide +kernel
theorem dX5_about_65 : decode cX5_about 65 = .ok (.getfield 19, 3) := by decide +kernel
theorem dX5_about_68 : decode cX5_about 68 = .ok (.getfield 138, 3) := by decide +kernel
theorem dX5_about_71 : decode cX5_about 71 = .ok (.invokestatic 142, 3) := by decide +kernel
theorem dX5_about_74 : decode cX5_about 74 = .ok (.ireturn, 1) := by decide +kernel
theorem dX5_about_75 : decode cX5_about 75 = .ok (.aload_n 0, 1) := by decide +kernel
theorem dX5_about_76 : decode cX5_about 76 = .ok (.getfield 19, 3) := by decide +kernel
theorem dX5_about_79 : decode cX5_about 79 = .ok (.invokevirtual 148, 3) := by decide +kernel
theorem dX5_about_82 : decode cX5_about 82 = .ok (.ireturn, 1) := by decide +kernel
theorem dX5_about_83 : decode cX5_about 83 = .ok (.aload_n 0, 1) := by decide +kernel
theorem dX5_about_84 : decode cX5_about 84 = .ok (.getfield 19, 3) := by decide +kernel
theorem dX5_about_87 : decode cX5_about 87 = .ok (.getfield 151, 3) := by decide +kernel
theorem dX5_about_90 : decode cX5_about 90 = .ok (.ireturn, 1) := by decide +kernel
theorem dX5_about_91 : decode cX5_about 91 = .ok (.aload_n 0, 1) := by decide +kernel
theorem dX5_about_92 : decode cX5_about 92 = .ok (.getfield 19, 3) := by decide +kernel
theorem dX5_about_95 : decode cX5_about 95 = .ok (.getfield 154, 3) := by decide +kernel
theorem dX5_about_98 : decode cX5_about 98 = .ok (.ireturn, 1) := by decide +kernel
theorem dX5_about_99 : decode cX5_about 99 = .ok (.aload_n 0, 1) := by decide +kernel
theorem dX5_about_100 : decode cX5_about 100 = .ok (.getfield 19, 3) := by decide +kernel
theorem dX5_about_103 : decode cX5_about 103 = .ok (.invokevirtual 157, 3) := by decide +kernel
theorem dX5_about_106 : decode cX5_about 106 = .ok (.ireturn, 1) := by decide +kernel
theorem dX5_about_107 : decode cX5_about 107 = .ok (.aload_n 0, 1) := by decide +kernel
theorem dX5_about_108 : decode cX5_about 108 = .ok (.getfield 19, 3) := by decide +kernel
theorem dX5_about_111 : decode cX5_about 111 = .ok (.invokevirtual 160, 3) := by decide +kernel
theorem dX5_about_114 : decode cX5_about 114 = .ok (.ireturn, 1) := by decide +kernel
theorem dX5_about_115 : decode cX5_about 115 = .ok (.new 163, 3) := by decide +kernel
theorem dX5_about_118 : decode cX5_about 118 = .ok (.dup, 1) := by decide +kernel
theorem dX5_about_119 : decode cX5_about 119 = .ok (.ldc 165, 2) := by decide +kernel
theorem dX5_about_121 : decode cX5_about 121 = .ok (.invokespecial 167, 3) := by decide +kernel
theorem dX5_about_124 : decode cX5_about 124 = .ok (.athrow, 1) := by decide +kernel
theorem dX5_frozen_0 : decode cX5_frozen 0 = .ok (.aload_n 0, 1) := by decide +kernel
theorem dX5_frozen_1 : decode cX5_frozen 1 = .ok (.getfield 19, 3) := by decide +kernel
theorem dX5_frozen_4 : decode cX5_frozen 4 = .ok (.getfield 138, 3) := by decide +kernel
theorem dX5_frozen_7 : decode cX5_frozen 7 = .ok (.lreturn, 1) := by decide +kernel
set_option maxRecDepth 20000 in
theorem ggX5_cell_X5_needCell : GoodIn wsX5_cell wsX5_needCell := goodIn_ca (goodIn_r _ [8, 9, 10, 3, 11, 12, 13, 14, 15, 16, 17, 108, 109, 110, 111, 112, 113, 114, 115, 116, 117, 118, 119, 120, 121, 122, 123, 124, 125, 126, 127] (by decide +kernel) (by decide +kernel)) (goodIn_sub (fun _ h => List.mem_cons_of_mem _ (List.mem_append_right _ h)) (by decide +kernel))
set_option maxRecDepth 20000 in
theorem gX5_cell_X5_needCell : GoodIn wsX5_cell (wsV RX5 168 RX5 yX5_needCell wsX5_needCell) := goodIn_app (goodIn_of _ (by decide +kernel)) ggX5_cell_X5_needCell
set_option maxRecDepth 20000 in
theorem ggX5_cell_X4_isFrozen : GoodIn wsX5_cell wsX4_isFrozen := goodIn_r _ [21, 22, 23, 7, 24, 116, 117, 118, 119, 120, 121, 122, 123, 124, 125, 126, 127] (by decide +kernel) (by decide +kernel)
set_option maxRecDepth 20000 in
theorem gX5_cell_X4_isFrozen : GoodIn wsX5_cell (wsV RX5 172 RX4 yX4_isFrozen wsX4_isFrozen) := goodIn_app (goodIn_of _ (by decide +kernel)) ggX5_cell_X4_isFrozen
set_option maxRecDepth 20000 in
theorem ggX5_cell_X4_cold : GoodIn wsX5_cell wsX4_cold := goodIn_r _ [28, 22, 29, 30, 31, 14, 32, 33, 34, 35, 36, 37, 38, 39, 40, 41, 42, 43, 44, 45, 46, 47, 48, 49, 17, 16, 50, 51, 52, 53, 54, 55, 56, 57, 58, 59, 60, 61, 62, 63, 64, 65, 66, 67, 68, 23, 7, 24, 116, 117, 118, 119, 120, 121, 122, 123, 124, 125, 126, 127] (by decide +kernel) (by decide +kernel)
set_option maxRecDepth 20000 in
theorem gX5_cell_X4_cold : GoodIn wsX5_cell (wsV RX5 176 RX4 yX4_cold wsX4_cold) := goodIn_app (goodIn_of _ (by decide +kernel)) ggX5_cell_X4_cold
set_option maxRecDepth 20000 in
theorem ggX5_cell_X4_patchAt : GoodIn wsX5_cell wsX4_patchAt := goodIn_r _ [72, 22, 73, 74, 75, 14, 76, 77, 78, 79, 80, 38, 39, 40, 41, 42, 43, 44, 33, 34, 35, 36, 37, 45, 46, 47, 48, 49, 17, 16, 50, 51, 52, 53, 54, 55, 56, 57, 58, 59, 60, 61, 62, 63, 64, 116, 117, 118, 119, 120, 121, 122, 123, 124, 125, 126, 127] (by decide +kernel) (by decide +kernel)
set_option maxRecDepth 20000 in
theorem gX5_cell_X4_patchAt : GoodIn wsX5_cell (wsV RX5 179 RX4 yX4_patchAt wsX4_patchAt) := goodIn_app (goodIn_of _ (by decide +kernel)) ggX5_cell_X4_patchAt
set_option maxRecDepth 20000 in
theorem ggX5_cell_J13_bitCount_95d88 : GoodIn wsX5_cell wsJ13_bitCount_95d88 := goodIn_r _ [84, 85, 86, 87] (by decide +kernel) (by decide +kernel)
set_option maxRecDepth 20000 in
theorem gX5_cell_J13_bitCount_95d88 : GoodIn wsX5_cell (va_wsS RX5 142 yJ13_bitCount_95d88 wsJ13_bitCount_95d88) := goodIn_app (goodIn_of _ (by decide +kernel)) ggX5_cell_J13_bitCount_95d88
set_option maxRecDepth 20000 in
theorem ggX5_cell_X4_scratchesAt : GoodIn wsX5_cell wsX4_scratchesAt := goodIn_r _ [91, 92, 93, 94, 14, 95, 42, 44, 96, 97, 98, 99, 65, 66, 67, 68, 59, 64, 49, 54, 23, 7, 24, 100, 101, 102, 103, 17, 33, 34, 35, 36, 37, 104, 105, 106, 107, 16, 116, 117, 118, 119, 120, 121, 122, 123, 124, 125, 126, 127] (by decide +kernel) (by decide +kernel)
set_option maxRecDepth 20000 in
theorem gX5_cell_X4_scratchesAt : GoodIn wsX5_cell (wsV RX5 183 RX4 yX4_scratchesAt wsX4_scratchesAt) := goodIn_app (goodIn_of _ (by decide +kernel)) ggX5_cell_X4_scratchesAt
theorem dX5_cell_0 : decode cX5_cell 0 = .ok (.aload_n 0, 1) := by decide +kernel
theorem dX5_cell_1 : decode cX5_cell 1 = .ok (.iload_n 1, 1) := by decide +kernel
theorem dX5_cell_2 : decode cX5_cell 2 = .ok (.invokevirtual 168, 3) := by decide +kernel
theorem dX5_cell_5 : decode cX5_cell 5 = .ok (.iload_n 2, 1) := by decide +kernel
theorem dX5_cell_6 : decode cX5_cell 6 = .ok (.tableswitch 77 0 3 #[30, 47, 56, 68], 30) := by decide +kernel
theorem dX5_cell_36 : decode cX5_cell 36 = .ok (.aload_n 0, 1) := by decide +kernel
theorem dX5_cell_37 : decode cX5_cell 37 = .ok (.getfield 19, 3) := by decide +kernel
theorem dX5_cell_40 : decode cX5_cell 40 = .ok (.iload_n 1, 1) := by decide +kernel
theorem dX5_cell_41 : decode cX5_cell 41 = .ok (.invokevirtual 172, 3) := by decide +kernel
theorem dX5_cell_44 : decode cX5_cell 44 = .ok (.ifCond .eq 7, 3) := by decide +kernel
theorem dX5_cell_47 : decode cX5_cell 47 = .ok (.iconst 1, 1) := by decide +kernel
theorem dX5_cell_48 : decode cX5_cell 48 = .ok (.goto 4, 3) := by decide +kernel
theorem dX5_cell_51 : decode cX5_cell 51 = .ok (.iconst 0, 1) := by decide +kernel
theorem dX5_cell_52 : decode cX5_cell 52 = .ok (.ireturn, 1) := by decide +kernel
theorem dX5_cell_53 : decode cX5_cell 53 = .ok (.aload_n 0, 1) := by decide +kernel
theorem dX5_cell_54 : decode cX5_cell 54 = .ok (.getfield 19, 3) := by decide +kernel
theorem dX5_cell_57 : decode cX5_cell 57 = .ok (.iload_n 1, 1) := by decide +kernel
theorem dX5_cell_58 : decode cX5_cell 58 = .ok (.invokevirtual 176, 3) := by decide +kernel
theorem dX5_cell_61 : decode cX5_cell 61 = .ok (.ireturn, 1) := by decide +kernel
theorem dX5_cell_62 : decode cX5_cell 62 = .ok (.aload_n 0, 1) := by decide +kernel
theorem dX5_cell_63 : decode cX5_cell 63 = .ok (.getfield 19, 3) := by decide +kernel
theorem dX5_cell_66 : decode cX5_cell 66 = .ok (.iload_n 1, 1) := by decide +kernel
theorem dX5_cell_67 : decode cX5_cell 67 = .ok (.invokevirtual 179, 3) := by decide +kernel
theorem dX5_cell_70 : decode cX5_cell 70 = .ok (.invokestatic 142, 3) := by decide +kernel
theorem dX5_cell_73 : decode cX5_cell 73 = .ok (.ireturn, 1) := by decide +kernel
theorem dX5_cell_74 : decode cX5_cell 74 = .ok (.aload_n 0, 1) := by decide +kernel
theorem dX5_cell_75 : decode cX5_cell 75 = .ok (.getfield 19, 3) := by decide +kernel
theorem dX5_cell_78 : decode cX5_cell 78 = .ok (.iload_n 1, 1) := by decide +kernel
theorem dX5_cell_79 : decode cX5_cell 79 = .ok (.invokevirtual 183, 3) := by decide +kernel
theorem dX5_cell_82 : decode cX5_cell 82 = .ok (.ireturn, 1) := by decide +kernel
theorem dX5_cell_83 : decode cX5_cell 83 = .ok (.new 163, 3) := by decide +kernel
theorem dX5_cell_86 : decode cX5_cell 86 = .ok (.dup, 1) := by decide +kernel
theorem dX5_cell_87 : decode cX5_cell 87 = .ok (.ldc 186, 2) := by decide +kernel
theorem dX5_cell_89 : decode cX5_cell 89 = .ok (.invokespecial 167, 3) := by decide +kernel
theorem dX5_cell_92 : decode cX5_cell 92 = .ok (.athrow, 1) := by decide +kernel
set_option maxRecDepth 20000 in
theorem ggX5_neighbour_X5_needCell : GoodIn wsX5_neighbour wsX5_needCell := goodIn_ca (goodIn_r _ [6, 7, 8, 1, 9, 10, 11, 12, 13, 14, 15, 52, 53, 54, 55, 56, 57, 58, 59, 60, 61, 62, 63, 64, 65, 66, 67, 68, 69, 70, 71] (by decide +kernel) (by decide +kernel)) (goodIn_sub (fun _ h => List.mem_cons_of_mem _ (List.mem_append_left _ (List.mem_append_right _ h))) (by decide +kernel))
set_option maxRecDepth 20000 in
theorem gX5_neighbour_X5_needCell : GoodIn wsX5_neighbour (wsV RX5 168 RX5 yX5_needCell wsX5_needCell) := goodIn_app (goodIn_of _ (by decide +kernel)) ggX5_neighbour_X5_needCell
set_option maxRecDepth 20000 in
theorem ggX5_neighbour_X5_needRange : GoodIn wsX5_neighbour wsX5_needRange := goodIn_ca (goodIn_r _ [19, 20, 21, 22, 23, 5, 24] (by decide +kernel) (by decide +kernel)) (goodIn_sub (fun _ h => List.mem_cons_of_mem _ (List.mem_append_right _ h)) (by decide +kernel))
set_option maxRecDepth 20000 in
theorem gX5_neighbour_X5_needRange : GoodIn wsX5_neighbour (wsV RX5 54 RX5 yX5_needRange wsX5_needRange) := goodIn_app (goodIn_of _ (by decide +kernel)) ggX5_neighbour_X5_needRange
set_option maxRecDepth 20000 in
theorem ggX5_neighbour_X4_beside : GoodIn wsX5_neighbour wsX4_beside := goodIn_r _ [28, 29, 30, 31, 12, 32, 33, 34, 35, 36, 37, 5, 38, 39, 40, 41, 42, 15, 43, 44, 45, 46, 47, 48, 49, 50, 51, 14, 60, 61, 62, 63, 64, 65, 66, 67, 68, 69, 70, 71] (by decide +kernel) (by decide +kernel)
set_option maxRecDepth 20000 in
theorem gX5_neighbour_X4_beside : GoodIn wsX5_neighbour (wsV RX5 188 RX4 yX4_beside wsX4_beside) := goodIn_app (goodIn_of _ (by decide +kernel)) ggX5_neighbour_X4_beside
theorem dX5_neighbour_0 : decode cX5_neighbour 0 = .ok (.aload_n 0, 1) := by decide +kernel
theorem dX5_neighbour_1 : decode cX5_neighbour 1 = .ok (.iload_n 1, 1) := by decide +kernel
theorem dX5_neighbour_2 : decode cX5_neighbour 2 = .ok (.invokevirtual 168, 3) := by decide +kernel
theorem dX5_neighbour_5 : decode cX5_neighbour 5 = .ok (.aload_n 0, 1) := by decide +kernel
theorem dX5_neighbour_6 : decode cX5_neighbour 6 = .ok (.iload_n 2, 1) := by decide +kernel
theorem dX5_neighbour_7 : decode cX5_neighbour 7 = .ok (.iconst 0, 1) := by decide +kernel
theorem dX5_neighbour_8 : decode cX5_neighbour 8 = .ok (.iconst 3, 1) := by decide +kernel
theorem dX5_neighbour_9 : decode cX5_neighbour 9 = .ok (.invokevirtual 54, 3) := by decide +kernel
theorem dX5_neighbour_12 : decode cX5_neighbour 12 = .ok (.aload_n 0, 1) := by decide +kernel
theorem dX5_neighbour_13 : decode cX5_neighbour 13 = .ok (.getfield 19, 3) := by decide +kernel
theorem dX5_neighbour_16 : decode cX5_neighbour 16 = .ok (.iload_n 1, 1) := by decide +kernel
theorem dX5_neighbour_17 : decode cX5_neighbour 17 = .ok (.iload_n 2, 1) := by decide +kernel
theorem dX5_neighbour_18 : decode cX5_neighbour 18 = .ok (.invokevirtual 188, 3) := by decide +kernel
theorem dX5_neighbour_21 : decode cX5_neighbour 21 = .ok (.ireturn, 1) := by decide +kernel
set_option maxRecDepth 20000 in
theorem ggX5_side_X5_needRange : GoodIn wsX5_side wsX5_needRange := goodIn_ca (goodIn_r _ [6, 7, 8, 9, 10, 5, 11] (by decide +kernel) (by decide +kernel)) (goodIn_sub (fun _ h => List.mem_cons_of_mem _ (List.mem_append_right _ h)) (by decide +kernel))
set_option maxRecDepth 20000 in
theorem gX5_side_X5_needRange : GoodIn wsX5_side (wsV RX5 54 RX5 yX5_needRange wsX5_needRange) := goodIn_app (goodIn_of _ (by decide +kernel)) ggX5_side_X5_needRange
set_option maxRecDepth 20000 in
theorem ggX5_side_X4_kind : GoodIn wsX5_side wsX4_kind := goodIn_r _ [16, 17, 26, 27, 28, 29, 30, 31, 32, 33, 34, 35, 36, 37] (by decide +kernel) (by decide +kernel)
set_option maxRecDepth 20000 in
theorem gX5_side_X4_kind : GoodIn wsX5_side (wsV RX5 191 RX4 yX4_kind wsX4_kind) := goodIn_app (goodIn_of _ (by decide +kernel)) ggX5_side_X4_kind
theorem dX5_side_0 : decode cX5_side 0 = .ok (.aload_n 0, 1) := by decide +kernel
theorem dX5_side_1 : decode cX5_side 1 = .ok (.iload_n 1, 1) := by decide +kernel
theorem dX5_side_2 : decode cX5_side 2 = .ok (.iconst 0, 1) := by decide +kernel
theorem dX5_side_3 : decode cX5_side 3 = .ok (.iconst 3, 1) := by decide +kernel
theorem dX5_side_4 : decode cX5_side 4 = .ok (.invokevirtual 54, 3) := by decide +kernel
theorem dX5_side_7 : decode cX5_side 7 = .ok (.aload_n 0, 1) := by decide +kernel
theorem dX5_side_8 : decode cX5_side 8 = .ok (.getfield 19, 3) := by decide +kernel
theorem dX5_side_11 : decode cX5_side 11 = .ok (.iload_n 1, 1) := by decide +kernel
theorem dX5_side_12 : decode cX5_side 12 = .ok (.invokevirtual 191, 3) := by decide +kernel
theorem dX5_side_15 : decode cX5_side 15 = .ok (.ireturn, 1) := by decide +kernel
set_option maxRecDepth 20000 in
theorem ggX5_size_X5_needRange : GoodIn wsX5_size wsX5_needRange := goodIn_ca (goodIn_r _ [7, 8, 9, 10, 11, 6, 12] (by decide +kernel) (by decide +kernel)) (goodIn_sub (fun _ h => List.mem_cons_of_mem _ (List.mem_append_right _ h)) (by decide +kernel))
set_option maxRecDepth 20000 in
theorem gX5_size_X5_needRange : GoodIn wsX5_size (wsV RX5 54 RX5 yX5_needRange wsX5_needRange) := goodIn_app (goodIn_of _ (by decide +kernel)) ggX5_size_X5_needRange
set_option maxRecDepth 20000 in
theorem ggX5_size_X1_remember : GoodIn wsX5_size wsX1_remember := goodIn_r _ [17, 18, 19, 20, 21, 22, 23, 24, 25, 26, 16, 27, 28, 29, 30, 31, 32, 33, 34, 35, 36, 37, 38, 39, 40, 41, 42, 43, 44, 45, 66, 67, 68, 69, 70, 71, 72, 73, 74, 75, 76, 77, 78, 79, 80] (by decide +kernel) (by decide +kernel)
set_option maxRecDepth 20000 in
theorem gX5_size_X1_remember : GoodIn wsX5_size (wsV RX5 194 RX1 yX1_remember wsX1_remember) := goodIn_app (goodIn_of _ (by decide +kernel)) ggX5_size_X1_remember
set_option maxRecDepth 20000 in
theorem ggX5_size_X4_replace : GoodIn wsX5_size wsX4_replace := goodIn_r _ [49, 34, 35, 38, 39, 44, 45, 50, 51, 52, 32, 53, 40, 42, 43, 41, 69, 70, 71, 72, 73, 74, 75, 76, 77, 78, 79, 80] (by decide +kernel) (by decide +kernel)
set_option maxRecDepth 20000 in
theorem gX5_size_X4_replace : GoodIn wsX5_size (wsV RX5 198 RX4 yX4_replace wsX4_replace) := goodIn_app (goodIn_of _ (by decide +kernel)) ggX5_size_X4_replace
set_option maxRecDepth 20000 in
theorem ggX5_size_X4_count : GoodIn wsX5_size wsX4_count := goodIn_r _ [57, 34, 35, 69, 70, 71, 72, 73, 74, 75, 76, 77, 78, 79, 80] (by decide +kernel) (by decide +kernel)
set_option maxRecDepth 20000 in
theorem gX5_size_X4_count : GoodIn wsX5_size (wsV RX5 201 RX4 yX4_count wsX4_count) := goodIn_app (goodIn_of _ (by decide +kernel)) ggX5_size_X4_count
theorem dX5_size_0 : decode cX5_size 0 = .ok (.aload_n 0, 1) := by decide +kernel
theorem dX5_size_1 : decode cX5_size 1 = .ok (.iload_n 1, 1) := by decide +kernel
theorem dX5_size_2 : decode cX5_size 2 = .ok (.iconst 2, 1) := by decide +kernel
theorem dX5_size_3 : decode cX5_size 3 = .ok (.bipush 8, 2) := by decide +kernel
theorem dX5_size_5 : decode cX5_size 5 = .ok (.invokevirtual 54, 3) := by decide +kernel
theorem dX5_size_8 : decode cX5_size 8 = .ok (.aload_n 0, 1) := by decide +kernel
theorem dX5_size_9 : decode cX5_size 9 = .ok (.iload_n 2, 1) := by decide +kernel
theorem dX5_size_10 : decode cX5_size 10 = .ok (.iconst 2, 1) := by decide +kernel
theorem dX5_size_11 : decode cX5_size 11 = .ok (.bipush 8, 2) := by decide +kernel
theorem dX5_size_13 : decode cX5_size 13 = .ok (.invokevirtual 54, 3) := by decide +kernel
theorem dX5_size_16 : decode cX5_size 16 = .ok (.aload_n 0, 1) := by decide +kernel
theorem dX5_size_17 : decode cX5_size 17 = .ok (.getfield 29, 3) := by decide +kernel
theorem dX5_size_20 : decode cX5_size 20 = .ok (.aload_n 0, 1) := by decide +kernel
theorem dX5_size_21 : decode cX5_size 21 = .ok (.getfield 19, 3) := by decide +kernel
theorem dX5_size_24 : decode cX5_size 24 = .ok (.invokevirtual 194, 3) := by decide +kernel
theorem dX5_size_27 : decode cX5_size 27 = .ok (.aload_n 0, 1) := by decide +kernel
theorem dX5_size_28 : decode cX5_size 28 = .ok (.getfield 19, 3) := by decide +kernel
theorem dX5_size_31 : decode cX5_size 31 = .ok (.iload_n 1, 1) := by decide +kernel
theorem dX5_size_32 : decode cX5_size 32 = .ok (.iload_n 2, 1) := by decide +kernel
theorem dX5_size_33 : decode cX5_size 33 = .ok (.invokevirtual 198, 3) := by decide +kernel
theorem dX5_size_36 : decode cX5_size 36 = .ok (.aload_n 0, 1) := by decide +kernel
theorem dX5_size_37 : decode cX5_size 37 = .ok (.getfield 19, 3) := by decide +kernel
theorem dX5_size_40 : decode cX5_size 40 = .ok (.invokevirtual 201, 3) := by decide +kernel
theorem dX5_size_43 : decode cX5_size 43 = .ok (.ireturn, 1) := by decide +kernel
set_option maxRecDepth 20000 in
theorem ggX5_flip_X5_needCell : GoodIn wsX5_flip wsX5_needCell := goodIn_ca (goodIn_r _ [7, 8, 9, 2, 10, 11, 12, 13, 14, 15, 16, 58, 59, 60, 61, 62, 63, 64, 65, 66, 67, 68, 69, 70, 71, 72, 73, 74, 75, 76, 77] (by decide +kernel) (by decide +kernel)) (goodIn_sub (fun _ h => List.mem_cons_of_mem _ (List.mem_append_right _ h)) (by decide +kernel))
set_option maxRecDepth 20000 in
theorem gX5_flip_X5_needCell : GoodIn wsX5_flip (wsV RX5 168 RX5 yX5_needCell wsX5_needCell) := goodIn_app (goodIn_of _ (by decide +kernel)) ggX5_flip_X5_needCell
set_option maxRecDepth 20000 in
theorem ggX5_flip_X1_remember : GoodIn wsX5_flip wsX1_remember := goodIn_r _ [21, 22, 23, 24, 25, 26, 27, 28, 29, 30, 20, 31, 32, 33, 34, 35, 13, 36, 15, 16, 37, 38, 39, 40, 41, 42, 43, 44, 45, 46, 78, 79, 80, 66, 67, 68, 69, 70, 71, 72, 73, 74, 75, 76, 77] (by decide +kernel) (by decide +kernel)
set_option maxRecDepth 20000 in
theorem gX5_flip_X1_remember : GoodIn wsX5_flip (wsV RX5 194 RX1 yX1_remember wsX1_remember) := goodIn_app (goodIn_of _ (by decide +kernel)) ggX5_flip_X1_remember
set_option maxRecDepth 20000 in
theorem ggX5_flip_X4_turn : GoodIn wsX5_flip wsX4_turn := goodIn_r _ [50, 39, 51, 11, 12, 13, 14, 15, 16, 52, 53, 54, 55, 56, 6, 57, 66, 67, 68, 69, 70, 71, 72, 73, 74, 75, 76, 77] (by decide +kernel) (by decide +kernel)
set_option maxRecDepth 20000 in
theorem gX5_flip_X4_turn : GoodIn wsX5_flip (wsV RX5 112 RX4 yX4_turn wsX4_turn) := goodIn_app (goodIn_of _ (by decide +kernel)) ggX5_flip_X4_turn
theorem dX5_flip_0 : decode cX5_flip 0 = .ok (.aload_n 0, 1) := by decide +kernel
theorem dX5_flip_1 : decode cX5_flip 1 = .ok (.iload_n 1, 1) := by decide +kernel
theorem dX5_flip_2 : decode cX5_flip 2 = .ok (.invokevirtual 168, 3) := by decide +kernel
theorem dX5_flip_5 : decode cX5_flip 5 = .ok (.aload_n 0, 1) := by decide +kernel
theorem dX5_flip_6 : decode cX5_flip 6 = .ok (.getfield 29, 3) := by decide +kernel
theorem dX5_flip_9 : decode cX5_flip 9 = .ok (.aload_n 0, 1) := by decide +kernel
theorem dX5_flip_10 : decode cX5_flip 10 = .ok (.getfield 19, 3) := by decide +kernel
theorem dX5_flip_13 : decode cX5_flip 13 = .ok (.invokevirtual 194, 3) := by decide +kernel
theorem dX5_flip_16 : decode cX5_flip 16 = .ok (.aload_n 0, 1) := by decide +kernel
theorem dX5_flip_17 : decode cX5_flip 17 = .ok (.getfield 19, 3) := by decide +kernel
theorem dX5_flip_20 : decode cX5_flip 20 = .ok (.iload_n 1, 1) := by decide +kernel
theorem dX5_flip_21 : decode cX5_flip 21 = .ok (.invokevirtual 112, 3) := by decide +kernel
theorem dX5_flip_24 : decode cX5_flip 24 = .ok (.ireturn, 1) := by decide +kernel
set_option maxRecDepth 20000 in
theorem ggX5_scratch_X5_needCell : GoodIn wsX5_scratch wsX5_needCell := goodIn_ca (goodIn_r _ [9, 10, 11, 3, 12, 13, 14, 15, 16, 17, 18, 90, 91, 92, 93, 94, 95, 96, 97, 98, 99, 100, 101, 102, 103, 104, 105, 106, 107, 108, 109] (by decide +kernel) (by decide +kernel)) (goodIn_sub (fun _ h => List.mem_cons_of_mem _ (List.mem_append_left _ (List.mem_append_right _ h))) (by decide +kernel))
set_option maxRecDepth 20000 in
theorem gX5_scratch_X5_needCell : GoodIn wsX5_scratch (wsV RX5 168 RX5 yX5_needCell wsX5_needCell) := goodIn_app (goodIn_of _ (by decide +kernel)) ggX5_scratch_X5_needCell
set_option maxRecDepth 20000 in
theorem ggX5_scratch_X5_needRange : GoodIn wsX5_scratch wsX5_needRange := goodIn_ca (goodIn_r _ [22, 23, 24, 25, 26, 8, 27] (by decide +kernel) (by decide +kernel)) (goodIn_sub (fun _ h => List.mem_cons_of_mem _ (List.mem_append_right _ h)) (by decide +kernel))
set_option maxRecDepth 20000 in
theorem gX5_scratch_X5_needRange : GoodIn wsX5_scratch (wsV RX5 54 RX5 yX5_needRange wsX5_needRange) := goodIn_app (goodIn_of _ (by decide +kernel)) ggX5_scratch_X5_needRange
set_option maxRecDepth 20000 in
theorem ggX5_scratch_X4_beside : GoodIn wsX5_scratch wsX4_beside := goodIn_r _ [31, 32, 33, 34, 15, 35, 36, 37, 38, 39, 40, 8, 41, 42, 43, 44, 45, 18, 46, 47, 48, 49, 50, 51, 52, 53, 54, 17, 98, 99, 100, 101, 102, 103, 104, 105, 106, 107, 108, 109] (by decide +kernel) (by decide +kernel)
set_option maxRecDepth 20000 in
theorem gX5_scratch_X4_beside : GoodIn wsX5_scratch (wsV RX5 188 RX4 yX4_beside wsX4_beside) := goodIn_app (goodIn_of _ (by decide +kernel)) ggX5_scratch_X4_beside
set_option maxRecDepth 20000 in
theorem ggX5_scratch_X1_remember : GoodIn wsX5_scratch wsX1_remember := goodIn_r _ [59, 60, 61, 62, 63, 64, 65, 66, 67, 68, 58, 69, 70, 71, 72, 73, 15, 74, 17, 18, 75, 76, 77, 50, 36, 37, 38, 39, 78, 79, 110, 111, 112, 98, 99, 100, 101, 102, 103, 104, 105, 106, 107, 108, 109] (by decide +kernel) (by decide +kernel)
set_option maxRecDepth 20000 in
theorem gX5_scratch_X1_remember : GoodIn wsX5_scratch (wsV RX5 194 RX1 yX1_remember wsX1_remember) := goodIn_app (goodIn_of _ (by decide +kernel)) ggX5_scratch_X1_remember
set_option maxRecDepth 20000 in
theorem ggX5_scratch_X4_scrape : GoodIn wsX5_scratch wsX4_scrape := goodIn_r _ [83, 78, 79, 84, 13, 14, 15, 16, 17, 18, 26, 8, 27, 85, 29, 30, 31, 32, 33, 34, 35, 36, 37, 38, 39, 40, 41, 42, 43, 44, 45, 46, 47, 48, 49, 50, 51, 52, 53, 54, 86, 87, 88, 89, 98, 99, 100, 101, 102, 103, 104, 105, 106, 107, 108, 109] (by decide +kernel) (by decide +kernel)
set_option maxRecDepth 20000 in
theorem gX5_scratch_X4_scrape : GoodIn wsX5_scratch (wsV RX5 116 RX4 yX4_scrape wsX4_scrape) := goodIn_app (goodIn_of _ (by decide +kernel)) ggX5_scratch_X4_scrape
theorem dX5_scratch_0 : decode cX5_scratch 0 = .ok (.aload_n 0, 1) := by decide +kernel
theorem dX5_scratch_1 : decode cX5_scratch 1 = .ok (.iload_n 1, 1) := by decide +kernel
theorem dX5_scratch_2 : decode cX5_scratch 2 = .ok (.invokevirtual 168, 3) := by decide +kernel
theorem dX5_scratch_5 : decode cX5_scratch 5 = .ok (.aload_n 0, 1) := by decide +kernel
theorem dX5_scratch_6 : decode cX5_scratch 6 = .ok (.iload_n 2, 1) := by decide +kernel
theorem dX5_scratch_7 : decode cX5_scratch 7 = .ok (.iconst 0, 1) := by decide +kernel
theorem dX5_scratch_8 : decode cX5_scratch 8 = .ok (.iconst 3, 1) := by decide +kernel
theorem dX5_scratch_9 : decode cX5_scratch 9 = .ok (.invokevirtual 54, 3) := by decide +kernel
theorem dX5_scratch_12 : decode cX5_scratch 12 = .ok (.aload_n 0, 1) := by decide +kernel
theorem dX5_scratch_13 : decode cX5_scratch 13 = .ok (.getfield 19, 3) := by decide +kernel
theorem dX5_scratch_16 : decode cX5_scratch 16 = .ok (.iload_n 1, 1) := by decide +kernel
theorem dX5_scratch_17 : decode cX5_scratch 17 = .ok (.iload_n 2, 1) := by decide +kernel
theorem dX5_scratch_18 : decode cX5_scratch 18 = .ok (.invokevirtual 188, 3) := by decide +kernel
theorem dX5_scratch_21 : decode cX5_scratch 21 = .ok (.iconst (-1), 1) := by decide +kernel
theorem dX5_scratch_22 : decode cX5_scratch 22 = .ok (.if_icmp .ne 13, 3) := by decide +kernel
theorem dX5_scratch_25 : decode cX5_scratch 25 = .ok (.new 62, 3) := by decide +kernel
theorem dX5_scratch_28 : decode cX5_scratch 28 = .ok (.dup, 1) := by decide +kernel
theorem dX5_scratch_29 : decode cX5_scratch 29 = .ok (.ldc 204, 2) := by decide +kernel
theorem dX5_scratch_31 : decode cX5_scratch 31 = .ok (.invokespecial 66, 3) := by decide +kernel
theorem dX5_scratch_34 : decode cX5_scratch 34 = .ok (.athrow, 1) := by decide +kernel
theorem dX5_scratch_35 : decode cX5_scratch 35 = .ok (.aload_n 0, 1) := by decide +kernel
theorem dX5_scratch_36 : decode cX5_scratch 36 = .ok (.getfield 29, 3) := by decide +kernel
theorem dX5_scratch_39 : decode cX5_scratch 39 = .ok (.aload_n 0, 1) := by decide +kernel
theorem dX5_scratch_40 : decode cX5_scratch 40 = .ok (.getfield 19, 3) := by decide +kernel
theorem dX5_scratch_43 : decode cX5_scratch 43 = .ok (.invokevirtual 194, 3) := by decide +kernel
theorem dX5_scratch_46 : decode cX5_scratch 46 = .ok (.aload_n 0, 1) := by decide +kernel
theorem dX5_scratch_47 : decode cX5_scratch 47 = .ok (.getfield 19, 3) := by decide +kernel
theorem dX5_scratch_50 : decode cX5_scratch 50 = .ok (.iload_n 1, 1) := by decide +kernel
theorem dX5_scratch_51 : decode cX5_scratch 51 = .ok (.iload_n 2, 1) := by decide +kernel
theorem dX5_scratch_52 : decode cX5_scratch 52 = .ok (.invokevirtual 116, 3) := by decide +kernel
theorem dX5_scratch_55 : decode cX5_scratch 55 = .ok (.ireturn, 1) := by decide +kernel
set_option maxRecDepth 20000 in
theorem ggX5_border_X5_needRange : GoodIn wsX5_border wsX5_needRange := goodIn_ca (goodIn_r _ [7, 8, 9, 10, 11, 6, 12] (by decide +kernel) (by decide +kernel)) (goodIn_sub (fun _ h => List.mem_cons_of_mem _ (List.mem_append_right _ h)) (by decide +kernel))
set_option maxRecDepth 20000 in
theorem gX5_border_X5_needRange : GoodIn wsX5_border (wsV RX5 54 RX5 yX5_needRange wsX5_needRange) := goodIn_app (goodIn_of _ (by decide +kernel)) ggX5_border_X5_needRange
set_option maxRecDepth 20000 in
theorem ggX5_border_X1_remember : GoodIn wsX5_border wsX1_remember := goodIn_r _ [17, 18, 19, 20, 21, 22, 23, 24, 25, 26, 16, 27, 28, 29, 30, 31, 32, 33, 34, 35, 36, 37, 38, 39, 40, 41, 42, 43, 44, 45, 66, 67, 68, 69, 70, 71, 72, 73, 74, 75, 76, 77, 78, 79, 80] (by decide +kernel) (by decide +kernel)
set_option maxRecDepth 20000 in
theorem gX5_border_X1_remember : GoodIn wsX5_border (wsV RX5 194 RX1 yX1_remember wsX1_remember) := goodIn_app (goodIn_of _ (by decide +kernel)) ggX5_border_X1_remember
set_option maxRecDepth 20000 in
theorem ggX5_border_X4_putKind : GoodIn wsX5_border wsX4_putKind := goodIn_r _ [49, 11, 6, 12, 50, 51, 52, 32, 53, 39, 54, 55, 56, 57, 69, 70, 71, 72, 73, 74, 75, 76, 77, 78, 79, 80] (by decide +kernel) (by decide +kernel)
set_option maxRecDepth 20000 in
theorem gX5_border_X4_putKind : GoodIn wsX5_border (wsV RX5 120 RX4 yX4_putKind wsX4_putKind) := goodIn_app (goodIn_of _ (by decide +kernel)) ggX5_border_X4_putKind
theorem dX5_border_0 : decode cX5_border 0 = .ok (.aload_n 0, 1) := by decide +kernel
theorem dX5_border_1 : decode cX5_border 1 = .ok (.iload_n 1, 1) := by decide +kernel
theorem dX5_border_2 : decode cX5_border 2 = .ok (.iconst 0, 1) := by decide +kernel
theorem dX5_border_3 : decode cX5_border 3 = .ok (.iconst 3, 1) := by decide +kernel
theorem dX5_border_4 : decode cX5_border 4 = .ok (.invokevirtual 54, 3) := by decide +kernel
theorem dX5_border_7 : decode cX5_border 7 = .ok (.aload_n 0, 1) := by decide +kernel
theorem dX5_border_8 : decode cX5_border 8 = .ok (.iload_n 2, 1) := by decide +kernel
theorem dX5_border_9 : decode cX5_border 9 = .ok (.iconst 0, 1) := by decide +kernel
theorem dX5_border_10 : decode cX5_border 10 = .ok (.iconst 2, 1) := by decide +kernel
theorem dX5_border_11 : decode cX5_border 11 = .ok (.invokevirtual 54, 3) := by decide +kernel
theorem dX5_border_14 : decode cX5_border 14 = .ok (.aload_n 0, 1) := by decide +kernel
theorem dX5_border_15 : decode cX5_border 15 = .ok (.getfield 29, 3) := by decide +kernel
theorem dX5_border_18 : decode cX5_border 18 = .ok (.aload_n 0, 1) := by decide +kernel
theorem dX5_border_19 : decode cX5_border 19 = .ok (.getfield 19, 3) := by decide +kernel
theorem dX5_border_22 : decode cX5_border 22 = .ok (.invokevirtual 194, 3) := by decide +kernel
theorem dX5_border_25 : decode cX5_border 25 = .ok (.aload_n 0, 1) := by decide +kernel
theorem dX5_border_26 : decode cX5_border 26 = .ok (.getfield 19, 3) := by decide +kernel
theorem dX5_border_29 : decode cX5_border 29 = .ok (.iload_n 1, 1) := by decide +kernel
theorem dX5_border_30 : decode cX5_border 30 = .ok (.iload_n 2, 1) := by decide +kernel
theorem dX5_border_31 : decode cX5_border 31 = .ok (.invokevirtual 120, 3) := by decide +kernel
theorem dX5_border_34 : decode cX5_border 34 = .ok (.ireturn, 1) := by decide +kernel
set_option maxRecDepth 20000 in
theorem ggX5_rule_X5_needRange : GoodIn wsX5_rule wsX5_needRange := goodIn_ca (goodIn_r _ [7, 8, 9, 10, 11, 6, 12] (by decide +kernel) (by decide +kernel)) (goodIn_sub (fun _ h => List.mem_cons_of_mem _ (List.mem_append_right _ h)) (by decide +kernel))
set_option maxRecDepth 20000 in
theorem gX5_rule_X5_needRange : GoodIn wsX5_rule (wsV RX5 54 RX5 yX5_needRange wsX5_needRange) := goodIn_app (goodIn_of _ (by decide +kernel)) ggX5_rule_X5_needRange
set_option maxRecDepth 20000 in
theorem ggX5_rule_X1_remember : GoodIn wsX5_rule wsX1_remember := goodIn_r _ [17, 18, 19, 20, 21, 22, 23, 24, 25, 26, 16, 27, 28, 29, 30, 31, 32, 33, 34, 35, 36, 37, 38, 39, 40, 41, 42, 43, 44, 45, 58, 59, 60, 61, 62, 63, 64, 65, 66, 67, 68, 69, 70, 71, 72] (by decide +kernel) (by decide +kernel)
set_option maxRecDepth 20000 in
theorem gX5_rule_X1_remember : GoodIn wsX5_rule (wsV RX5 194 RX1 yX1_remember wsX1_remember) := goodIn_app (goodIn_of _ (by decide +kernel)) ggX5_rule_X1_remember
set_option maxRecDepth 20000 in
theorem ggX5_rule_X4_putRule : GoodIn wsX5_rule wsX4_putRule := goodIn_r _ [49, 36, 11, 6, 12, 61, 62, 63, 64, 65, 66, 67, 68, 69, 70, 71, 72] (by decide +kernel) (by decide +kernel)
set_option maxRecDepth 20000 in
theorem gX5_rule_X4_putRule : GoodIn wsX5_rule (wsV RX5 123 RX4 yX4_putRule wsX4_putRule) := goodIn_app (goodIn_of _ (by decide +kernel)) ggX5_rule_X4_putRule
theorem dX5_rule_0 : decode cX5_rule 0 = .ok (.aload_n 0, 1) := by decide +kernel
theorem dX5_rule_1 : decode cX5_rule 1 = .ok (.iload_n 1, 1) := by decide +kernel
theorem dX5_rule_2 : decode cX5_rule 2 = .ok (.iconst 0, 1) := by decide +kernel
theorem dX5_rule_3 : decode cX5_rule 3 = .ok (.iconst 2, 1) := by decide +kernel
theorem dX5_rule_4 : decode cX5_rule 4 = .ok (.invokevirtual 54, 3) := by decide +kernel
theorem dX5_rule_7 : decode cX5_rule 7 = .ok (.aload_n 0, 1) := by decide +kernel
theorem dX5_rule_8 : decode cX5_rule 8 = .ok (.getfield 29, 3) := by decide +kernel
theorem dX5_rule_11 : decode cX5_rule 11 = .ok (.aload_n 0, 1) := by decide +kernel
theorem dX5_rule_12 : decode cX5_rule 12 = .ok (.getfield 19, 3) := by decide +kernel
theorem dX5_rule_15 : decode cX5_rule 15 = .ok (.invokevirtual 194, 3) := by decide +kernel
theorem dX5_rule_18 : decode cX5_rule 18 = .ok (.aload_n 0, 1) := by decide +kernel
theorem dX5_rule_19 : decode cX5_rule 19 = .ok (.getfield 19, 3) := by decide +kernel
theorem dX5_rule_22 : decode cX5_rule 22 = .ok (.iload_n 1, 1) := by decide +kernel
theorem dX5_rule_23 : decode cX5_rule 23 = .ok (.invokevirtual 123, 3) := by decide +kernel
theorem dX5_rule_26 : decode cX5_rule 26 = .ok (.ireturn, 1) := by decide +kernel
set_option maxRecDepth 20000 in
theorem ggX5_breathe_X5_needCell : GoodIn wsX5_breathe wsX5_needCell := goodIn_ca (goodIn_r _ [7, 8, 9, 2, 10, 11, 12, 13, 14, 15, 16, 97, 98, 99, 100, 101, 102, 103, 104, 105, 106, 107, 108, 109, 110, 111, 112, 113, 114, 115, 116] (by decide +kernel) (by decide +kernel)) (goodIn_sub (fun _ h => List.mem_cons_of_mem _ (List.mem_append_left _ (List.mem_append_right _ h))) (by decide +kernel))
set_option maxRecDepth 20000 in
theorem gX5_breathe_X5_needCell : GoodIn wsX5_breathe (wsV RX5 168 RX5 yX5_needCell wsX5_needCell) := goodIn_app (goodIn_of _ (by decide +kernel)) ggX5_breathe_X5_needCell
set_option maxRecDepth 20000 in
theorem ggX5_breathe_X5_needRange : GoodIn wsX5_breathe wsX5_needRange := goodIn_ca (goodIn_r _ [20, 21, 22, 23, 24, 6, 25] (by decide +kernel) (by decide +kernel)) (goodIn_sub (fun _ h => List.mem_cons_of_mem _ (List.mem_append_right _ h)) (by decide +kernel))
set_option maxRecDepth 20000 in
theorem gX5_breathe_X5_needRange : GoodIn wsX5_breathe (wsV RX5 54 RX5 yX5_needRange wsX5_needRange) := goodIn_app (goodIn_of _ (by decide +kernel)) ggX5_breathe_X5_needRange
set_option maxRecDepth 20000 in
theorem ggX5_breathe_X1_remember : GoodIn wsX5_breathe wsX1_remember := goodIn_r _ [30, 31, 32, 33, 34, 35, 36, 37, 38, 39, 29, 40, 41, 42, 43, 44, 13, 45, 15, 16, 46, 47, 48, 49, 50, 51, 52, 53, 54, 55, 117, 118, 119, 105, 106, 107, 108, 109, 110, 111, 112, 113, 114, 115, 116] (by decide +kernel) (by decide +kernel)
set_option maxRecDepth 20000 in
theorem gX5_breathe_X1_remember : GoodIn wsX5_breathe (wsV RX5 194 RX1 yX1_remember wsX1_remember) := goodIn_app (goodIn_of _ (by decide +kernel)) ggX5_breathe_X1_remember
set_option maxRecDepth 20000 in
theorem ggX5_breathe_X4_thaw : GoodIn wsX5_breathe wsX4_thaw := goodIn_r _ [59, 48, 60, 61, 11, 12, 13, 14, 15, 16, 24, 6, 25, 62, 63, 64, 65, 66, 67, 68, 69, 55, 54, 70, 71, 72, 73, 49, 74, 75, 76, 77, 52, 78, 79, 80, 81, 53, 82, 83, 84, 85, 50, 86, 87, 88, 89, 51, 90, 91, 92, 93, 94, 95, 96, 105, 106, 107, 108, 109, 110, 111, 112, 113, 114, 115, 116] (by decide +kernel) (by decide +kernel)
set_option maxRecDepth 20000 in
theorem gX5_breathe_X4_thaw : GoodIn wsX5_breathe (wsV RX5 126 RX4 yX4_thaw wsX4_thaw) := goodIn_app (goodIn_of _ (by decide +kernel)) ggX5_breathe_X4_thaw
theorem dX5_breathe_0 : decode cX5_breathe 0 = .ok (.aload_n 0, 1) := by decide +kernel
theorem dX5_breathe_1 : decode cX5_breathe 1 = .ok (.iload_n 1, 1) := by decide +kernel
theorem dX5_breathe_2 : decode cX5_breathe 2 = .ok (.invokevirtual 168, 3) := by decide +kernel
theorem dX5_breathe_5 : decode cX5_breathe 5 = .ok (.aload_n 0, 1) := by decide +kernel
theorem dX5_breathe_6 : decode cX5_breathe 6 = .ok (.iload_n 2, 1) := by decide +kernel
theorem dX5_breathe_7 : decode cX5_breathe 7 = .ok (.iconst 0, 1) := by decide +kernel
theorem dX5_breathe_8 : decode cX5_breathe 8 = .ok (.bipush 9, 2) := by decide +kernel
theorem dX5_breathe_10 : decode cX5_breathe 10 = .ok (.invokevirtual 54, 3) := by decide +kernel
theorem dX5_breathe_13 : decode cX5_breathe 13 = .ok (.aload_n 0, 1) := by decide +kernel
theorem dX5_breathe_14 : decode cX5_breathe 14 = .ok (.getfield 29, 3) := by decide +kernel
theorem dX5_breathe_17 : decode cX5_breathe 17 = .ok (.aload_n 0, 1) := by decide +kernel
theorem dX5_breathe_18 : decode cX5_breathe 18 = .ok (.getfield 19, 3) := by decide +kernel
theorem dX5_breathe_21 : decode cX5_breathe 21 = .ok (.invokevirtual 194, 3) := by decide +kernel
theorem dX5_breathe_24 : decode cX5_breathe 24 = .ok (.aload_n 0, 1) := by decide +kernel
theorem dX5_breathe_25 : decode cX5_breathe 25 = .ok (.getfield 19, 3) := by decide +kernel
theorem dX5_breathe_28 : decode cX5_breathe 28 = .ok (.iload_n 1, 1) := by decide +kernel
theorem dX5_breathe_29 : decode cX5_breathe 29 = .ok (.iload_n 2, 1) := by decide +kernel
theorem dX5_breathe_30 : decode cX5_breathe 30 = .ok (.invokevirtual 126, 3) := by decide +kernel
theorem dX5_breathe_33 : decode cX5_breathe 33 = .ok (.ireturn, 1) := by decide +kernel
set_option maxRecDepth 20000 in
theorem ggX5_nights_X5_needRange : GoodIn wsX5_nights wsX5_needRange := goodIn_ca (goodIn_r _ [7, 8, 9, 10, 11, 6, 12] (by decide +kernel) (by decide +kernel)) (goodIn_sub (fun _ h => List.mem_cons_of_mem _ (List.mem_append_right _ h)) (by decide +kernel))
set_option maxRecDepth 20000 in
theorem gX5_nights_X5_needRange : GoodIn wsX5_nights (wsV RX5 54 RX5 yX5_needRange wsX5_needRange) := goodIn_app (goodIn_of _ (by decide +kernel)) ggX5_nights_X5_needRange
set_option maxRecDepth 20000 in
theorem ggX5_nights_X1_remember : GoodIn wsX5_nights wsX1_remember := goodIn_r _ [17, 18, 19, 20, 21, 22, 23, 24, 25, 26, 16, 27, 28, 29, 30, 31, 32, 33, 34, 35, 36, 37, 38, 39, 40, 41, 42, 43, 44, 45, 102, 103, 104, 105, 106, 107, 108, 109, 110, 111, 112, 113, 114, 115, 116] (by decide +kernel) (by decide +kernel)
set_option maxRecDepth 20000 in
theorem gX5_nights_X1_remember : GoodIn wsX5_nights (wsV RX5 194 RX1 yX1_remember wsX1_remember) := goodIn_app (goodIn_of _ (by decide +kernel)) ggX5_nights_X1_remember
set_option maxRecDepth 20000 in
theorem ggX5_nights_X4_pass : GoodIn wsX5_nights wsX4_pass := goodIn_r _ [49, 38, 37, 11, 6, 12, 50, 51, 52, 32, 53, 36, 54, 55, 56, 57, 58, 59, 60, 61, 39, 62, 63, 64, 65, 45, 66, 44, 67, 68, 69, 70, 42, 35, 34, 71, 72, 73, 74, 43, 75, 76, 77, 78, 40, 79, 80, 81, 82, 41, 83, 84, 85, 86, 87, 88, 89, 90, 91, 92, 93, 105, 106, 107, 108, 109, 110, 111, 112, 113, 114, 115, 116] (by decide +kernel) (by decide +kernel)
set_option maxRecDepth 20000 in
theorem gX5_nights_X4_pass : GoodIn wsX5_nights (wsV RX5 129 RX4 yX4_pass wsX4_pass) := goodIn_app (goodIn_of _ (by decide +kernel)) ggX5_nights_X4_pass
theorem dX5_nights_0 : decode cX5_nights 0 = .ok (.aload_n 0, 1) := by decide +kernel
theorem dX5_nights_1 : decode cX5_nights 1 = .ok (.iload_n 1, 1) := by decide +kernel
theorem dX5_nights_2 : decode cX5_nights 2 = .ok (.iconst 1, 1) := by decide +kernel
theorem dX5_nights_3 : decode cX5_nights 3 = .ok (.bipush 60, 2) := by decide +kernel
theorem dX5_nights_5 : decode cX5_nights 5 = .ok (.invokevirtual 54, 3) := by decide +kernel
theorem dX5_nights_8 : decode cX5_nights 8 = .ok (.aload_n 0, 1) := by decide +kernel
theorem dX5_nights_9 : decode cX5_nights 9 = .ok (.getfield 29, 3) := by decide +kernel
theorem dX5_nights_12 : decode cX5_nights 12 = .ok (.aload_n 0, 1) := by decide +kernel
theorem dX5_nights_13 : decode cX5_nights 13 = .ok (.getfield 19, 3) := by decide +kernel
theorem dX5_nights_16 : decode cX5_nights 16 = .ok (.invokevirtual 194, 3) := by decide +kernel
theorem dX5_nights_19 : decode cX5_nights 19 = .ok (.aload_n 0, 1) := by decide +kernel
theorem dX5_nights_20 : decode cX5_nights 20 = .ok (.getfield 19, 3) := by decide +kernel
theorem dX5_nights_23 : decode cX5_nights 23 = .ok (.iload_n 1, 1) := by decide +kernel
theorem dX5_nights_24 : decode cX5_nights 24 = .ok (.invokevirtual 129, 3) := by decide +kernel
theorem dX5_nights_27 : decode cX5_nights 27 = .ok (.ireturn, 1) := by decide +kernel
set_option maxRecDepth 20000 in
theorem ggX5_undo_X1_takeBack : GoodIn wsX5_undo wsX1_takeBack := goodIn_r _ [10, 11, 12, 13, 14, 15, 16, 17, 18, 19, 9, 20, 21, 22, 23, 24, 25, 26, 27, 28, 29, 30, 31, 32, 33, 34, 35, 36, 37, 38, 47, 48, 49, 50, 51, 52, 53, 54, 55, 56, 57, 58, 59, 60, 61] (by decide +kernel) (by decide +kernel)
set_option maxRecDepth 20000 in
theorem gX5_undo_X1_takeBack : GoodIn wsX5_undo (wsV RX5 210 RX1 yX1_takeBack wsX1_takeBack) := goodIn_app (goodIn_of _ (by decide +kernel)) ggX5_undo_X1_takeBack
theorem dX5_undo_0 : decode cX5_undo 0 = .ok (.aload_n 0, 1) := by decide +kernel
theorem dX5_undo_1 : decode cX5_undo 1 = .ok (.getfield 29, 3) := by decide +kernel
theorem dX5_undo_4 : decode cX5_undo 4 = .ok (.getfield 206, 3) := by decide +kernel
theorem dX5_undo_7 : decode cX5_undo 7 = .ok (.ifCond .ne 13, 3) := by decide +kernel
theorem dX5_undo_10 : decode cX5_undo 10 = .ok (.new 62, 3) := by decide +kernel
theorem dX5_undo_13 : decode cX5_undo 13 = .ok (.dup, 1) := by decide +kernel
theorem dX5_undo_14 : decode cX5_undo 14 = .ok (.ldc 208, 2) := by decide +kernel
theorem dX5_undo_16 : decode cX5_undo 16 = .ok (.invokespecial 66, 3) := by decide +kernel
theorem dX5_undo_19 : decode cX5_undo 19 = .ok (.athrow, 1) := by decide +kernel
theorem dX5_undo_20 : decode cX5_undo 20 = .ok (.aload_n 0, 1) := by decide +kernel
theorem dX5_undo_21 : decode cX5_undo 21 = .ok (.getfield 29, 3) := by decide +kernel
theorem dX5_undo_24 : decode cX5_undo 24 = .ok (.aload_n 0, 1) := by decide +kernel
theorem dX5_undo_25 : decode cX5_undo 25 = .ok (.getfield 19, 3) := by decide +kernel
theorem dX5_undo_28 : decode cX5_undo 28 = .ok (.invokevirtual 210, 3) := by decide +kernel
theorem dX5_undo_31 : decode cX5_undo 31 = .ok (.aload_n 0, 1) := by decide +kernel
theorem dX5_undo_32 : decode cX5_undo 32 = .ok (.getfield 29, 3) := by decide +kernel
theorem dX5_undo_35 : decode cX5_undo 35 = .ok (.getfield 206, 3) := by decide +kernel
theorem dX5_undo_38 : decode cX5_undo 38 = .ok (.ireturn, 1) := by decide +kernel
set_option maxRecDepth 20000 in
theorem ggX5_coming_X5_needRange : GoodIn wsX5_coming wsX5_needRange := goodIn_ca (goodIn_r _ [7, 8, 9, 10, 11, 6, 12] (by decide +kernel) (by decide +kernel)) (goodIn_sub (fun _ h => List.mem_cons_of_mem _ (List.mem_append_right _ h)) (by decide +kernel))
set_option maxRecDepth 20000 in
theorem gX5_coming_X5_needRange : GoodIn wsX5_coming (wsV RX5 54 RX5 yX5_needRange wsX5_needRange) := goodIn_app (goodIn_of _ (by decide +kernel)) ggX5_coming_X5_needRange
set_option maxRecDepth 20000 in
theorem ggX5_coming_X4_after : GoodIn wsX5_coming wsX4_after := goodIn_r _ [17, 18, 19, 20, 21, 16, 22, 23, 24, 25, 26, 27, 28, 29, 30, 31, 32, 33, 34, 35, 36, 37, 38, 39, 40, 41, 42, 43, 44, 45, 46, 47, 48, 49, 50, 51, 52, 53, 54, 55, 56, 57, 58, 59, 60, 69, 70, 71, 72, 73, 74, 75, 76, 77, 78, 79, 80] (by decide +kernel) (by decide +kernel)
set_option maxRecDepth 20000 in
theorem gX5_coming_X4_after : GoodIn wsX5_coming (wsV RX5 213 RX4 yX4_after wsX4_after) := goodIn_app (goodIn_of _ (by decide +kernel)) ggX5_coming_X4_after
theorem dX5_coming_0 : decode cX5_coming 0 = .ok (.aload_n 0, 1) := by decide +kernel
theorem dX5_coming_1 : decode cX5_coming 1 = .ok (.iload_n 1, 1) := by decide +kernel
theorem dX5_coming_2 : decode cX5_coming 2 = .ok (.iconst 1, 1) := by decide +kernel
theorem dX5_coming_3 : decode cX5_coming 3 = .ok (.sipush 200, 3) := by decide +kernel
theorem dX5_coming_6 : decode cX5_coming 6 = .ok (.invokevirtual 54, 3) := by decide +kernel
theorem dX5_coming_9 : decode cX5_coming 9 = .ok (.aload_n 0, 1) := by decide +kernel
theorem dX5_coming_10 : decode cX5_coming 10 = .ok (.getfield 19, 3) := by decide +kernel
theorem dX5_coming_13 : decode cX5_coming 13 = .ok (.getfield 138, 3) := by decide +kernel
theorem dX5_coming_16 : decode cX5_coming 16 = .ok (.lstore_n 2, 1) := by decide +kernel
theorem dX5_coming_17 : decode cX5_coming 17 = .ok (.iconst 0, 1) := by decide +kernel
theorem dX5_coming_18 : decode cX5_coming 18 = .ok (.istore 4, 2) := by decide +kernel
theorem dX5_coming_20 : decode cX5_coming 20 = .ok (.iload 4, 2) := by decide +kernel
theorem dX5_coming_22 : decode cX5_coming 22 = .ok (.iload_n 1, 1) := by decide +kernel
theorem dX5_coming_23 : decode cX5_coming 23 = .ok (.if_icmp .ge 18, 3) := by decide +kernel
theorem dX5_coming_26 : decode cX5_coming 26 = .ok (.aload_n 0, 1) := by decide +kernel
theorem dX5_coming_27 : decode cX5_coming 27 = .ok (.getfield 19, 3) := by decide +kernel
theorem dX5_coming_30 : decode cX5_coming 30 = .ok (.lload_n 2, 1) := by decide +kernel
theorem dX5_coming_31 : decode cX5_coming 31 = .ok (.invokevirtual 213, 3) := by decide +kernel
theorem dX5_coming_34 : decode cX5_coming 34 = .ok (.lstore_n 2, 1) := by decide +kernel
theorem dX5_coming_35 : decode cX5_coming 35 = .ok (.iinc 4 1, 3) := by decide +kernel
theorem dX5_coming_38 : decode cX5_coming 38 = .ok (.goto (-18), 3) := by decide +kernel
theorem dX5_coming_41 : decode cX5_coming 41 = .ok (.lload_n 2, 1) := by decide +kernel
theorem dX5_coming_42 : decode cX5_coming 42 = .ok (.lreturn, 1) := by decide +kernel
set_option maxRecDepth 20000 in
theorem ggX5_again_X5_needRange : GoodIn wsX5_again wsX5_needRange := goodIn_ca (goodIn_r _ [5, 6, 7, 8, 9, 4, 10] (by decide +kernel) (by decide +kernel)) (goodIn_sub (fun _ h => List.mem_cons_of_mem _ (List.mem_append_right _ h)) (by decide +kernel))
set_option maxRecDepth 20000 in
theorem gX5_again_X5_needRange : GoodIn wsX5_again (wsV RX5 54 RX5 yX5_needRange wsX5_needRange) := goodIn_app (goodIn_of _ (by decide +kernel)) ggX5_again_X5_needRange
set_option maxRecDepth 20000 in
theorem ggX5_again_X5_lookAhead : GoodIn wsX5_again wsX5_lookAhead := goodIn_r _ [14, 15, 16, 17, 18, 19, 20, 21, 22, 23, 24, 25, 26, 27, 28, 29, 30, 31, 32, 33, 34, 35, 36, 37, 38, 39, 40, 41, 42, 43, 44, 45, 46, 47, 48, 49, 50, 51, 52, 53, 54, 55, 56, 57, 58, 59, 60, 61, 62, 63, 64, 65, 78, 79, 80, 81, 82, 83, 84, 85, 86, 87, 88, 89, 90, 91, 92, 93, 94, 95, 96, 97] (by decide +kernel) (by decide +kernel)
set_option maxRecDepth 20000 in
theorem gX5_again_X5_lookAhead : GoodIn wsX5_again (wsV RX5 217 RX5 yX5_lookAhead wsX5_lookAhead) := goodIn_app (goodIn_of _ (by decide +kernel)) ggX5_again_X5_lookAhead
set_option maxRecDepth 20000 in
theorem ggX5_again_X5_period : GoodIn wsX5_again wsX5_period := goodIn_r _ [69, 70, 71, 72, 4, 73, 17, 78, 79, 80, 81, 82, 83, 84, 85] (by decide +kernel) (by decide +kernel)
set_option maxRecDepth 20000 in
theorem gX5_again_X5_period : GoodIn wsX5_again (wsV RX5 220 RX5 yX5_period wsX5_period) := goodIn_app (goodIn_of _ (by decide +kernel)) ggX5_again_X5_period
set_option maxRecDepth 20000 in
theorem ggX5_again_X5_firstOfPeriod : GoodIn wsX5_again wsX5_firstOfPeriod := goodIn_r _ [77, 70, 71, 72, 4, 73, 17, 78, 79, 80, 81, 82, 83, 84, 85] (by decide +kernel) (by decide +kernel)
set_option maxRecDepth 20000 in
theorem gX5_again_X5_firstOfPeriod : GoodIn wsX5_again (wsV RX5 223 RX5 yX5_firstOfPeriod wsX5_firstOfPeriod) := goodIn_app (goodIn_of _ (by decide +kernel)) ggX5_again_X5_firstOfPeriod
theorem dX5_again_0 : decode cX5_again 0 = .ok (.aload_n 0, 1) := by decide +kernel
theorem dX5_again_1 : decode cX5_again 1 = .ok (.iload_n 1, 1) := by decide +kernel
theorem dX5_again_2 : decode cX5_again 2 = .ok (.iconst 0, 1) := by decide +kernel
theorem dX5_again_3 : decode cX5_again 3 = .ok (.iconst 1, 1) := by decide +kernel
theorem dX5_again_4 : decode cX5_again 4 = .ok (.invokevirtual 54, 3) := by decide +kernel
theorem dX5_again_7 : decode cX5_again 7 = .ok (.aload_n 0, 1) := by decide +kernel
theorem dX5_again_8 : decode cX5_again 8 = .ok (.invokevirtual 217, 3) := by decide +kernel
theorem dX5_again_11 : decode cX5_again 11 = .ok (.aload_n 0, 1) := by decide +kernel
theorem dX5_again_12 : decode cX5_again 12 = .ok (.invokevirtual 220, 3) := by decide +kernel
theorem dX5_again_15 : decode cX5_again 15 = .ok (.istore_n 2, 1) := by decide +kernel
theorem dX5_again_16 : decode cX5_again 16 = .ok (.iload_n 2, 1) := by decide +kernel
theorem dX5_again_17 : decode cX5_again 17 = .ok (.iconst (-1), 1) := by decide +kernel
theorem dX5_again_18 : decode cX5_again 18 = .ok (.if_icmp .eq 8, 3) := by decide +kernel
theorem dX5_again_21 : decode cX5_again 21 = .ok (.iload_n 1, 1) := by decide +kernel
theorem dX5_again_22 : decode cX5_again 22 = .ok (.iconst 1, 1) := by decide +kernel
theorem dX5_again_23 : decode cX5_again 23 = .ok (.if_icmp .ne 5, 3) := by decide +kernel
theorem dX5_again_26 : decode cX5_again 26 = .ok (.iload_n 2, 1) := by decide +kernel
theorem dX5_again_27 : decode cX5_again 27 = .ok (.ireturn, 1) := by decide +kernel
theorem dX5_again_28 : decode cX5_again 28 = .ok (.aload_n 0, 1) := by decide +kernel
theorem dX5_again_29 : decode cX5_again 29 = .ok (.iload_n 2, 1) := by decide +kernel
theorem dX5_again_30 : decode cX5_again 30 = .ok (.invokevirtual 223, 3) := by decide +kernel
theorem dX5_again_33 : decode cX5_again 33 = .ok (.ireturn, 1) := by decide +kernel
set_option maxRecDepth 20000 in
theorem ggX5_befores_X5_needLinearRule : GoodIn wsX5_befores wsX5_needLinearRule := goodIn_ca (goodIn_r _ [7, 8, 9, 2, 10, 111, 112, 113, 114, 115, 116, 117, 118, 119, 120, 121, 122, 123, 124, 125, 126, 127, 128, 129, 130] (by decide +kernel) (by decide +kernel)) (goodIn_sub (fun _ h => List.mem_cons_of_mem _ (List.mem_append_right _ h)) (by decide +kernel))
set_option maxRecDepth 20000 in
theorem gX5_befores_X5_needLinearRule : GoodIn wsX5_befores (wsV RX5 226 RX5 yX5_needLinearRule wsX5_needLinearRule) := goodIn_app (goodIn_of _ (by decide +kernel)) ggX5_befores_X5_needLinearRule
set_option maxRecDepth 20000 in
theorem ggX5_befores_X0_solve : GoodIn wsX5_befores wsX0_solve := goodIn_r _ [15, 16, 17, 18, 19, 20, 14, 21, 22, 23, 24, 25, 26, 27, 28, 29, 30, 31, 32, 33, 34, 35, 36, 37, 38, 39, 40, 41, 42, 43, 44, 45, 46, 47, 48, 49, 50, 51, 52, 53, 54, 55, 56, 57, 58, 59, 60, 61, 62, 63, 64, 65, 66, 67, 68, 69, 70, 71, 72, 73, 74, 75, 76, 77, 78, 79, 80, 81, 82, 83, 84, 85, 6, 86, 87, 88, 89, 90, 91, 92, 93, 94, 131, 132, 133, 134, 119, 120, 121, 122, 123, 124, 125, 126, 127, 128, 129, 130] (by decide +kernel) (by decide +kernel)
set_option maxRecDepth 20000 in
theorem gX5_befores_X0_solve : GoodIn wsX5_befores (wsV RX5 229 RX0 yX0_solve wsX0_solve) := goodIn_app (goodIn_of _ (by decide +kernel)) ggX5_befores_X0_solve
set_option maxRecDepth 20000 in
theorem ggX5_befores_X0_isSolved : GoodIn wsX5_befores wsX0_isSolved := goodIn_r _ [98, 28, 16, 99, 131, 132, 133, 134] (by decide +kernel) (by decide +kernel)
set_option maxRecDepth 20000 in
theorem gX5_befores_X0_isSolved : GoodIn wsX5_befores (wsV RX5 232 RX0 yX0_isSolved wsX0_isSolved) := goodIn_app (goodIn_of _ (by decide +kernel)) ggX5_befores_X0_isSolved
set_option maxRecDepth 20000 in
theorem ggX5_befores_X0_free : GoodIn wsX5_befores wsX0_free := goodIn_r _ [103, 17, 16, 104, 105, 106, 107, 108, 109, 110, 131, 132, 133, 134] (by decide +kernel) (by decide +kernel)
set_option maxRecDepth 20000 in
theorem gX5_befores_X0_free : GoodIn wsX5_befores (wsV RX5 235 RX0 yX0_free wsX0_free) := goodIn_app (goodIn_of _ (by decide +kernel)) ggX5_befores_X0_free
theorem dX5_befores_0 : decode cX5_befores 0 = .ok (.aload_n 0, 1) := by decide +kernel
theorem dX5_befores_1 : decode cX5_befores 1 = .ok (.invokevirtual 226, 3) := by decide +kernel
theorem dX5_befores_4 : decode cX5_befores 4 = .ok (.aload_n 0, 1) := by decide +kernel
theorem dX5_befores_5 : decode cX5_befores 5 = .ok (.getfield 46, 3) := by decide +kernel
theorem dX5_befores_8 : decode cX5_befores 8 = .ok (.aload_n 0, 1) := by decide +kernel
theorem dX5_befores_9 : decode cX5_befores 9 = .ok (.getfield 19, 3) := by decide +kernel
theorem dX5_befores_12 : decode cX5_befores 12 = .ok (.invokevirtual 229, 3) := by decide +kernel
theorem dX5_befores_15 : decode cX5_befores 15 = .ok (.aload_n 0, 1) := by decide +kernel
theorem dX5_befores_16 : decode cX5_befores 16 = .ok (.getfield 46, 3) := by decide +kernel
theorem dX5_befores_19 : decode cX5_befores 19 = .ok (.invokevirtual 232, 3) := by decide +kernel
theorem dX5_befores_22 : decode cX5_befores 22 = .ok (.ifCond .eq 13, 3) := by decide +kernel
theorem dX5_befores_25 : decode cX5_befores 25 = .ok (.aload_n 0, 1) := by decide +kernel
theorem dX5_befores_26 : decode cX5_befores 26 = .ok (.getfield 46, 3) := by decide +kernel
theorem dX5_befores_29 : decode cX5_befores 29 = .ok (.invokevirtual 235, 3) := by decide +kernel
theorem dX5_befores_32 : decode cX5_befores 32 = .ok (.goto 4, 3) := by decide +kernel
theorem dX5_befores_35 : decode cX5_befores 35 = .ok (.iconst (-1), 1) := by decide +kernel
theorem dX5_befores_36 : decode cX5_befores 36 = .ok (.ireturn, 1) := by decide +kernel
set_option maxRecDepth 20000 in
theorem ggX5_before_X5_needLinearRule : GoodIn wsX5_before wsX5_needLinearRule := goodIn_ca (goodIn_r _ [7, 8, 9, 2, 10, 104, 105, 106, 107, 108, 109, 110, 111, 112, 113, 114, 115, 116, 117, 118, 119, 120, 121, 122, 123] (by decide +kernel) (by decide +kernel)) (goodIn_sub (fun _ h => List.mem_cons_of_mem _ (List.mem_append_right _ h)) (by decide +kernel))
set_option maxRecDepth 20000 in
theorem gX5_before_X5_needLinearRule : GoodIn wsX5_before (wsV RX5 226 RX5 yX5_needLinearRule wsX5_needLinearRule) := goodIn_app (goodIn_of _ (by decide +kernel)) ggX5_before_X5_needLinearRule
set_option maxRecDepth 20000 in
theorem ggX5_before_X0_solve : GoodIn wsX5_before wsX0_solve := goodIn_r _ [15, 16, 17, 18, 19, 20, 14, 21, 22, 23, 24, 25, 26, 27, 28, 29, 30, 31, 32, 33, 34, 35, 36, 37, 38, 39, 40, 41, 42, 43, 44, 45, 46, 47, 48, 49, 50, 51, 52, 53, 54, 55, 56, 57, 58, 59, 60, 61, 62, 63, 64, 65, 66, 67, 68, 69, 70, 71, 72, 73, 74, 75, 76, 77, 78, 79, 80, 81, 82, 83, 84, 85, 6, 86, 87, 88, 89, 90, 91, 92, 93, 94, 124, 125, 126, 127, 112, 113, 114, 115, 116, 117, 118, 119, 120, 121, 122, 123] (by decide +kernel) (by decide +kernel)
set_option maxRecDepth 20000 in
theorem gX5_before_X0_solve : GoodIn wsX5_before (wsV RX5 229 RX0 yX0_solve wsX0_solve) := goodIn_app (goodIn_of _ (by decide +kernel)) ggX5_before_X0_solve
set_option maxRecDepth 20000 in
theorem ggX5_before_X0_isSolved : GoodIn wsX5_before wsX0_isSolved := goodIn_r _ [98, 28, 16, 99, 124, 125, 126, 127] (by decide +kernel) (by decide +kernel)
set_option maxRecDepth 20000 in
theorem gX5_before_X0_isSolved : GoodIn wsX5_before (wsV RX5 232 RX0 yX0_isSolved wsX0_isSolved) := goodIn_app (goodIn_of _ (by decide +kernel)) ggX5_before_X0_isSolved
set_option maxRecDepth 20000 in
theorem ggX5_before_X0_leastSolution : GoodIn wsX5_before wsX0_leastSolution := goodIn_r _ [103, 17, 16, 28, 85, 6, 86, 87, 88, 89, 14, 90, 22, 124, 125, 126, 127] (by decide +kernel) (by decide +kernel)
set_option maxRecDepth 20000 in
theorem gX5_before_X0_leastSolution : GoodIn wsX5_before (wsV RX5 238 RX0 yX0_leastSolution wsX0_leastSolution) := goodIn_app (goodIn_of _ (by decide +kernel)) ggX5_before_X0_leastSolution
theorem dX5_before_0 : decode cX5_before 0 = .ok (.aload_n 0, 1) := by decide +kernel
theorem dX5_before_1 : decode cX5_before 1 = .ok (.invokevirtual 226, 3) := by decide +kernel
theorem dX5_before_4 : decode cX5_before 4 = .ok (.aload_n 0, 1) := by decide +kernel
theorem dX5_before_5 : decode cX5_before 5 = .ok (.getfield 46, 3) := by decide +kernel
theorem dX5_before_8 : decode cX5_before 8 = .ok (.aload_n 0, 1) := by decide +kernel
theorem dX5_before_9 : decode cX5_before 9 = .ok (.getfield 19, 3) := by decide +kernel
theorem dX5_before_12 : decode cX5_before 12 = .ok (.invokevirtual 229, 3) := by decide +kernel
theorem dX5_before_15 : decode cX5_before 15 = .ok (.aload_n 0, 1) := by decide +kernel
theorem dX5_before_16 : decode cX5_before 16 = .ok (.getfield 46, 3) := by decide +kernel
theorem dX5_before_19 : decode cX5_before 19 = .ok (.invokevirtual 232, 3) := by decide +kernel
theorem dX5_before_22 : decode cX5_before 22 = .ok (.ifCond .eq 13, 3) := by decide +kernel
theorem dX5_before_25 : decode cX5_before 25 = .ok (.aload_n 0, 1) := by decide +kernel
theorem dX5_before_26 : decode cX5_before 26 = .ok (.getfield 46, 3) := by decide +kernel
theorem dX5_before_29 : decode cX5_before 29 = .ok (.invokevirtual 238, 3) := by decide +kernel
theorem dX5_before_32 : decode cX5_before 32 = .ok (.goto 4, 3) := by decide +kernel
theorem dX5_before_35 : decode cX5_before 35 = .ok (.lconst 0, 1) := by decide +kernel
theorem dX5_before_36 : decode cX5_before 36 = .ok (.lreturn, 1) := by decide +kernel
set_option maxRecDepth 20000 in
theorem ggX5_freezesIn_X5_needCell : GoodIn wsX5_freezesIn wsX5_needCell := goodIn_ca (goodIn_r _ [7, 8, 9, 1, 10, 11, 12, 13, 14, 15, 16, 65, 66, 67, 68, 69, 70, 71, 72, 73, 74, 75, 76, 77, 78, 79, 80, 81, 82, 83, 84] (by decide +kernel) (by decide +kernel)) (goodIn_sub (fun _ h => List.mem_cons_of_mem _ (List.mem_append_right _ h)) (by decide +kernel))
set_option maxRecDepth 20000 in
theorem gX5_freezesIn_X5_needCell : GoodIn wsX5_freezesIn (wsV RX5 168 RX5 yX5_needCell wsX5_needCell) := goodIn_app (goodIn_of _ (by decide +kernel)) ggX5_freezesIn_X5_needCell
set_option maxRecDepth 20000 in
theorem ggX5_freezesIn_X5_holds : GoodIn wsX5_freezesIn wsX5_holds := goodIn_r _ [19] (by decide +kernel) (by decide +kernel)
set_option maxRecDepth 20000 in
theorem gX5_freezesIn_X5_holds : GoodIn wsX5_freezesIn (va_wsS RX5 242 yX5_holds wsX5_holds) := goodIn_app (goodIn_of _ (by decide +kernel)) ggX5_freezesIn_X5_holds
set_option maxRecDepth 20000 in
theorem ggX5_freezesIn_X4_after : GoodIn wsX5_freezesIn wsX4_after := goodIn_r _ [23, 24, 25, 26, 27, 13, 28, 29, 30, 31, 32, 33, 34, 35, 36, 37, 38, 39, 40, 41, 42, 43, 44, 45, 16, 15, 46, 47, 48, 49, 50, 51, 52, 53, 54, 55, 56, 57, 58, 59, 60, 61, 62, 63, 64, 73, 74, 75, 76, 77, 78, 79, 80, 81, 82, 83, 84] (by decide +kernel) (by decide +kernel)
set_option maxRecDepth 20000 in
theorem gX5_freezesIn_X4_after : GoodIn wsX5_freezesIn (wsV RX5 213 RX4 yX4_after wsX4_after) := goodIn_app (goodIn_of _ (by decide +kernel)) ggX5_freezesIn_X4_after
theorem dX5_freezesIn_0 : decode cX5_freezesIn 0 = .ok (.aload_n 0, 1) := by decide +kernel
theorem dX5_freezesIn_1 : decode cX5_freezesIn 1 = .ok (.iload_n 1, 1) := by decide +kernel
theorem dX5_freezesIn_2 : decode cX5_freezesIn 2 = .ok (.invokevirtual 168, 3) := by decide +kernel
theorem dX5_freezesIn_5 : decode cX5_freezesIn 5 = .ok (.aload_n 0, 1) := by decide +kernel
theorem dX5_freezesIn_6 : decode cX5_freezesIn 6 = .ok (.getfield 19, 3) := by decide +kernel
theorem dX5_freezesIn_9 : decode cX5_freezesIn 9 = .ok (.getfield 138, 3) := by decide +kernel
theorem dX5_freezesIn_12 : decode cX5_freezesIn 12 = .ok (.lstore_n 2, 1) := by decide +kernel
theorem dX5_freezesIn_13 : decode cX5_freezesIn 13 = .ok (.iconst 0, 1) := by decide +kernel
theorem dX5_freezesIn_14 : decode cX5_freezesIn 14 = .ok (.istore 4, 2) := by decide +kernel
theorem dX5_freezesIn_16 : decode cX5_freezesIn 16 = .ok (.iload 4, 2) := by decide +kernel
theorem dX5_freezesIn_18 : decode cX5_freezesIn 18 = .ok (.bipush 100, 2) := by decide +kernel
theorem dX5_freezesIn_20 : decode cX5_freezesIn 20 = .ok (.if_icmp .gt 29, 3) := by decide +kernel
theorem dX5_freezesIn_23 : decode cX5_freezesIn 23 = .ok (.lload_n 2, 1) := by decide +kernel
theorem dX5_freezesIn_24 : decode cX5_freezesIn 24 = .ok (.iload_n 1, 1) := by decide +kernel
theorem dX5_freezesIn_25 : decode cX5_freezesIn 25 = .ok (.invokestatic 242, 3) := by decide +kernel
theorem dX5_freezesIn_28 : decode cX5_freezesIn 28 = .ok (.ifCond .eq 6, 3) := by decide +kernel
theorem dX5_freezesIn_31 : decode cX5_freezesIn 31 = .ok (.iload 4, 2) := by decide +kernel
theorem dX5_freezesIn_33 : decode cX5_freezesIn 33 = .ok (.ireturn, 1) := by decide +kernel
theorem dX5_freezesIn_34 : decode cX5_freezesIn 34 = .ok (.aload_n 0, 1) := by decide +kernel
theorem dX5_freezesIn_35 : decode cX5_freezesIn 35 = .ok (.getfield 19, 3) := by decide +kernel
theorem dX5_freezesIn_38 : decode cX5_freezesIn 38 = .ok (.lload_n 2, 1) := by decide +kernel
theorem dX5_freezesIn_39 : decode cX5_freezesIn 39 = .ok (.invokevirtual 213, 3) := by decide +kernel
theorem dX5_freezesIn_42 : decode cX5_freezesIn 42 = .ok (.lstore_n 2, 1) := by decide +kernel
theorem dX5_freezesIn_43 : decode cX5_freezesIn 43 = .ok (.iinc 4 1, 3) := by decide +kernel
theorem dX5_freezesIn_46 : decode cX5_freezesIn 46 = .ok (.goto (-30), 3) := by decide +kernel
theorem dX5_freezesIn_49 : decode cX5_freezesIn 49 = .ok (.iconst (-1), 1) := by decide +kernel
theorem dX5_freezesIn_50 : decode cX5_freezesIn 50 = .ok (.ireturn, 1) := by decide +kernel
set_option maxRecDepth 20000 in
theorem ggX5_keeps_X5_needCell : GoodIn wsX5_keeps wsX5_needCell := goodIn_ca (goodIn_r _ [7, 8, 9, 2, 10, 11, 12, 13, 14, 15, 16, 118, 119, 120, 121, 122, 123, 124, 125, 126, 127, 128, 129, 130, 131, 132, 133, 134, 135, 136, 137] (by decide +kernel) (by decide +kernel)) (goodIn_sub (fun _ h => List.mem_cons_of_mem _ (List.mem_append_left _ (List.mem_append_right _ h))) (by decide +kernel))
set_option maxRecDepth 20000 in
theorem gX5_keeps_X5_needCell : GoodIn wsX5_keeps (wsV RX5 168 RX5 yX5_needCell wsX5_needCell) := goodIn_app (goodIn_of _ (by decide +kernel)) ggX5_keeps_X5_needCell
set_option maxRecDepth 20000 in
theorem ggX5_keeps_X5_needRange : GoodIn wsX5_keeps wsX5_needRange := goodIn_ca (goodIn_r _ [20, 21, 22, 23, 24, 6, 25] (by decide +kernel) (by decide +kernel)) (goodIn_sub (fun _ h => List.mem_cons_of_mem _ (List.mem_append_right _ h)) (by decide +kernel))
set_option maxRecDepth 20000 in
theorem gX5_keeps_X5_needRange : GoodIn wsX5_keeps (wsV RX5 54 RX5 yX5_needRange wsX5_needRange) := goodIn_app (goodIn_of _ (by decide +kernel)) ggX5_keeps_X5_needRange
set_option maxRecDepth 20000 in
theorem ggX5_keeps_X4_copy : GoodIn wsX5_keeps wsX4_copy := goodIn_r _ [29, 15, 16, 30, 31, 32, 33, 34, 35, 36, 37, 38, 39, 126, 127, 128, 129, 130, 131, 132, 133, 134, 135, 136, 137] (by decide +kernel) (by decide +kernel)
set_option maxRecDepth 20000 in
theorem gX5_keeps_X4_copy : GoodIn wsX5_keeps (wsV RX5 246 RX4 yX4_copy wsX4_copy) := goodIn_app (goodIn_of _ (by decide +kernel)) ggX5_keeps_X4_copy
set_option maxRecDepth 20000 in
theorem ggX5_keeps_X4_count : GoodIn wsX5_keeps wsX4_count := goodIn_r _ [43, 15, 16, 126, 127, 128, 129, 130, 131, 132, 133, 134, 135, 136, 137] (by decide +kernel) (by decide +kernel)
set_option maxRecDepth 20000 in
theorem gX5_keeps_X4_count : GoodIn wsX5_keeps (wsV RX5 201 RX4 yX4_count wsX4_count) := goodIn_app (goodIn_of _ (by decide +kernel)) ggX5_keeps_X4_count
set_option maxRecDepth 20000 in
theorem ggX5_keeps_X5_canBeTried : GoodIn wsX5_keeps wsX5_canBeTried := goodIn_r _ [47, 2, 48, 49, 50, 13, 51, 52, 53, 54, 55, 34, 35, 36, 37, 56, 6, 57, 58, 59, 60, 61, 16, 62, 63, 64, 65, 33, 66, 67, 68, 69, 15, 70, 71, 72, 73, 39, 38, 74, 118, 119, 120, 121, 122, 123, 124, 125, 126, 127, 128, 129, 130, 131, 132, 133, 134, 135, 136, 137] (by decide +kernel) (by decide +kernel)
set_option maxRecDepth 20000 in
theorem gX5_keeps_X5_canBeTried : GoodIn wsX5_keeps (wsV RX5 249 RX5 yX5_canBeTried wsX5_canBeTried) := goodIn_app (goodIn_of _ (by decide +kernel)) ggX5_keeps_X5_canBeTried
set_option maxRecDepth 20000 in
theorem ggX5_keeps_X5_wouldKeep : GoodIn wsX5_keeps wsX5_wouldKeep := goodIn_r _ [78, 1, 79, 80, 81, 13, 82, 38, 39, 83, 11, 12, 14, 15, 16, 24, 6, 25, 74, 49, 50, 51, 52, 53, 54, 55, 34, 35, 36, 37, 56, 57, 58, 59, 60, 61, 62, 63, 64, 65, 33, 66, 67, 68, 69, 84, 71, 72, 73, 85, 86, 87, 88, 32, 89, 90, 91, 92, 30, 93, 94, 95, 96, 97, 98, 99, 100, 101, 102, 103, 104, 105, 106, 107, 108, 109, 110, 111, 112, 113, 114, 115, 116, 117, 118, 119, 120, 121, 122, 123, 124, 125, 126, 127, 128, 129, 130, 131, 132, 133, 134, 135, 136, 137] (by decide +kernel) (by decide +kernel)
set_option maxRecDepth 20000 in
theorem gX5_keeps_X5_wouldKeep : GoodIn wsX5_keeps (wsV RX5 253 RX5 yX5_wouldKeep wsX5_wouldKeep) := goodIn_app (goodIn_of _ (by decide +kernel)) ggX5_keeps_X5_wouldKeep
theorem dX5_keeps_0 : decode cX5_keeps 0 = .ok (.aload_n 0, 1) := by decide +kernel
theorem dX5_keeps_1 : decode cX5_keeps 1 = .ok (.iload_n 1, 1) := by decide +kernel
theorem dX5_keeps_2 : decode cX5_keeps 2 = .ok (.invokevirtual 168, 3) := by decide +kernel
theorem dX5_keeps_5 : decode cX5_keeps 5 = .ok (.aload_n 0, 1) := by decide +kernel
theorem dX5_keeps_6 : decode cX5_keeps 6 = .ok (.iload_n 2, 1) := by decide +kernel
theorem dX5_keeps_7 : decode cX5_keeps 7 = .ok (.iconst 1, 1) := by decide +kernel
theorem dX5_keeps_8 : decode cX5_keeps 8 = .ok (.bipush 20, 2) := by decide +kernel
theorem dX5_keeps_10 : decode cX5_keeps 10 = .ok (.invokevirtual 54, 3) := by decide +kernel
theorem dX5_keeps_13 : decode cX5_keeps 13 = .ok (.aload_n 0, 1) := by decide +kernel
theorem dX5_keeps_14 : decode cX5_keeps 14 = .ok (.getfield 23, 3) := by decide +kernel
theorem dX5_keeps_17 : decode cX5_keeps 17 = .ok (.aload_n 0, 1) := by decide +kernel
theorem dX5_keeps_18 : decode cX5_keeps 18 = .ok (.getfield 19, 3) := by decide +kernel
theorem dX5_keeps_21 : decode cX5_keeps 21 = .ok (.invokevirtual 246, 3) := by decide +kernel
theorem dX5_keeps_24 : decode cX5_keeps 24 = .ok (.aload_n 0, 1) := by decide +kernel
theorem dX5_keeps_25 : decode cX5_keeps 25 = .ok (.getfield 19, 3) := by decide +kernel
theorem dX5_keeps_28 : decode cX5_keeps 28 = .ok (.invokevirtual 201, 3) := by decide +kernel
theorem dX5_keeps_31 : decode cX5_keeps 31 = .ok (.istore_n 3, 1) := by decide +kernel
theorem dX5_keeps_32 : decode cX5_keeps 32 = .ok (.iconst 0, 1) := by decide +kernel
theorem dX5_keeps_33 : decode cX5_keeps 33 = .ok (.istore 4, 2) := by decide +kernel
theorem dX5_keeps_35 : decode cX5_keeps 35 = .ok (.iload 4, 2) := by decide +kernel
theorem dX5_keeps_37 : decode cX5_keeps 37 = .ok (.iload_n 3, 1) := by decide +kernel
theorem dX5_keeps_38 : decode cX5_keeps 38 = .ok (.if_icmp .ge 56, 3) := by decide +kernel
theorem dX5_keeps_41 : decode cX5_keeps 41 = .ok (.iconst 0, 1) := by decide +kernel
theorem dX5_keeps_42 : decode cX5_keeps 42 = .ok (.istore 5, 2) := by decide +kernel
theorem dX5_keeps_44 : decode cX5_keeps 44 = .ok (.iload 5, 2) := by decide +kernel
theorem dX5_keeps_46 : decode cX5_keeps 46 = .ok (.iconst 3, 1) := by decide +kernel
theorem dX5_keeps_47 : decode cX5_keeps 47 = .ok (.if_icmp .gt 41, 3) := by decide +kernel
theorem dX5_keeps_50 : decode cX5_keeps 50 = .ok (.aload_n 0, 1) := by decide +kernel
theorem dX5_keeps_51 : decode cX5_keeps 51 = .ok (.iload 4, 2) := by decide +kernel
theorem dX5_keeps_53 : decode cX5_keeps 53 = .ok (.iload 5, 2) := by decide +kernel
theorem dX5_keeps_55 : decode cX5_keeps 55 = .ok (.invokevirtual 249, 3) := by decide +kernel
theorem dX5_keeps_58 : decode cX5_keeps 58 = .ok (.ifCond .eq 24, 3) := by decide +kernel
theorem dX5_keeps_61 : decode cX5_keeps 61 = .ok (.aload_n 0, 1) := by decide +kernel
theorem dX5_keeps_62 : decode cX5_keeps 62 = .ok (.iload 4, 2) := by decide +kernel
theorem dX5_keeps_64 : decode cX5_keeps 64 = .ok (.iload 5, 2) := by decide +kernel
theorem dX5_keeps_66 : decode cX5_keeps 66 = .ok (.iload_n 1, 1) := by decide +kernel
theorem dX5_keeps_67 : decode cX5_keeps 67 = .ok (.iload_n 2, 1) := by decide +kernel
theorem dX5_keeps_68 : decode cX5_keeps 68 = .ok (.invokevirtual 253, 3) := by decide +kernel
theorem dX5_keeps_71 : decode cX5_keeps 71 = .ok (.ifCond .eq 11, 3) := by decide +kernel
theorem dX5_keeps_74 : decode cX5_keeps 74 = .ok (.iconst 4, 1) := by decide +kernel
theorem dX5_keeps_75 : decode cX5_keeps 75 = .ok (.iload 4, 2) := by decide +kernel
theorem dX5_keeps_77 : decode cX5_keeps 77 = .ok (.imul, 1) := by decide +kernel
theorem dX5_keeps_78 : decode cX5_keeps 78 = .ok (.iload 5, 2) := by decide +kernel
theorem dX5_keeps_80 : decode cX5_keeps 80 = .ok (.iadd, 1) := by decide +kernel
theorem dX5_keeps_81 : decode cX5_keeps 81 = .ok (.ireturn, 1) := by decide +kernel
theorem dX5_keeps_82 : decode cX5_keeps 82 = .ok (.iinc 5 1, 3) := by decide +kernel
theorem dX5_keeps_85 : decode cX5_keeps 85 = .ok (.goto (-41), 3) := by decide +kernel
theorem dX5_keeps_88 : decode cX5_keeps 88 = .ok (.iinc 4 1, 3) := by decide +kernel
theorem dX5_keeps_91 : decode cX5_keeps 91 = .ok (.goto (-56), 3) := by decide +kernel
theorem dX5_keeps_94 : decode cX5_keeps 94 = .ok (.iconst (-1), 1) := by decide +kernel
theorem dX5_keeps_95 : decode cX5_keeps 95 = .ok (.ireturn, 1) := by decide +kernel
set_option maxRecDepth 20000 in
theorem ggX5_lookAhead_X4_after : GoodIn wsX5_lookAhead wsX4_after := goodIn_r _ [8, 9, 10, 11, 12, 7, 13, 14, 15, 16, 17, 18, 19, 20, 21, 22, 23, 24, 25, 26, 27, 28, 29, 30, 31, 32, 33, 34, 35, 36, 37, 38, 39, 40, 41, 42, 43, 44, 45, 46, 47, 48, 49, 50, 51, 60, 61, 62, 63, 64, 65, 66, 67, 68, 69, 70, 71] (by decide +kernel) (by decide +kernel)
set_option maxRecDepth 20000 in
theorem gX5_lookAhead_X4_after : GoodIn wsX5_lookAhead (wsV RX5 213 RX4 yX4_after wsX4_after) := goodIn_app (goodIn_of _ (by decide +kernel)) ggX5_lookAhead_X4_after
theorem dX5_lookAhead_0 : decode cX5_lookAhead 0 = .ok (.aload_n 0, 1) := by decide +kernel
theorem dX5_lookAhead_1 : decode cX5_lookAhead 1 = .ok (.getfield 19, 3) := by decide +kernel
theorem dX5_lookAhead_4 : decode cX5_lookAhead 4 = .ok (.getfield 138, 3) := by decide +kernel
theorem dX5_lookAhead_7 : decode cX5_lookAhead 7 = .ok (.lstore_n 1, 1) := by decide +kernel
theorem dX5_lookAhead_8 : decode cX5_lookAhead 8 = .ok (.iconst 0, 1) := by decide +kernel
theorem dX5_lookAhead_9 : decode cX5_lookAhead 9 = .ok (.istore_n 3, 1) := by decide +kernel
theorem dX5_lookAhead_10 : decode cX5_lookAhead 10 = .ok (.iload_n 3, 1) := by decide +kernel
theorem dX5_lookAhead_11 : decode cX5_lookAhead 11 = .ok (.aload_n 0, 1) := by decide +kernel
theorem dX5_lookAhead_12 : decode cX5_lookAhead 12 = .ok (.getfield 50, 3) := by decide +kernel
theorem dX5_lookAhead_15 : decode cX5_lookAhead 15 = .ok (.arraylength, 1) := by decide +kernel
theorem dX5_lookAhead_16 : decode cX5_lookAhead 16 = .ok (.if_icmp .ge 25, 3) := by decide +kernel
theorem dX5_lookAhead_19 : decode cX5_lookAhead 19 = .ok (.aload_n 0, 1) := by decide +kernel
theorem dX5_lookAhead_20 : decode cX5_lookAhead 20 = .ok (.getfield 50, 3) := by decide +kernel
theorem dX5_lookAhead_23 : decode cX5_lookAhead 23 = .ok (.iload_n 3, 1) := by decide +kernel
theorem dX5_lookAhead_24 : decode cX5_lookAhead 24 = .ok (.lload_n 1, 1) := by decide +kernel
theorem dX5_lookAhead_25 : decode cX5_lookAhead 25 = .ok (.lastore, 1) := by decide +kernel
theorem dX5_lookAhead_26 : decode cX5_lookAhead 26 = .ok (.aload_n 0, 1) := by decide +kernel
theorem dX5_lookAhead_27 : decode cX5_lookAhead 27 = .ok (.getfield 19, 3) := by decide +kernel
theorem dX5_lookAhead_30 : decode cX5_lookAhead 30 = .ok (.lload_n 1, 1) := by decide +kernel
theorem dX5_lookAhead_31 : decode cX5_lookAhead 31 = .ok (.invokevirtual 213, 3) := by decide +kernel
theorem dX5_lookAhead_34 : decode cX5_lookAhead 34 = .ok (.lstore_n 1, 1) := by decide +kernel
theorem dX5_lookAhead_35 : decode cX5_lookAhead 35 = .ok (.iinc 3 1, 3) := by decide +kernel
theorem dX5_lookAhead_38 : decode cX5_lookAhead 38 = .ok (.goto (-28), 3) := by decide +kernel
theorem dX5_lookAhead_41 : decode cX5_lookAhead 41 = .ok (.return_, 1) := by decide +kernel
set_option maxRecDepth 20000 in
theorem ggX5_period_X5_look : GoodIn wsX5_period wsX5_look := goodIn_r _ [5, 6, 7, 8, 9, 10, 11, 12, 13, 14] (by decide +kernel) (by decide +kernel)
set_option maxRecDepth 20000 in
theorem gX5_period_X5_look : GoodIn wsX5_period (wsV RX5 257 RX5 yX5_look wsX5_look) := goodIn_app (goodIn_of _ (by decide +kernel)) ggX5_period_X5_look
theorem dX5_period_0 : decode cX5_period 0 = .ok (.aload_n 0, 1) := by decide +kernel
theorem dX5_period_1 : decode cX5_period 1 = .ok (.sipush 300, 3) := by decide +kernel
theorem dX5_period_4 : decode cX5_period 4 = .ok (.invokevirtual 257, 3) := by decide +kernel
theorem dX5_period_7 : decode cX5_period 7 = .ok (.lstore_n 1, 1) := by decide +kernel
theorem dX5_period_8 : decode cX5_period 8 = .ok (.iconst 1, 1) := by decide +kernel
theorem dX5_period_9 : decode cX5_period 9 = .ok (.istore_n 3, 1) := by decide +kernel
theorem dX5_period_10 : decode cX5_period 10 = .ok (.iload_n 3, 1) := by decide +kernel
theorem dX5_period_11 : decode cX5_period 11 = .ok (.sipush 300, 3) := by decide +kernel
theorem dX5_period_14 : decode cX5_period 14 = .ok (.if_icmp .gt 25, 3) := by decide +kernel
theorem dX5_period_17 : decode cX5_period 17 = .ok (.aload_n 0, 1) := by decide +kernel
theorem dX5_period_18 : decode cX5_period 18 = .ok (.sipush 300, 3) := by decide +kernel
theorem dX5_period_21 : decode cX5_period 21 = .ok (.iload_n 3, 1) := by decide +kernel
theorem dX5_period_22 : decode cX5_period 22 = .ok (.isub, 1) := by decide +kernel
theorem dX5_period_23 : decode cX5_period 23 = .ok (.invokevirtual 257, 3) := by decide +kernel
theorem dX5_period_26 : decode cX5_period 26 = .ok (.lload_n 1, 1) := by decide +kernel
theorem dX5_period_27 : decode cX5_period 27 = .ok (.lcmp, 1) := by decide +kernel
theorem dX5_period_28 : decode cX5_period 28 = .ok (.ifCond .ne 5, 3) := by decide +kernel
theorem dX5_period_31 : decode cX5_period 31 = .ok (.iload_n 3, 1) := by decide +kernel
theorem dX5_period_32 : decode cX5_period 32 = .ok (.ireturn, 1) := by decide +kernel
theorem dX5_period_33 : decode cX5_period 33 = .ok (.iinc 3 1, 3) := by decide +kernel
theorem dX5_period_36 : decode cX5_period 36 = .ok (.goto (-26), 3) := by decide +kernel
theorem dX5_period_39 : decode cX5_period 39 = .ok (.iconst (-1), 1) := by decide +kernel
theorem dX5_period_40 : decode cX5_period 40 = .ok (.ireturn, 1) := by decide +kernel
set_option maxRecDepth 20000 in
theorem ggX5_firstOfPeriod_X5_look : GoodIn wsX5_firstOfPeriod wsX5_look := goodIn_r _ [5, 6, 7, 8, 9, 10, 11, 12, 13, 14] (by decide +kernel) (by decide +kernel)
set_option maxRecDepth 20000 in
theorem gX5_firstOfPeriod_X5_look : GoodIn wsX5_firstOfPeriod (wsV RX5 257 RX5 yX5_look wsX5_look) := goodIn_app (goodIn_of _ (by decide +kernel)) ggX5_firstOfPeriod_X5_look
theorem dX5_firstOfPeriod_0 : decode cX5_firstOfPeriod 0 = .ok (.iconst 0, 1) := by decide +kernel
theorem dX5_firstOfPeriod_1 : decode cX5_firstOfPeriod 1 = .ok (.istore_n 2, 1) := by decide +kernel
theorem dX5_firstOfPeriod_2 : decode cX5_firstOfPeriod 2 = .ok (.iload_n 2, 1) := by decide +kernel
theorem dX5_firstOfPeriod_3 : decode cX5_firstOfPeriod 3 = .ok (.iload_n 1, 1) := by decide +kernel
theorem dX5_firstOfPeriod_4 : decode cX5_firstOfPeriod 4 = .ok (.iadd, 1) := by decide +kernel
theorem dX5_firstOfPeriod_5 : decode cX5_firstOfPeriod 5 = .ok (.sipush 300, 3) := by decide +kernel
theorem dX5_firstOfPeriod_8 : decode cX5_firstOfPeriod 8 = .ok (.if_icmp .gt 27, 3) := by decide +kernel
theorem dX5_firstOfPeriod_11 : decode cX5_firstOfPeriod 11 = .ok (.aload_n 0, 1) := by decide +kernel
theorem dX5_firstOfPeriod_12 : decode cX5_firstOfPeriod 12 = .ok (.iload_n 2, 1) := by decide +kernel
theorem dX5_firstOfPeriod_13 : decode cX5_firstOfPeriod 13 = .ok (.invokevirtual 257, 3) := by decide +kernel
theorem dX5_firstOfPeriod_16 : decode cX5_firstOfPeriod 16 = .ok (.aload_n 0, 1) := by decide +kernel
theorem dX5_firstOfPeriod_17 : decode cX5_firstOfPeriod 17 = .ok (.iload_n 2, 1) := by decide +kernel
theorem dX5_firstOfPeriod_18 : decode cX5_firstOfPeriod 18 = .ok (.iload_n 1, 1) := by decide +kernel
theorem dX5_firstOfPeriod_19 : decode cX5_firstOfPeriod 19 = .ok (.iadd, 1) := by decide +kernel
theorem dX5_firstOfPeriod_20 : decode cX5_firstOfPeriod 20 = .ok (.invokevirtual 257, 3) := by decide +kernel
theorem dX5_firstOfPeriod_23 : decode cX5_firstOfPeriod 23 = .ok (.lcmp, 1) := by decide +kernel
theorem dX5_firstOfPeriod_24 : decode cX5_firstOfPeriod 24 = .ok (.ifCond .ne 5, 3) := by decide +kernel
theorem dX5_firstOfPeriod_27 : decode cX5_firstOfPeriod 27 = .ok (.iload_n 2, 1) := by decide +kernel
theorem dX5_firstOfPeriod_28 : decode cX5_firstOfPeriod 28 = .ok (.ireturn, 1) := by decide +kernel
theorem dX5_firstOfPeriod_29 : decode cX5_firstOfPeriod 29 = .ok (.iinc 2 1, 3) := by decide +kernel
theorem dX5_firstOfPeriod_32 : decode cX5_firstOfPeriod 32 = .ok (.goto (-30), 3) := by decide +kernel
theorem dX5_firstOfPeriod_35 : decode cX5_firstOfPeriod 35 = .ok (.iconst (-1), 1) := by decide +kernel
theorem dX5_firstOfPeriod_36 : decode cX5_firstOfPeriod 36 = .ok (.ireturn, 1) := by decide +kernel
theorem dX5_look_0 : decode cX5_look 0 = .ok (.iload_n 1, 1) := by decide +kernel
theorem dX5_look_1 : decode cX5_look 1 = .ok (.ifCond .lt 21, 3) := by decide +kernel
theorem dX5_look_4 : decode cX5_look 4 = .ok (.iload_n 1, 1) := by decide +kernel
theorem dX5_look_5 : decode cX5_look 5 = .ok (.aload_n 0, 1) := by decide +kernel
theorem dX5_look_6 : decode cX5_look 6 = .ok (.getfield 50, 3) := by decide +kernel
theorem dX5_look_9 : decode cX5_look 9 = .ok (.arraylength, 1) := by decide +kernel
theorem dX5_look_10 : decode cX5_look 10 = .ok (.if_icmp .ge 12, 3) := by decide +kernel
theorem dX5_look_13 : decode cX5_look 13 = .ok (.aload_n 0, 1) := by decide +kernel
theorem dX5_look_14 : decode cX5_look 14 = .ok (.getfield 50, 3) := by decide +kernel
theorem dX5_look_17 : decode cX5_look 17 = .ok (.iload_n 1, 1) := by decide +kernel
theorem dX5_look_18 : decode cX5_look 18 = .ok (.laload, 1) := by decide +kernel
theorem dX5_look_19 : decode cX5_look 19 = .ok (.goto 4, 3) := by decide +kernel
theorem dX5_look_22 : decode cX5_look 22 = .ok (.lconst 0, 1) := by decide +kernel
theorem dX5_look_23 : decode cX5_look 23 = .ok (.lreturn, 1) := by decide +kernel
set_option maxRecDepth 20000 in
theorem ggX5_canBeTried_X4_beside : GoodIn wsX5_canBeTried wsX4_beside := goodIn_r _ [6, 7, 8, 9, 5, 10, 11, 12, 13, 14, 15, 16, 17, 18, 19, 20, 21, 22, 23, 24, 25, 26, 27, 28, 29, 30, 31, 32, 48, 49, 50, 51, 52, 53, 54, 55, 56, 57, 58, 59] (by decide +kernel) (by decide +kernel)
set_option maxRecDepth 20000 in
theorem gX5_canBeTried_X4_beside : GoodIn wsX5_canBeTried (wsV RX5 188 RX4 yX4_beside wsX4_beside) := goodIn_app (goodIn_of _ (by decide +kernel)) ggX5_canBeTried_X4_beside
set_option maxRecDepth 20000 in
theorem ggX5_canBeTried_X4_isScratched : GoodIn wsX5_canBeTried wsX4_isScratched := goodIn_r _ [36, 37, 38, 39, 3, 4, 5, 6, 7, 8, 9, 10, 11, 12, 13, 14, 15, 16, 17, 18, 19, 20, 21, 22, 23, 24, 25, 26, 27, 28, 29, 30, 31, 32, 48, 49, 50, 51, 52, 53, 54, 55, 56, 57, 58, 59] (by decide +kernel) (by decide +kernel)
set_option maxRecDepth 20000 in
theorem gX5_canBeTried_X4_isScratched : GoodIn wsX5_canBeTried (wsV RX5 260 RX4 yX4_isScratched wsX4_isScratched) := goodIn_app (goodIn_of _ (by decide +kernel)) ggX5_canBeTried_X4_isScratched
theorem dX5_canBeTried_0 : decode cX5_canBeTried 0 = .ok (.aload_n 0, 1) := by decide +kernel
theorem dX5_canBeTried_1 : decode cX5_canBeTried 1 = .ok (.getfield 19, 3) := by decide +kernel
theorem dX5_canBeTried_4 : decode cX5_canBeTried 4 = .ok (.iload_n 1, 1) := by decide +kernel
theorem dX5_canBeTried_5 : decode cX5_canBeTried 5 = .ok (.iload_n 2, 1) := by decide +kernel
theorem dX5_canBeTried_6 : decode cX5_canBeTried 6 = .ok (.invokevirtual 188, 3) := by decide +kernel
theorem dX5_canBeTried_9 : decode cX5_canBeTried 9 = .ok (.iload_n 1, 1) := by decide +kernel
theorem dX5_canBeTried_10 : decode cX5_canBeTried 10 = .ok (.if_icmp .le 19, 3) := by decide +kernel
theorem dX5_canBeTried_13 : decode cX5_canBeTried 13 = .ok (.aload_n 0, 1) := by decide +kernel
theorem dX5_canBeTried_14 : decode cX5_canBeTried 14 = .ok (.getfield 19, 3) := by decide +kernel
theorem dX5_canBeTried_17 : decode cX5_canBeTried 17 = .ok (.iload_n 1, 1) := by decide +kernel
theorem dX5_canBeTried_18 : decode cX5_canBeTried 18 = .ok (.iload_n 2, 1) := by decide +kernel
theorem dX5_canBeTried_19 : decode cX5_canBeTried 19 = .ok (.invokevirtual 260, 3) := by decide +kernel
theorem dX5_canBeTried_22 : decode cX5_canBeTried 22 = .ok (.ifCond .ne 7, 3) := by decide +kernel
theorem dX5_canBeTried_25 : decode cX5_canBeTried 25 = .ok (.iconst 1, 1) := by decide +kernel
theorem dX5_canBeTried_26 : decode cX5_canBeTried 26 = .ok (.goto 4, 3) := by decide +kernel
theorem dX5_canBeTried_29 : decode cX5_canBeTried 29 = .ok (.iconst 0, 1) := by decide +kernel
theorem dX5_canBeTried_30 : decode cX5_canBeTried 30 = .ok (.ireturn, 1) := by decide +kernel
set_option maxRecDepth 20000 in
theorem ggX5_wouldKeep_X4_scrape : GoodIn wsX5_wouldKeep wsX4_scrape := goodIn_r _ [6, 7, 8, 9, 10, 11, 5, 12, 13, 14, 15, 16, 17, 18, 19, 20, 21, 22, 23, 24, 25, 26, 27, 28, 29, 30, 31, 32, 33, 34, 35, 36, 37, 38, 39, 40, 41, 42, 43, 44, 45, 46, 47, 48, 92, 93, 94, 95, 96, 97, 98, 99, 100, 101, 102, 103] (by decide +kernel) (by decide +kernel)
set_option maxRecDepth 20000 in
theorem gX5_wouldKeep_X4_scrape : GoodIn wsX5_wouldKeep (wsV RX5 116 RX4 yX4_scrape wsX4_scrape) := goodIn_app (goodIn_of _ (by decide +kernel)) ggX5_wouldKeep_X4_scrape
set_option maxRecDepth 20000 in
theorem ggX5_wouldKeep_X4_staysClear : GoodIn wsX5_wouldKeep wsX4_staysClear := goodIn_r _ [52, 53, 54, 55, 56, 5, 57, 58, 59, 60, 61, 62, 36, 37, 38, 39, 40, 63, 64, 65, 66, 8, 67, 7, 68, 69, 70, 71, 28, 14, 13, 72, 73, 74, 75, 29, 76, 77, 78, 79, 26, 80, 81, 82, 83, 27, 22, 23, 24, 25, 30, 16, 31, 92, 93, 94, 95, 96, 97, 98, 99, 100, 101, 102, 103] (by decide +kernel) (by decide +kernel)
set_option maxRecDepth 20000 in
theorem gX5_wouldKeep_X4_staysClear : GoodIn wsX5_wouldKeep (wsV RX5 263 RX4 yX4_staysClear wsX4_staysClear) := goodIn_app (goodIn_of _ (by decide +kernel)) ggX5_wouldKeep_X4_staysClear
theorem dX5_wouldKeep_0 : decode cX5_wouldKeep 0 = .ok (.aload_n 0, 1) := by decide +kernel
theorem dX5_wouldKeep_1 : decode cX5_wouldKeep 1 = .ok (.getfield 23, 3) := by decide +kernel
theorem dX5_wouldKeep_4 : decode cX5_wouldKeep 4 = .ok (.iload_n 1, 1) := by decide +kernel
theorem dX5_wouldKeep_5 : decode cX5_wouldKeep 5 = .ok (.iload_n 2, 1) := by decide +kernel
theorem dX5_wouldKeep_6 : decode cX5_wouldKeep 6 = .ok (.invokevirtual 116, 3) := by decide +kernel
theorem dX5_wouldKeep_9 : decode cX5_wouldKeep 9 = .ok (.pop, 1) := by decide +kernel
theorem dX5_wouldKeep_10 : decode cX5_wouldKeep 10 = .ok (.aload_n 0, 1) := by decide +kernel
theorem dX5_wouldKeep_11 : decode cX5_wouldKeep 11 = .ok (.getfield 23, 3) := by decide +kernel
theorem dX5_wouldKeep_14 : decode cX5_wouldKeep 14 = .ok (.iload_n 3, 1) := by decide +kernel
theorem dX5_wouldKeep_15 : decode cX5_wouldKeep 15 = .ok (.iload 4, 2) := by decide +kernel
theorem dX5_wouldKeep_17 : decode cX5_wouldKeep 17 = .ok (.invokevirtual 263, 3) := by decide +kernel
theorem dX5_wouldKeep_20 : decode cX5_wouldKeep 20 = .ok (.istore 5, 2) := by decide +kernel
theorem dX5_wouldKeep_22 : decode cX5_wouldKeep 22 = .ok (.aload_n 0, 1) := by decide +kernel
theorem dX5_wouldKeep_23 : decode cX5_wouldKeep 23 = .ok (.getfield 23, 3) := by decide +kernel
theorem dX5_wouldKeep_26 : decode cX5_wouldKeep 26 = .ok (.iload_n 1, 1) := by decide +kernel
theorem dX5_wouldKeep_27 : decode cX5_wouldKeep 27 = .ok (.iload_n 2, 1) := by decide +kernel
theorem dX5_wouldKeep_28 : decode cX5_wouldKeep 28 = .ok (.invokevirtual 116, 3) := by decide +kernel
theorem dX5_wouldKeep_31 : decode cX5_wouldKeep 31 = .ok (.pop, 1) := by decide +kernel
theorem dX5_wouldKeep_32 : decode cX5_wouldKeep 32 = .ok (.iload 5, 2) := by decide +kernel
theorem dX5_wouldKeep_34 : decode cX5_wouldKeep 34 = .ok (.ireturn, 1) := by decide +kernel
set_option maxRecDepth 20000 in
theorem ggX5_runScript_X5_needRange : GoodIn wsX5_runScript wsX5_needRange := goodIn_ca (goodIn_r _ [10, 1, 2, 11, 12, 9, 13] (by decide +kernel) (by decide +kernel)) (goodIn_sub (fun _ h => List.mem_cons_of_mem _ (List.mem_append_right _ h)) (by decide +kernel))
set_option maxRecDepth 20000 in
theorem gX5_runScript_X5_needRange : GoodIn wsX5_runScript (wsV RX5 54 RX5 yX5_needRange wsX5_needRange) := goodIn_app (goodIn_of _ (by decide +kernel)) ggX5_runScript_X5_needRange
set_option maxRecDepth 20000 in
theorem ggX5_runScript_X5_withoutLowest : GoodIn wsX5_runScript wsX5_withoutLowest := goodIn_r _ [16, 5] (by decide +kernel) (by decide +kernel)
set_option maxRecDepth 20000 in
theorem gX5_runScript_X5_withoutLowest : GoodIn wsX5_runScript (va_wsS RX5 266 yX5_withoutLowest wsX5_withoutLowest) := goodIn_app (goodIn_of _ (by decide +kernel)) ggX5_runScript_X5_withoutLowest
set_option maxRecDepth 20000 in
theorem ggX5_runScript_X4_copy : GoodIn wsX5_runScript wsX4_copy := goodIn_r _ [21, 22, 23, 24, 25, 26, 27, 28, 29, 30, 31, 32, 33, 156, 157, 158, 159, 160, 161, 162, 163, 164, 165, 166, 167] (by decide +kernel) (by decide +kernel)
set_option maxRecDepth 20000 in
theorem gX5_runScript_X4_copy : GoodIn wsX5_runScript (wsV RX5 246 RX4 yX4_copy wsX4_copy) := goodIn_app (goodIn_of _ (by decide +kernel)) ggX5_runScript_X4_copy
set_option maxRecDepth 20000 in
theorem ggX5_runScript_X5_succeeds : GoodIn wsX5_runScript wsX5_succeeds := goodIn_r _ [37, 3, 38, 39, 40, 41, 20, 42, 26, 43, 44, 45, 46, 22, 23, 47, 48, 49, 50, 51, 9, 52, 53, 54, 55, 56, 32, 33, 12, 13, 57, 58, 59, 60, 61, 62, 63, 64, 28, 29, 30, 31, 65, 66, 67, 68, 69, 70, 71, 72, 27, 73, 74, 75, 76, 77, 78, 79, 80, 81, 82, 83, 84, 85, 86, 87, 88, 89, 90, 91, 92, 24, 93, 94, 95, 96, 25, 97, 98, 99, 100, 101, 102, 103, 104, 105, 106, 107, 108, 109, 110, 111, 112, 113, 114, 115, 116, 117, 118, 119, 120, 121, 122, 123, 124, 125, 126, 127, 128, 129, 130, 131, 132, 133, 134, 135, 136, 137, 138, 139, 140, 141, 142, 143, 144, 145, 146, 147, 148, 149, 150, 151, 152, 153, 154, 155, 156, 157, 158, 159, 160, 161, 162, 163, 164, 165, 166, 167] (by decide +kernel) (by decide +kernel)
set_option maxRecDepth 20000 in
theorem gX5_runScript_X5_succeeds : GoodIn wsX5_runScript (wsV RX5 274 RX5 yX5_succeeds wsX5_succeeds) := goodIn_app (goodIn_of _ (by decide +kernel)) ggX5_runScript_X5_succeeds
theorem dX5_runScript_0 : decode cX5_runScript 0 = .ok (.aload_n 0, 1) := by decide +kernel
theorem dX5_runScript_1 : decode cX5_runScript 1 = .ok (.iload_n 1, 1) := by decide +kernel
theorem dX5_runScript_2 : decode cX5_runScript 2 = .ok (.iconst 1, 1) := by decide +kernel
theorem dX5_runScript_3 : decode cX5_runScript 3 = .ok (.iconst 3, 1) := by decide +kernel
theorem dX5_runScript_4 : decode cX5_runScript 4 = .ok (.invokevirtual 54, 3) := by decide +kernel
theorem dX5_runScript_7 : decode cX5_runScript 7 = .ok (.lload_n 2, 1) := by decide +kernel
theorem dX5_runScript_8 : decode cX5_runScript 8 = .ok (.lconst 0, 1) := by decide +kernel
theorem dX5_runScript_9 : decode cX5_runScript 9 = .ok (.lcmp, 1) := by decide +kernel
theorem dX5_runScript_10 : decode cX5_runScript 10 = .ok (.ifCond .lt 13, 3) := by decide +kernel
theorem dX5_runScript_13 : decode cX5_runScript 13 = .ok (.lload_n 2, 1) := by decide +kernel
theorem dX5_runScript_14 : decode cX5_runScript 14 = .ok (.iload_n 1, 1) := by decide +kernel
theorem dX5_runScript_15 : decode cX5_runScript 15 = .ok (.invokestatic 266, 3) := by decide +kernel
theorem dX5_runScript_18 : decode cX5_runScript 18 = .ok (.lconst 0, 1) := by decide +kernel
theorem dX5_runScript_19 : decode cX5_runScript 19 = .ok (.lcmp, 1) := by decide +kernel
theorem dX5_runScript_20 : decode cX5_runScript 20 = .ok (.ifCond .eq 14, 3) := by decide +kernel
theorem dX5_runScript_23 : decode cX5_runScript 23 = .ok (.new 163, 3) := by decide +kernel
theorem dX5_runScript_26 : decode cX5_runScript 26 = .ok (.dup, 1) := by decide +kernel
theorem dX5_runScript_27 : decode cX5_runScript 27 = .ok (.ldc_w 270, 3) := by decide +kernel
theorem dX5_runScript_30 : decode cX5_runScript 30 = .ok (.invokespecial 167, 3) := by decide +kernel
theorem dX5_runScript_33 : decode cX5_runScript 33 = .ok (.athrow, 1) := by decide +kernel
theorem dX5_runScript_34 : decode cX5_runScript 34 = .ok (.aload_n 0, 1) := by decide +kernel
theorem dX5_runScript_35 : decode cX5_runScript 35 = .ok (.getfield 23, 3) := by decide +kernel
theorem dX5_runScript_38 : decode cX5_runScript 38 = .ok (.aload_n 0, 1) := by decide +kernel
theorem dX5_runScript_39 : decode cX5_runScript 39 = .ok (.getfield 19, 3) := by decide +kernel
theorem dX5_runScript_42 : decode cX5_runScript 42 = .ok (.invokevirtual 246, 3) := by decide +kernel
theorem dX5_runScript_45 : decode cX5_runScript 45 = .ok (.iconst 0, 1) := by decide +kernel
theorem dX5_runScript_46 : decode cX5_runScript 46 = .ok (.istore 4, 2) := by decide +kernel
theorem dX5_runScript_48 : decode cX5_runScript 48 = .ok (.iload 4, 2) := by decide +kernel
theorem dX5_runScript_50 : decode cX5_runScript 50 = .ok (.iload_n 1, 1) := by decide +kernel
theorem dX5_runScript_51 : decode cX5_runScript 51 = .ok (.if_icmp .ge 34, 3) := by decide +kernel
theorem dX5_runScript_54 : decode cX5_runScript 54 = .ok (.aload_n 0, 1) := by decide +kernel
theorem dX5_runScript_55 : decode cX5_runScript 55 = .ok (.lload_n 2, 1) := by decide +kernel
theorem dX5_runScript_56 : decode cX5_runScript 56 = .ok (.iload_n 1, 1) := by decide +kernel
theorem dX5_runScript_57 : decode cX5_runScript 57 = .ok (.iconst 1, 1) := by decide +kernel
theorem dX5_runScript_58 : decode cX5_runScript 58 = .ok (.isub, 1) := by decide +kernel
theorem dX5_runScript_59 : decode cX5_runScript 59 = .ok (.iload 4, 2) := by decide +kernel
theorem dX5_runScript_61 : decode cX5_runScript 61 = .ok (.isub, 1) := by decide +kernel
theorem dX5_runScript_62 : decode cX5_runScript 62 = .ok (.invokestatic 266, 3) := by decide +kernel
theorem dX5_runScript_65 : decode cX5_runScript 65 = .ok (.ldc2_w 272, 3) := by decide +kernel
theorem dX5_runScript_68 : decode cX5_runScript 68 = .ok (.lrem, 1) := by decide +kernel
theorem dX5_runScript_69 : decode cX5_runScript 69 = .ok (.l2i, 1) := by decide +kernel
theorem dX5_runScript_70 : decode cX5_runScript 70 = .ok (.invokevirtual 274, 3) := by decide +kernel
theorem dX5_runScript_73 : decode cX5_runScript 73 = .ok (.ifCond .ne 6, 3) := by decide +kernel
theorem dX5_runScript_76 : decode cX5_runScript 76 = .ok (.iload 4, 2) := by decide +kernel
theorem dX5_runScript_78 : decode cX5_runScript 78 = .ok (.ireturn, 1) := by decide +kernel
theorem dX5_runScript_79 : decode cX5_runScript 79 = .ok (.iinc 4 1, 3) := by decide +kernel
theorem dX5_runScript_82 : decode cX5_runScript 82 = .ok (.goto (-34), 3) := by decide +kernel
theorem dX5_runScript_85 : decode cX5_runScript 85 = .ok (.iconst (-1), 1) := by decide +kernel
theorem dX5_runScript_86 : decode cX5_runScript 86 = .ok (.ireturn, 1) := by decide +kernel
theorem dX5_withoutLowest_0 : decode cX5_withoutLowest 0 = .ok (.lload_n 0, 1) := by decide +kernel
theorem dX5_withoutLowest_1 : decode cX5_withoutLowest 1 = .ok (.lstore_n 3, 1) := by decide +kernel
theorem dX5_withoutLowest_2 : decode cX5_withoutLowest 2 = .ok (.iconst 0, 1) := by decide +kernel
theorem dX5_withoutLowest_3 : decode cX5_withoutLowest 3 = .ok (.istore 5, 2) := by decide +kernel
theorem dX5_withoutLowest_5 : decode cX5_withoutLowest 5 = .ok (.iload 5, 2) := by decide +kernel
theorem dX5_withoutLowest_7 : decode cX5_withoutLowest 7 = .ok (.iload_n 2, 1) := by decide +kernel
theorem dX5_withoutLowest_8 : decode cX5_withoutLowest 8 = .ok (.if_icmp .ge 15, 3) := by decide +kernel
theorem dX5_withoutLowest_11 : decode cX5_withoutLowest 11 = .ok (.lload_n 3, 1) := by decide +kernel
theorem dX5_withoutLowest_12 : decode cX5_withoutLowest 12 = .ok (.ldc2_w 272, 3) := by decide +kernel
theorem dX5_withoutLowest_15 : decode cX5_withoutLowest 15 = .ok (.ldiv, 1) := by decide +kernel
theorem dX5_withoutLowest_16 : decode cX5_withoutLowest 16 = .ok (.lstore_n 3, 1) := by decide +kernel
theorem dX5_withoutLowest_17 : decode cX5_withoutLowest 17 = .ok (.iinc 5 1, 3) := by decide +kernel
theorem dX5_withoutLowest_20 : decode cX5_withoutLowest 20 = .ok (.goto (-15), 3) := by decide +kernel
theorem dX5_withoutLowest_23 : decode cX5_withoutLowest 23 = .ok (.lload_n 3, 1) := by decide +kernel
theorem dX5_withoutLowest_24 : decode cX5_withoutLowest 24 = .ok (.lreturn, 1) := by decide +kernel
set_option maxRecDepth 20000 in
theorem ggX5_succeeds_X4_turn : GoodIn wsX5_succeeds wsX4_turn := goodIn_r _ [7, 8, 9, 10, 11, 6, 12, 13, 14, 15, 16, 17, 18, 19, 20, 21, 136, 137, 138, 139, 140, 141, 142, 143, 144, 145, 146, 147] (by decide +kernel) (by decide +kernel)
set_option maxRecDepth 20000 in
theorem gX5_succeeds_X4_turn : GoodIn wsX5_succeeds (wsV RX5 112 RX4 yX4_turn wsX4_turn) := goodIn_app (goodIn_of _ (by decide +kernel)) ggX5_succeeds_X4_turn
set_option maxRecDepth 20000 in
theorem ggX5_succeeds_X4_scrape : GoodIn wsX5_succeeds wsX4_scrape := goodIn_r _ [25, 26, 27, 9, 10, 11, 6, 12, 13, 14, 28, 20, 29, 30, 31, 32, 33, 34, 35, 36, 37, 38, 39, 40, 41, 19, 21, 42, 43, 44, 45, 46, 47, 48, 49, 50, 51, 52, 53, 54, 55, 56, 57, 58, 136, 137, 138, 139, 140, 141, 142, 143, 144, 145, 146, 147] (by decide +kernel) (by decide +kernel)
set_option maxRecDepth 20000 in
theorem gX5_succeeds_X4_scrape : GoodIn wsX5_succeeds (wsV RX5 116 RX4 yX4_scrape wsX4_scrape) := goodIn_app (goodIn_of _ (by decide +kernel)) ggX5_succeeds_X4_scrape
set_option maxRecDepth 20000 in
theorem ggX5_succeeds_X4_putKind : GoodIn wsX5_succeeds wsX4_putKind := goodIn_r _ [62, 28, 20, 29, 46, 47, 48, 6, 49, 50, 63, 64, 65, 66, 136, 137, 138, 139, 140, 141, 142, 143, 144, 145, 146, 147] (by decide +kernel) (by decide +kernel)
set_option maxRecDepth 20000 in
theorem gX5_succeeds_X4_putKind : GoodIn wsX5_succeeds (wsV RX5 120 RX4 yX4_putKind wsX4_putKind) := goodIn_app (goodIn_of _ (by decide +kernel)) ggX5_succeeds_X4_putKind
set_option maxRecDepth 20000 in
theorem ggX5_succeeds_X4_putRule : GoodIn wsX5_succeeds wsX4_putRule := goodIn_r _ [70, 71, 28, 20, 29, 136, 137, 138, 139, 140, 141, 142, 143, 144, 145, 146, 147] (by decide +kernel) (by decide +kernel)
set_option maxRecDepth 20000 in
theorem gX5_succeeds_X4_putRule : GoodIn wsX5_succeeds (wsV RX5 123 RX4 yX4_putRule wsX4_putRule) := goodIn_app (goodIn_of _ (by decide +kernel)) ggX5_succeeds_X4_putRule
set_option maxRecDepth 20000 in
theorem ggX5_succeeds_X4_pass : GoodIn wsX5_succeeds wsX4_pass := goodIn_r _ [75, 8, 76, 28, 20, 29, 77, 78, 79, 6, 80, 71, 81, 82, 83, 84, 46, 47, 48, 49, 50, 85, 86, 87, 88, 27, 89, 26, 90, 91, 92, 93, 40, 14, 13, 94, 95, 96, 97, 41, 98, 99, 100, 101, 38, 102, 103, 104, 105, 39, 34, 35, 36, 37, 106, 107, 108, 109, 110, 111, 112, 136, 137, 138, 139, 140, 141, 142, 143, 144, 145, 146, 147] (by decide +kernel) (by decide +kernel)
set_option maxRecDepth 20000 in
theorem gX5_succeeds_X4_pass : GoodIn wsX5_succeeds (wsV RX5 129 RX4 yX4_pass wsX4_pass) := goodIn_app (goodIn_of _ (by decide +kernel)) ggX5_succeeds_X4_pass
set_option maxRecDepth 20000 in
theorem ggX5_succeeds_X4_thaw : GoodIn wsX5_succeeds wsX4_thaw := goodIn_r _ [116, 8, 89, 9, 10, 11, 6, 12, 13, 14, 28, 20, 29, 117, 118, 119, 120, 85, 86, 87, 88, 27, 26, 46, 47, 48, 49, 50, 90, 91, 92, 93, 40, 94, 95, 96, 97, 41, 98, 99, 100, 101, 38, 102, 103, 104, 105, 39, 106, 107, 108, 109, 110, 111, 112, 136, 137, 138, 139, 140, 141, 142, 143, 144, 145, 146, 147] (by decide +kernel) (by decide +kernel)
set_option maxRecDepth 20000 in
theorem gX5_succeeds_X4_thaw : GoodIn wsX5_succeeds (wsV RX5 126 RX4 yX4_thaw wsX4_thaw) := goodIn_app (goodIn_of _ (by decide +kernel)) ggX5_succeeds_X4_thaw
set_option maxRecDepth 20000 in
theorem ggX5_succeeds_X4_hasCell : GoodIn wsX5_succeeds wsX4_hasCell := goodIn_r _ [12, 13, 14, 136, 137, 138, 139, 140, 141, 142, 143, 144, 145, 146, 147] (by decide +kernel) (by decide +kernel)
set_option maxRecDepth 20000 in
theorem gX5_succeeds_X4_hasCell : GoodIn wsX5_succeeds (wsV RX5 277 RX4 yX4_hasCell wsX4_hasCell) := goodIn_app (goodIn_of _ (by decide +kernel)) ggX5_succeeds_X4_hasCell
set_option maxRecDepth 20000 in
theorem ggX5_succeeds_X4_isFrozen : GoodIn wsX5_succeeds wsX4_isFrozen := goodIn_r _ [18, 8, 19, 20, 21, 136, 137, 138, 139, 140, 141, 142, 143, 144, 145, 146, 147] (by decide +kernel) (by decide +kernel)
set_option maxRecDepth 20000 in
theorem gX5_succeeds_X4_isFrozen : GoodIn wsX5_succeeds (wsV RX5 172 RX4 yX4_isFrozen wsX4_isFrozen) := goodIn_app (goodIn_of _ (by decide +kernel)) ggX5_succeeds_X4_isFrozen
set_option maxRecDepth 20000 in
theorem ggX5_succeeds_X4_cold : GoodIn wsX5_succeeds wsX4_cold := goodIn_r _ [126, 8, 81, 82, 83, 6, 84, 46, 47, 48, 49, 50, 85, 86, 87, 88, 27, 89, 26, 90, 91, 92, 93, 40, 14, 13, 94, 95, 96, 97, 41, 98, 99, 100, 101, 38, 102, 103, 104, 105, 39, 34, 35, 36, 37, 19, 20, 21, 136, 137, 138, 139, 140, 141, 142, 143, 144, 145, 146, 147] (by decide +kernel) (by decide +kernel)
set_option maxRecDepth 20000 in
theorem gX5_succeeds_X4_cold : GoodIn wsX5_succeeds (wsV RX5 176 RX4 yX4_cold wsX4_cold) := goodIn_app (goodIn_of _ (by decide +kernel)) ggX5_succeeds_X4_cold
set_option maxRecDepth 20000 in
theorem ggX5_succeeds_J13_bitCount_95d88 : GoodIn wsX5_succeeds wsJ13_bitCount_95d88 := goodIn_r _ [109, 110, 111, 112] (by decide +kernel) (by decide +kernel)
set_option maxRecDepth 20000 in
theorem gX5_succeeds_J13_bitCount_95d88 : GoodIn wsX5_succeeds (va_wsS RX5 142 yJ13_bitCount_95d88 wsJ13_bitCount_95d88) := goodIn_app (goodIn_of _ (by decide +kernel)) ggX5_succeeds_J13_bitCount_95d88
theorem dX5_succeeds_0 : decode cX5_succeeds 0 = .ok (.iload_n 1, 1) := by decide +kernel
theorem dX5_succeeds_1 : decode cX5_succeeds 1 = .ok (.bipush 10, 2) := by decide +kernel
theorem dX5_succeeds_3 : decode cX5_succeeds 3 = .ok (.idiv, 1) := by decide +kernel
theorem dX5_succeeds_4 : decode cX5_succeeds 4 = .ok (.bipush 100, 2) := by decide +kernel
theorem dX5_succeeds_6 : decode cX5_succeeds 6 = .ok (.irem, 1) := by decide +kernel
theorem dX5_succeeds_7 : decode cX5_succeeds 7 = .ok (.istore_n 2, 1) := by decide +kernel
theorem dX5_succeeds_8 : decode cX5_succeeds 8 = .ok (.iload_n 1, 1) := by decide +kernel
theorem dX5_succeeds_9 : decode cX5_succeeds 9 = .ok (.bipush 10, 2) := by decide +kernel
theorem dX5_succeeds_11 : decode cX5_succeeds 11 = .ok (.irem, 1) := by decide +kernel
theorem dX5_succeeds_12 : decode cX5_succeeds 12 = .ok (.istore_n 3, 1) := by decide +kernel
theorem dX5_succeeds_13 : decode cX5_succeeds 13 = .ok (.iload_n 1, 1) := by decide +kernel
theorem dX5_succeeds_14 : decode cX5_succeeds 14 = .ok (.sipush 1000, 3) := by decide +kernel
theorem dX5_succeeds_17 : decode cX5_succeeds 17 = .ok (.idiv, 1) := by decide +kernel
theorem dX5_succeeds_18 : decode cX5_succeeds 18 = .ok (.tableswitch 279 1 9 #[50, 72, 91, 116, 138, 165, 184, 221, 250], 50) := by decide +kernel
theorem dX5_succeeds_68 : decode cX5_succeeds 68 = .ok (.iload_n 3, 1) := by decide +kernel
theorem dX5_succeeds_69 : decode cX5_succeeds 69 = .ok (.ifCond .ne 19, 3) := by decide +kernel
theorem dX5_succeeds_72 : decode cX5_succeeds 72 = .ok (.aload_n 0, 1) := by decide +kernel
theorem dX5_succeeds_73 : decode cX5_succeeds 73 = .ok (.getfield 23, 3) := by decide +kernel
theorem dX5_succeeds_76 : decode cX5_succeeds 76 = .ok (.iload_n 2, 1) := by decide +kernel
theorem dX5_succeeds_77 : decode cX5_succeeds 77 = .ok (.invokevirtual 112, 3) := by decide +kernel
theorem dX5_succeeds_80 : decode cX5_succeeds 80 = .ok (.iconst (-1), 1) := by decide +kernel
theorem dX5_succeeds_81 : decode cX5_succeeds 81 = .ok (.if_icmp .eq 7, 3) := by decide +kernel
theorem dX5_succeeds_84 : decode cX5_succeeds 84 = .ok (.iconst 1, 1) := by decide +kernel
theorem dX5_succeeds_85 : decode cX5_succeeds 85 = .ok (.goto 4, 3) := by decide +kernel
theorem dX5_succeeds_88 : decode cX5_succeeds 88 = .ok (.iconst 0, 1) := by decide +kernel
theorem dX5_succeeds_89 : decode cX5_succeeds 89 = .ok (.ireturn, 1) := by decide +kernel
theorem dX5_succeeds_90 : decode cX5_succeeds 90 = .ok (.aload_n 0, 1) := by decide +kernel
theorem dX5_succeeds_91 : decode cX5_succeeds 91 = .ok (.getfield 23, 3) := by decide +kernel
theorem dX5_succeeds_94 : decode cX5_succeeds 94 = .ok (.iload_n 2, 1) := by decide +kernel
theorem dX5_succeeds_95 : decode cX5_succeeds 95 = .ok (.iload_n 3, 1) := by decide +kernel
theorem dX5_succeeds_96 : decode cX5_succeeds 96 = .ok (.invokevirtual 116, 3) := by decide +kernel
theorem dX5_succeeds_99 : decode cX5_succeeds 99 = .ok (.iconst (-1), 1) := by decide +kernel
theorem dX5_succeeds_100 : decode cX5_succeeds 100 = .ok (.if_icmp .eq 7, 3) := by decide +kernel
theorem dX5_succeeds_103 : decode cX5_succeeds 103 = .ok (.iconst 1, 1) := by decide +kernel
theorem dX5_succeeds_104 : decode cX5_succeeds 104 = .ok (.goto 4, 3) := by decide +kernel
theorem dX5_succeeds_107 : decode cX5_succeeds 107 = .ok (.iconst 0, 1) := by decide +kernel
theorem dX5_succeeds_108 : decode cX5_succeeds 108 = .ok (.ireturn, 1) := by decide +kernel
theorem dX5_succeeds_109 : decode cX5_succeeds 109 = .ok (.iload_n 2, 1) := by decide +kernel
theorem dX5_succeeds_110 : decode cX5_succeeds 110 = .ok (.bipush 10, 2) := by decide +kernel
theorem dX5_succeeds_112 : decode cX5_succeeds 112 = .ok (.if_icmp .ge 20, 3) := by decide +kernel
theorem dX5_succeeds_115 : decode cX5_succeeds 115 = .ok (.aload_n 0, 1) := by decide +kernel
theorem dX5_succeeds_116 : decode cX5_succeeds 116 = .ok (.getfield 23, 3) := by decide +kernel
theorem dX5_succeeds_119 : decode cX5_succeeds 119 = .ok (.iload_n 2, 1) := by decide +kernel
theorem dX5_succeeds_120 : decode cX5_succeeds 120 = .ok (.iload_n 3, 1) := by decide +kernel
theorem dX5_succeeds_121 : decode cX5_succeeds 121 = .ok (.invokevirtual 120, 3) := by decide +kernel
theorem dX5_succeeds_124 : decode cX5_succeeds 124 = .ok (.iconst (-1), 1) := by decide +kernel
theorem dX5_succeeds_125 : decode cX5_succeeds 125 = .ok (.if_icmp .eq 7, 3) := by decide +kernel
theorem dX5_succeeds_128 : decode cX5_succeeds 128 = .ok (.iconst 1, 1) := by decide +kernel
theorem dX5_succeeds_129 : decode cX5_succeeds 129 = .ok (.goto 4, 3) := by decide +kernel
theorem dX5_succeeds_132 : decode cX5_succeeds 132 = .ok (.iconst 0, 1) := by decide +kernel
theorem dX5_succeeds_133 : decode cX5_succeeds 133 = .ok (.ireturn, 1) := by decide +kernel
theorem dX5_succeeds_134 : decode cX5_succeeds 134 = .ok (.iload_n 2, 1) := by decide +kernel
theorem dX5_succeeds_135 : decode cX5_succeeds 135 = .ok (.ifCond .ne 19, 3) := by decide +kernel
theorem dX5_succeeds_138 : decode cX5_succeeds 138 = .ok (.aload_n 0, 1) := by decide +kernel
theorem dX5_succeeds_139 : decode cX5_succeeds 139 = .ok (.getfield 23, 3) := by decide +kernel
theorem dX5_succeeds_142 : decode cX5_succeeds 142 = .ok (.iload_n 3, 1) := by decide +kernel
theorem dX5_succeeds_143 : decode cX5_succeeds 143 = .ok (.invokevirtual 123, 3) := by decide +kernel
theorem dX5_succeeds_146 : decode cX5_succeeds 146 = .ok (.iconst (-1), 1) := by decide +kernel
theorem dX5_succeeds_147 : decode cX5_succeeds 147 = .ok (.if_icmp .eq 7, 3) := by decide +kernel
theorem dX5_succeeds_150 : decode cX5_succeeds 150 = .ok (.iconst 1, 1) := by decide +kernel
theorem dX5_succeeds_151 : decode cX5_succeeds 151 = .ok (.goto 4, 3) := by decide +kernel
theorem dX5_succeeds_154 : decode cX5_succeeds 154 = .ok (.iconst 0, 1) := by decide +kernel
theorem dX5_succeeds_155 : decode cX5_succeeds 155 = .ok (.ireturn, 1) := by decide +kernel
theorem dX5_succeeds_156 : decode cX5_succeeds 156 = .ok (.iload_n 2, 1) := by decide +kernel
theorem dX5_succeeds_157 : decode cX5_succeeds 157 = .ok (.bipush 10, 2) := by decide +kernel
theorem dX5_succeeds_159 : decode cX5_succeeds 159 = .ok (.if_icmp .ge 22, 3) := by decide +kernel
theorem dX5_succeeds_162 : decode cX5_succeeds 162 = .ok (.aload_n 0, 1) := by decide +kernel
theorem dX5_succeeds_163 : decode cX5_succeeds 163 = .ok (.getfield 23, 3) := by decide +kernel
theorem dX5_succeeds_166 : decode cX5_succeeds 166 = .ok (.iload_n 1, 1) := by decide +kernel
theorem dX5_succeeds_167 : decode cX5_succeeds 167 = .ok (.bipush 100, 2) := by decide +kernel
theorem dX5_succeeds_169 : decode cX5_succeeds 169 = .ok (.irem, 1) := by decide +kernel
theorem dX5_succeeds_170 : decode cX5_succeeds 170 = .ok (.invokevirtual 129, 3) := by decide +kernel
theorem dX5_succeeds_173 : decode cX5_succeeds 173 = .ok (.iconst (-1), 1) := by decide +kernel
theorem dX5_succeeds_174 : decode cX5_succeeds 174 = .ok (.if_icmp .eq 7, 3) := by decide +kernel
theorem dX5_succeeds_177 : decode cX5_succeeds 177 = .ok (.iconst 1, 1) := by decide +kernel
theorem dX5_succeeds_178 : decode cX5_succeeds 178 = .ok (.goto 4, 3) := by decide +kernel
theorem dX5_succeeds_181 : decode cX5_succeeds 181 = .ok (.iconst 0, 1) := by decide +kernel
theorem dX5_succeeds_182 : decode cX5_succeeds 182 = .ok (.ireturn, 1) := by decide +kernel
theorem dX5_succeeds_183 : decode cX5_succeeds 183 = .ok (.aload_n 0, 1) := by decide +kernel
theorem dX5_succeeds_184 : decode cX5_succeeds 184 = .ok (.getfield 23, 3) := by decide +kernel
theorem dX5_succeeds_187 : decode cX5_succeeds 187 = .ok (.iload_n 2, 1) := by decide +kernel
theorem dX5_succeeds_188 : decode cX5_succeeds 188 = .ok (.iload_n 3, 1) := by decide +kernel
theorem dX5_succeeds_189 : decode cX5_succeeds 189 = .ok (.invokevirtual 126, 3) := by decide +kernel
theorem dX5_succeeds_192 : decode cX5_succeeds 192 = .ok (.iconst (-1), 1) := by decide +kernel
theorem dX5_succeeds_193 : decode cX5_succeeds 193 = .ok (.if_icmp .eq 7, 3) := by decide +kernel
theorem dX5_succeeds_196 : decode cX5_succeeds 196 = .ok (.iconst 1, 1) := by decide +kernel
theorem dX5_succeeds_197 : decode cX5_succeeds 197 = .ok (.goto 4, 3) := by decide +kernel
theorem dX5_succeeds_200 : decode cX5_succeeds 200 = .ok (.iconst 0, 1) := by decide +kernel
theorem dX5_succeeds_201 : decode cX5_succeeds 201 = .ok (.ireturn, 1) := by decide +kernel
theorem dX5_succeeds_202 : decode cX5_succeeds 202 = .ok (.aload_n 0, 1) := by decide +kernel
theorem dX5_succeeds_203 : decode cX5_succeeds 203 = .ok (.getfield 23, 3) := by decide +kernel
theorem dX5_succeeds_206 : decode cX5_succeeds 206 = .ok (.iload_n 2, 1) := by decide +kernel
theorem dX5_succeeds_207 : decode cX5_succeeds 207 = .ok (.invokevirtual 277, 3) := by decide +kernel
theorem dX5_succeeds_210 : decode cX5_succeeds 210 = .ok (.ifCond .eq 27, 3) := by decide +kernel
theorem dX5_succeeds_213 : decode cX5_succeeds 213 = .ok (.iload_n 3, 1) := by decide +kernel
theorem dX5_succeeds_214 : decode cX5_succeeds 214 = .ok (.aload_n 0, 1) := by decide +kernel
theorem dX5_succeeds_215 : decode cX5_succeeds 215 = .ok (.getfield 23, 3) := by decide +kernel
theorem dX5_succeeds_218 : decode cX5_succeeds 218 = .ok (.iload_n 2, 1) := by decide +kernel
theorem dX5_succeeds_219 : decode cX5_succeeds 219 = .ok (.invokevirtual 172, 3) := by decide +kernel
theorem dX5_succeeds_222 : decode cX5_succeeds 222 = .ok (.ifCond .eq 7, 3) := by decide +kernel
theorem dX5_succeeds_225 : decode cX5_succeeds 225 = .ok (.iconst 1, 1) := by decide +kernel
theorem dX5_succeeds_226 : decode cX5_succeeds 226 = .ok (.goto 4, 3) := by decide +kernel
theorem dX5_succeeds_229 : decode cX5_succeeds 229 = .ok (.iconst 0, 1) := by decide +kernel
theorem dX5_succeeds_230 : decode cX5_succeeds 230 = .ok (.if_icmp .ne 7, 3) := by decide +kernel
theorem dX5_succeeds_233 : decode cX5_succeeds 233 = .ok (.iconst 1, 1) := by decide +kernel
theorem dX5_succeeds_234 : decode cX5_succeeds 234 = .ok (.goto 4, 3) := by decide +kernel
theorem dX5_succeeds_237 : decode cX5_succeeds 237 = .ok (.iconst 0, 1) := by decide +kernel
theorem dX5_succeeds_238 : decode cX5_succeeds 238 = .ok (.ireturn, 1) := by decide +kernel
theorem dX5_succeeds_239 : decode cX5_succeeds 239 = .ok (.aload_n 0, 1) := by decide +kernel
theorem dX5_succeeds_240 : decode cX5_succeeds 240 = .ok (.getfield 23, 3) := by decide +kernel
theorem dX5_succeeds_243 : decode cX5_succeeds 243 = .ok (.iload_n 2, 1) := by decide +kernel
theorem dX5_succeeds_244 : decode cX5_succeeds 244 = .ok (.invokevirtual 277, 3) := by decide +kernel
theorem dX5_succeeds_247 : decode cX5_succeeds 247 = .ok (.ifCond .eq 19, 3) := by decide +kernel
theorem dX5_succeeds_250 : decode cX5_succeeds 250 = .ok (.iload_n 3, 1) := by decide +kernel
theorem dX5_succeeds_251 : decode cX5_succeeds 251 = .ok (.aload_n 0, 1) := by decide +kernel
theorem dX5_succeeds_252 : decode cX5_succeeds 252 = .ok (.getfield 23, 3) := by decide +kernel
theorem dX5_succeeds_255 : decode cX5_succeeds 255 = .ok (.iload_n 2, 1) := by decide +kernel
theorem dX5_succeeds_256 : decode cX5_succeeds 256 = .ok (.invokevirtual 176, 3) := by decide +kernel
theorem dX5_succeeds_259 : decode cX5_succeeds 259 = .ok (.if_icmp .ne 7, 3) := by decide +kernel
theorem dX5_succeeds_262 : decode cX5_succeeds 262 = .ok (.iconst 1, 1) := by decide +kernel
theorem dX5_succeeds_263 : decode cX5_succeeds 263 = .ok (.goto 4, 3) := by decide +kernel
theorem dX5_succeeds_266 : decode cX5_succeeds 266 = .ok (.iconst 0, 1) := by decide +kernel
theorem dX5_succeeds_267 : decode cX5_succeeds 267 = .ok (.ireturn, 1) := by decide +kernel
theorem dX5_succeeds_268 : decode cX5_succeeds 268 = .ok (.iload_n 2, 1) := by decide +kernel
theorem dX5_succeeds_269 : decode cX5_succeeds 269 = .ok (.bipush 10, 2) := by decide +kernel
theorem dX5_succeeds_271 : decode cX5_succeeds 271 = .ok (.if_icmp .ge 24, 3) := by decide +kernel
theorem dX5_succeeds_274 : decode cX5_succeeds 274 = .ok (.aload_n 0, 1) := by decide +kernel
theorem dX5_succeeds_275 : decode cX5_succeeds 275 = .ok (.getfield 23, 3) := by decide +kernel
theorem dX5_succeeds_278 : decode cX5_succeeds 278 = .ok (.getfield 138, 3) := by decide +kernel
theorem dX5_succeeds_281 : decode cX5_succeeds 281 = .ok (.invokestatic 142, 3) := by decide +kernel
theorem dX5_succeeds_284 : decode cX5_succeeds 284 = .ok (.iload_n 1, 1) := by decide +kernel
theorem dX5_succeeds_285 : decode cX5_succeeds 285 = .ok (.bipush 100, 2) := by decide +kernel
theorem dX5_succeeds_287 : decode cX5_succeeds 287 = .ok (.irem, 1) := by decide +kernel
theorem dX5_succeeds_288 : decode cX5_succeeds 288 = .ok (.if_icmp .lt 7, 3) := by decide +kernel
theorem dX5_succeeds_291 : decode cX5_succeeds 291 = .ok (.iconst 1, 1) := by decide +kernel
theorem dX5_succeeds_292 : decode cX5_succeeds 292 = .ok (.goto 4, 3) := by decide +kernel
theorem dX5_succeeds_295 : decode cX5_succeeds 295 = .ok (.iconst 0, 1) := by decide +kernel
theorem dX5_succeeds_296 : decode cX5_succeeds 296 = .ok (.ireturn, 1) := by decide +kernel
theorem dX5_succeeds_297 : decode cX5_succeeds 297 = .ok (.iconst 0, 1) := by decide +kernel
theorem dX5_succeeds_298 : decode cX5_succeeds 298 = .ok (.ireturn, 1) := by decide +kernel
set_option maxRecDepth 20000 in
theorem ggX5_simulate_X5_needRange : GoodIn wsX5_simulate wsX5_needRange := goodIn_ca (goodIn_r _ [10, 11, 12, 13, 14, 9, 15] (by decide +kernel) (by decide +kernel)) (goodIn_sub (fun _ h => List.mem_cons_of_mem _ (List.mem_append_right _ h)) (by decide +kernel))
set_option maxRecDepth 20000 in
theorem gX5_simulate_X5_needRange : GoodIn wsX5_simulate (wsV RX5 54 RX5 yX5_needRange wsX5_needRange) := goodIn_app (goodIn_of _ (by decide +kernel)) ggX5_simulate_X5_needRange
set_option maxRecDepth 20000 in
theorem ggX5_simulate_X4_copy : GoodIn wsX5_simulate wsX4_copy := goodIn_r _ [20, 21, 22, 23, 24, 25, 26, 27, 28, 29, 30, 31, 32, 156, 157, 158, 159, 160, 161, 162, 163, 164, 165, 166, 167] (by decide +kernel) (by decide +kernel)
set_option maxRecDepth 20000 in
theorem gX5_simulate_X4_copy : GoodIn wsX5_simulate (wsV RX5 246 RX4 yX4_copy wsX4_copy) := goodIn_app (goodIn_of _ (by decide +kernel)) ggX5_simulate_X4_copy
set_option maxRecDepth 20000 in
theorem ggX5_simulate_X5_takeTurn : GoodIn wsX5_simulate wsX5_takeTurn := goodIn_r _ [36, 1, 37, 38, 39, 19, 40, 25, 41, 42, 43, 44, 21, 22, 45, 46, 47, 48, 49, 9, 50, 51, 52, 53, 54, 31, 32, 14, 15, 55, 56, 57, 58, 59, 60, 61, 62, 27, 28, 29, 30, 63, 64, 65, 66, 67, 68, 69, 70, 26, 71, 72, 73, 74, 75, 76, 77, 78, 79, 80, 81, 82, 83, 84, 85, 86, 87, 88, 89, 90, 91, 92, 93, 94, 95, 96, 97, 98, 99, 100, 101, 102, 103, 104, 105, 106, 107, 108, 109, 110, 111, 112, 113, 114, 115, 116, 117, 118, 119, 120, 121, 122, 123, 124, 125, 126, 23, 127, 128, 129, 130, 24, 131, 132, 133, 134, 135, 136, 137, 138, 148, 149, 150, 151, 152, 153, 154, 155, 156, 157, 158, 159, 160, 161, 162, 163, 164, 165, 166, 167] (by decide +kernel) (by decide +kernel)
set_option maxRecDepth 20000 in
theorem gX5_simulate_X5_takeTurn : GoodIn wsX5_simulate (wsV RX5 284 RX5 yX5_takeTurn wsX5_takeTurn) := goodIn_app (goodIn_of _ (by decide +kernel)) ggX5_simulate_X5_takeTurn
set_option maxRecDepth 20000 in
theorem ggX5_simulate_J13_bitCount_95d88 : GoodIn wsX5_simulate wsJ13_bitCount_95d88 := goodIn_r _ [119, 120, 121, 122] (by decide +kernel) (by decide +kernel)
set_option maxRecDepth 20000 in
theorem gX5_simulate_J13_bitCount_95d88 : GoodIn wsX5_simulate (va_wsS RX5 142 yJ13_bitCount_95d88 wsJ13_bitCount_95d88) := goodIn_app (goodIn_of _ (by decide +kernel)) ggX5_simulate_J13_bitCount_95d88
set_option maxRecDepth 20000 in
theorem ggX5_simulate_X4_patches : GoodIn wsX5_simulate wsX4_patches := goodIn_r _ [143, 25, 91, 144, 145, 146, 19, 147, 92, 93, 94, 95, 96, 97, 98, 99, 32, 31, 67, 68, 69, 70, 26, 100, 101, 102, 103, 29, 22, 21, 104, 105, 106, 107, 30, 108, 109, 110, 111, 27, 112, 113, 114, 115, 28, 156, 157, 158, 159, 160, 161, 162, 163, 164, 165, 166, 167] (by decide +kernel) (by decide +kernel)
set_option maxRecDepth 20000 in
theorem gX5_simulate_X4_patches : GoodIn wsX5_simulate (wsV RX5 157 RX4 yX4_patches wsX4_patches) := goodIn_app (goodIn_of _ (by decide +kernel)) ggX5_simulate_X4_patches
theorem dX5_simulate_0 : decode cX5_simulate 0 = .ok (.aload_n 0, 1) := by decide +kernel
theorem dX5_simulate_1 : decode cX5_simulate 1 = .ok (.iload_n 3, 1) := by decide +kernel
theorem dX5_simulate_2 : decode cX5_simulate 2 = .ok (.iconst 1, 1) := by decide +kernel
theorem dX5_simulate_3 : decode cX5_simulate 3 = .ok (.bipush 60, 2) := by decide +kernel
theorem dX5_simulate_5 : decode cX5_simulate 5 = .ok (.invokevirtual 54, 3) := by decide +kernel
theorem dX5_simulate_8 : decode cX5_simulate 8 = .ok (.aload_n 0, 1) := by decide +kernel
theorem dX5_simulate_9 : decode cX5_simulate 9 = .ok (.getfield 23, 3) := by decide +kernel
theorem dX5_simulate_12 : decode cX5_simulate 12 = .ok (.aload_n 0, 1) := by decide +kernel
theorem dX5_simulate_13 : decode cX5_simulate 13 = .ok (.getfield 19, 3) := by decide +kernel
theorem dX5_simulate_16 : decode cX5_simulate 16 = .ok (.invokevirtual 246, 3) := by decide +kernel
theorem dX5_simulate_19 : decode cX5_simulate 19 = .ok (.lload_n 1, 1) := by decide +kernel
theorem dX5_simulate_20 : decode cX5_simulate 20 = .ok (.lstore 4, 2) := by decide +kernel
theorem dX5_simulate_22 : decode cX5_simulate 22 = .ok (.iconst 0, 1) := by decide +kernel
theorem dX5_simulate_23 : decode cX5_simulate 23 = .ok (.istore 6, 2) := by decide +kernel
theorem dX5_simulate_25 : decode cX5_simulate 25 = .ok (.iload 6, 2) := by decide +kernel
theorem dX5_simulate_27 : decode cX5_simulate 27 = .ok (.iload_n 3, 1) := by decide +kernel
theorem dX5_simulate_28 : decode cX5_simulate 28 = .ok (.if_icmp .ge 31, 3) := by decide +kernel
theorem dX5_simulate_31 : decode cX5_simulate 31 = .ok (.lload 4, 2) := by decide +kernel
theorem dX5_simulate_33 : decode cX5_simulate 33 = .ok (.ldc2_w 280, 3) := by decide +kernel
theorem dX5_simulate_36 : decode cX5_simulate 36 = .ok (.lmul, 1) := by decide +kernel
theorem dX5_simulate_37 : decode cX5_simulate 37 = .ok (.ldc2_w 282, 3) := by decide +kernel
theorem dX5_simulate_40 : decode cX5_simulate 40 = .ok (.ladd, 1) := by decide +kernel
theorem dX5_simulate_41 : decode cX5_simulate 41 = .ok (.lstore 4, 2) := by decide +kernel
theorem dX5_simulate_43 : decode cX5_simulate 43 = .ok (.aload_n 0, 1) := by decide +kernel
theorem dX5_simulate_44 : decode cX5_simulate 44 = .ok (.lload 4, 2) := by decide +kernel
theorem dX5_simulate_46 : decode cX5_simulate 46 = .ok (.bipush 33, 2) := by decide +kernel
theorem dX5_simulate_48 : decode cX5_simulate 48 = .ok (.lushr, 1) := by decide +kernel
theorem dX5_simulate_49 : decode cX5_simulate 49 = .ok (.l2i, 1) := by decide +kernel
theorem dX5_simulate_50 : decode cX5_simulate 50 = .ok (.invokevirtual 284, 3) := by decide +kernel
theorem dX5_simulate_53 : decode cX5_simulate 53 = .ok (.iinc 6 1, 3) := by decide +kernel
theorem dX5_simulate_56 : decode cX5_simulate 56 = .ok (.goto (-31), 3) := by decide +kernel
theorem dX5_simulate_59 : decode cX5_simulate 59 = .ok (.bipush 100, 2) := by decide +kernel
theorem dX5_simulate_61 : decode cX5_simulate 61 = .ok (.aload_n 0, 1) := by decide +kernel
theorem dX5_simulate_62 : decode cX5_simulate 62 = .ok (.getfield 23, 3) := by decide +kernel
theorem dX5_simulate_65 : decode cX5_simulate 65 = .ok (.getfield 138, 3) := by decide +kernel
theorem dX5_simulate_68 : decode cX5_simulate 68 = .ok (.invokestatic 142, 3) := by decide +kernel
theorem dX5_simulate_71 : decode cX5_simulate 71 = .ok (.imul, 1) := by decide +kernel
theorem dX5_simulate_72 : decode cX5_simulate 72 = .ok (.aload_n 0, 1) := by decide +kernel
theorem dX5_simulate_73 : decode cX5_simulate 73 = .ok (.getfield 23, 3) := by decide +kernel
theorem dX5_simulate_76 : decode cX5_simulate 76 = .ok (.invokevirtual 157, 3) := by decide +kernel
theorem dX5_simulate_79 : decode cX5_simulate 79 = .ok (.iadd, 1) := by decide +kernel
theorem dX5_simulate_80 : decode cX5_simulate 80 = .ok (.ireturn, 1) := by decide +kernel
set_option maxRecDepth 20000 in
theorem ggX5_takeTurn_X4_turn : GoodIn wsX5_takeTurn wsX4_turn := goodIn_r _ [6, 7, 8, 9, 10, 5, 11, 12, 13, 14, 15, 16, 17, 18, 19, 20, 128, 129, 130, 131, 132, 133, 134, 135, 136, 137, 138, 139] (by decide +kernel) (by decide +kernel)
set_option maxRecDepth 20000 in
theorem gX5_takeTurn_X4_turn : GoodIn wsX5_takeTurn (wsV RX5 112 RX4 yX4_turn wsX4_turn) := goodIn_app (goodIn_of _ (by decide +kernel)) ggX5_takeTurn_X4_turn
set_option maxRecDepth 20000 in
theorem ggX5_takeTurn_X4_scrape : GoodIn wsX5_takeTurn wsX4_scrape := goodIn_r _ [24, 25, 26, 8, 9, 10, 5, 11, 12, 13, 27, 19, 28, 29, 30, 31, 32, 33, 34, 35, 36, 37, 38, 39, 40, 18, 20, 41, 42, 43, 44, 45, 46, 47, 48, 49, 50, 51, 52, 53, 54, 55, 56, 57, 128, 129, 130, 131, 132, 133, 134, 135, 136, 137, 138, 139] (by decide +kernel) (by decide +kernel)
set_option maxRecDepth 20000 in
theorem gX5_takeTurn_X4_scrape : GoodIn wsX5_takeTurn (wsV RX5 116 RX4 yX4_scrape wsX4_scrape) := goodIn_app (goodIn_of _ (by decide +kernel)) ggX5_takeTurn_X4_scrape
set_option maxRecDepth 20000 in
theorem ggX5_takeTurn_X4_putKind : GoodIn wsX5_takeTurn wsX4_putKind := goodIn_r _ [61, 27, 19, 28, 45, 46, 47, 5, 48, 49, 62, 63, 64, 65, 128, 129, 130, 131, 132, 133, 134, 135, 136, 137, 138, 139] (by decide +kernel) (by decide +kernel)
set_option maxRecDepth 20000 in
theorem gX5_takeTurn_X4_putKind : GoodIn wsX5_takeTurn (wsV RX5 120 RX4 yX4_putKind wsX4_putKind) := goodIn_app (goodIn_of _ (by decide +kernel)) ggX5_takeTurn_X4_putKind
set_option maxRecDepth 20000 in
theorem ggX5_takeTurn_X4_thaw : GoodIn wsX5_takeTurn wsX4_thaw := goodIn_r _ [69, 7, 70, 8, 9, 10, 5, 11, 12, 13, 27, 19, 28, 71, 72, 73, 74, 75, 76, 77, 78, 26, 25, 45, 46, 47, 48, 49, 79, 80, 81, 82, 39, 83, 84, 85, 86, 40, 87, 88, 89, 90, 37, 91, 92, 93, 94, 38, 95, 96, 97, 98, 99, 100, 101, 128, 129, 130, 131, 132, 133, 134, 135, 136, 137, 138, 139] (by decide +kernel) (by decide +kernel)
set_option maxRecDepth 20000 in
theorem gX5_takeTurn_X4_thaw : GoodIn wsX5_takeTurn (wsV RX5 126 RX4 yX4_thaw wsX4_thaw) := goodIn_app (goodIn_of _ (by decide +kernel)) ggX5_takeTurn_X4_thaw
set_option maxRecDepth 20000 in
theorem ggX5_takeTurn_X4_putRule : GoodIn wsX5_takeTurn wsX4_putRule := goodIn_r _ [105, 106, 27, 19, 28, 128, 129, 130, 131, 132, 133, 134, 135, 136, 137, 138, 139] (by decide +kernel) (by decide +kernel)
set_option maxRecDepth 20000 in
theorem gX5_takeTurn_X4_putRule : GoodIn wsX5_takeTurn (wsV RX5 123 RX4 yX4_putRule wsX4_putRule) := goodIn_app (goodIn_of _ (by decide +kernel)) ggX5_takeTurn_X4_putRule
set_option maxRecDepth 20000 in
theorem ggX5_takeTurn_X4_pass : GoodIn wsX5_takeTurn wsX4_pass := goodIn_r _ [110, 7, 111, 27, 19, 28, 112, 113, 114, 5, 115, 106, 116, 117, 118, 119, 45, 46, 47, 48, 49, 75, 76, 77, 78, 26, 70, 25, 79, 80, 81, 82, 39, 13, 12, 83, 84, 85, 86, 40, 87, 88, 89, 90, 37, 91, 92, 93, 94, 38, 33, 34, 35, 36, 95, 96, 97, 98, 99, 100, 101, 128, 129, 130, 131, 132, 133, 134, 135, 136, 137, 138, 139] (by decide +kernel) (by decide +kernel)
set_option maxRecDepth 20000 in
theorem gX5_takeTurn_X4_pass : GoodIn wsX5_takeTurn (wsV RX5 129 RX4 yX4_pass wsX4_pass) := goodIn_app (goodIn_of _ (by decide +kernel)) ggX5_takeTurn_X4_pass
theorem dX5_takeTurn_0 : decode cX5_takeTurn 0 = .ok (.iload_n 1, 1) := by decide +kernel
theorem dX5_takeTurn_1 : decode cX5_takeTurn 1 = .ok (.bipush 8, 2) := by decide +kernel
theorem dX5_takeTurn_3 : decode cX5_takeTurn 3 = .ok (.idiv, 1) := by decide +kernel
theorem dX5_takeTurn_4 : decode cX5_takeTurn 4 = .ok (.istore_n 2, 1) := by decide +kernel
theorem dX5_takeTurn_5 : decode cX5_takeTurn 5 = .ok (.iload_n 1, 1) := by decide +kernel
theorem dX5_takeTurn_6 : decode cX5_takeTurn 6 = .ok (.bipush 8, 2) := by decide +kernel
theorem dX5_takeTurn_8 : decode cX5_takeTurn 8 = .ok (.irem, 1) := by decide +kernel
theorem dX5_takeTurn_9 : decode cX5_takeTurn 9 = .ok (.tableswitch 138 0 5 #[39, 39, 39, 54, 75, 124], 39) := by decide +kernel
theorem dX5_takeTurn_48 : decode cX5_takeTurn 48 = .ok (.aload_n 0, 1) := by decide +kernel
theorem dX5_takeTurn_49 : decode cX5_takeTurn 49 = .ok (.getfield 23, 3) := by decide +kernel
theorem dX5_takeTurn_52 : decode cX5_takeTurn 52 = .ok (.iload_n 2, 1) := by decide +kernel
theorem dX5_takeTurn_53 : decode cX5_takeTurn 53 = .ok (.bipush 64, 2) := by decide +kernel
theorem dX5_takeTurn_55 : decode cX5_takeTurn 55 = .ok (.irem, 1) := by decide +kernel
theorem dX5_takeTurn_56 : decode cX5_takeTurn 56 = .ok (.invokevirtual 112, 3) := by decide +kernel
theorem dX5_takeTurn_59 : decode cX5_takeTurn 59 = .ok (.pop, 1) := by decide +kernel
theorem dX5_takeTurn_60 : decode cX5_takeTurn 60 = .ok (.goto 101, 3) := by decide +kernel
theorem dX5_takeTurn_63 : decode cX5_takeTurn 63 = .ok (.aload_n 0, 1) := by decide +kernel
theorem dX5_takeTurn_64 : decode cX5_takeTurn 64 = .ok (.getfield 23, 3) := by decide +kernel
theorem dX5_takeTurn_67 : decode cX5_takeTurn 67 = .ok (.iload_n 2, 1) := by decide +kernel
theorem dX5_takeTurn_68 : decode cX5_takeTurn 68 = .ok (.bipush 64, 2) := by decide +kernel
theorem dX5_takeTurn_70 : decode cX5_takeTurn 70 = .ok (.irem, 1) := by decide +kernel
theorem dX5_takeTurn_71 : decode cX5_takeTurn 71 = .ok (.iload_n 2, 1) := by decide +kernel
theorem dX5_takeTurn_72 : decode cX5_takeTurn 72 = .ok (.bipush 64, 2) := by decide +kernel
theorem dX5_takeTurn_74 : decode cX5_takeTurn 74 = .ok (.idiv, 1) := by decide +kernel
theorem dX5_takeTurn_75 : decode cX5_takeTurn 75 = .ok (.iconst 4, 1) := by decide +kernel
theorem dX5_takeTurn_76 : decode cX5_takeTurn 76 = .ok (.irem, 1) := by decide +kernel
theorem dX5_takeTurn_77 : decode cX5_takeTurn 77 = .ok (.invokevirtual 116, 3) := by decide +kernel
theorem dX5_takeTurn_80 : decode cX5_takeTurn 80 = .ok (.pop, 1) := by decide +kernel
theorem dX5_takeTurn_81 : decode cX5_takeTurn 81 = .ok (.goto 80, 3) := by decide +kernel
theorem dX5_takeTurn_84 : decode cX5_takeTurn 84 = .ok (.iload_n 2, 1) := by decide +kernel
theorem dX5_takeTurn_85 : decode cX5_takeTurn 85 = .ok (.bipush 16, 2) := by decide +kernel
theorem dX5_takeTurn_87 : decode cX5_takeTurn 87 = .ok (.idiv, 1) := by decide +kernel
theorem dX5_takeTurn_88 : decode cX5_takeTurn 88 = .ok (.iconst 3, 1) := by decide +kernel
theorem dX5_takeTurn_89 : decode cX5_takeTurn 89 = .ok (.irem, 1) := by decide +kernel
theorem dX5_takeTurn_90 : decode cX5_takeTurn 90 = .ok (.ifCond .ne 22, 3) := by decide +kernel
theorem dX5_takeTurn_93 : decode cX5_takeTurn 93 = .ok (.aload_n 0, 1) := by decide +kernel
theorem dX5_takeTurn_94 : decode cX5_takeTurn 94 = .ok (.getfield 23, 3) := by decide +kernel
theorem dX5_takeTurn_97 : decode cX5_takeTurn 97 = .ok (.iload_n 2, 1) := by decide +kernel
theorem dX5_takeTurn_98 : decode cX5_takeTurn 98 = .ok (.iconst 4, 1) := by decide +kernel
theorem dX5_takeTurn_99 : decode cX5_takeTurn 99 = .ok (.irem, 1) := by decide +kernel
theorem dX5_takeTurn_100 : decode cX5_takeTurn 100 = .ok (.iload_n 2, 1) := by decide +kernel
theorem dX5_takeTurn_101 : decode cX5_takeTurn 101 = .ok (.iconst 4, 1) := by decide +kernel
theorem dX5_takeTurn_102 : decode cX5_takeTurn 102 = .ok (.idiv, 1) := by decide +kernel
theorem dX5_takeTurn_103 : decode cX5_takeTurn 103 = .ok (.iconst 3, 1) := by decide +kernel
theorem dX5_takeTurn_104 : decode cX5_takeTurn 104 = .ok (.irem, 1) := by decide +kernel
theorem dX5_takeTurn_105 : decode cX5_takeTurn 105 = .ok (.invokevirtual 120, 3) := by decide +kernel
theorem dX5_takeTurn_108 : decode cX5_takeTurn 108 = .ok (.pop, 1) := by decide +kernel
theorem dX5_takeTurn_109 : decode cX5_takeTurn 109 = .ok (.goto 52, 3) := by decide +kernel
theorem dX5_takeTurn_112 : decode cX5_takeTurn 112 = .ok (.aload_n 0, 1) := by decide +kernel
theorem dX5_takeTurn_113 : decode cX5_takeTurn 113 = .ok (.getfield 23, 3) := by decide +kernel
theorem dX5_takeTurn_116 : decode cX5_takeTurn 116 = .ok (.iload_n 2, 1) := by decide +kernel
theorem dX5_takeTurn_117 : decode cX5_takeTurn 117 = .ok (.bipush 64, 2) := by decide +kernel
theorem dX5_takeTurn_119 : decode cX5_takeTurn 119 = .ok (.idiv, 1) := by decide +kernel
theorem dX5_takeTurn_120 : decode cX5_takeTurn 120 = .ok (.bipush 64, 2) := by decide +kernel
theorem dX5_takeTurn_122 : decode cX5_takeTurn 122 = .ok (.irem, 1) := by decide +kernel
theorem dX5_takeTurn_123 : decode cX5_takeTurn 123 = .ok (.iload_n 2, 1) := by decide +kernel
theorem dX5_takeTurn_124 : decode cX5_takeTurn 124 = .ok (.iconst 4, 1) := by decide +kernel
theorem dX5_takeTurn_125 : decode cX5_takeTurn 125 = .ok (.irem, 1) := by decide +kernel
theorem dX5_takeTurn_126 : decode cX5_takeTurn 126 = .ok (.invokevirtual 126, 3) := by decide +kernel
theorem dX5_takeTurn_129 : decode cX5_takeTurn 129 = .ok (.pop, 1) := by decide +kernel
theorem dX5_takeTurn_130 : decode cX5_takeTurn 130 = .ok (.goto 31, 3) := by decide +kernel
theorem dX5_takeTurn_133 : decode cX5_takeTurn 133 = .ok (.aload_n 0, 1) := by decide +kernel
theorem dX5_takeTurn_134 : decode cX5_takeTurn 134 = .ok (.getfield 23, 3) := by decide +kernel
theorem dX5_takeTurn_137 : decode cX5_takeTurn 137 = .ok (.iload_n 2, 1) := by decide +kernel
theorem dX5_takeTurn_138 : decode cX5_takeTurn 138 = .ok (.iconst 3, 1) := by decide +kernel
theorem dX5_takeTurn_139 : decode cX5_takeTurn 139 = .ok (.irem, 1) := by decide +kernel
theorem dX5_takeTurn_140 : decode cX5_takeTurn 140 = .ok (.invokevirtual 123, 3) := by decide +kernel
theorem dX5_takeTurn_143 : decode cX5_takeTurn 143 = .ok (.pop, 1) := by decide +kernel
theorem dX5_takeTurn_144 : decode cX5_takeTurn 144 = .ok (.goto 17, 3) := by decide +kernel
theorem dX5_takeTurn_147 : decode cX5_takeTurn 147 = .ok (.aload_n 0, 1) := by decide +kernel
theorem dX5_takeTurn_148 : decode cX5_takeTurn 148 = .ok (.getfield 23, 3) := by decide +kernel
theorem dX5_takeTurn_151 : decode cX5_takeTurn 151 = .ok (.iconst 1, 1) := by decide +kernel
theorem dX5_takeTurn_152 : decode cX5_takeTurn 152 = .ok (.iload_n 2, 1) := by decide +kernel
theorem dX5_takeTurn_153 : decode cX5_takeTurn 153 = .ok (.bipush 6, 2) := by decide +kernel
theorem dX5_takeTurn_155 : decode cX5_takeTurn 155 = .ok (.irem, 1) := by decide +kernel
theorem dX5_takeTurn_156 : decode cX5_takeTurn 156 = .ok (.iadd, 1) := by decide +kernel
theorem dX5_takeTurn_157 : decode cX5_takeTurn 157 = .ok (.invokevirtual 129, 3) := by decide +kernel
theorem dX5_takeTurn_160 : decode cX5_takeTurn 160 = .ok (.pop, 1) := by decide +kernel
theorem dX5_takeTurn_161 : decode cX5_takeTurn 161 = .ok (.return_, 1) := by decide +kernel
set_option maxRecDepth 20000 in
theorem ggX5_save_X5_needSlot : GoodIn wsX5_save wsX5_needSlot := goodIn_ca (goodIn_r _ [7, 8, 9] (by decide +kernel) (by decide +kernel)) (goodIn_sub (fun _ h => List.mem_cons_of_mem _ (List.mem_append_right _ h)) (by decide +kernel))
set_option maxRecDepth 20000 in
theorem gX5_save_X5_needSlot : GoodIn wsX5_save (wsV RX5 287 RX5 yX5_needSlot wsX5_needSlot) := goodIn_app (goodIn_of _ (by decide +kernel)) ggX5_save_X5_needSlot
set_option maxRecDepth 20000 in
theorem ggX5_save_X5_slotAt : GoodIn wsX5_save wsX5_slotAt := goodIn_r _ [13, 14, 15, 40, 41, 42, 43, 44, 45, 46, 47] (by decide +kernel) (by decide +kernel)
set_option maxRecDepth 20000 in
theorem gX5_save_X5_slotAt : GoodIn wsX5_save (wsV RX5 290 RX5 yX5_slotAt wsX5_slotAt) := goodIn_app (goodIn_of _ (by decide +kernel)) ggX5_save_X5_slotAt
set_option maxRecDepth 20000 in
theorem ggX5_save_X2_put : GoodIn wsX5_save wsX2_put := goodIn_r _ [20, 21, 22, 23, 24, 25, 26, 27, 28, 29, 30, 31, 32, 33, 34, 35, 36, 37, 38, 39, 60, 61, 48, 49, 50, 51, 52, 53, 54, 55, 56, 57, 58, 59] (by decide +kernel) (by decide +kernel)
set_option maxRecDepth 20000 in
theorem gX5_save_X2_put : GoodIn wsX5_save (wsV RX5 294 RX2 yX2_put wsX2_put) := goodIn_app (goodIn_of _ (by decide +kernel)) ggX5_save_X2_put
theorem dX5_save_0 : decode cX5_save 0 = .ok (.aload_n 0, 1) := by decide +kernel
theorem dX5_save_1 : decode cX5_save 1 = .ok (.iload_n 1, 1) := by decide +kernel
theorem dX5_save_2 : decode cX5_save 2 = .ok (.invokevirtual 287, 3) := by decide +kernel
theorem dX5_save_5 : decode cX5_save 5 = .ok (.aload_n 0, 1) := by decide +kernel
theorem dX5_save_6 : decode cX5_save 6 = .ok (.iload_n 1, 1) := by decide +kernel
theorem dX5_save_7 : decode cX5_save 7 = .ok (.invokevirtual 290, 3) := by decide +kernel
theorem dX5_save_10 : decode cX5_save 10 = .ok (.aload_n 0, 1) := by decide +kernel
theorem dX5_save_11 : decode cX5_save 11 = .ok (.getfield 19, 3) := by decide +kernel
theorem dX5_save_14 : decode cX5_save 14 = .ok (.invokevirtual 294, 3) := by decide +kernel
theorem dX5_save_17 : decode cX5_save 17 = .ok (.aload_n 0, 1) := by decide +kernel
theorem dX5_save_18 : decode cX5_save 18 = .ok (.getfield 19, 3) := by decide +kernel
theorem dX5_save_21 : decode cX5_save 21 = .ok (.getfield 154, 3) := by decide +kernel
theorem dX5_save_24 : decode cX5_save 24 = .ok (.ireturn, 1) := by decide +kernel
set_option maxRecDepth 20000 in
theorem ggX5_restore_X5_needSlot : GoodIn wsX5_restore wsX5_needSlot := goodIn_ca (goodIn_r _ [12, 13, 14] (by decide +kernel) (by decide +kernel)) (goodIn_sub (fun _ h => List.mem_cons_of_mem _ (List.mem_append_right _ h)) (by decide +kernel))
set_option maxRecDepth 20000 in
theorem gX5_restore_X5_needSlot : GoodIn wsX5_restore (wsV RX5 287 RX5 yX5_needSlot wsX5_needSlot) := goodIn_app (goodIn_of _ (by decide +kernel)) ggX5_restore_X5_needSlot
set_option maxRecDepth 20000 in
theorem ggX5_restore_X5_slotAt : GoodIn wsX5_restore wsX5_slotAt := goodIn_r _ [18, 19, 20, 46, 47, 48, 49, 50, 51, 52, 53] (by decide +kernel) (by decide +kernel)
set_option maxRecDepth 20000 in
theorem gX5_restore_X5_slotAt : GoodIn wsX5_restore (wsV RX5 290 RX5 yX5_slotAt wsX5_slotAt) := goodIn_app (goodIn_of _ (by decide +kernel)) ggX5_restore_X5_slotAt
set_option maxRecDepth 20000 in
theorem ggX5_restore_X4_copy : GoodIn wsX5_restore wsX4_copy := goodIn_r _ [25, 26, 27, 28, 29, 30, 31, 32, 33, 34, 35, 36, 37, 54, 55, 56, 57, 58, 59, 60, 61, 62, 63, 64, 65] (by decide +kernel) (by decide +kernel)
set_option maxRecDepth 20000 in
theorem gX5_restore_X4_copy : GoodIn wsX5_restore (wsV RX5 246 RX4 yX4_copy wsX4_copy) := goodIn_app (goodIn_of _ (by decide +kernel)) ggX5_restore_X4_copy
set_option maxRecDepth 20000 in
theorem ggX5_restore_X1_forget : GoodIn wsX5_restore wsX1_forget := goodIn_r _ [42, 43, 66, 67, 68] (by decide +kernel) (by decide +kernel)
set_option maxRecDepth 20000 in
theorem gX5_restore_X1_forget : GoodIn wsX5_restore (wsV RX5 82 RX1 yX1_forget wsX1_forget) := goodIn_app (goodIn_of _ (by decide +kernel)) ggX5_restore_X1_forget
theorem dX5_restore_0 : decode cX5_restore 0 = .ok (.aload_n 0, 1) := by decide +kernel
theorem dX5_restore_1 : decode cX5_restore 1 = .ok (.iload_n 1, 1) := by decide +kernel
theorem dX5_restore_2 : decode cX5_restore 2 = .ok (.invokevirtual 287, 3) := by decide +kernel
theorem dX5_restore_5 : decode cX5_restore 5 = .ok (.aload_n 0, 1) := by decide +kernel
theorem dX5_restore_6 : decode cX5_restore 6 = .ok (.iload_n 1, 1) := by decide +kernel
theorem dX5_restore_7 : decode cX5_restore 7 = .ok (.invokevirtual 290, 3) := by decide +kernel
theorem dX5_restore_10 : decode cX5_restore 10 = .ok (.astore_n 2, 1) := by decide +kernel
theorem dX5_restore_11 : decode cX5_restore 11 = .ok (.aload_n 2, 1) := by decide +kernel
theorem dX5_restore_12 : decode cX5_restore 12 = .ok (.getfield 297, 3) := by decide +kernel
theorem dX5_restore_15 : decode cX5_restore 15 = .ok (.ifCond .ne 14, 3) := by decide +kernel
theorem dX5_restore_18 : decode cX5_restore 18 = .ok (.new 62, 3) := by decide +kernel
theorem dX5_restore_21 : decode cX5_restore 21 = .ok (.dup, 1) := by decide +kernel
theorem dX5_restore_22 : decode cX5_restore 22 = .ok (.ldc_w 301, 3) := by decide +kernel
theorem dX5_restore_25 : decode cX5_restore 25 = .ok (.invokespecial 66, 3) := by decide +kernel
theorem dX5_restore_28 : decode cX5_restore 28 = .ok (.athrow, 1) := by decide +kernel
theorem dX5_restore_29 : decode cX5_restore 29 = .ok (.aload_n 0, 1) := by decide +kernel
theorem dX5_restore_30 : decode cX5_restore 30 = .ok (.getfield 19, 3) := by decide +kernel
theorem dX5_restore_33 : decode cX5_restore 33 = .ok (.aload_n 2, 1) := by decide +kernel
theorem dX5_restore_34 : decode cX5_restore 34 = .ok (.getfield 303, 3) := by decide +kernel
theorem dX5_restore_37 : decode cX5_restore 37 = .ok (.invokevirtual 246, 3) := by decide +kernel
theorem dX5_restore_40 : decode cX5_restore 40 = .ok (.aload_n 0, 1) := by decide +kernel
theorem dX5_restore_41 : decode cX5_restore 41 = .ok (.getfield 29, 3) := by decide +kernel
theorem dX5_restore_44 : decode cX5_restore 44 = .ok (.invokevirtual 82, 3) := by decide +kernel
theorem dX5_restore_47 : decode cX5_restore 47 = .ok (.aload_n 0, 1) := by decide +kernel
theorem dX5_restore_48 : decode cX5_restore 48 = .ok (.getfield 19, 3) := by decide +kernel
theorem dX5_restore_51 : decode cX5_restore 51 = .ok (.getfield 154, 3) := by decide +kernel
theorem dX5_restore_54 : decode cX5_restore 54 = .ok (.ireturn, 1) := by decide +kernel
theorem dX5_slotAt_0 : decode cX5_slotAt 0 = .ok (.iload_n 1, 1) := by decide +kernel
theorem dX5_slotAt_1 : decode cX5_slotAt 1 = .ok (.ifCond .ne 10, 3) := by decide +kernel
theorem dX5_slotAt_4 : decode cX5_slotAt 4 = .ok (.aload_n 0, 1) := by decide +kernel
theorem dX5_slotAt_5 : decode cX5_slotAt 5 = .ok (.getfield 36, 3) := by decide +kernel
theorem dX5_slotAt_8 : decode cX5_slotAt 8 = .ok (.goto 7, 3) := by decide +kernel
theorem dX5_slotAt_11 : decode cX5_slotAt 11 = .ok (.aload_n 0, 1) := by decide +kernel
theorem dX5_slotAt_12 : decode cX5_slotAt 12 = .ok (.getfield 40, 3) := by decide +kernel
theorem dX5_slotAt_15 : decode cX5_slotAt 15 = .ok (.areturn, 1) := by decide +kernel
theorem dX5_needSlot_0 : decode cX5_needSlot 0 = .ok (.iload_n 1, 1) := by decide +kernel
theorem dX5_needSlot_1 : decode cX5_needSlot 1 = .ok (.ifCond .lt 8, 3) := by decide +kernel
theorem dX5_needSlot_4 : decode cX5_needSlot 4 = .ok (.iload_n 1, 1) := by decide +kernel
theorem dX5_needSlot_5 : decode cX5_needSlot 5 = .ok (.iconst 1, 1) := by decide +kernel
theorem dX5_needSlot_6 : decode cX5_needSlot 6 = .ok (.if_icmp .le 14, 3) := by decide +kernel
theorem dX5_needSlot_9 : decode cX5_needSlot 9 = .ok (.new 306, 3) := by decide +kernel
theorem dX5_needSlot_12 : decode cX5_needSlot 12 = .ok (.dup, 1) := by decide +kernel
theorem dX5_needSlot_13 : decode cX5_needSlot 13 = .ok (.ldc_w 308, 3) := by decide +kernel
theorem dX5_needSlot_16 : decode cX5_needSlot 16 = .ok (.invokespecial 310, 3) := by decide +kernel
theorem dX5_needSlot_19 : decode cX5_needSlot 19 = .ok (.athrow, 1) := by decide +kernel
theorem dX5_needSlot_20 : decode cX5_needSlot 20 = .ok (.return_, 1) := by decide +kernel
set_option maxRecDepth 20000 in
theorem ggX5_needCell_X4_hasCell : GoodIn wsX5_needCell wsX4_hasCell := goodIn_r _ [8, 9, 10, 19, 20, 21, 22, 23, 24, 25, 26, 27, 28, 29, 30] (by decide +kernel) (by decide +kernel)
set_option maxRecDepth 20000 in
theorem gX5_needCell_X4_hasCell : GoodIn wsX5_needCell (wsV RX5 277 RX4 yX4_hasCell wsX4_hasCell) := goodIn_app (goodIn_of _ (by decide +kernel)) ggX5_needCell_X4_hasCell
theorem dX5_needCell_0 : decode cX5_needCell 0 = .ok (.aload_n 0, 1) := by decide +kernel
theorem dX5_needCell_1 : decode cX5_needCell 1 = .ok (.getfield 19, 3) := by decide +kernel
theorem dX5_needCell_4 : decode cX5_needCell 4 = .ok (.iload_n 1, 1) := by decide +kernel
theorem dX5_needCell_5 : decode cX5_needCell 5 = .ok (.invokevirtual 277, 3) := by decide +kernel
theorem dX5_needCell_8 : decode cX5_needCell 8 = .ok (.ifCond .ne 14, 3) := by decide +kernel
theorem dX5_needCell_11 : decode cX5_needCell 11 = .ok (.new 306, 3) := by decide +kernel
theorem dX5_needCell_14 : decode cX5_needCell 14 = .ok (.dup, 1) := by decide +kernel
theorem dX5_needCell_15 : decode cX5_needCell 15 = .ok (.ldc_w 311, 3) := by decide +kernel
theorem dX5_needCell_18 : decode cX5_needCell 18 = .ok (.invokespecial 310, 3) := by decide +kernel
theorem dX5_needCell_21 : decode cX5_needCell 21 = .ok (.athrow, 1) := by decide +kernel
theorem dX5_needCell_22 : decode cX5_needCell 22 = .ok (.return_, 1) := by decide +kernel
set_option maxRecDepth 20000 in
theorem ggX5_needRange_X5_isWithin : GoodIn wsX5_needRange wsX5_isWithin := goodIn_r _ [6] (by decide +kernel) (by decide +kernel)
set_option maxRecDepth 20000 in
theorem gX5_needRange_X5_isWithin : GoodIn wsX5_needRange (va_wsS RX5 313 yX5_isWithin wsX5_isWithin) := goodIn_app (goodIn_of _ (by decide +kernel)) ggX5_needRange_X5_isWithin
theorem dX5_needRange_0 : decode cX5_needRange 0 = .ok (.iload_n 1, 1) := by decide +kernel
theorem dX5_needRange_1 : decode cX5_needRange 1 = .ok (.iload_n 2, 1) := by decide +kernel
theorem dX5_needRange_2 : decode cX5_needRange 2 = .ok (.iload_n 3, 1) := by decide +kernel
theorem dX5_needRange_3 : decode cX5_needRange 3 = .ok (.invokestatic 313, 3) := by decide +kernel
theorem dX5_needRange_6 : decode cX5_needRange 6 = .ok (.ifCond .ne 14, 3) := by decide +kernel
theorem dX5_needRange_9 : decode cX5_needRange 9 = .ok (.new 163, 3) := by decide +kernel
theorem dX5_needRange_12 : decode cX5_needRange 12 = .ok (.dup, 1) := by decide +kernel
theorem dX5_needRange_13 : decode cX5_needRange 13 = .ok (.ldc_w 317, 3) := by decide +kernel
theorem dX5_needRange_16 : decode cX5_needRange 16 = .ok (.invokespecial 167, 3) := by decide +kernel
theorem dX5_needRange_19 : decode cX5_needRange 19 = .ok (.athrow, 1) := by decide +kernel
theorem dX5_needRange_20 : decode cX5_needRange 20 = .ok (.return_, 1) := by decide +kernel
theorem dX5_needLinearRule_0 : decode cX5_needLinearRule 0 = .ok (.aload_n 0, 1) := by decide +kernel
theorem dX5_needLinearRule_1 : decode cX5_needLinearRule 1 = .ok (.getfield 19, 3) := by decide +kernel
theorem dX5_needLinearRule_4 : decode cX5_needLinearRule 4 = .ok (.getfield 151, 3) := by decide +kernel
theorem dX5_needLinearRule_7 : decode cX5_needLinearRule 7 = .ok (.ifCond .ne 14, 3) := by decide +kernel
theorem dX5_needLinearRule_10 : decode cX5_needLinearRule 10 = .ok (.new 62, 3) := by decide +kernel
theorem dX5_needLinearRule_13 : decode cX5_needLinearRule 13 = .ok (.dup, 1) := by decide +kernel
theorem dX5_needLinearRule_14 : decode cX5_needLinearRule 14 = .ok (.ldc_w 319, 3) := by decide +kernel
theorem dX5_needLinearRule_17 : decode cX5_needLinearRule 17 = .ok (.invokespecial 66, 3) := by decide +kernel
theorem dX5_needLinearRule_20 : decode cX5_needLinearRule 20 = .ok (.athrow, 1) := by decide +kernel
theorem dX5_needLinearRule_21 : decode cX5_needLinearRule 21 = .ok (.return_, 1) := by decide +kernel
theorem dX5_isWithin_0 : decode cX5_isWithin 0 = .ok (.iload_n 0, 1) := by decide +kernel
theorem dX5_isWithin_1 : decode cX5_isWithin 1 = .ok (.iload_n 1, 1) := by decide +kernel
theorem dX5_isWithin_2 : decode cX5_isWithin 2 = .ok (.if_icmp .lt 12, 3) := by decide +kernel
theorem dX5_isWithin_5 : decode cX5_isWithin 5 = .ok (.iload_n 0, 1) := by decide +kernel
theorem dX5_isWithin_6 : decode cX5_isWithin 6 = .ok (.iload_n 2, 1) := by decide +kernel
theorem dX5_isWithin_7 : decode cX5_isWithin 7 = .ok (.if_icmp .gt 7, 3) := by decide +kernel
theorem dX5_isWithin_10 : decode cX5_isWithin 10 = .ok (.iconst 1, 1) := by decide +kernel
theorem dX5_isWithin_11 : decode cX5_isWithin 11 = .ok (.goto 4, 3) := by decide +kernel
theorem dX5_isWithin_14 : decode cX5_isWithin 14 = .ok (.iconst 0, 1) := by decide +kernel
theorem dX5_isWithin_15 : decode cX5_isWithin 15 = .ok (.ireturn, 1) := by decide +kernel
theorem dX5_holds_0 : decode cX5_holds 0 = .ok (.lload_n 0, 1) := by decide +kernel
theorem dX5_holds_1 : decode cX5_holds 1 = .ok (.iload_n 2, 1) := by decide +kernel
theorem dX5_holds_2 : decode cX5_holds 2 = .ok (.lushr, 1) := by decide +kernel
theorem dX5_holds_3 : decode cX5_holds 3 = .ok (.lconst 1, 1) := by decide +kernel
theorem dX5_holds_4 : decode cX5_holds 4 = .ok (.land, 1) := by decide +kernel
theorem dX5_holds_5 : decode cX5_holds 5 = .ok (.lconst 0, 1) := by decide +kernel
theorem dX5_holds_6 : decode cX5_holds 6 = .ok (.lcmp, 1) := by decide +kernel
theorem dX5_holds_7 : decode cX5_holds 7 = .ok (.ifCond .eq 7, 3) := by decide +kernel
theorem dX5_holds_10 : decode cX5_holds 10 = .ok (.iconst 1, 1) := by decide +kernel
theorem dX5_holds_11 : decode cX5_holds 11 = .ok (.goto 4, 3) := by decide +kernel
theorem dX5_holds_14 : decode cX5_holds 14 = .ok (.iconst 0, 1) := by decide +kernel
theorem dX5_holds_15 : decode cX5_holds 15 = .ok (.ireturn, 1) := by decide +kernel
theorem dJ13_bitCount_95d88_0 : decode cJ13_bitCount_95d88 0 = .ok (.lload_n 0, 1) := by decide +kernel
theorem dJ13_bitCount_95d88_1 : decode cJ13_bitCount_95d88 1 = .ok (.lload_n 0, 1) := by decide +kernel
theorem dJ13_bitCount_95d88_2 : decode cJ13_bitCount_95d88 2 = .ok (.iconst 1, 1) := by decide +kernel
theorem dJ13_bitCount_95d88_3 : decode cJ13_bitCount_95d88 3 = .ok (.lushr, 1) := by decide +kernel
theorem dJ13_bitCount_95d88_4 : decode cJ13_bitCount_95d88 4 = .ok (.ldc2_w 314, 3) := by decide +kernel
theorem dJ13_bitCount_95d88_7 : decode cJ13_bitCount_95d88 7 = .ok (.land, 1) := by decide +kernel
theorem dJ13_bitCount_95d88_8 : decode cJ13_bitCount_95d88 8 = .ok (.lsub, 1) := by decide +kernel
theorem dJ13_bitCount_95d88_9 : decode cJ13_bitCount_95d88 9 = .ok (.lstore_n 0, 1) := by decide +kernel
theorem dJ13_bitCount_95d88_10 : decode cJ13_bitCount_95d88 10 = .ok (.lload_n 0, 1) := by decide +kernel
theorem dJ13_bitCount_95d88_11 : decode cJ13_bitCount_95d88 11 = .ok (.ldc2_w 316, 3) := by decide +kernel
theorem dJ13_bitCount_95d88_14 : decode cJ13_bitCount_95d88 14 = .ok (.land, 1) := by decide +kernel
theorem dJ13_bitCount_95d88_15 : decode cJ13_bitCount_95d88 15 = .ok (.lload_n 0, 1) := by decide +kernel
theorem dJ13_bitCount_95d88_16 : decode cJ13_bitCount_95d88 16 = .ok (.iconst 2, 1) := by decide +kernel
theorem dJ13_bitCount_95d88_17 : decode cJ13_bitCount_95d88 17 = .ok (.lushr, 1) := by decide +kernel
theorem dJ13_bitCount_95d88_18 : decode cJ13_bitCount_95d88 18 = .ok (.ldc2_w 316, 3) := by decide +kernel
theorem dJ13_bitCount_95d88_21 : decode cJ13_bitCount_95d88 21 = .ok (.land, 1) := by decide +kernel
theorem dJ13_bitCount_95d88_22 : decode cJ13_bitCount_95d88 22 = .ok (.ladd, 1) := by decide +kernel
theorem dJ13_bitCount_95d88_23 : decode cJ13_bitCount_95d88 23 = .ok (.lstore_n 0, 1) := by decide +kernel
theorem dJ13_bitCount_95d88_24 : decode cJ13_bitCount_95d88 24 = .ok (.lload_n 0, 1) := by decide +kernel
theorem dJ13_bitCount_95d88_25 : decode cJ13_bitCount_95d88 25 = .ok (.lload_n 0, 1) := by decide +kernel
theorem dJ13_bitCount_95d88_26 : decode cJ13_bitCount_95d88 26 = .ok (.iconst 4, 1) := by decide +kernel
theorem dJ13_bitCount_95d88_27 : decode cJ13_bitCount_95d88 27 = .ok (.lushr, 1) := by decide +kernel
theorem dJ13_bitCount_95d88_28 : decode cJ13_bitCount_95d88 28 = .ok (.ladd, 1) := by decide +kernel
theorem dJ13_bitCount_95d88_29 : decode cJ13_bitCount_95d88 29 = .ok (.ldc2_w 318, 3) := by decide +kernel
theorem dJ13_bitCount_95d88_32 : decode cJ13_bitCount_95d88 32 = .ok (.land, 1) := by decide +kernel
theorem dJ13_bitCount_95d88_33 : decode cJ13_bitCount_95d88 33 = .ok (.lstore_n 0, 1) := by decide +kernel
theorem dJ13_bitCount_95d88_34 : decode cJ13_bitCount_95d88 34 = .ok (.lload_n 0, 1) := by decide +kernel
theorem dJ13_bitCount_95d88_35 : decode cJ13_bitCount_95d88 35 = .ok (.lload_n 0, 1) := by decide +kernel
theorem dJ13_bitCount_95d88_36 : decode cJ13_bitCount_95d88 36 = .ok (.bipush 8, 2) := by decide +kernel
theorem dJ13_bitCount_95d88_38 : decode cJ13_bitCount_95d88 38 = .ok (.lushr, 1) := by decide +kernel
theorem dJ13_bitCount_95d88_39 : decode cJ13_bitCount_95d88 39 = .ok (.ladd, 1) := by decide +kernel
theorem dJ13_bitCount_95d88_40 : decode cJ13_bitCount_95d88 40 = .ok (.lstore_n 0, 1) := by decide +kernel
theorem dJ13_bitCount_95d88_41 : decode cJ13_bitCount_95d88 41 = .ok (.lload_n 0, 1) := by decide +kernel
theorem dJ13_bitCount_95d88_42 : decode cJ13_bitCount_95d88 42 = .ok (.lload_n 0, 1) := by decide +kernel
theorem dJ13_bitCount_95d88_43 : decode cJ13_bitCount_95d88 43 = .ok (.bipush 16, 2) := by decide +kernel
theorem dJ13_bitCount_95d88_45 : decode cJ13_bitCount_95d88 45 = .ok (.lushr, 1) := by decide +kernel
theorem dJ13_bitCount_95d88_46 : decode cJ13_bitCount_95d88 46 = .ok (.ladd, 1) := by decide +kernel
theorem dJ13_bitCount_95d88_47 : decode cJ13_bitCount_95d88 47 = .ok (.lstore_n 0, 1) := by decide +kernel
theorem dJ13_bitCount_95d88_48 : decode cJ13_bitCount_95d88 48 = .ok (.lload_n 0, 1) := by decide +kernel
theorem dJ13_bitCount_95d88_49 : decode cJ13_bitCount_95d88 49 = .ok (.lload_n 0, 1) := by decide +kernel
theorem dJ13_bitCount_95d88_50 : decode cJ13_bitCount_95d88 50 = .ok (.bipush 32, 2) := by decide +kernel
theorem dJ13_bitCount_95d88_52 : decode cJ13_bitCount_95d88 52 = .ok (.lushr, 1) := by decide +kernel
theorem dJ13_bitCount_95d88_53 : decode cJ13_bitCount_95d88 53 = .ok (.ladd, 1) := by decide +kernel
theorem dJ13_bitCount_95d88_54 : decode cJ13_bitCount_95d88 54 = .ok (.lstore_n 0, 1) := by decide +kernel
theorem dJ13_bitCount_95d88_55 : decode cJ13_bitCount_95d88 55 = .ok (.lload_n 0, 1) := by decide +kernel
theorem dJ13_bitCount_95d88_56 : decode cJ13_bitCount_95d88 56 = .ok (.l2i, 1) := by decide +kernel
theorem dJ13_bitCount_95d88_57 : decode cJ13_bitCount_95d88 57 = .ok (.bipush 127, 2) := by decide +kernel
theorem dJ13_bitCount_95d88_59 : decode cJ13_bitCount_95d88 59 = .ok (.iand, 1) := by decide +kernel
theorem dJ13_bitCount_95d88_60 : decode cJ13_bitCount_95d88 60 = .ok (.ireturn, 1) := by decide +kernel
theorem dJ9_max_7cf53_0 : decode cJ9_max_7cf53 0 = .ok (.iload_n 0, 1) := by decide +kernel
theorem dJ9_max_7cf53_1 : decode cJ9_max_7cf53 1 = .ok (.iload_n 1, 1) := by decide +kernel
theorem dJ9_max_7cf53_2 : decode cJ9_max_7cf53 2 = .ok (.if_icmp .lt 7, 3) := by decide +kernel
theorem dJ9_max_7cf53_5 : decode cJ9_max_7cf53 5 = .ok (.iload_n 0, 1) := by decide +kernel
theorem dJ9_max_7cf53_6 : decode cJ9_max_7cf53 6 = .ok (.goto 4, 3) := by decide +kernel
theorem dJ9_max_7cf53_9 : decode cJ9_max_7cf53 9 = .ok (.iload_n 1, 1) := by decide +kernel
theorem dJ9_max_7cf53_10 : decode cJ9_max_7cf53 10 = .ok (.ireturn, 1) := by decide +kernel
theorem dJ9_min_7cf53_0 : decode cJ9_min_7cf53 0 = .ok (.iload_n 0, 1) := by decide +kernel
theorem dJ9_min_7cf53_1 : decode cJ9_min_7cf53 1 = .ok (.iload_n 1, 1) := by decide +kernel
theorem dJ9_min_7cf53_2 : decode cJ9_min_7cf53 2 = .ok (.if_icmp .gt 7, 3) := by decide +kernel
theorem dJ9_min_7cf53_5 : decode cJ9_min_7cf53 5 = .ok (.iload_n 0, 1) := by decide +kernel
theorem dJ9_min_7cf53_6 : decode cJ9_min_7cf53 6 = .ok (.goto 4, 3) := by decide +kernel
theorem dJ9_min_7cf53_9 : decode cJ9_min_7cf53 9 = .ok (.iload_n 1, 1) := by decide +kernel
theorem dJ9_min_7cf53_10 : decode cJ9_min_7cf53 10 = .ok (.ireturn, 1) := by decide +kernel
