set_option maxRecDepth 20000 in
theorem ggL_looks_X5_coming : GoodIn wsL_looks wsX5_coming := goodIn_ca (goodIn_r _ [7, 8, 9, 10, 11, 12, 6, 13, 14, 15, 16, 17, 18, 19, 20, 21, 22, 23, 24, 25, 26, 27, 28, 29, 30, 31, 32, 33, 34, 35, 36, 37, 38, 39, 40, 41, 42, 43, 44, 45, 46, 47, 48, 49, 50, 51, 52, 53, 54, 55, 56, 57, 58, 59, 60, 61, 62, 63, 64, 65, 66, 67, 68, 69, 70, 71, 72, 73, 74, 75, 76, 77, 78, 79, 80, 81, 82, 83, 84, 85, 86] (by decide +kernel) (by decide +kernel)) (goodIn_sub (fun _ h => List.mem_cons_of_mem _ (List.mem_append_right _ h)) (by decide +kernel))
set_option maxRecDepth 20000 in
theorem gL_looks_X5_coming : GoodIn wsL_looks (wsV RL 7 RX5 yX5_coming wsX5_coming) := goodIn_app (goodIn_of _ (by decide +kernel)) ggL_looks_X5_coming
theorem dL_looks_0 : decode cL_looks 0 = .ok (.aload_n 0, 1) := by decide +kernel
theorem dL_looks_1 : decode cL_looks 1 = .ok (.iload_n 1, 1) := by decide +kernel
theorem dL_looks_2 : decode cL_looks 2 = .ok (.invokevirtual 7, 3) := by decide +kernel
theorem dL_looks_5 : decode cL_looks 5 = .ok (.lreturn, 1) := by decide +kernel
theorem dL_looks_6 : decode cL_looks 6 = .ok (.astore_n 2, 1) := by decide +kernel
theorem dL_looks_7 : decode cL_looks 7 = .ok (.ldc2_w 15, 3) := by decide +kernel
theorem dL_looks_10 : decode cL_looks 10 = .ok (.lreturn, 1) := by decide +kernel
set_option maxRecDepth 20000 in
theorem ggL_was_X5_before : GoodIn wsL_was wsX5_before := goodIn_ca (goodIn_r _ [7, 8, 9, 10, 11, 12, 6, 13, 14, 15, 16, 17, 18, 19, 20, 21, 22, 23, 24, 25, 26, 27, 28, 29, 30, 31, 32, 33, 34, 35, 36, 37, 38, 39, 40, 41, 42, 43, 44, 45, 46, 47, 48, 49, 50, 51, 52, 53, 54, 55, 56, 57, 58, 59, 60, 61, 62, 63, 64, 65, 66, 67, 68, 69, 70, 71, 72, 73, 74, 75, 76, 77, 78, 79, 80, 81, 82, 83, 84, 85, 86, 87, 88, 89, 90, 91, 92, 93, 94, 95, 96, 97, 98, 99, 100, 101, 102, 103, 104, 105, 106, 107, 108, 109, 110, 111, 112, 113, 114, 115, 116, 117, 118, 119, 120, 121, 122, 123, 124, 125, 126, 127, 128, 129, 130, 131, 132, 133] (by decide +kernel) (by decide +kernel)) (goodIn_sub (fun _ h => List.mem_cons_of_mem _ (List.mem_append_right _ h)) (by decide +kernel))
set_option maxRecDepth 20000 in
theorem gL_was_X5_before : GoodIn wsL_was (wsV RL 17 RX5 yX5_before wsX5_before) := goodIn_app (goodIn_of _ (by decide +kernel)) ggL_was_X5_before
theorem dL_was_0 : decode cL_was 0 = .ok (.aload_n 0, 1) := by decide +kernel
theorem dL_was_1 : decode cL_was 1 = .ok (.invokevirtual 17, 3) := by decide +kernel
theorem dL_was_4 : decode cL_was 4 = .ok (.lreturn, 1) := by decide +kernel
theorem dL_was_5 : decode cL_was 5 = .ok (.astore_n 1, 1) := by decide +kernel
theorem dL_was_6 : decode cL_was 6 = .ok (.ldc2_w 23, 3) := by decide +kernel
theorem dL_was_9 : decode cL_was 9 = .ok (.lreturn, 1) := by decide +kernel
set_option maxRecDepth 20000 in
theorem ggL_doScript_X5_runScript : GoodIn wsL_doScript wsX5_runScript := goodIn_ca (goodIn_r _ [7, 8, 9, 10, 11, 12, 13, 14, 15, 6, 16, 17, 18, 19, 20, 21, 22, 23, 24, 25, 26, 27, 28, 29, 30, 31, 32, 33, 34, 35, 36, 37, 38, 39, 40, 41, 42, 43, 44, 45, 46, 47, 48, 49, 50, 51, 52, 53, 54, 55, 56, 57, 58, 59, 60, 61, 62, 63, 64, 65, 66, 67, 68, 69, 70, 71, 72, 73, 74, 75, 76, 77, 78, 79, 80, 81, 82, 83, 84, 85, 86, 87, 88, 89, 90, 91, 92, 93, 94, 95, 96, 97, 98, 99, 100, 101, 102, 103, 104, 105, 106, 107, 108, 109, 110, 111, 112, 113, 114, 115, 116, 117, 118, 119, 120, 121, 122, 123, 124, 125, 126, 127, 128, 129, 130, 131, 132, 133, 134, 135, 136, 137, 138, 139, 140, 141, 142, 143, 144, 145, 146, 147, 148, 149, 150, 151, 152, 153, 154, 155, 156, 157, 158, 159, 160, 161, 162, 163, 164, 165, 166, 167, 168, 169, 170, 171, 172, 173] (by decide +kernel) (by decide +kernel)) (goodIn_sub (fun _ h => List.mem_cons_of_mem _ (List.mem_append_right _ h)) (by decide +kernel))
set_option maxRecDepth 20000 in
theorem gL_doScript_X5_runScript : GoodIn wsL_doScript (wsV RL 25 RX5 yX5_runScript wsX5_runScript) := goodIn_app (goodIn_of _ (by decide +kernel)) ggL_doScript_X5_runScript
theorem dL_doScript_0 : decode cL_doScript 0 = .ok (.aload_n 0, 1) := by decide +kernel
theorem dL_doScript_1 : decode cL_doScript 1 = .ok (.iload_n 1, 1) := by decide +kernel
theorem dL_doScript_2 : decode cL_doScript 2 = .ok (.lload_n 2, 1) := by decide +kernel
theorem dL_doScript_3 : decode cL_doScript 3 = .ok (.invokevirtual 25, 3) := by decide +kernel
theorem dL_doScript_6 : decode cL_doScript 6 = .ok (.ireturn, 1) := by decide +kernel
theorem dL_doScript_7 : decode cL_doScript 7 = .ok (.astore 4, 2) := by decide +kernel
theorem dL_doScript_9 : decode cL_doScript 9 = .ok (.ldc 29, 2) := by decide +kernel
theorem dL_doScript_11 : decode cL_doScript 11 = .ok (.ireturn, 1) := by decide +kernel
set_option maxRecDepth 20000 in
theorem ggL_doSimulate_X5_simulate : GoodIn wsL_doSimulate wsX5_simulate := goodIn_ca (goodIn_r _ [7, 8, 9, 10, 11, 12, 13, 14, 15, 6, 16, 17, 18, 19, 20, 21, 22, 23, 24, 25, 26, 27, 28, 29, 30, 31, 32, 33, 34, 35, 36, 37, 38, 39, 40, 41, 42, 43, 44, 45, 46, 47, 48, 49, 50, 51, 52, 53, 54, 55, 56, 57, 58, 59, 60, 61, 62, 63, 64, 65, 66, 67, 68, 69, 70, 71, 72, 73, 74, 75, 76, 77, 78, 79, 80, 81, 82, 83, 84, 85, 86, 87, 88, 89, 90, 91, 92, 93, 94, 95, 96, 97, 98, 99, 100, 101, 102, 103, 104, 105, 106, 107, 108, 109, 110, 111, 112, 113, 114, 115, 116, 117, 118, 119, 120, 121, 122, 123, 124, 125, 126, 127, 128, 129, 130, 131, 132, 133, 134, 135, 136, 137, 138, 139, 140, 141, 142, 143, 144, 145, 146, 147, 148, 149, 150, 151, 152, 153, 154, 155, 156, 157, 158, 159, 160, 161, 162, 163, 164, 165, 166, 167, 168, 169, 170, 171, 172, 173] (by decide +kernel) (by decide +kernel)) (goodIn_sub (fun _ h => List.mem_cons_of_mem _ (List.mem_append_right _ h)) (by decide +kernel))
set_option maxRecDepth 20000 in
theorem gL_doSimulate_X5_simulate : GoodIn wsL_doSimulate (wsV RL 30 RX5 yX5_simulate wsX5_simulate) := goodIn_app (goodIn_of _ (by decide +kernel)) ggL_doSimulate_X5_simulate
theorem dL_doSimulate_0 : decode cL_doSimulate 0 = .ok (.aload_n 0, 1) := by decide +kernel
theorem dL_doSimulate_1 : decode cL_doSimulate 1 = .ok (.lload_n 1, 1) := by decide +kernel
theorem dL_doSimulate_2 : decode cL_doSimulate 2 = .ok (.iload_n 3, 1) := by decide +kernel
theorem dL_doSimulate_3 : decode cL_doSimulate 3 = .ok (.invokevirtual 30, 3) := by decide +kernel
theorem dL_doSimulate_6 : decode cL_doSimulate 6 = .ok (.ireturn, 1) := by decide +kernel
theorem dL_doSimulate_7 : decode cL_doSimulate 7 = .ok (.astore 4, 2) := by decide +kernel
theorem dL_doSimulate_9 : decode cL_doSimulate 9 = .ok (.ldc 29, 2) := by decide +kernel
theorem dL_doSimulate_11 : decode cL_doSimulate 11 = .ok (.ireturn, 1) := by decide +kernel
set_option maxRecDepth 20000 in
theorem ggL_tryAppend_X5_append : GoodIn wsL_tryAppend wsX5_append := goodIn_ca (goodIn_ca (goodIn_r _ [9, 10, 11, 12, 13, 14, 15, 8, 16, 17, 18, 19, 20, 21, 22, 23, 24, 25, 26, 27, 28, 29, 30, 31, 32, 33, 34, 35, 36, 37, 38, 39, 40, 41, 42, 43, 44, 45, 46] (by decide +kernel) (by decide +kernel)) (goodIn_sub (fun _ h => List.mem_cons_of_mem _ (List.mem_append_left _ (List.mem_append_right _ h))) (by decide +kernel))) (goodIn_sub (fun _ h => List.mem_cons_of_mem _ (List.mem_append_right _ h)) (by decide +kernel))
set_option maxRecDepth 20000 in
theorem gL_tryAppend_X5_append : GoodIn wsL_tryAppend (wsV RL 34 RX5 yX5_append wsX5_append) := goodIn_app (goodIn_of _ (by decide +kernel)) ggL_tryAppend_X5_append
theorem dL_tryAppend_0 : decode cL_tryAppend 0 = .ok (.aload_n 0, 1) := by decide +kernel
theorem dL_tryAppend_1 : decode cL_tryAppend 1 = .ok (.iload_n 1, 1) := by decide +kernel
theorem dL_tryAppend_2 : decode cL_tryAppend 2 = .ok (.invokevirtual 34, 3) := by decide +kernel
theorem dL_tryAppend_5 : decode cL_tryAppend 5 = .ok (.ireturn, 1) := by decide +kernel
theorem dL_tryAppend_6 : decode cL_tryAppend 6 = .ok (.astore_n 2, 1) := by decide +kernel
theorem dL_tryAppend_7 : decode cL_tryAppend 7 = .ok (.ldc 29, 2) := by decide +kernel
theorem dL_tryAppend_9 : decode cL_tryAppend 9 = .ok (.ireturn, 1) := by decide +kernel
theorem dL_tryAppend_10 : decode cL_tryAppend 10 = .ok (.astore_n 2, 1) := by decide +kernel
theorem dL_tryAppend_11 : decode cL_tryAppend 11 = .ok (.ldc 38, 2) := by decide +kernel
theorem dL_tryAppend_13 : decode cL_tryAppend 13 = .ok (.ireturn, 1) := by decide +kernel
set_option maxRecDepth 20000 in
theorem ggL_tryLoad_X5_load : GoodIn wsL_tryLoad wsX5_load := goodIn_ca (goodIn_r _ [7, 8, 9, 10, 11, 12, 13, 14, 15, 16, 17, 18, 19, 20, 21, 22, 23, 24, 25, 26, 27, 28, 29, 30, 31, 32, 33, 34, 35, 36, 37, 38, 39, 40, 41, 42, 43, 44, 45, 46, 47, 48, 49, 50, 51, 52, 53, 54, 55, 56, 57, 58, 59, 60, 61, 62, 63, 64, 65, 66, 67, 68, 69, 70, 71, 72, 73, 74, 75, 76, 77, 78, 79, 80, 81, 82, 83, 84, 85, 86, 87, 88, 89, 90, 91, 92, 93, 94, 95, 96, 97, 98, 6, 99, 100, 101, 102, 103, 104, 105, 106, 107, 108, 109, 110, 111, 112, 113, 114, 115, 116, 117, 118, 119, 120, 121, 122, 123, 124, 125, 126, 127, 128, 129, 130, 131, 132, 133, 134, 135, 136, 137, 138, 139, 140, 141, 142, 143, 144, 145, 146, 147, 148, 149, 150, 151, 152, 153, 154, 155, 156, 157, 158, 159, 160, 161, 162, 163, 164, 165, 166, 167, 168, 169, 170, 171, 172, 173, 174, 175, 176, 177, 178, 179, 180, 181, 182, 183, 184, 185, 186, 187, 188, 189, 190, 191, 192, 193, 194, 195, 196, 197, 198, 199, 200, 201, 202, 203, 204, 205, 206, 207, 208, 209, 210, 211, 212, 213, 214, 215, 216, 217, 218, 219, 220, 221, 222, 223, 224, 225, 226, 227, 228, 229, 230, 231, 232, 233, 234] (by decide +kernel) (by decide +kernel)) (goodIn_sub (fun _ h => List.mem_cons_of_mem _ (List.mem_append_right _ h)) (by decide +kernel))
set_option maxRecDepth 20000 in
theorem gL_tryLoad_X5_load : GoodIn wsL_tryLoad (wsV RL 39 RX5 yX5_load wsX5_load) := goodIn_app (goodIn_of _ (by decide +kernel)) ggL_tryLoad_X5_load
theorem dL_tryLoad_0 : decode cL_tryLoad 0 = .ok (.aload_n 0, 1) := by decide +kernel
theorem dL_tryLoad_1 : decode cL_tryLoad 1 = .ok (.invokevirtual 39, 3) := by decide +kernel
theorem dL_tryLoad_4 : decode cL_tryLoad 4 = .ok (.ireturn, 1) := by decide +kernel
theorem dL_tryLoad_5 : decode cL_tryLoad 5 = .ok (.astore_n 1, 1) := by decide +kernel
theorem dL_tryLoad_6 : decode cL_tryLoad 6 = .ok (.ldc 38, 2) := by decide +kernel
theorem dL_tryLoad_8 : decode cL_tryLoad 8 = .ok (.ireturn, 1) := by decide +kernel
set_option maxRecDepth 20000 in
theorem ggL_tryAbout_X5_about : GoodIn wsL_tryAbout wsX5_about := goodIn_ca (goodIn_r _ [7, 8, 9, 10, 11, 12, 13, 14, 15, 16, 17, 18, 19, 20, 21, 22, 23, 24, 25, 26, 27, 28, 29, 30, 31, 32, 33, 34, 35, 36, 37, 38, 39, 40, 41, 42, 43, 44, 45, 46, 47, 48, 49, 50, 51, 52, 53, 54, 55, 56, 57, 58, 59, 60, 61, 62, 63, 64, 65, 66, 67, 68, 69, 70, 71, 72, 73, 74, 75, 76, 77, 78, 79, 80, 81, 82, 83, 84, 85, 86, 87, 88, 89, 90, 91, 92, 93, 94, 95, 96, 97, 98, 99, 100, 101, 102, 103] (by decide +kernel) (by decide +kernel)) (goodIn_sub (fun _ h => List.mem_cons_of_mem _ (List.mem_append_right _ h)) (by decide +kernel))
set_option maxRecDepth 20000 in
theorem gL_tryAbout_X5_about : GoodIn wsL_tryAbout (wsV RL 43 RX5 yX5_about wsX5_about) := goodIn_app (goodIn_of _ (by decide +kernel)) ggL_tryAbout_X5_about
theorem dL_tryAbout_0 : decode cL_tryAbout 0 = .ok (.aload_n 0, 1) := by decide +kernel
theorem dL_tryAbout_1 : decode cL_tryAbout 1 = .ok (.iload_n 1, 1) := by decide +kernel
theorem dL_tryAbout_2 : decode cL_tryAbout 2 = .ok (.invokevirtual 43, 3) := by decide +kernel
theorem dL_tryAbout_5 : decode cL_tryAbout 5 = .ok (.ireturn, 1) := by decide +kernel
theorem dL_tryAbout_6 : decode cL_tryAbout 6 = .ok (.astore_n 2, 1) := by decide +kernel
theorem dL_tryAbout_7 : decode cL_tryAbout 7 = .ok (.ldc 29, 2) := by decide +kernel
theorem dL_tryAbout_9 : decode cL_tryAbout 9 = .ok (.ireturn, 1) := by decide +kernel
set_option maxRecDepth 20000 in
theorem ggL_tryCell_X5_cell : GoodIn wsL_tryCell wsX5_cell := goodIn_ca (goodIn_ca (goodIn_r _ [9, 10, 11, 12, 13, 14, 15, 8, 16, 17, 18, 19, 20, 21, 22, 23, 24, 25, 26, 27, 28, 29, 30, 31, 32, 33, 34, 35, 36, 37, 38, 39, 40, 41, 42, 43, 44, 45, 46, 47, 48, 49, 50, 51, 52, 53, 54, 55, 56, 57, 58, 59, 60, 61, 62, 63, 64, 65, 66, 67, 68, 69, 70, 71, 72, 73, 74, 75, 76, 77, 78, 79, 80, 81, 82, 83, 84, 85, 86, 87, 88, 89, 90, 91, 92, 93, 94, 95, 96, 97, 98, 99, 100, 101, 102, 103, 104, 105, 106, 107, 108, 109, 110, 111, 112, 113, 114, 115, 116, 117, 118, 119, 120, 121, 122, 123, 124, 125, 126, 127, 128, 129, 130, 131, 132, 133, 134, 135] (by decide +kernel) (by decide +kernel)) (goodIn_sub (fun _ h => List.mem_cons_of_mem _ (List.mem_append_left _ (List.mem_append_right _ h))) (by decide +kernel))) (goodIn_sub (fun _ h => List.mem_cons_of_mem _ (List.mem_append_right _ h)) (by decide +kernel))
set_option maxRecDepth 20000 in
theorem gL_tryCell_X5_cell : GoodIn wsL_tryCell (wsV RL 46 RX5 yX5_cell wsX5_cell) := goodIn_app (goodIn_of _ (by decide +kernel)) ggL_tryCell_X5_cell
theorem dL_tryCell_0 : decode cL_tryCell 0 = .ok (.aload_n 0, 1) := by decide +kernel
theorem dL_tryCell_1 : decode cL_tryCell 1 = .ok (.iload_n 1, 1) := by decide +kernel
theorem dL_tryCell_2 : decode cL_tryCell 2 = .ok (.iload_n 2, 1) := by decide +kernel
theorem dL_tryCell_3 : decode cL_tryCell 3 = .ok (.invokevirtual 46, 3) := by decide +kernel
theorem dL_tryCell_6 : decode cL_tryCell 6 = .ok (.ireturn, 1) := by decide +kernel
theorem dL_tryCell_7 : decode cL_tryCell 7 = .ok (.astore_n 3, 1) := by decide +kernel
theorem dL_tryCell_8 : decode cL_tryCell 8 = .ok (.ldc 52, 2) := by decide +kernel
theorem dL_tryCell_10 : decode cL_tryCell 10 = .ok (.ireturn, 1) := by decide +kernel
theorem dL_tryCell_11 : decode cL_tryCell 11 = .ok (.astore_n 3, 1) := by decide +kernel
theorem dL_tryCell_12 : decode cL_tryCell 12 = .ok (.ldc 29, 2) := by decide +kernel
theorem dL_tryCell_14 : decode cL_tryCell 14 = .ok (.ireturn, 1) := by decide +kernel
set_option maxRecDepth 20000 in
theorem ggL_tryNext_X5_neighbour : GoodIn wsL_tryNext wsX5_neighbour := goodIn_ca (goodIn_ca (goodIn_r _ [9, 10, 11, 12, 13, 8, 14, 15, 16, 17, 18, 19, 20, 21, 22, 23, 24, 25, 26, 27, 28, 29, 30, 31, 32, 33, 34, 35, 36, 37, 38, 39, 40, 41, 42, 43, 44, 45, 46, 47, 48, 49, 50, 51, 52, 53, 54, 55, 56, 57, 58, 59, 60, 61, 62, 63, 64, 65, 66, 67, 68, 69, 70, 71, 72, 73, 74, 75, 76, 77, 78, 79] (by decide +kernel) (by decide +kernel)) (goodIn_sub (fun _ h => List.mem_cons_of_mem _ (List.mem_append_left _ (List.mem_append_right _ h))) (by decide +kernel))) (goodIn_sub (fun _ h => List.mem_cons_of_mem _ (List.mem_append_right _ h)) (by decide +kernel))
set_option maxRecDepth 20000 in
theorem gL_tryNext_X5_neighbour : GoodIn wsL_tryNext (wsV RL 53 RX5 yX5_neighbour wsX5_neighbour) := goodIn_app (goodIn_of _ (by decide +kernel)) ggL_tryNext_X5_neighbour
theorem dL_tryNext_0 : decode cL_tryNext 0 = .ok (.aload_n 0, 1) := by decide +kernel
theorem dL_tryNext_1 : decode cL_tryNext 1 = .ok (.iload_n 1, 1) := by decide +kernel
theorem dL_tryNext_2 : decode cL_tryNext 2 = .ok (.iload_n 2, 1) := by decide +kernel
theorem dL_tryNext_3 : decode cL_tryNext 3 = .ok (.invokevirtual 53, 3) := by decide +kernel
theorem dL_tryNext_6 : decode cL_tryNext 6 = .ok (.ireturn, 1) := by decide +kernel
theorem dL_tryNext_7 : decode cL_tryNext 7 = .ok (.astore_n 3, 1) := by decide +kernel
theorem dL_tryNext_8 : decode cL_tryNext 8 = .ok (.ldc 52, 2) := by decide +kernel
theorem dL_tryNext_10 : decode cL_tryNext 10 = .ok (.ireturn, 1) := by decide +kernel
theorem dL_tryNext_11 : decode cL_tryNext 11 = .ok (.astore_n 3, 1) := by decide +kernel
theorem dL_tryNext_12 : decode cL_tryNext 12 = .ok (.ldc 29, 2) := by decide +kernel
theorem dL_tryNext_14 : decode cL_tryNext 14 = .ok (.ireturn, 1) := by decide +kernel
set_option maxRecDepth 20000 in
theorem ggL_trySide_X5_side : GoodIn wsL_trySide wsX5_side := goodIn_ca (goodIn_r _ [7, 8, 9, 10, 11, 6, 12, 13, 14, 15, 16, 17, 18, 19, 20, 21, 22, 23, 24, 25, 26, 27, 28, 29, 30, 31, 32, 33, 34, 35, 36, 37, 38, 39, 40, 41, 42, 43] (by decide +kernel) (by decide +kernel)) (goodIn_sub (fun _ h => List.mem_cons_of_mem _ (List.mem_append_right _ h)) (by decide +kernel))
set_option maxRecDepth 20000 in
theorem gL_trySide_X5_side : GoodIn wsL_trySide (wsV RL 56 RX5 yX5_side wsX5_side) := goodIn_app (goodIn_of _ (by decide +kernel)) ggL_trySide_X5_side
theorem dL_trySide_0 : decode cL_trySide 0 = .ok (.aload_n 0, 1) := by decide +kernel
theorem dL_trySide_1 : decode cL_trySide 1 = .ok (.iload_n 1, 1) := by decide +kernel
theorem dL_trySide_2 : decode cL_trySide 2 = .ok (.invokevirtual 56, 3) := by decide +kernel
theorem dL_trySide_5 : decode cL_trySide 5 = .ok (.ireturn, 1) := by decide +kernel
theorem dL_trySide_6 : decode cL_trySide 6 = .ok (.astore_n 2, 1) := by decide +kernel
theorem dL_trySide_7 : decode cL_trySide 7 = .ok (.ldc 29, 2) := by decide +kernel
theorem dL_trySide_9 : decode cL_trySide 9 = .ok (.ireturn, 1) := by decide +kernel
set_option maxRecDepth 20000 in
theorem ggL_trySize_X5_size : GoodIn wsL_trySize wsX5_size := goodIn_ca (goodIn_r _ [7, 8, 9, 10, 11, 12, 6, 13, 14, 15, 16, 17, 18, 19, 20, 21, 22, 23, 24, 25, 26, 27, 28, 29, 30, 31, 32, 33, 34, 35, 36, 37, 38, 39, 40, 41, 42, 43, 44, 45, 46, 47, 48, 49, 50, 51, 52, 53, 54, 55, 56, 57, 58, 59, 60, 61, 62, 63, 64, 65, 66, 67, 68, 69, 70, 71, 72, 73, 74, 75, 76, 77, 78, 79, 80, 81, 82, 83, 84, 85, 86] (by decide +kernel) (by decide +kernel)) (goodIn_sub (fun _ h => List.mem_cons_of_mem _ (List.mem_append_right _ h)) (by decide +kernel))
set_option maxRecDepth 20000 in
theorem gL_trySize_X5_size : GoodIn wsL_trySize (wsV RL 59 RX5 yX5_size wsX5_size) := goodIn_app (goodIn_of _ (by decide +kernel)) ggL_trySize_X5_size
theorem dL_trySize_0 : decode cL_trySize 0 = .ok (.aload_n 0, 1) := by decide +kernel
theorem dL_trySize_1 : decode cL_trySize 1 = .ok (.iload_n 1, 1) := by decide +kernel
theorem dL_trySize_2 : decode cL_trySize 2 = .ok (.iload_n 2, 1) := by decide +kernel
theorem dL_trySize_3 : decode cL_trySize 3 = .ok (.invokevirtual 59, 3) := by decide +kernel
theorem dL_trySize_6 : decode cL_trySize 6 = .ok (.ireturn, 1) := by decide +kernel
theorem dL_trySize_7 : decode cL_trySize 7 = .ok (.astore_n 3, 1) := by decide +kernel
theorem dL_trySize_8 : decode cL_trySize 8 = .ok (.ldc 29, 2) := by decide +kernel
theorem dL_trySize_10 : decode cL_trySize 10 = .ok (.ireturn, 1) := by decide +kernel
set_option maxRecDepth 20000 in
theorem ggL_tryFlip_X5_flip : GoodIn wsL_tryFlip wsX5_flip := goodIn_ca (goodIn_r _ [7, 8, 9, 10, 11, 12, 6, 13, 14, 15, 16, 17, 18, 19, 20, 21, 22, 23, 24, 25, 26, 27, 28, 29, 30, 31, 32, 33, 34, 35, 36, 37, 38, 39, 40, 41, 42, 43, 44, 45, 46, 47, 48, 49, 50, 51, 52, 53, 54, 55, 56, 57, 58, 59, 60, 61, 62, 63, 64, 65, 66, 67, 68, 69, 70, 71, 72, 73, 74, 75, 76, 77, 78, 79, 80, 81, 82, 83, 84, 85, 86] (by decide +kernel) (by decide +kernel)) (goodIn_sub (fun _ h => List.mem_cons_of_mem _ (List.mem_append_right _ h)) (by decide +kernel))
set_option maxRecDepth 20000 in
theorem gL_tryFlip_X5_flip : GoodIn wsL_tryFlip (wsV RL 62 RX5 yX5_flip wsX5_flip) := goodIn_app (goodIn_of _ (by decide +kernel)) ggL_tryFlip_X5_flip
theorem dL_tryFlip_0 : decode cL_tryFlip 0 = .ok (.aload_n 0, 1) := by decide +kernel
theorem dL_tryFlip_1 : decode cL_tryFlip 1 = .ok (.iload_n 1, 1) := by decide +kernel
theorem dL_tryFlip_2 : decode cL_tryFlip 2 = .ok (.invokevirtual 62, 3) := by decide +kernel
theorem dL_tryFlip_5 : decode cL_tryFlip 5 = .ok (.ireturn, 1) := by decide +kernel
theorem dL_tryFlip_6 : decode cL_tryFlip 6 = .ok (.astore_n 2, 1) := by decide +kernel
theorem dL_tryFlip_7 : decode cL_tryFlip 7 = .ok (.ldc 52, 2) := by decide +kernel
theorem dL_tryFlip_9 : decode cL_tryFlip 9 = .ok (.ireturn, 1) := by decide +kernel
set_option maxRecDepth 20000 in
theorem ggL_tryScratch_X5_scratch : GoodIn wsL_tryScratch wsX5_scratch := goodIn_ca (goodIn_ca (goodIn_ca (goodIn_r _ [11, 12, 13, 14, 15, 16, 17, 18, 10, 19, 20, 21, 22, 23, 24, 25, 26, 27, 28, 29, 30, 31, 32, 33, 34, 35, 36, 37, 38, 39, 40, 41, 42, 43, 44, 45, 46, 47, 48, 49, 50, 51, 52, 53, 54, 55, 56, 57, 58, 59, 60, 61, 62, 63, 64, 65, 66, 67, 68, 69, 70, 71, 72, 73, 74, 75, 76, 77, 78, 79, 80, 81, 82, 83, 84, 85, 86, 87, 88, 89, 90, 91, 92, 93, 94, 95, 96, 97, 98, 99, 100, 101, 102, 103, 104, 105, 106, 107, 108, 109, 110, 111, 112, 113, 114, 115, 116, 117, 118, 119, 120, 121, 122] (by decide +kernel) (by decide +kernel)) (goodIn_sub (fun _ h => List.mem_cons_of_mem _ (List.mem_append_left _ (List.mem_append_left _ (List.mem_append_right _ h)))) (by decide +kernel))) (goodIn_sub (fun _ h => List.mem_cons_of_mem _ (List.mem_append_left _ (List.mem_append_right _ h))) (by decide +kernel))) (goodIn_sub (fun _ h => List.mem_cons_of_mem _ (List.mem_append_right _ h)) (by decide +kernel))
set_option maxRecDepth 20000 in
theorem gL_tryScratch_X5_scratch : GoodIn wsL_tryScratch (wsV RL 65 RX5 yX5_scratch wsX5_scratch) := goodIn_app (goodIn_of _ (by decide +kernel)) ggL_tryScratch_X5_scratch
theorem dL_tryScratch_0 : decode cL_tryScratch 0 = .ok (.aload_n 0, 1) := by decide +kernel
theorem dL_tryScratch_1 : decode cL_tryScratch 1 = .ok (.iload_n 1, 1) := by decide +kernel
theorem dL_tryScratch_2 : decode cL_tryScratch 2 = .ok (.iload_n 2, 1) := by decide +kernel
theorem dL_tryScratch_3 : decode cL_tryScratch 3 = .ok (.invokevirtual 65, 3) := by decide +kernel
theorem dL_tryScratch_6 : decode cL_tryScratch 6 = .ok (.ireturn, 1) := by decide +kernel
theorem dL_tryScratch_7 : decode cL_tryScratch 7 = .ok (.astore_n 3, 1) := by decide +kernel
theorem dL_tryScratch_8 : decode cL_tryScratch 8 = .ok (.ldc 52, 2) := by decide +kernel
theorem dL_tryScratch_10 : decode cL_tryScratch 10 = .ok (.ireturn, 1) := by decide +kernel
theorem dL_tryScratch_11 : decode cL_tryScratch 11 = .ok (.astore_n 3, 1) := by decide +kernel
theorem dL_tryScratch_12 : decode cL_tryScratch 12 = .ok (.ldc 29, 2) := by decide +kernel
theorem dL_tryScratch_14 : decode cL_tryScratch 14 = .ok (.ireturn, 1) := by decide +kernel
theorem dL_tryScratch_15 : decode cL_tryScratch 15 = .ok (.astore_n 3, 1) := by decide +kernel
theorem dL_tryScratch_16 : decode cL_tryScratch 16 = .ok (.ldc 38, 2) := by decide +kernel
theorem dL_tryScratch_18 : decode cL_tryScratch 18 = .ok (.ireturn, 1) := by decide +kernel
set_option maxRecDepth 20000 in
theorem ggL_tryBorder_X5_border : GoodIn wsL_tryBorder wsX5_border := goodIn_ca (goodIn_r _ [7, 8, 9, 10, 11, 12, 6, 13, 14, 15, 16, 17, 18, 19, 20, 21, 22, 23, 24, 25, 26, 27, 28, 29, 30, 31, 32, 33, 34, 35, 36, 37, 38, 39, 40, 41, 42, 43, 44, 45, 46, 47, 48, 49, 50, 51, 52, 53, 54, 55, 56, 57, 58, 59, 60, 61, 62, 63, 64, 65, 66, 67, 68, 69, 70, 71, 72, 73, 74, 75, 76, 77, 78, 79, 80, 81, 82, 83, 84, 85, 86] (by decide +kernel) (by decide +kernel)) (goodIn_sub (fun _ h => List.mem_cons_of_mem _ (List.mem_append_right _ h)) (by decide +kernel))
set_option maxRecDepth 20000 in
theorem gL_tryBorder_X5_border : GoodIn wsL_tryBorder (wsV RL 68 RX5 yX5_border wsX5_border) := goodIn_app (goodIn_of _ (by decide +kernel)) ggL_tryBorder_X5_border
theorem dL_tryBorder_0 : decode cL_tryBorder 0 = .ok (.aload_n 0, 1) := by decide +kernel
theorem dL_tryBorder_1 : decode cL_tryBorder 1 = .ok (.iload_n 1, 1) := by decide +kernel
theorem dL_tryBorder_2 : decode cL_tryBorder 2 = .ok (.iload_n 2, 1) := by decide +kernel
theorem dL_tryBorder_3 : decode cL_tryBorder 3 = .ok (.invokevirtual 68, 3) := by decide +kernel
theorem dL_tryBorder_6 : decode cL_tryBorder 6 = .ok (.ireturn, 1) := by decide +kernel
theorem dL_tryBorder_7 : decode cL_tryBorder 7 = .ok (.astore_n 3, 1) := by decide +kernel
theorem dL_tryBorder_8 : decode cL_tryBorder 8 = .ok (.ldc 29, 2) := by decide +kernel
theorem dL_tryBorder_10 : decode cL_tryBorder 10 = .ok (.ireturn, 1) := by decide +kernel
set_option maxRecDepth 20000 in
theorem ggL_tryRule_X5_rule : GoodIn wsL_tryRule wsX5_rule := goodIn_ca (goodIn_r _ [7, 8, 9, 10, 11, 12, 6, 13, 14, 15, 16, 17, 18, 19, 20, 21, 22, 23, 24, 25, 26, 27, 28, 29, 30, 31, 32, 33, 34, 35, 36, 37, 38, 39, 40, 41, 42, 43, 44, 45, 46, 47, 48, 49, 50, 51, 52, 53, 54, 55, 56, 57, 58, 59, 60, 61, 62, 63, 64, 65, 66, 67, 68, 69, 70, 71, 72, 73, 74, 75, 76, 77, 78] (by decide +kernel) (by decide +kernel)) (goodIn_sub (fun _ h => List.mem_cons_of_mem _ (List.mem_append_right _ h)) (by decide +kernel))
set_option maxRecDepth 20000 in
theorem gL_tryRule_X5_rule : GoodIn wsL_tryRule (wsV RL 71 RX5 yX5_rule wsX5_rule) := goodIn_app (goodIn_of _ (by decide +kernel)) ggL_tryRule_X5_rule
theorem dL_tryRule_0 : decode cL_tryRule 0 = .ok (.aload_n 0, 1) := by decide +kernel
theorem dL_tryRule_1 : decode cL_tryRule 1 = .ok (.iload_n 1, 1) := by decide +kernel
theorem dL_tryRule_2 : decode cL_tryRule 2 = .ok (.invokevirtual 71, 3) := by decide +kernel
theorem dL_tryRule_5 : decode cL_tryRule 5 = .ok (.ireturn, 1) := by decide +kernel
theorem dL_tryRule_6 : decode cL_tryRule 6 = .ok (.astore_n 2, 1) := by decide +kernel
theorem dL_tryRule_7 : decode cL_tryRule 7 = .ok (.ldc 29, 2) := by decide +kernel
theorem dL_tryRule_9 : decode cL_tryRule 9 = .ok (.ireturn, 1) := by decide +kernel
set_option maxRecDepth 20000 in
theorem ggL_tryBreathe_X5_breathe : GoodIn wsL_tryBreathe wsX5_breathe := goodIn_ca (goodIn_ca (goodIn_r _ [9, 10, 11, 12, 13, 14, 8, 15, 16, 17, 18, 19, 20, 21, 22, 23, 24, 25, 26, 27, 28, 29, 30, 31, 32, 33, 34, 35, 36, 37, 38, 39, 40, 41, 42, 43, 44, 45, 46, 47, 48, 49, 50, 51, 52, 53, 54, 55, 56, 57, 58, 59, 60, 61, 62, 63, 64, 65, 66, 67, 68, 69, 70, 71, 72, 73, 74, 75, 76, 77, 78, 79, 80, 81, 82, 83, 84, 85, 86, 87, 88, 89, 90, 91, 92, 93, 94, 95, 96, 97, 98, 99, 100, 101, 102, 103, 104, 105, 106, 107, 108, 109, 110, 111, 112, 113, 114, 115, 116, 117, 118, 119, 120, 121, 122, 123, 124, 125, 126, 127] (by decide +kernel) (by decide +kernel)) (goodIn_sub (fun _ h => List.mem_cons_of_mem _ (List.mem_append_left _ (List.mem_append_right _ h))) (by decide +kernel))) (goodIn_sub (fun _ h => List.mem_cons_of_mem _ (List.mem_append_right _ h)) (by decide +kernel))
set_option maxRecDepth 20000 in
theorem gL_tryBreathe_X5_breathe : GoodIn wsL_tryBreathe (wsV RL 74 RX5 yX5_breathe wsX5_breathe) := goodIn_app (goodIn_of _ (by decide +kernel)) ggL_tryBreathe_X5_breathe
theorem dL_tryBreathe_0 : decode cL_tryBreathe 0 = .ok (.aload_n 0, 1) := by decide +kernel
theorem dL_tryBreathe_1 : decode cL_tryBreathe 1 = .ok (.iload_n 1, 1) := by decide +kernel
theorem dL_tryBreathe_2 : decode cL_tryBreathe 2 = .ok (.iload_n 2, 1) := by decide +kernel
theorem dL_tryBreathe_3 : decode cL_tryBreathe 3 = .ok (.invokevirtual 74, 3) := by decide +kernel
theorem dL_tryBreathe_6 : decode cL_tryBreathe 6 = .ok (.ireturn, 1) := by decide +kernel
theorem dL_tryBreathe_7 : decode cL_tryBreathe 7 = .ok (.astore_n 3, 1) := by decide +kernel
theorem dL_tryBreathe_8 : decode cL_tryBreathe 8 = .ok (.ldc 52, 2) := by decide +kernel
theorem dL_tryBreathe_10 : decode cL_tryBreathe 10 = .ok (.ireturn, 1) := by decide +kernel
theorem dL_tryBreathe_11 : decode cL_tryBreathe 11 = .ok (.astore_n 3, 1) := by decide +kernel
theorem dL_tryBreathe_12 : decode cL_tryBreathe 12 = .ok (.ldc 29, 2) := by decide +kernel
theorem dL_tryBreathe_14 : decode cL_tryBreathe 14 = .ok (.ireturn, 1) := by decide +kernel
set_option maxRecDepth 20000 in
theorem ggL_tryNights_X5_nights : GoodIn wsL_tryNights wsX5_nights := goodIn_ca (goodIn_r _ [7, 8, 9, 10, 11, 12, 6, 13, 14, 15, 16, 17, 18, 19, 20, 21, 22, 23, 24, 25, 26, 27, 28, 29, 30, 31, 32, 33, 34, 35, 36, 37, 38, 39, 40, 41, 42, 43, 44, 45, 46, 47, 48, 49, 50, 51, 52, 53, 54, 55, 56, 57, 58, 59, 60, 61, 62, 63, 64, 65, 66, 67, 68, 69, 70, 71, 72, 73, 74, 75, 76, 77, 78, 79, 80, 81, 82, 83, 84, 85, 86, 87, 88, 89, 90, 91, 92, 93, 94, 95, 96, 97, 98, 99, 100, 101, 102, 103, 104, 105, 106, 107, 108, 109, 110, 111, 112, 113, 114, 115, 116, 117, 118, 119, 120, 121, 122] (by decide +kernel) (by decide +kernel)) (goodIn_sub (fun _ h => List.mem_cons_of_mem _ (List.mem_append_right _ h)) (by decide +kernel))
set_option maxRecDepth 20000 in
theorem gL_tryNights_X5_nights : GoodIn wsL_tryNights (wsV RL 77 RX5 yX5_nights wsX5_nights) := goodIn_app (goodIn_of _ (by decide +kernel)) ggL_tryNights_X5_nights
theorem dL_tryNights_0 : decode cL_tryNights 0 = .ok (.aload_n 0, 1) := by decide +kernel
theorem dL_tryNights_1 : decode cL_tryNights 1 = .ok (.iload_n 1, 1) := by decide +kernel
theorem dL_tryNights_2 : decode cL_tryNights 2 = .ok (.invokevirtual 77, 3) := by decide +kernel
theorem dL_tryNights_5 : decode cL_tryNights 5 = .ok (.ireturn, 1) := by decide +kernel
theorem dL_tryNights_6 : decode cL_tryNights 6 = .ok (.astore_n 2, 1) := by decide +kernel
theorem dL_tryNights_7 : decode cL_tryNights 7 = .ok (.ldc 29, 2) := by decide +kernel
theorem dL_tryNights_9 : decode cL_tryNights 9 = .ok (.ireturn, 1) := by decide +kernel
set_option maxRecDepth 20000 in
theorem ggL_tryUndo_X5_undo : GoodIn wsL_tryUndo wsX5_undo := goodIn_ca (goodIn_r _ [7, 8, 9, 10, 11, 12, 13, 14, 15, 16, 17, 18, 19, 20, 21, 22, 23, 24, 25, 26, 27, 28, 29, 30, 31, 32, 33, 34, 35, 36, 37, 38, 39, 40, 41, 42, 43, 44, 45, 46, 47, 48, 49, 50, 51, 52, 53, 54, 55, 56, 57, 58, 59, 60, 61, 62, 63, 64, 65, 66, 67, 68] (by decide +kernel) (by decide +kernel)) (goodIn_sub (fun _ h => List.mem_cons_of_mem _ (List.mem_append_right _ h)) (by decide +kernel))
set_option maxRecDepth 20000 in
theorem gL_tryUndo_X5_undo : GoodIn wsL_tryUndo (wsV RL 80 RX5 yX5_undo wsX5_undo) := goodIn_app (goodIn_of _ (by decide +kernel)) ggL_tryUndo_X5_undo
theorem dL_tryUndo_0 : decode cL_tryUndo 0 = .ok (.aload_n 0, 1) := by decide +kernel
theorem dL_tryUndo_1 : decode cL_tryUndo 1 = .ok (.invokevirtual 80, 3) := by decide +kernel
theorem dL_tryUndo_4 : decode cL_tryUndo 4 = .ok (.ireturn, 1) := by decide +kernel
theorem dL_tryUndo_5 : decode cL_tryUndo 5 = .ok (.astore_n 1, 1) := by decide +kernel
theorem dL_tryUndo_6 : decode cL_tryUndo 6 = .ok (.ldc 38, 2) := by decide +kernel
theorem dL_tryUndo_8 : decode cL_tryUndo 8 = .ok (.ireturn, 1) := by decide +kernel
set_option maxRecDepth 20000 in
theorem ggL_tryAgain_X5_again : GoodIn wsL_tryAgain wsX5_again := goodIn_ca (goodIn_r _ [7, 8, 9, 10, 6, 11, 12, 13, 14, 15, 16, 17, 18, 19, 20, 21, 22, 23, 24, 25, 26, 27, 28, 29, 30, 31, 32, 33, 34, 35, 36, 37, 38, 39, 40, 41, 42, 43, 44, 45, 46, 47, 48, 49, 50, 51, 52, 53, 54, 55, 56, 57, 58, 59, 60, 61, 62, 63, 64, 65, 66, 67, 68, 69, 70, 71, 72, 73, 74, 75, 76, 77, 78, 79, 80, 81, 82, 83, 84, 85, 86, 87, 88, 89, 90, 91, 92, 93, 94, 95, 96, 97, 98, 99, 100, 101, 102, 103] (by decide +kernel) (by decide +kernel)) (goodIn_sub (fun _ h => List.mem_cons_of_mem _ (List.mem_append_right _ h)) (by decide +kernel))
set_option maxRecDepth 20000 in
theorem gL_tryAgain_X5_again : GoodIn wsL_tryAgain (wsV RL 83 RX5 yX5_again wsX5_again) := goodIn_app (goodIn_of _ (by decide +kernel)) ggL_tryAgain_X5_again
theorem dL_tryAgain_0 : decode cL_tryAgain 0 = .ok (.aload_n 0, 1) := by decide +kernel
theorem dL_tryAgain_1 : decode cL_tryAgain 1 = .ok (.iload_n 1, 1) := by decide +kernel
theorem dL_tryAgain_2 : decode cL_tryAgain 2 = .ok (.invokevirtual 83, 3) := by decide +kernel
theorem dL_tryAgain_5 : decode cL_tryAgain 5 = .ok (.ireturn, 1) := by decide +kernel
theorem dL_tryAgain_6 : decode cL_tryAgain 6 = .ok (.astore_n 2, 1) := by decide +kernel
theorem dL_tryAgain_7 : decode cL_tryAgain 7 = .ok (.ldc 29, 2) := by decide +kernel
theorem dL_tryAgain_9 : decode cL_tryAgain 9 = .ok (.ireturn, 1) := by decide +kernel
set_option maxRecDepth 20000 in
theorem ggL_tryBefores_X5_befores : GoodIn wsL_tryBefores wsX5_befores := goodIn_ca (goodIn_r _ [7, 8, 9, 10, 11, 12, 6, 13, 14, 15, 16, 17, 18, 19, 20, 21, 22, 23, 24, 25, 26, 27, 28, 29, 30, 31, 32, 33, 34, 35, 36, 37, 38, 39, 40, 41, 42, 43, 44, 45, 46, 47, 48, 49, 50, 51, 52, 53, 54, 55, 56, 57, 58, 59, 60, 61, 62, 63, 64, 65, 66, 67, 68, 69, 70, 71, 72, 73, 74, 75, 76, 77, 78, 79, 80, 81, 82, 83, 84, 85, 86, 87, 88, 89, 90, 91, 92, 93, 94, 95, 96, 97, 98, 99, 100, 101, 102, 103, 104, 105, 106, 107, 108, 109, 110, 111, 112, 113, 114, 115, 116, 117, 118, 119, 120, 121, 122, 123, 124, 125, 126, 127, 128, 129, 130, 131, 132, 133, 134, 135, 136, 137, 138, 139, 140] (by decide +kernel) (by decide +kernel)) (goodIn_sub (fun _ h => List.mem_cons_of_mem _ (List.mem_append_right _ h)) (by decide +kernel))
set_option maxRecDepth 20000 in
theorem gL_tryBefores_X5_befores : GoodIn wsL_tryBefores (wsV RL 86 RX5 yX5_befores wsX5_befores) := goodIn_app (goodIn_of _ (by decide +kernel)) ggL_tryBefores_X5_befores
theorem dL_tryBefores_0 : decode cL_tryBefores 0 = .ok (.aload_n 0, 1) := by decide +kernel
theorem dL_tryBefores_1 : decode cL_tryBefores 1 = .ok (.invokevirtual 86, 3) := by decide +kernel
theorem dL_tryBefores_4 : decode cL_tryBefores 4 = .ok (.ireturn, 1) := by decide +kernel
theorem dL_tryBefores_5 : decode cL_tryBefores 5 = .ok (.astore_n 1, 1) := by decide +kernel
theorem dL_tryBefores_6 : decode cL_tryBefores 6 = .ok (.ldc 38, 2) := by decide +kernel
theorem dL_tryBefores_8 : decode cL_tryBefores 8 = .ok (.ireturn, 1) := by decide +kernel
set_option maxRecDepth 20000 in
theorem ggL_tryFreezes_X5_freezesIn : GoodIn wsL_tryFreezes wsX5_freezesIn := goodIn_ca (goodIn_r _ [7, 8, 9, 10, 11, 12, 6, 13, 14, 15, 16, 17, 18, 19, 20, 21, 22, 23, 24, 25, 26, 27, 28, 29, 30, 31, 32, 33, 34, 35, 36, 37, 38, 39, 40, 41, 42, 43, 44, 45, 46, 47, 48, 49, 50, 51, 52, 53, 54, 55, 56, 57, 58, 59, 60, 61, 62, 63, 64, 65, 66, 67, 68, 69, 70, 71, 72, 73, 74, 75, 76, 77, 78, 79, 80, 81, 82, 83, 84, 85, 86, 87, 88, 89, 90] (by decide +kernel) (by decide +kernel)) (goodIn_sub (fun _ h => List.mem_cons_of_mem _ (List.mem_append_right _ h)) (by decide +kernel))
set_option maxRecDepth 20000 in
theorem gL_tryFreezes_X5_freezesIn : GoodIn wsL_tryFreezes (wsV RL 89 RX5 yX5_freezesIn wsX5_freezesIn) := goodIn_app (goodIn_of _ (by decide +kernel)) ggL_tryFreezes_X5_freezesIn
theorem dL_tryFreezes_0 : decode cL_tryFreezes 0 = .ok (.aload_n 0, 1) := by decide +kernel
theorem dL_tryFreezes_1 : decode cL_tryFreezes 1 = .ok (.iload_n 1, 1) := by decide +kernel
theorem dL_tryFreezes_2 : decode cL_tryFreezes 2 = .ok (.invokevirtual 89, 3) := by decide +kernel
theorem dL_tryFreezes_5 : decode cL_tryFreezes 5 = .ok (.ireturn, 1) := by decide +kernel
theorem dL_tryFreezes_6 : decode cL_tryFreezes 6 = .ok (.astore_n 2, 1) := by decide +kernel
theorem dL_tryFreezes_7 : decode cL_tryFreezes 7 = .ok (.ldc 52, 2) := by decide +kernel
theorem dL_tryFreezes_9 : decode cL_tryFreezes 9 = .ok (.ireturn, 1) := by decide +kernel
set_option maxRecDepth 20000 in
theorem ggL_tryKeeps_X5_keeps : GoodIn wsL_tryKeeps wsX5_keeps := goodIn_ca (goodIn_ca (goodIn_r _ [9, 10, 11, 12, 13, 14, 8, 15, 16, 17, 18, 19, 20, 21, 22, 23, 24, 25, 26, 27, 28, 29, 30, 31, 32, 33, 34, 35, 36, 37, 38, 39, 40, 41, 42, 43, 44, 45, 46, 47, 48, 49, 50, 51, 52, 53, 54, 55, 56, 57, 58, 59, 60, 61, 62, 63, 64, 65, 66, 67, 68, 69, 70, 71, 72, 73, 74, 75, 76, 77, 78, 79, 80, 81, 82, 83, 84, 85, 86, 87, 88, 89, 90, 91, 92, 93, 94, 95, 96, 97, 98, 99, 100, 101, 102, 103, 104, 105, 106, 107, 108, 109, 110, 111, 112, 113, 114, 115, 116, 117, 118, 119, 120, 121, 122, 123, 124, 125, 126, 127, 128, 129, 130, 131, 132, 133, 134, 135, 136, 137, 138, 139, 140, 141, 142, 143, 144, 145] (by decide +kernel) (by decide +kernel)) (goodIn_sub (fun _ h => List.mem_cons_of_mem _ (List.mem_append_left _ (List.mem_append_right _ h))) (by decide +kernel))) (goodIn_sub (fun _ h => List.mem_cons_of_mem _ (List.mem_append_right _ h)) (by decide +kernel))
set_option maxRecDepth 20000 in
theorem gL_tryKeeps_X5_keeps : GoodIn wsL_tryKeeps (wsV RL 92 RX5 yX5_keeps wsX5_keeps) := goodIn_app (goodIn_of _ (by decide +kernel)) ggL_tryKeeps_X5_keeps
theorem dL_tryKeeps_0 : decode cL_tryKeeps 0 = .ok (.aload_n 0, 1) := by decide +kernel
theorem dL_tryKeeps_1 : decode cL_tryKeeps 1 = .ok (.iload_n 1, 1) := by decide +kernel
theorem dL_tryKeeps_2 : decode cL_tryKeeps 2 = .ok (.iload_n 2, 1) := by decide +kernel
theorem dL_tryKeeps_3 : decode cL_tryKeeps 3 = .ok (.invokevirtual 92, 3) := by decide +kernel
theorem dL_tryKeeps_6 : decode cL_tryKeeps 6 = .ok (.ireturn, 1) := by decide +kernel
theorem dL_tryKeeps_7 : decode cL_tryKeeps 7 = .ok (.astore_n 3, 1) := by decide +kernel
theorem dL_tryKeeps_8 : decode cL_tryKeeps 8 = .ok (.ldc 52, 2) := by decide +kernel
theorem dL_tryKeeps_10 : decode cL_tryKeeps 10 = .ok (.ireturn, 1) := by decide +kernel
theorem dL_tryKeeps_11 : decode cL_tryKeeps 11 = .ok (.astore_n 3, 1) := by decide +kernel
theorem dL_tryKeeps_12 : decode cL_tryKeeps 12 = .ok (.ldc 29, 2) := by decide +kernel
theorem dL_tryKeeps_14 : decode cL_tryKeeps 14 = .ok (.ireturn, 1) := by decide +kernel
set_option maxRecDepth 20000 in
theorem ggL_tryKeep_X5_save : GoodIn wsL_tryKeep wsX5_save := goodIn_ca (goodIn_r _ [7, 8, 9, 10, 11, 12, 6, 13, 14, 15, 16, 17, 18, 19, 20, 21, 22, 23, 24, 25, 26, 27, 28, 29, 30, 31, 32, 33, 34, 35, 36, 37, 38, 39, 40, 41, 42, 43, 44, 45, 46, 47, 48, 49, 50, 51, 52, 53, 54, 55, 56, 57, 58, 59, 60, 61, 62, 63, 64, 65, 66, 67] (by decide +kernel) (by decide +kernel)) (goodIn_sub (fun _ h => List.mem_cons_of_mem _ (List.mem_append_right _ h)) (by decide +kernel))
set_option maxRecDepth 20000 in
theorem gL_tryKeep_X5_save : GoodIn wsL_tryKeep (wsV RL 95 RX5 yX5_save wsX5_save) := goodIn_app (goodIn_of _ (by decide +kernel)) ggL_tryKeep_X5_save
theorem dL_tryKeep_0 : decode cL_tryKeep 0 = .ok (.aload_n 0, 1) := by decide +kernel
theorem dL_tryKeep_1 : decode cL_tryKeep 1 = .ok (.iload_n 1, 1) := by decide +kernel
theorem dL_tryKeep_2 : decode cL_tryKeep 2 = .ok (.invokevirtual 95, 3) := by decide +kernel
theorem dL_tryKeep_5 : decode cL_tryKeep 5 = .ok (.ireturn, 1) := by decide +kernel
theorem dL_tryKeep_6 : decode cL_tryKeep 6 = .ok (.astore_n 2, 1) := by decide +kernel
theorem dL_tryKeep_7 : decode cL_tryKeep 7 = .ok (.ldc 52, 2) := by decide +kernel
theorem dL_tryKeep_9 : decode cL_tryKeep 9 = .ok (.ireturn, 1) := by decide +kernel
set_option maxRecDepth 20000 in
theorem ggL_tryBack_X5_restore : GoodIn wsL_tryBack wsX5_restore := goodIn_ca (goodIn_ca (goodIn_r _ [9, 10, 11, 12, 13, 14, 15, 16, 17, 18, 19, 8, 20, 21, 22, 23, 24, 25, 26, 27, 28, 29, 30, 31, 32, 33, 34, 35, 36, 37, 38, 39, 40, 41, 42, 43, 44, 45, 46, 47, 48, 49, 50, 51, 52, 53, 54, 55, 56, 57, 58, 59, 60, 61, 62, 63, 64, 65, 66, 67, 68, 69, 70, 71, 72, 73, 74, 75, 76] (by decide +kernel) (by decide +kernel)) (goodIn_sub (fun _ h => List.mem_cons_of_mem _ (List.mem_append_left _ (List.mem_append_right _ h))) (by decide +kernel))) (goodIn_sub (fun _ h => List.mem_cons_of_mem _ (List.mem_append_right _ h)) (by decide +kernel))
set_option maxRecDepth 20000 in
theorem gL_tryBack_X5_restore : GoodIn wsL_tryBack (wsV RL 98 RX5 yX5_restore wsX5_restore) := goodIn_app (goodIn_of _ (by decide +kernel)) ggL_tryBack_X5_restore
theorem dL_tryBack_0 : decode cL_tryBack 0 = .ok (.aload_n 0, 1) := by decide +kernel
theorem dL_tryBack_1 : decode cL_tryBack 1 = .ok (.iload_n 1, 1) := by decide +kernel
theorem dL_tryBack_2 : decode cL_tryBack 2 = .ok (.invokevirtual 98, 3) := by decide +kernel
theorem dL_tryBack_5 : decode cL_tryBack 5 = .ok (.ireturn, 1) := by decide +kernel
theorem dL_tryBack_6 : decode cL_tryBack 6 = .ok (.astore_n 2, 1) := by decide +kernel
theorem dL_tryBack_7 : decode cL_tryBack 7 = .ok (.ldc 52, 2) := by decide +kernel
theorem dL_tryBack_9 : decode cL_tryBack 9 = .ok (.ireturn, 1) := by decide +kernel
theorem dL_tryBack_10 : decode cL_tryBack 10 = .ok (.astore_n 2, 1) := by decide +kernel
theorem dL_tryBack_11 : decode cL_tryBack 11 = .ok (.ldc 38, 2) := by decide +kernel
theorem dL_tryBack_13 : decode cL_tryBack 13 = .ok (.ireturn, 1) := by decide +kernel
