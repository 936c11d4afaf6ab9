set_option maxRecDepth 20000 in
theorem inC_wsL_call_r13 : ∀ w ∈ wsL_call_r13, w ∈ lw_tbl := fun w h => (goodIn_p wsL_call_r13 [576, 580, 589, 597] (by decide +kernel) (by decide +kernel) w h).1
set_option maxRecDepth 20000 in
theorem inC_wsL_call_r14 : ∀ w ∈ wsL_call_r14, w ∈ lw_tbl := fun w h => (goodIn_p wsL_call_r14 [605, 609, 620, 613, 617] (by decide +kernel) (by decide +kernel) w h).1
set_option maxRecDepth 20000 in
theorem inC_wsL_call_r15 : ∀ w ∈ wsL_call_r15, w ∈ lw_tbl := fun w h => (goodIn_p wsL_call_r15 [625, 632, 639, 647] (by decide +kernel) (by decide +kernel) w h).1
set_option maxRecDepth 20000 in
theorem inC_wsL_call_r16 : ∀ w ∈ wsL_call_r16, w ∈ lw_tbl := fun w h => (goodIn_p wsL_call_r16 [654, 661, 668] (by decide +kernel) (by decide +kernel) w h).1
set_option maxRecDepth 20000 in
theorem inC_wsL_call_r17 : ∀ w ∈ wsL_call_r17, w ∈ lw_tbl := fun w h => (goodIn_p wsL_call_r17 [675, 680, 688, 692] (by decide +kernel) (by decide +kernel) w h).1
set_option maxRecDepth 20000 in
theorem inC_wsL_call_r18 : ∀ w ∈ wsL_call_r18, w ∈ lw_tbl := fun w h => (goodIn_p wsL_call_r18 [697, 701, 705, 712, 716] (by decide +kernel) (by decide +kernel) w h).1
set_option maxRecDepth 20000 in
theorem inC_wsL_call_r19 : ∀ w ∈ wsL_call_r19, w ∈ lw_tbl := fun w h => (goodIn_p wsL_call_r19 [721, 725, 732, 737] (by decide +kernel) (by decide +kernel) w h).1
set_option maxRecDepth 20000 in
theorem inC_wsL_call_r20 : ∀ w ∈ wsL_call_r20, w ∈ lw_tbl := fun w h => (goodIn_p wsL_call_r20 [741, 745, 750, 758] (by decide +kernel) (by decide +kernel) w h).1
set_option maxRecDepth 20000 in
theorem inC_wsL_call_r21 : ∀ w ∈ wsL_call_r21, w ∈ lw_tbl := fun w h => (goodIn_p wsL_call_r21 [766, 771, 776, 780] (by decide +kernel) (by decide +kernel) w h).1
set_option maxRecDepth 20000 in
theorem inC_wsL_call_r22 : ∀ w ∈ wsL_call_r22, w ∈ lw_tbl := fun w h => (goodIn_p wsL_call_r22 [787, 791, 796, 800, 808] (by decide +kernel) (by decide +kernel) w h).1
set_option maxRecDepth 20000 in
theorem inC_wsL_call_r23 : ∀ w ∈ wsL_call_r23, w ∈ lw_tbl := fun w h => (goodIn_p wsL_call_r23 [] (by decide +kernel) (by decide +kernel) w h).1
