set_option maxRecDepth 20000 in
theorem inC_wsL_call_r1 : ∀ w ∈ wsL_call_r1, w ∈ lw_tbl := fun w h => (goodIn_p wsL_call_r1 [244, 248] (by decide +kernel) (by decide +kernel) w h).1
set_option maxRecDepth 20000 in
theorem inC_wsL_call_r2 : ∀ w ∈ wsL_call_r2, w ∈ lw_tbl := fun w h => (goodIn_p wsL_call_r2 [251, 323, 343, 352] (by decide +kernel) (by decide +kernel) w h).1
set_option maxRecDepth 20000 in
theorem inC_wsL_call_r3 : ∀ w ∈ wsL_call_r3, w ∈ lw_tbl := fun w h => (goodIn_p wsL_call_r3 [356, 360, 364, 368, 372] (by decide +kernel) (by decide +kernel) w h).1
set_option maxRecDepth 20000 in
theorem inC_wsL_call_r4 : ∀ w ∈ wsL_call_r4, w ∈ lw_tbl := fun w h => (goodIn_p wsL_call_r4 [376, 380, 384, 389] (by decide +kernel) (by decide +kernel) w h).1
set_option maxRecDepth 20000 in
theorem inC_wsL_call_r5 : ∀ w ∈ wsL_call_r5, w ∈ lw_tbl := fun w h => (goodIn_p wsL_call_r5 [393, 398, 402, 99] (by decide +kernel) (by decide +kernel) w h).1
set_option maxRecDepth 20000 in
theorem inC_wsL_call_r6 : ∀ w ∈ wsL_call_r6, w ∈ lw_tbl := fun w h => (goodIn_p wsL_call_r6 [407, 411, 415, 419, 422] (by decide +kernel) (by decide +kernel) w h).1
set_option maxRecDepth 20000 in
theorem inC_wsL_call_r7 : ∀ w ∈ wsL_call_r7, w ∈ lw_tbl := fun w h => (goodIn_p wsL_call_r7 [426, 431, 435, 439, 443, 447] (by decide +kernel) (by decide +kernel) w h).1
set_option maxRecDepth 20000 in
theorem inC_wsL_call_r8 : ∀ w ∈ wsL_call_r8, w ∈ lw_tbl := fun w h => (goodIn_p wsL_call_r8 [451, 455, 459, 463, 467, 471] (by decide +kernel) (by decide +kernel) w h).1
set_option maxRecDepth 20000 in
theorem inC_wsL_call_r9 : ∀ w ∈ wsL_call_r9, w ∈ lw_tbl := fun w h => (goodIn_p wsL_call_r9 [475, 480, 484, 488, 492, 495] (by decide +kernel) (by decide +kernel) w h).1
set_option maxRecDepth 20000 in
theorem inC_wsL_call_r10 : ∀ w ∈ wsL_call_r10, w ∈ lw_tbl := fun w h => (goodIn_p wsL_call_r10 [502, 506, 510, 517] (by decide +kernel) (by decide +kernel) w h).1
set_option maxRecDepth 20000 in
theorem inC_wsL_call_r11 : ∀ w ∈ wsL_call_r11, w ∈ lw_tbl := fun w h => (goodIn_p wsL_call_r11 [522, 526, 530, 534, 537] (by decide +kernel) (by decide +kernel) w h).1
set_option maxRecDepth 20000 in
theorem inC_wsL_call_r12 : ∀ w ∈ wsL_call_r12, w ∈ lw_tbl := fun w h => (goodIn_p wsL_call_r12 [546, 550, 572] (by decide +kernel) (by decide +kernel) w h).1
