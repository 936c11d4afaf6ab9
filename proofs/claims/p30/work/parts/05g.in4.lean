set_option maxRecDepth 20000 in
theorem inC_wsL_doScript_r1 : ∀ w ∈ wsL_doScript_r1, w ∈ lw_tbl := fun w h => (goodIn_p wsL_doScript_r1 [824, 248, 251, 827] (by decide +kernel) (by decide +kernel) w h).1
set_option maxRecDepth 20000 in
theorem inC_wsL_doScript_r2 : ∀ w ∈ wsL_doScript_r2, w ∈ lw_tbl := fun w h => (goodIn_p wsL_doScript_r2 [617, 833, 411] (by decide +kernel) (by decide +kernel) w h).1
set_option maxRecDepth 20000 in
theorem inC_wsL_doScript_r3 : ∀ w ∈ wsL_doScript_r3, w ∈ lw_tbl := fun w h => (goodIn_p wsL_doScript_r3 [415, 419, 422, 426, 431, 435] (by decide +kernel) (by decide +kernel) w h).1
set_option maxRecDepth 20000 in
theorem inC_wsL_doScript_r4 : ∀ w ∈ wsL_doScript_r4, w ∈ lw_tbl := fun w h => (goodIn_p wsL_doScript_r4 [439, 443, 447, 451, 455, 459] (by decide +kernel) (by decide +kernel) w h).1
set_option maxRecDepth 20000 in
theorem inC_wsL_doScript_r5 : ∀ w ∈ wsL_doScript_r5, w ∈ lw_tbl := fun w h => (goodIn_p wsL_doScript_r5 [463, 502, 506, 510, 475, 480] (by decide +kernel) (by decide +kernel) w h).1
set_option maxRecDepth 20000 in
theorem inC_wsL_doScript_r6 : ∀ w ∈ wsL_doScript_r6, w ∈ lw_tbl := fun w h => (goodIn_p wsL_doScript_r6 [484, 488, 492, 495, 467] (by decide +kernel) (by decide +kernel) w h).1
set_option maxRecDepth 20000 in
theorem inC_wsL_doScript_r7 : ∀ w ∈ wsL_doScript_r7, w ∈ lw_tbl := fun w h => (goodIn_p wsL_doScript_r7 [471, 572] (by decide +kernel) (by decide +kernel) w h).1
set_option maxRecDepth 20000 in
theorem inC_wsL_doSimulate_r1 : ∀ w ∈ wsL_doSimulate_r1, w ∈ lw_tbl := fun w h => (goodIn_p wsL_doSimulate_r1 [841, 248, 251] (by decide +kernel) (by decide +kernel) w h).1
set_option maxRecDepth 20000 in
theorem inC_wsL_doSimulate_r2 : ∀ w ∈ wsL_doSimulate_r2, w ∈ lw_tbl := fun w h => (goodIn_p wsL_doSimulate_r2 [617, 847, 411] (by decide +kernel) (by decide +kernel) w h).1
set_option maxRecDepth 20000 in
theorem inC_wsL_doSimulate_r3 : ∀ w ∈ wsL_doSimulate_r3, w ∈ lw_tbl := fun w h => (goodIn_p wsL_doSimulate_r3 [415, 419, 422, 426, 431, 435, 439] (by decide +kernel) (by decide +kernel) w h).1
set_option maxRecDepth 20000 in
theorem inC_wsL_doSimulate_r4 : ∀ w ∈ wsL_doSimulate_r4, w ∈ lw_tbl := fun w h => (goodIn_p wsL_doSimulate_r4 [443, 447, 451, 455, 459, 467] (by decide +kernel) (by decide +kernel) w h).1
set_option maxRecDepth 20000 in
theorem inC_wsL_doSimulate_r5 : ∀ w ∈ wsL_doSimulate_r5, w ∈ lw_tbl := fun w h => (goodIn_p wsL_doSimulate_r5 [471, 475, 480, 484, 488] (by decide +kernel) (by decide +kernel) w h).1
set_option maxRecDepth 20000 in
theorem inC_wsL_doSimulate_r6 : ∀ w ∈ wsL_doSimulate_r6, w ∈ lw_tbl := fun w h => (goodIn_p wsL_doSimulate_r6 [492, 495, 463, 502, 506, 510] (by decide +kernel) (by decide +kernel) w h).1
set_option maxRecDepth 20000 in
theorem inC_wsL_doSimulate_r7 : ∀ w ∈ wsL_doSimulate_r7, w ∈ lw_tbl := fun w h => (goodIn_p wsL_doSimulate_r7 [526, 530] (by decide +kernel) (by decide +kernel) w h).1
