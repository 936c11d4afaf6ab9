set_option maxRecDepth 20000 in
theorem inC_wsL_looks_r1 : ∀ w ∈ wsL_looks_r1, w ∈ lw_tbl := fun w h => (goodIn_p wsL_looks_r1 [816, 248, 251, 506] (by decide +kernel) (by decide +kernel) w h).1
set_option maxRecDepth 20000 in
theorem inC_wsL_looks_r2 : ∀ w ∈ wsL_looks_r2, w ∈ lw_tbl := fun w h => (goodIn_p wsL_looks_r2 [510, 443, 475, 480] (by decide +kernel) (by decide +kernel) w h).1
set_option maxRecDepth 20000 in
theorem inC_wsL_looks_r3 : ∀ w ∈ wsL_looks_r3, w ∈ lw_tbl := fun w h => (goodIn_p wsL_looks_r3 [484, 488, 492, 435] (by decide +kernel) (by decide +kernel) w h).1
set_option maxRecDepth 20000 in
theorem inC_wsL_was_r1 : ∀ w ∈ wsL_was_r1, w ∈ lw_tbl := fun w h => (goodIn_p wsL_was_r1 [873, 716, 721] (by decide +kernel) (by decide +kernel) w h).1
set_option maxRecDepth 20000 in
theorem inC_wsL_was_r2 : ∀ w ∈ wsL_was_r2, w ∈ lw_tbl := fun w h => (goodIn_p wsL_was_r2 [725, 620, 506, 510, 443] (by decide +kernel) (by decide +kernel) w h).1
set_option maxRecDepth 20000 in
theorem inC_wsL_was_r3 : ∀ w ∈ wsL_was_r3, w ∈ lw_tbl := fun w h => (goodIn_p wsL_was_r3 [475, 480, 484, 488] (by decide +kernel) (by decide +kernel) w h).1
set_option maxRecDepth 20000 in
theorem inC_wsL_was_r4 : ∀ w ∈ wsL_was_r4, w ∈ lw_tbl := fun w h => (goodIn_p wsL_was_r4 [492, 435, 625, 732, 422, 737] (by decide +kernel) (by decide +kernel) w h).1
set_option maxRecDepth 20000 in
theorem inC_wsL_was_r5 : ∀ w ∈ wsL_was_r5, w ∈ lw_tbl := fun w h => (goodIn_p wsL_was_r5 [741, 745, 877] (by decide +kernel) (by decide +kernel) w h).1
