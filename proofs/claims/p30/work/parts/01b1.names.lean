set_option maxRecDepth 20000 in
theorem zq_wsL_law0_r4 : ∀ w ∈ wsL_law0_r4, w ∈ lw_tbl := fun w h => (goodIn_r wsL_law0_r4 [193, 197, 29, 269, 30, 49, 194, 195, 196, 265, 266, 267, 285, 286, 287, 288, 112, 114, 289, 291, 1, 292, 293, 294] (by decide +kernel) (by decide +kernel) w h).1
set_option maxRecDepth 20000 in
theorem zq_wsL_law0_r5 : ∀ w ∈ wsL_law0_r5, w ∈ lw_tbl := fun w h => (goodIn_r wsL_law0_r5 [295, 296, 48, 50, 51, 53, 54, 297, 299, 298, 31, 300, 301, 302, 303, 304, 305, 306, 307, 308, 309, 310, 311, 312] (by decide +kernel) (by decide +kernel) w h).1
set_option maxRecDepth 20000 in
theorem zq_wsL_law0_r6 : ∀ w ∈ wsL_law0_r6, w ∈ lw_tbl := fun w h => (goodIn_r wsL_law0_r6 [313, 314, 315, 316, 317, 319, 2, 320, 325, 32, 321, 322, 323, 324, 341, 342, 343, 345, 346, 347, 348, 130, 131, 349] (by decide +kernel) (by decide +kernel) w h).1
