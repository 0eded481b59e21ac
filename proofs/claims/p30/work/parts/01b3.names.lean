set_option maxRecDepth 20000 in
theorem zq_wsL_law0_r10 : ∀ w ∈ wsL_law0_r10, w ∈ lw_tbl := fun w h => (goodIn_r wsL_law0_r10 [422, 423, 424, 425, 426, 427, 428, 430, 431, 432, 433, 434, 435, 436, 437, 438, 439, 440, 441, 442, 444, 445, 446, 447] (by decide +kernel) (by decide +kernel) w h).1
set_option maxRecDepth 20000 in
theorem zq_wsL_law0_r11 : ∀ w ∈ wsL_law0_r11, w ∈ lw_tbl := fun w h => (goodIn_r wsL_law0_r11 [448, 449, 451, 7, 452, 453, 454, 455, 456, 457, 458, 459, 460, 462, 463, 464, 465, 466, 468, 8, 469, 470, 471, 472] (by decide +kernel) (by decide +kernel) w h).1
set_option maxRecDepth 20000 in
theorem zq_wsL_law0_r12 : ∀ w ∈ wsL_law0_r12, w ∈ lw_tbl := fun w h => (goodIn_r wsL_law0_r12 [473, 475, 476, 477, 478, 479, 480, 481, 482, 483, 484, 486, 9, 487, 488, 490, 10, 491, 492, 493, 494, 495, 69, 496] (by decide +kernel) (by decide +kernel) w h).1
