theorem gz_L_isHour_c : GoodIn wsL_law [.code yL_isHour cL_isHour 14 (some .boolean)] := goodIn_r _ [488] (by decide +kernel) (by decide +kernel)
set_option maxRecDepth 20000 in
theorem gz_L_isHour_wsL_isHour_r1 : GoodIn wsL_law wsL_isHour_r1 := goodIn_r _ [489, 490, 491, 492, 2, 493, 14, 494, 252, 253, 254, 255, 28, 105, 106, 107, 108, 109, 131, 132, 83, 133, 134, 135] (by decide +kernel) (by decide +kernel)
set_option maxRecDepth 20000 in
theorem gz_L_isHour_wsL_isHour_r2 : GoodIn wsL_law wsL_isHour_r2 := goodIn_r _ [136, 137, 138, 139, 140, 141, 142, 143, 495, 496, 497, 498, 499, 500, 501, 502, 503, 100, 101, 102, 103, 104, 181, 166] (by decide +kernel) (by decide +kernel)
set_option maxRecDepth 20000 in
theorem gz_L_isHour_wsL_isHour_r3 : GoodIn wsL_law wsL_isHour_r3 := goodIn_r _ [167, 504, 505, 506, 507, 508, 509, 510, 511, 512, 18, 251, 513, 514, 515, 516, 180, 517, 518, 519, 520, 474, 475, 476] (by decide +kernel) (by decide +kernel)
set_option maxRecDepth 20000 in
theorem gz_L_isHour_wsL_isHour_r4 : GoodIn wsL_law wsL_isHour_r4 := goodIn_r _ [17, 477, 232, 163, 164, 165, 43, 403, 169, 170, 171, 172, 173, 174, 175, 48, 45, 46, 47, 228, 229, 230, 231, 233] (by decide +kernel) (by decide +kernel)
set_option maxRecDepth 20000 in
theorem gz_L_isHour_wsL_isHour_r5 : GoodIn wsL_law wsL_isHour_r5 := goodIn_r _ [234, 235, 236, 237, 238, 239, 521, 522, 523, 524, 22, 525, 526, 527, 528, 529, 530, 531, 299, 532] (by decide +kernel) (by decide +kernel)
set_option maxRecDepth 20000 in
theorem gz_L_isHour_wsX40 : GoodIn wsL_law wsX40 := goodIn_r _ [533, 534, 535, 536, 537, 538] (by decide +kernel) (by decide +kernel)
set_option maxRecDepth 20000 in
theorem gz_L_isHour_wsX30 : GoodIn wsL_law wsX30 := goodIn_r _ [539, 540, 541, 542, 543] (by decide +kernel) (by decide +kernel)
set_option maxRecDepth 20000 in
theorem gz_L_isHour_wsX10 : GoodIn wsL_law wsX10 := goodIn_r _ [544, 545, 546, 547, 548, 549, 550, 551] (by decide +kernel) (by decide +kernel)
set_option maxRecDepth 20000 in
theorem gz_L_isHour_wsX00 : GoodIn wsL_law wsX00 := goodIn_r _ [552, 553, 554, 555, 556, 557, 558, 559, 560] (by decide +kernel) (by decide +kernel)
set_option maxRecDepth 20000 in
theorem ggL_law_L_isHour : GoodIn wsL_law wsL_isHour := goodIn_ca (goodIn_ca (goodIn_app (a := [.code yL_isHour cL_isHour 14 (some .boolean)]) gz_L_isHour_c (goodIn_app (goodIn_app (goodIn_app (goodIn_app (goodIn_app gz_L_isHour_wsL_isHour_r1 (goodIn_app gz_L_isHour_wsL_isHour_r2 (goodIn_app gz_L_isHour_wsL_isHour_r3 (goodIn_app gz_L_isHour_wsL_isHour_r4 gz_L_isHour_wsL_isHour_r5)))) gz_L_isHour_wsX40) gz_L_isHour_wsX30) gz_L_isHour_wsX10) gz_L_isHour_wsX00)) (goodIn_sub (fun _ h => List.mem_append_left _ (List.mem_append_right _ h)) (by decide +kernel))) (goodIn_sub (fun _ h => List.mem_append_left _ (List.mem_append_left _ (List.mem_append_right _ h))) (by decide +kernel))
set_option maxRecDepth 20000 in
theorem gL_law_L_isHour : GoodIn wsL_law (va_wsS RL 180 yL_isHour wsL_isHour) := goodIn_app (goodIn_of _ (by decide +kernel)) ggL_law_L_isHour
