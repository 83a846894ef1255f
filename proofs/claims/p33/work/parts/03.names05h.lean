theorem gz_L_isSo_c : GoodIn wsL_law [.code yL_isSo cL_isSo 13 (some .boolean)] := goodIn_r _ [438] (by decide +kernel) (by decide +kernel)
set_option maxRecDepth 20000 in
theorem gz_L_isSo_wsL_isSo_r1 : GoodIn wsL_law wsL_isSo_r1 := goodIn_r _ [87, 88, 83, 89, 90, 439, 440, 441, 2, 442, 28, 443, 444, 445, 446, 26, 190, 191, 192, 25, 193, 194, 447, 448] (by decide +kernel) (by decide +kernel)
set_option maxRecDepth 20000 in
theorem gz_L_isSo_wsL_isSo_r2 : GoodIn wsL_law wsL_isSo_r2 := goodIn_r _ [449, 450, 22, 353, 451, 452, 453, 454, 18, 100, 101, 102, 103, 104, 105, 106, 107, 108, 109, 455, 173, 174, 17, 175] (by decide +kernel) (by decide +kernel)
set_option maxRecDepth 20000 in
theorem gz_L_isSo_wsL_isSo_r3 : GoodIn wsL_law wsL_isSo_r3 := goodIn_r _ [48, 45, 46, 47, 141, 142, 143, 128, 129, 130, 131, 132, 133, 134, 135, 136, 137, 138, 139, 140, 456, 457, 458, 459] (by decide +kernel) (by decide +kernel)
set_option maxRecDepth 20000 in
theorem gz_L_isSo_wsL_isSo_r4 : GoodIn wsL_law wsL_isSo_r4 := goodIn_r _ [460, 461, 462, 463, 464, 465, 412, 413, 414, 415, 416, 417, 418, 419, 27, 186, 420, 188, 195, 196, 197, 198, 199, 200] (by decide +kernel) (by decide +kernel)
set_option maxRecDepth 20000 in
theorem gz_L_isSo_wsL_isSo_r5 : GoodIn wsL_law wsL_isSo_r5 := goodIn_r _ [201, 202, 203, 204, 205, 206, 207, 208, 209, 210, 70, 466, 467, 468, 469, 470, 471, 472, 473, 335, 334, 187, 474, 475] (by decide +kernel) (by decide +kernel)
set_option maxRecDepth 20000 in
theorem gz_L_isSo_wsL_isSo_r6 : GoodIn wsL_law wsL_isSo_r6 := goodIn_r _ [476, 477, 232, 163, 164, 165, 43, 166, 167, 403, 169, 170, 171, 172, 228, 229, 230, 231, 233, 234, 235, 236, 237, 238] (by decide +kernel) (by decide +kernel)
set_option maxRecDepth 20000 in
theorem gz_L_isSo_wsL_isSo_r7 : GoodIn wsL_law wsL_isSo_r7 := goodIn_r _ [239, 218, 219, 220, 214, 221, 222, 223, 478, 479, 480, 481, 189, 482, 483, 484, 485, 211, 212, 213, 215, 216, 217] (by decide +kernel) (by decide +kernel)
set_option maxRecDepth 20000 in
theorem gz_L_isSo_wsX40 : GoodIn wsL_law wsX40 := goodIn_r _ [533, 534, 535, 536, 537, 538] (by decide +kernel) (by decide +kernel)
set_option maxRecDepth 20000 in
theorem gz_L_isSo_wsJx4a65c0 : GoodIn wsL_law wsJx4a65c0 := goodIn_r _ [561, 562, 563] (by decide +kernel) (by decide +kernel)
set_option maxRecDepth 20000 in
theorem gz_L_isSo_wsX00 : GoodIn wsL_law wsX00 := goodIn_r _ [552, 553, 554, 555, 556, 557, 558, 559, 560] (by decide +kernel) (by decide +kernel)
set_option maxRecDepth 20000 in
theorem gz_L_isSo_wsX10 : GoodIn wsL_law wsX10 := goodIn_r _ [544, 545, 546, 547, 548, 549, 550, 551] (by decide +kernel) (by decide +kernel)
set_option maxRecDepth 20000 in
theorem gz_L_isSo_wsX20 : GoodIn wsL_law wsX20 := goodIn_r _ [564, 565, 566, 567, 568, 569, 570, 571, 572] (by decide +kernel) (by decide +kernel)
set_option maxRecDepth 20000 in
theorem ggL_law_L_isSo : GoodIn wsL_law wsL_isSo := goodIn_ca (goodIn_ca (goodIn_app (a := [.code yL_isSo cL_isSo 13 (some .boolean)]) gz_L_isSo_c (goodIn_app (goodIn_app (goodIn_app (goodIn_app (goodIn_app (goodIn_app gz_L_isSo_wsL_isSo_r1 (goodIn_app gz_L_isSo_wsL_isSo_r2 (goodIn_app gz_L_isSo_wsL_isSo_r3 (goodIn_app gz_L_isSo_wsL_isSo_r4 (goodIn_app gz_L_isSo_wsL_isSo_r5 (goodIn_app gz_L_isSo_wsL_isSo_r6 gz_L_isSo_wsL_isSo_r7)))))) gz_L_isSo_wsX40) gz_L_isSo_wsJx4a65c0) gz_L_isSo_wsX00) gz_L_isSo_wsX10) gz_L_isSo_wsX20)) (goodIn_sub (fun _ h => List.mem_append_left _ (List.mem_append_left _ (List.mem_append_right _ h))) (by decide +kernel))) (goodIn_sub (fun _ h => List.mem_append_left _ (List.mem_append_right _ h)) (by decide +kernel))
set_option maxRecDepth 20000 in
theorem gL_law_L_isSo : GoodIn wsL_law (va_wsS RL 176 yL_isSo wsL_isSo) := goodIn_app (goodIn_of _ (by decide +kernel)) ggL_law_L_isSo
