theorem gz_L_leases_c : GoodIn wsL_law [.code yL_leases cL_leases 12 (some .boolean)] := goodIn_r _ [411] (by decide +kernel) (by decide +kernel)
set_option maxRecDepth 20000 in
theorem gz_L_leases_wsL_leases_r1 : GoodIn wsL_law wsL_leases_r1 := goodIn_r _ [124, 87, 88, 83, 89, 90, 243, 244, 245, 246, 247, 248, 249, 2, 250, 18, 251, 100, 101, 102, 103, 104, 252, 253] (by decide +kernel) (by decide +kernel)
set_option maxRecDepth 20000 in
theorem gz_L_leases_wsL_leases_r2 : GoodIn wsL_law wsL_leases_r2 := goodIn_r _ [254, 255, 28, 105, 106, 107, 108, 109, 162, 163, 164, 17, 165, 43, 166, 167, 149, 150, 151, 152, 153, 181, 158, 159] (by decide +kernel) (by decide +kernel)
set_option maxRecDepth 20000 in
theorem gz_L_leases_wsL_leases_r3 : GoodIn wsL_law wsL_leases_r3 := goodIn_r _ [160, 161, 168, 169, 170, 171, 172, 173, 174, 175, 48, 45, 46, 47, 176, 177, 178, 179, 180, 182, 183, 184, 185, 26] (by decide +kernel) (by decide +kernel)
set_option maxRecDepth 20000 in
theorem gz_L_leases_wsL_leases_r4 : GoodIn wsL_law wsL_leases_r4 := goodIn_r _ [186, 187, 188, 189, 190, 191, 192, 25, 193, 194, 195, 196, 197, 198, 199, 200, 201, 202, 203, 204, 205, 206, 207, 208] (by decide +kernel) (by decide +kernel)
set_option maxRecDepth 20000 in
theorem gz_L_leases_wsL_leases_r5 : GoodIn wsL_law wsL_leases_r5 := goodIn_r _ [209, 210, 70, 211, 212, 213, 214, 215, 216, 217, 218, 219, 220, 221, 222, 223, 224, 225, 226, 227, 44, 228, 229, 230] (by decide +kernel) (by decide +kernel)
set_option maxRecDepth 20000 in
theorem gz_L_leases_wsL_leases_r6 : GoodIn wsL_law wsL_leases_r6 := goodIn_r _ [231, 232, 233, 234, 235, 236, 237, 238, 239, 256, 257, 258, 259, 260, 261, 262, 263, 264, 265, 9, 10, 266, 267, 268] (by decide +kernel) (by decide +kernel)
set_option maxRecDepth 20000 in
theorem gz_L_leases_wsL_leases_r7 : GoodIn wsL_law wsL_leases_r7 := goodIn_r _ [269, 270, 271, 272, 273, 274, 275, 276, 277, 278, 279, 280, 281, 282, 283, 284, 285, 286, 287, 288, 289, 290, 291, 292] (by decide +kernel) (by decide +kernel)
set_option maxRecDepth 20000 in
theorem gz_L_leases_wsL_leases_r8 : GoodIn wsL_law wsL_leases_r8 := goodIn_r _ [293, 294, 295, 296, 69, 297, 298, 299, 300, 301, 302, 303, 304, 305, 306, 307, 308, 309, 310, 311, 312, 64, 313, 314] (by decide +kernel) (by decide +kernel)
set_option maxRecDepth 20000 in
theorem gz_L_leases_wsL_leases_r9 : GoodIn wsL_law wsL_leases_r9 := goodIn_r _ [315, 316, 317, 318, 319, 320, 321, 322, 323, 324, 325, 326, 327, 328, 329, 330, 331, 332, 333, 334, 335, 336, 337, 338] (by decide +kernel) (by decide +kernel)
set_option maxRecDepth 20000 in
theorem gz_L_leases_wsL_leases_r10 : GoodIn wsL_law wsL_leases_r10 := goodIn_r _ [339, 22, 340, 341, 342, 21, 343, 344, 345, 346, 347, 56, 348, 349, 350, 351, 352, 353, 354, 355, 356, 357, 358, 359] (by decide +kernel) (by decide +kernel)
set_option maxRecDepth 20000 in
theorem gz_L_leases_wsL_leases_r11 : GoodIn wsL_law wsL_leases_r11 := goodIn_r _ [360, 361, 362, 14, 363, 364, 365, 366, 59, 57, 54, 367, 368, 369, 370, 58, 371, 372, 373, 374, 375, 376, 377, 378] (by decide +kernel) (by decide +kernel)
set_option maxRecDepth 20000 in
theorem gz_L_leases_wsL_leases_r12 : GoodIn wsL_law wsL_leases_r12 := goodIn_r _ [379, 380, 381, 382, 383, 61, 60, 384, 385, 386, 387, 388, 389, 390, 391, 13, 392, 32, 393, 35, 34, 33, 36, 394] (by decide +kernel) (by decide +kernel)
set_option maxRecDepth 20000 in
theorem gz_L_leases_wsL_leases_r13 : GoodIn wsL_law wsL_leases_r13 := goodIn_r _ [395, 396, 397, 53, 55, 398, 399, 400, 401, 402, 41, 42, 403, 404, 405, 406, 407, 408] (by decide +kernel) (by decide +kernel)
set_option maxRecDepth 20000 in
theorem gz_L_leases_wsX40 : GoodIn wsL_law wsX40 := goodIn_r _ [533, 534, 535, 536, 537, 538] (by decide +kernel) (by decide +kernel)
set_option maxRecDepth 20000 in
theorem gz_L_leases_wsX10 : GoodIn wsL_law wsX10 := goodIn_r _ [544, 545, 546, 547, 548, 549, 550, 551] (by decide +kernel) (by decide +kernel)
set_option maxRecDepth 20000 in
theorem gz_L_leases_wsX20 : GoodIn wsL_law wsX20 := goodIn_r _ [564, 565, 566, 567, 568, 569, 570, 571, 572] (by decide +kernel) (by decide +kernel)
set_option maxRecDepth 20000 in
theorem gz_L_leases_wsJx4a65c0 : GoodIn wsL_law wsJx4a65c0 := goodIn_r _ [561, 562, 563] (by decide +kernel) (by decide +kernel)
set_option maxRecDepth 20000 in
theorem gz_L_leases_wsX00 : GoodIn wsL_law wsX00 := goodIn_r _ [552, 553, 554, 555, 556, 557, 558, 559, 560] (by decide +kernel) (by decide +kernel)
set_option maxRecDepth 20000 in
theorem gz_L_leases_wsX30 : GoodIn wsL_law wsX30 := goodIn_r _ [539, 540, 541, 542, 543] (by decide +kernel) (by decide +kernel)
set_option maxRecDepth 20000 in
theorem ggL_law_L_leases : GoodIn wsL_law wsL_leases := goodIn_ca (goodIn_ca (goodIn_ca (goodIn_app (a := [.code yL_leases cL_leases 12 (some .boolean)]) gz_L_leases_c (goodIn_app (goodIn_app (goodIn_app (goodIn_app (goodIn_app (goodIn_app (goodIn_app gz_L_leases_wsL_leases_r1 (goodIn_app gz_L_leases_wsL_leases_r2 (goodIn_app gz_L_leases_wsL_leases_r3 (goodIn_app gz_L_leases_wsL_leases_r4 (goodIn_app gz_L_leases_wsL_leases_r5 (goodIn_app gz_L_leases_wsL_leases_r6 (goodIn_app gz_L_leases_wsL_leases_r7 (goodIn_app gz_L_leases_wsL_leases_r8 (goodIn_app gz_L_leases_wsL_leases_r9 (goodIn_app gz_L_leases_wsL_leases_r10 (goodIn_app gz_L_leases_wsL_leases_r11 (goodIn_app gz_L_leases_wsL_leases_r12 gz_L_leases_wsL_leases_r13)))))))))))) gz_L_leases_wsX40) gz_L_leases_wsX10) gz_L_leases_wsX20) gz_L_leases_wsJx4a65c0) gz_L_leases_wsX00) gz_L_leases_wsX30)) (goodIn_sub (fun _ h => List.mem_append_left _ (List.mem_append_left _ (List.mem_append_right _ h))) (by decide +kernel))) (goodIn_sub (fun _ h => List.mem_append_left _ (List.mem_append_right _ h)) (by decide +kernel))) (goodIn_sub (fun _ h => List.mem_append_right _ h) (by decide +kernel))
set_option maxRecDepth 20000 in
theorem gL_law_L_leases : GoodIn wsL_law (va_wsS RL 164 yL_leases wsL_leases) := goodIn_app (goodIn_of _ (by decide +kernel)) ggL_law_L_leases
