theorem dL_leases_398 : decode cL_leases 398 = .ok (.aload_n 3, 1) := by decide +kernel
theorem dL_leases_399 : decode cL_leases 399 = .ok (.bipush 6, 2) := by decide +kernel
theorem dL_leases_401 : decode cL_leases 401 = .ok (.iload 5, 2) := by decide +kernel
theorem dL_leases_403 : decode cL_leases 403 = .ok (.imul, 1) := by decide +kernel
theorem dL_leases_404 : decode cL_leases 404 = .ok (.iconst 4, 1) := by decide +kernel
theorem dL_leases_405 : decode cL_leases 405 = .ok (.iadd, 1) := by decide +kernel
theorem dL_leases_406 : decode cL_leases 406 = .ok (.iaload, 1) := by decide +kernel
theorem dL_leases_407 : decode cL_leases 407 = .ok (.iastore, 1) := by decide +kernel
theorem dL_leases_408 : decode cL_leases 408 = .ok (.aload 4, 2) := by decide +kernel
theorem dL_leases_410 : decode cL_leases 410 = .ok (.iconst 4, 1) := by decide +kernel
theorem dL_leases_411 : decode cL_leases 411 = .ok (.dup2, 1) := by decide +kernel
theorem dL_leases_412 : decode cL_leases 412 = .ok (.iaload, 1) := by decide +kernel
theorem dL_leases_413 : decode cL_leases 413 = .ok (.iload 6, 2) := by decide +kernel
theorem dL_leases_415 : decode cL_leases 415 = .ok (.ifCond .eq 10, 3) := by decide +kernel
theorem dL_leases_418 : decode cL_leases 418 = .ok (.iconst 1, 1) := by decide +kernel
theorem dL_leases_419 : decode cL_leases 419 = .ok (.iload 5, 2) := by decide +kernel
theorem dL_leases_421 : decode cL_leases 421 = .ok (.ishl, 1) := by decide +kernel
theorem dL_leases_422 : decode cL_leases 422 = .ok (.goto 4, 3) := by decide +kernel
theorem dL_leases_425 : decode cL_leases 425 = .ok (.iconst 0, 1) := by decide +kernel
theorem dL_leases_426 : decode cL_leases 426 = .ok (.ior, 1) := by decide +kernel
theorem dL_leases_427 : decode cL_leases 427 = .ok (.iastore, 1) := by decide +kernel
theorem dL_leases_428 : decode cL_leases 428 = .ok (.aload_n 0, 1) := by decide +kernel
theorem dL_leases_429 : decode cL_leases 429 = .ok (.iconst 2, 1) := by decide +kernel
theorem dL_leases_430 : decode cL_leases 430 = .ok (.iload 5, 2) := by decide +kernel
theorem dL_leases_432 : decode cL_leases 432 = .ok (.iconst 0, 1) := by decide +kernel
theorem dL_leases_433 : decode cL_leases 433 = .ok (.iconst 0, 1) := by decide +kernel
theorem dL_leases_434 : decode cL_leases 434 = .ok (.iconst 0, 1) := by decide +kernel
theorem dL_leases_435 : decode cL_leases 435 = .ok (.iconst 0, 1) := by decide +kernel
theorem dL_leases_436 : decode cL_leases 436 = .ok (.invokestatic 131, 3) := by decide +kernel
theorem dL_leases_439 : decode cL_leases 439 = .ok (.iload 6, 2) := by decide +kernel
theorem dL_leases_441 : decode cL_leases 441 = .ok (.ifCond .eq 20, 3) := by decide +kernel
theorem dL_leases_444 : decode cL_leases 444 = .ok (.aload 4, 2) := by decide +kernel
theorem dL_leases_446 : decode cL_leases 446 = .ok (.iconst 0, 1) := by decide +kernel
theorem dL_leases_447 : decode cL_leases 447 = .ok (.iaload, 1) := by decide +kernel
theorem dL_leases_448 : decode cL_leases 448 = .ok (.aload_n 3, 1) := by decide +kernel
theorem dL_leases_449 : decode cL_leases 449 = .ok (.bipush 6, 2) := by decide +kernel
theorem dL_leases_451 : decode cL_leases 451 = .ok (.iload 5, 2) := by decide +kernel
theorem dL_leases_453 : decode cL_leases 453 = .ok (.imul, 1) := by decide +kernel
theorem dL_leases_454 : decode cL_leases 454 = .ok (.iconst 3, 1) := by decide +kernel
theorem dL_leases_455 : decode cL_leases 455 = .ok (.iadd, 1) := by decide +kernel
theorem dL_leases_456 : decode cL_leases 456 = .ok (.iaload, 1) := by decide +kernel
theorem dL_leases_457 : decode cL_leases 457 = .ok (.isub, 1) := by decide +kernel
theorem dL_leases_458 : decode cL_leases 458 = .ok (.goto 5, 3) := by decide +kernel
theorem dL_leases_461 : decode cL_leases 461 = .ok (.ldc 36, 2) := by decide +kernel
theorem dL_leases_463 : decode cL_leases 463 = .ok (.if_icmp .ne 7, 3) := by decide +kernel
theorem dL_leases_466 : decode cL_leases 466 = .ok (.iconst 1, 1) := by decide +kernel
theorem dL_leases_467 : decode cL_leases 467 = .ok (.goto 4, 3) := by decide +kernel
theorem dL_leases_470 : decode cL_leases 470 = .ok (.iconst 0, 1) := by decide +kernel
theorem dL_leases_471 : decode cL_leases 471 = .ok (.ireturn, 1) := by decide +kernel
set_option maxRecDepth 20000 in
theorem ggL_finds_L_low : GoodIn wsL_finds wsL_low := goodIn_r _ [5, 6] (by decide +kernel) (by decide +kernel)
set_option maxRecDepth 20000 in
theorem gL_finds_L_low : GoodIn wsL_finds (va_wsS RL 93 yL_low wsL_low) := goodIn_app (goodIn_of _ (by decide +kernel)) ggL_finds_L_low
set_option maxRecDepth 20000 in
theorem ggL_finds_L_bills : GoodIn wsL_finds wsL_bills := goodIn_r _ [9, 10, 11, 4, 12, 13, 14, 15, 16, 17, 18, 19, 20, 21, 22, 23, 24, 25] (by decide +kernel) (by decide +kernel)
set_option maxRecDepth 20000 in
theorem gL_finds_L_bills : GoodIn wsL_finds (va_wsS RL 135 yL_bills wsL_bills) := goodIn_app (goodIn_of _ (by decide +kernel)) ggL_finds_L_bills
set_option maxRecDepth 20000 in
theorem ggL_finds_X4_find : GoodIn wsL_finds wsX4_find := goodIn_ca (goodIn_ca (goodIn_ca (goodIn_r _ [30, 31, 32, 33, 34, 35, 29, 36, 37, 38, 39, 40, 41, 42, 43, 44, 45, 46, 47, 48, 49, 50, 51, 52, 53, 54, 55, 56, 57, 58, 59, 60, 61, 62, 63, 64, 65, 66, 67, 68, 69, 70, 71, 72, 73, 74, 75, 76, 77, 78, 79, 80, 81, 82, 83, 84, 85, 86, 87, 88, 89, 90, 91, 92, 93, 94, 95, 96, 97, 98, 99, 100, 101, 102, 103, 104, 105, 106, 107, 108, 109, 110, 111, 112, 113, 114, 115, 116, 117, 118, 119, 120, 121, 122, 123, 124, 125, 126, 127, 128, 129, 130, 131, 132, 133, 134, 135, 136, 137, 138, 139, 140, 141, 142, 143, 144, 338, 339, 340, 341, 342, 343, 344, 345, 346, 347, 348, 349, 350, 351, 352, 353, 354, 355, 356, 357, 358, 359, 360, 361, 362, 363] (by decide +kernel) (by decide +kernel)) (goodIn_sub (fun _ h => List.mem_cons_of_mem _ (List.mem_append_left _ (List.mem_append_left _ (List.mem_append_right _ h)))) (by decide +kernel))) (goodIn_sub (fun _ h => List.mem_cons_of_mem _ (List.mem_append_left _ (List.mem_append_right _ h))) (by decide +kernel))) (goodIn_sub (fun _ h => List.mem_cons_of_mem _ (List.mem_append_right _ h)) (by decide +kernel))
set_option maxRecDepth 20000 in
theorem gL_finds_X4_find : GoodIn wsL_finds (wsV RL 138 RX4 yX4_find wsX4_find) := goodIn_app (goodIn_of _ (by decide +kernel)) ggL_finds_X4_find
set_option maxRecDepth 20000 in
theorem ggL_finds_L_get : GoodIn wsL_finds wsL_get := goodIn_r _ [21, 22] (by decide +kernel) (by decide +kernel)
set_option maxRecDepth 20000 in
theorem gL_finds_L_get : GoodIn wsL_finds (va_wsS RL 39 yL_get wsL_get) := goodIn_app (goodIn_of _ (by decide +kernel)) ggL_finds_L_get
set_option maxRecDepth 20000 in
theorem ggL_finds_L_put : GoodIn wsL_finds wsL_put := goodIn_r _ [147] (by decide +kernel) (by decide +kernel)
set_option maxRecDepth 20000 in
theorem gL_finds_L_put : GoodIn wsL_finds (va_wsS RL 64 yL_put wsL_put) := goodIn_app (goodIn_of _ (by decide +kernel)) ggL_finds_L_put
set_option maxRecDepth 20000 in
theorem ggL_finds_L_calls : GoodIn wsL_finds wsL_calls := goodIn_ca (goodIn_ca (goodIn_ca (goodIn_r _ [150, 151, 1, 152, 153, 154, 29, 155, 32, 156, 34, 35, 36, 37, 38, 157, 158, 159, 160, 31, 39, 40, 41, 42, 43, 62, 63, 64, 52, 65, 66, 67, 68, 44, 45, 46, 47, 48, 82, 58, 59, 60, 61, 69, 70, 71, 72, 73, 74, 75, 76, 55, 54, 56, 57, 77, 78, 79, 80, 81, 83, 84, 85, 86, 87, 88, 89, 90, 91, 92, 93, 94, 95, 96, 97, 98, 99, 100, 101, 102, 103, 104, 105, 106, 107, 108, 109, 110, 111, 112, 113, 114, 115, 116, 117, 118, 119, 120, 121, 122, 123, 124, 125, 126, 127, 128, 129, 130, 131, 132, 133, 134, 135, 136, 137, 138, 139, 140, 141, 142, 143, 144, 161, 162, 163, 164, 165, 166, 167, 168, 169, 170, 171, 172, 173, 174, 175, 176, 177, 178, 179, 180, 181, 182, 183, 184, 185, 186, 187, 188, 189, 190, 191, 192, 193, 194, 195, 196, 197, 198, 199, 200, 201, 202, 203, 204, 205, 206, 207, 208, 209, 210, 211, 212, 213, 214, 215, 216, 217, 218, 219, 220, 221, 222, 223, 224, 225, 226, 227, 228, 229, 230, 231, 232, 233, 234, 235, 236, 237, 238, 239, 240, 241, 242, 243, 244, 245, 246, 247, 248, 249, 250, 251, 252, 253, 254, 255, 256, 257, 258, 259, 260, 261, 262, 263, 264, 265, 266, 267, 268, 269, 270, 271, 272, 273, 274, 275, 276, 277, 278, 279, 280, 281, 282, 283, 284, 285, 286, 287, 288, 289, 290, 291, 292, 293, 294, 295, 296, 297, 298, 299, 300, 301, 302, 303, 304, 305, 306, 307, 308, 309, 310, 311, 312, 313, 314, 315, 316, 317, 318, 319, 320, 321, 322, 323, 324, 325, 326, 327, 328, 329, 330, 331, 332, 333, 334, 335, 336, 337, 338, 339, 340, 341, 342, 343, 344, 345, 346, 347, 348, 349, 350, 351, 352, 353, 354, 355, 356, 357, 358, 359, 360, 361, 362, 363, 364, 365, 366, 367, 368, 369, 370, 371, 372, 373, 374, 375, 376, 377] (by decide +kernel) (by decide +kernel)) (goodIn_sub (fun _ h => List.mem_cons_of_mem _ (List.mem_append_left _ (List.mem_append_left _ (List.mem_append_right _ h)))) (by decide +kernel))) (goodIn_sub (fun _ h => List.mem_cons_of_mem _ (List.mem_append_left _ (List.mem_append_right _ h))) (by decide +kernel))) (goodIn_sub (fun _ h => List.mem_cons_of_mem _ (List.mem_append_right _ h)) (by decide +kernel))
set_option maxRecDepth 20000 in
theorem gL_finds_L_calls : GoodIn wsL_finds (va_wsS RL 131 yL_calls wsL_calls) := goodIn_app (goodIn_of _ (by decide +kernel)) ggL_finds_L_calls
theorem dL_finds_0 : decode cL_finds 0 = .ok (.iload_n 2, 1) := by decide +kernel
theorem dL_finds_1 : decode cL_finds 1 = .ok (.bipush 12, 2) := by decide +kernel
theorem dL_finds_3 : decode cL_finds 3 = .ok (.invokestatic 93, 3) := by decide +kernel
theorem dL_finds_6 : decode cL_finds 6 = .ok (.istore 7, 2) := by decide +kernel
theorem dL_finds_8 : decode cL_finds 8 = .ok (.iload_n 1, 1) := by decide +kernel
theorem dL_finds_9 : decode cL_finds 9 = .ok (.ifCond .ne 132, 3) := by decide +kernel
theorem dL_finds_12 : decode cL_finds 12 = .ok (.aload 6, 2) := by decide +kernel
theorem dL_finds_14 : decode cL_finds 14 = .ok (.iconst 1, 1) := by decide +kernel
theorem dL_finds_15 : decode cL_finds 15 = .ok (.iaload, 1) := by decide +kernel
theorem dL_finds_16 : decode cL_finds 16 = .ok (.bipush 12, 2) := by decide +kernel
theorem dL_finds_18 : decode cL_finds 18 = .ok (.if_icmp .ge 123, 3) := by decide +kernel
theorem dL_finds_21 : decode cL_finds 21 = .ok (.iload_n 2, 1) := by decide +kernel
theorem dL_finds_22 : decode cL_finds 22 = .ok (.iconst 4, 1) := by decide +kernel
theorem dL_finds_23 : decode cL_finds 23 = .ok (.ishr, 1) := by decide +kernel
theorem dL_finds_24 : decode cL_finds 24 = .ok (.aload 6, 2) := by decide +kernel
theorem dL_finds_26 : decode cL_finds 26 = .ok (.iconst 0, 1) := by decide +kernel
theorem dL_finds_27 : decode cL_finds 27 = .ok (.iaload, 1) := by decide +kernel
theorem dL_finds_28 : decode cL_finds 28 = .ok (.iconst 1, 1) := by decide +kernel
theorem dL_finds_29 : decode cL_finds 29 = .ok (.iadd, 1) := by decide +kernel
theorem dL_finds_30 : decode cL_finds 30 = .ok (.invokestatic 93, 3) := by decide +kernel
theorem dL_finds_33 : decode cL_finds 33 = .ok (.istore 8, 2) := by decide +kernel
theorem dL_finds_35 : decode cL_finds 35 = .ok (.iload_n 2, 1) := by decide +kernel
theorem dL_finds_36 : decode cL_finds 36 = .ok (.bipush 8, 2) := by decide +kernel
theorem dL_finds_38 : decode cL_finds 38 = .ok (.ishr, 1) := by decide +kernel
theorem dL_finds_39 : decode cL_finds 39 = .ok (.bipush 61, 2) := by decide +kernel
theorem dL_finds_41 : decode cL_finds 41 = .ok (.invokestatic 93, 3) := by decide +kernel
theorem dL_finds_44 : decode cL_finds 44 = .ok (.istore 9, 2) := by decide +kernel
theorem dL_finds_46 : decode cL_finds 46 = .ok (.iconst (-1), 1) := by decide +kernel
theorem dL_finds_47 : decode cL_finds 47 = .ok (.aload_n 3, 1) := by decide +kernel
theorem dL_finds_48 : decode cL_finds 48 = .ok (.aload 4, 2) := by decide +kernel
theorem dL_finds_50 : decode cL_finds 50 = .ok (.aload 5, 2) := by decide +kernel
theorem dL_finds_52 : decode cL_finds 52 = .ok (.aload 6, 2) := by decide +kernel
theorem dL_finds_54 : decode cL_finds 54 = .ok (.invokestatic 135, 3) := by decide +kernel
theorem dL_finds_57 : decode cL_finds 57 = .ok (.istore 10, 2) := by decide +kernel
theorem dL_finds_59 : decode cL_finds 59 = .ok (.aload 4, 2) := by decide +kernel
theorem dL_finds_61 : decode cL_finds 61 = .ok (.iconst 3, 1) := by decide +kernel
theorem dL_finds_62 : decode cL_finds 62 = .ok (.aload 6, 2) := by decide +kernel
theorem dL_finds_64 : decode cL_finds 64 = .ok (.iconst 1, 1) := by decide +kernel
theorem dL_finds_65 : decode cL_finds 65 = .ok (.iaload, 1) := by decide +kernel
theorem dL_finds_66 : decode cL_finds 66 = .ok (.imul, 1) := by decide +kernel
theorem dL_finds_67 : decode cL_finds 67 = .ok (.iload 7, 2) := by decide +kernel
theorem dL_finds_69 : decode cL_finds 69 = .ok (.iastore, 1) := by decide +kernel
theorem dL_finds_70 : decode cL_finds 70 = .ok (.aload 4, 2) := by decide +kernel
theorem dL_finds_72 : decode cL_finds 72 = .ok (.iconst 3, 1) := by decide +kernel
theorem dL_finds_73 : decode cL_finds 73 = .ok (.aload 6, 2) := by decide +kernel
theorem dL_finds_75 : decode cL_finds 75 = .ok (.iconst 1, 1) := by decide +kernel
theorem dL_finds_76 : decode cL_finds 76 = .ok (.iaload, 1) := by decide +kernel
theorem dL_finds_77 : decode cL_finds 77 = .ok (.imul, 1) := by decide +kernel
theorem dL_finds_78 : decode cL_finds 78 = .ok (.iconst 1, 1) := by decide +kernel
theorem dL_finds_79 : decode cL_finds 79 = .ok (.iadd, 1) := by decide +kernel
theorem dL_finds_80 : decode cL_finds 80 = .ok (.iload 8, 2) := by decide +kernel
theorem dL_finds_82 : decode cL_finds 82 = .ok (.iastore, 1) := by decide +kernel
theorem dL_finds_83 : decode cL_finds 83 = .ok (.aload 4, 2) := by decide +kernel
theorem dL_finds_85 : decode cL_finds 85 = .ok (.iconst 3, 1) := by decide +kernel
theorem dL_finds_86 : decode cL_finds 86 = .ok (.aload 6, 2) := by decide +kernel
theorem dL_finds_88 : decode cL_finds 88 = .ok (.iconst 1, 1) := by decide +kernel
theorem dL_finds_89 : decode cL_finds 89 = .ok (.iaload, 1) := by decide +kernel
theorem dL_finds_90 : decode cL_finds 90 = .ok (.imul, 1) := by decide +kernel
theorem dL_finds_91 : decode cL_finds 91 = .ok (.iconst 2, 1) := by decide +kernel
theorem dL_finds_92 : decode cL_finds 92 = .ok (.iadd, 1) := by decide +kernel
theorem dL_finds_93 : decode cL_finds 93 = .ok (.iload 9, 2) := by decide +kernel
theorem dL_finds_95 : decode cL_finds 95 = .ok (.iastore, 1) := by decide +kernel
theorem dL_finds_96 : decode cL_finds 96 = .ok (.aload 6, 2) := by decide +kernel
theorem dL_finds_98 : decode cL_finds 98 = .ok (.iconst 1, 1) := by decide +kernel
theorem dL_finds_99 : decode cL_finds 99 = .ok (.dup2, 1) := by decide +kernel
theorem dL_finds_100 : decode cL_finds 100 = .ok (.iaload, 1) := by decide +kernel
theorem dL_finds_101 : decode cL_finds 101 = .ok (.iconst 1, 1) := by decide +kernel
theorem dL_finds_102 : decode cL_finds 102 = .ok (.iadd, 1) := by decide +kernel
theorem dL_finds_103 : decode cL_finds 103 = .ok (.iastore, 1) := by decide +kernel
theorem dL_finds_104 : decode cL_finds 104 = .ok (.iload 10, 2) := by decide +kernel
theorem dL_finds_106 : decode cL_finds 106 = .ok (.iconst 1, 1) := by decide +kernel
theorem dL_finds_107 : decode cL_finds 107 = .ok (.aload_n 3, 1) := by decide +kernel
theorem dL_finds_108 : decode cL_finds 108 = .ok (.aload 4, 2) := by decide +kernel
theorem dL_finds_110 : decode cL_finds 110 = .ok (.aload 5, 2) := by decide +kernel
theorem dL_finds_112 : decode cL_finds 112 = .ok (.aload 6, 2) := by decide +kernel
theorem dL_finds_114 : decode cL_finds 114 = .ok (.invokestatic 135, 3) := by decide +kernel
theorem dL_finds_117 : decode cL_finds 117 = .ok (.iadd, 1) := by decide +kernel
theorem dL_finds_118 : decode cL_finds 118 = .ok (.istore 10, 2) := by decide +kernel
theorem dL_finds_120 : decode cL_finds 120 = .ok (.aload_n 0, 1) := by decide +kernel
theorem dL_finds_121 : decode cL_finds 121 = .ok (.iload 7, 2) := by decide +kernel
theorem dL_finds_123 : decode cL_finds 123 = .ok (.iload 8, 2) := by decide +kernel
theorem dL_finds_125 : decode cL_finds 125 = .ok (.iload 9, 2) := by decide +kernel
theorem dL_finds_127 : decode cL_finds 127 = .ok (.invokevirtual 138, 3) := by decide +kernel
theorem dL_finds_130 : decode cL_finds 130 = .ok (.iload 10, 2) := by decide +kernel
theorem dL_finds_132 : decode cL_finds 132 = .ok (.if_icmp .ne 7, 3) := by decide +kernel
theorem dL_finds_135 : decode cL_finds 135 = .ok (.iconst 1, 1) := by decide +kernel
theorem dL_finds_136 : decode cL_finds 136 = .ok (.goto 4, 3) := by decide +kernel
theorem dL_finds_139 : decode cL_finds 139 = .ok (.iconst 0, 1) := by decide +kernel
theorem dL_finds_140 : decode cL_finds 140 = .ok (.ireturn, 1) := by decide +kernel
theorem dL_finds_141 : decode cL_finds 141 = .ok (.aload 6, 2) := by decide +kernel
theorem dL_finds_143 : decode cL_finds 143 = .ok (.iconst 0, 1) := by decide +kernel
theorem dL_finds_144 : decode cL_finds 144 = .ok (.iaload, 1) := by decide +kernel
theorem dL_finds_145 : decode cL_finds 145 = .ok (.ifCond .ne 5, 3) := by decide +kernel
theorem dL_finds_148 : decode cL_finds 148 = .ok (.iconst 1, 1) := by decide +kernel
theorem dL_finds_149 : decode cL_finds 149 = .ok (.ireturn, 1) := by decide +kernel
theorem dL_finds_150 : decode cL_finds 150 = .ok (.iload_n 2, 1) := by decide +kernel
theorem dL_finds_151 : decode cL_finds 151 = .ok (.iconst 4, 1) := by decide +kernel
theorem dL_finds_152 : decode cL_finds 152 = .ok (.ishr, 1) := by decide +kernel
theorem dL_finds_153 : decode cL_finds 153 = .ok (.aload 6, 2) := by decide +kernel
theorem dL_finds_155 : decode cL_finds 155 = .ok (.iconst 0, 1) := by decide +kernel
theorem dL_finds_156 : decode cL_finds 156 = .ok (.iaload, 1) := by decide +kernel
theorem dL_finds_157 : decode cL_finds 157 = .ok (.invokestatic 93, 3) := by decide +kernel
theorem dL_finds_160 : decode cL_finds 160 = .ok (.istore 8, 2) := by decide +kernel
theorem dL_finds_162 : decode cL_finds 162 = .ok (.iload_n 2, 1) := by decide +kernel
theorem dL_finds_163 : decode cL_finds 163 = .ok (.bipush 8, 2) := by decide +kernel
theorem dL_finds_165 : decode cL_finds 165 = .ok (.ishr, 1) := by decide +kernel
theorem dL_finds_166 : decode cL_finds 166 = .ok (.iload_n 2, 1) := by decide +kernel
theorem dL_finds_167 : decode cL_finds 167 = .ok (.bipush 14, 2) := by decide +kernel
theorem dL_finds_169 : decode cL_finds 169 = .ok (.ishr, 1) := by decide +kernel
theorem dL_finds_170 : decode cL_finds 170 = .ok (.iconst 2, 1) := by decide +kernel
theorem dL_finds_171 : decode cL_finds 171 = .ok (.invokestatic 93, 3) := by decide +kernel
theorem dL_finds_174 : decode cL_finds 174 = .ok (.ifCond .ne 9, 3) := by decide +kernel
theorem dL_finds_177 : decode cL_finds 177 = .ok (.sipush 30001, 3) := by decide +kernel
theorem dL_finds_180 : decode cL_finds 180 = .ok (.goto 6, 3) := by decide +kernel
theorem dL_finds_183 : decode cL_finds 183 = .ok (.sipush 600, 3) := by decide +kernel
theorem dL_finds_186 : decode cL_finds 186 = .ok (.invokestatic 93, 3) := by decide +kernel
theorem dL_finds_189 : decode cL_finds 189 = .ok (.istore 9, 2) := by decide +kernel
theorem dL_finds_191 : decode cL_finds 191 = .ok (.ldc 36, 2) := by decide +kernel
theorem dL_finds_193 : decode cL_finds 193 = .ok (.istore 10, 2) := by decide +kernel
theorem dL_finds_195 : decode cL_finds 195 = .ok (.aload_n 3, 1) := by decide +kernel
theorem dL_finds_196 : decode cL_finds 196 = .ok (.iload 7, 2) := by decide +kernel
theorem dL_finds_198 : decode cL_finds 198 = .ok (.iload 8, 2) := by decide +kernel
theorem dL_finds_200 : decode cL_finds 200 = .ok (.invokestatic 39, 3) := by decide +kernel
theorem dL_finds_203 : decode cL_finds 203 = .ok (.ifCond .ne 44, 3) := by decide +kernel
theorem dL_finds_206 : decode cL_finds 206 = .ok (.iconst (-1), 1) := by decide +kernel
theorem dL_finds_207 : decode cL_finds 207 = .ok (.aload_n 3, 1) := by decide +kernel
theorem dL_finds_208 : decode cL_finds 208 = .ok (.aload 4, 2) := by decide +kernel
theorem dL_finds_210 : decode cL_finds 210 = .ok (.aload 5, 2) := by decide +kernel
theorem dL_finds_212 : decode cL_finds 212 = .ok (.aload 6, 2) := by decide +kernel
theorem dL_finds_214 : decode cL_finds 214 = .ok (.invokestatic 135, 3) := by decide +kernel
theorem dL_finds_217 : decode cL_finds 217 = .ok (.istore 10, 2) := by decide +kernel
theorem dL_finds_219 : decode cL_finds 219 = .ok (.aload_n 3, 1) := by decide +kernel
theorem dL_finds_220 : decode cL_finds 220 = .ok (.iload 7, 2) := by decide +kernel
theorem dL_finds_222 : decode cL_finds 222 = .ok (.iload 8, 2) := by decide +kernel
theorem dL_finds_224 : decode cL_finds 224 = .ok (.iload 9, 2) := by decide +kernel
theorem dL_finds_226 : decode cL_finds 226 = .ok (.iconst 1, 1) := by decide +kernel
theorem dL_finds_227 : decode cL_finds 227 = .ok (.iadd, 1) := by decide +kernel
theorem dL_finds_228 : decode cL_finds 228 = .ok (.invokestatic 64, 3) := by decide +kernel
theorem dL_finds_231 : decode cL_finds 231 = .ok (.iload 10, 2) := by decide +kernel
theorem dL_finds_233 : decode cL_finds 233 = .ok (.iconst 1, 1) := by decide +kernel
theorem dL_finds_234 : decode cL_finds 234 = .ok (.aload_n 3, 1) := by decide +kernel
theorem dL_finds_235 : decode cL_finds 235 = .ok (.aload 4, 2) := by decide +kernel
theorem dL_finds_237 : decode cL_finds 237 = .ok (.aload 5, 2) := by decide +kernel
theorem dL_finds_239 : decode cL_finds 239 = .ok (.aload 6, 2) := by decide +kernel
theorem dL_finds_241 : decode cL_finds 241 = .ok (.invokestatic 135, 3) := by decide +kernel
theorem dL_finds_244 : decode cL_finds 244 = .ok (.iadd, 1) := by decide +kernel
theorem dL_finds_245 : decode cL_finds 245 = .ok (.istore 10, 2) := by decide +kernel
theorem dL_finds_247 : decode cL_finds 247 = .ok (.aload_n 0, 1) := by decide +kernel
theorem dL_finds_248 : decode cL_finds 248 = .ok (.iconst 0, 1) := by decide +kernel
theorem dL_finds_249 : decode cL_finds 249 = .ok (.iload 7, 2) := by decide +kernel
theorem dL_finds_251 : decode cL_finds 251 = .ok (.iload 8, 2) := by decide +kernel
theorem dL_finds_253 : decode cL_finds 253 = .ok (.iload 9, 2) := by decide +kernel
theorem dL_finds_255 : decode cL_finds 255 = .ok (.iconst 0, 1) := by decide +kernel
theorem dL_finds_256 : decode cL_finds 256 = .ok (.iconst 0, 1) := by decide +kernel
theorem dL_finds_257 : decode cL_finds 257 = .ok (.invokestatic 131, 3) := by decide +kernel
theorem dL_finds_260 : decode cL_finds 260 = .ok (.iload 10, 2) := by decide +kernel
theorem dL_finds_262 : decode cL_finds 262 = .ok (.if_icmp .ne 7, 3) := by decide +kernel
theorem dL_finds_265 : decode cL_finds 265 = .ok (.iconst 1, 1) := by decide +kernel
theorem dL_finds_266 : decode cL_finds 266 = .ok (.goto 4, 3) := by decide +kernel
theorem dL_finds_269 : decode cL_finds 269 = .ok (.iconst 0, 1) := by decide +kernel
theorem dL_finds_270 : decode cL_finds 270 = .ok (.ireturn, 1) := by decide +kernel
set_option maxRecDepth 20000 in
theorem ggL_sets_L_low : GoodIn wsL_sets wsL_low := goodIn_r _ [4, 5] (by decide +kernel) (by decide +kernel)
set_option maxRecDepth 20000 in
theorem gL_sets_L_low : GoodIn wsL_sets (va_wsS RL 93 yL_low wsL_low) := goodIn_app (goodIn_of _ (by decide +kernel)) ggL_sets_L_low
set_option maxRecDepth 20000 in
theorem ggL_sets_X4_setPeople : GoodIn wsL_sets wsX4_setPeople := goodIn_ca (goodIn_ca (goodIn_r _ [10, 11, 12, 13, 14, 15, 9, 16, 17, 18, 19, 20, 21, 22, 23, 37, 38, 39, 40, 41, 42, 43, 44, 45, 46, 47] (by decide +kernel) (by decide +kernel)) (goodIn_sub (fun _ h => List.mem_cons_of_mem _ (List.mem_append_left _ (List.mem_append_right _ h))) (by decide +kernel))) (goodIn_sub (fun _ h => List.mem_cons_of_mem _ (List.mem_append_right _ h)) (by decide +kernel))
set_option maxRecDepth 20000 in
theorem gL_sets_X4_setPeople : GoodIn wsL_sets (wsV RL 141 RX4 yX4_setPeople wsX4_setPeople) := goodIn_app (goodIn_of _ (by decide +kernel)) ggL_sets_X4_setPeople
set_option maxRecDepth 20000 in
theorem ggL_sets_X4_setLamp : GoodIn wsL_sets wsX4_setLamp := goodIn_ca (goodIn_ca (goodIn_r _ [27, 28, 29, 30, 14, 15, 9, 16, 17, 18, 19, 20, 21, 22, 23, 37, 38, 39, 40, 41, 42, 48, 49, 50, 51, 52, 53, 54, 55] (by decide +kernel) (by decide +kernel)) (goodIn_sub (fun _ h => List.mem_cons_of_mem _ (List.mem_append_left _ (List.mem_append_right _ h))) (by decide +kernel))) (goodIn_sub (fun _ h => List.mem_cons_of_mem _ (List.mem_append_right _ h)) (by decide +kernel))
set_option maxRecDepth 20000 in
theorem gL_sets_X4_setLamp : GoodIn wsL_sets (wsV RL 144 RX4 yX4_setLamp wsX4_setLamp) := goodIn_app (goodIn_of _ (by decide +kernel)) ggL_sets_X4_setLamp
set_option maxRecDepth 20000 in
theorem ggL_sets_X4_setSkill : GoodIn wsL_sets wsX4_setSkill := goodIn_ca (goodIn_ca (goodIn_r _ [34, 35, 36, 14, 15, 9, 16, 17, 18, 19, 20, 21, 22, 23, 37, 38, 39, 40, 41, 42, 56, 57, 58, 59, 60, 61, 62, 63, 64] (by decide +kernel) (by decide +kernel)) (goodIn_sub (fun _ h => List.mem_cons_of_mem _ (List.mem_append_left _ (List.mem_append_right _ h))) (by decide +kernel))) (goodIn_sub (fun _ h => List.mem_cons_of_mem _ (List.mem_append_right _ h)) (by decide +kernel))
set_option maxRecDepth 20000 in
theorem gL_sets_X4_setSkill : GoodIn wsL_sets (wsV RL 148 RX4 yX4_setSkill wsX4_setSkill) := goodIn_app (goodIn_of _ (by decide +kernel)) ggL_sets_X4_setSkill
theorem dL_sets_0 : decode cL_sets 0 = .ok (.iload_n 2, 1) := by decide +kernel
theorem dL_sets_1 : decode cL_sets 1 = .ok (.bipush 12, 2) := by decide +kernel
theorem dL_sets_3 : decode cL_sets 3 = .ok (.invokestatic 93, 3) := by decide +kernel
theorem dL_sets_6 : decode cL_sets 6 = .ok (.istore 5, 2) := by decide +kernel
theorem dL_sets_8 : decode cL_sets 8 = .ok (.iload_n 1, 1) := by decide +kernel
theorem dL_sets_9 : decode cL_sets 9 = .ok (.ifCond .ne 83, 3) := by decide +kernel
theorem dL_sets_12 : decode cL_sets 12 = .ok (.aload_n 3, 1) := by decide +kernel
theorem dL_sets_13 : decode cL_sets 13 = .ok (.iload 5, 2) := by decide +kernel
theorem dL_sets_15 : decode cL_sets 15 = .ok (.iaload, 1) := by decide +kernel
theorem dL_sets_16 : decode cL_sets 16 = .ok (.istore 6, 2) := by decide +kernel
theorem dL_sets_18 : decode cL_sets 18 = .ok (.aload_n 3, 1) := by decide +kernel
theorem dL_sets_19 : decode cL_sets 19 = .ok (.iload 5, 2) := by decide +kernel
theorem dL_sets_21 : decode cL_sets 21 = .ok (.iload_n 2, 1) := by decide +kernel
theorem dL_sets_22 : decode cL_sets 22 = .ok (.iconst 4, 1) := by decide +kernel
theorem dL_sets_23 : decode cL_sets 23 = .ok (.ishr, 1) := by decide +kernel
theorem dL_sets_24 : decode cL_sets 24 = .ok (.iload_n 2, 1) := by decide +kernel
theorem dL_sets_25 : decode cL_sets 25 = .ok (.bipush 13, 2) := by decide +kernel
theorem dL_sets_27 : decode cL_sets 27 = .ok (.ishr, 1) := by decide +kernel
theorem dL_sets_28 : decode cL_sets 28 = .ok (.iconst 3, 1) := by decide +kernel
theorem dL_sets_29 : decode cL_sets 29 = .ok (.invokestatic 93, 3) := by decide +kernel
theorem dL_sets_32 : decode cL_sets 32 = .ok (.ifCond .ne 9, 3) := by decide +kernel
theorem dL_sets_35 : decode cL_sets 35 = .ok (.sipush 1001, 3) := by decide +kernel
theorem dL_sets_38 : decode cL_sets 38 = .ok (.goto 6, 3) := by decide +kernel
theorem dL_sets_41 : decode cL_sets 41 = .ok (.sipush 200, 3) := by decide +kernel
theorem dL_sets_44 : decode cL_sets 44 = .ok (.invokestatic 93, 3) := by decide +kernel
theorem dL_sets_47 : decode cL_sets 47 = .ok (.iastore, 1) := by decide +kernel
theorem dL_sets_48 : decode cL_sets 48 = .ok (.aload_n 3, 1) := by decide +kernel
theorem dL_sets_49 : decode cL_sets 49 = .ok (.bipush 12, 2) := by decide +kernel
theorem dL_sets_51 : decode cL_sets 51 = .ok (.iload 5, 2) := by decide +kernel
theorem dL_sets_53 : decode cL_sets 53 = .ok (.iadd, 1) := by decide +kernel
theorem dL_sets_54 : decode cL_sets 54 = .ok (.iload_n 2, 1) := by decide +kernel
theorem dL_sets_55 : decode cL_sets 55 = .ok (.bipush 7, 2) := by decide +kernel
theorem dL_sets_57 : decode cL_sets 57 = .ok (.ishr, 1) := by decide +kernel
theorem dL_sets_58 : decode cL_sets 58 = .ok (.bipush 101, 2) := by decide +kernel
theorem dL_sets_60 : decode cL_sets 60 = .ok (.invokestatic 93, 3) := by decide +kernel
theorem dL_sets_63 : decode cL_sets 63 = .ok (.iastore, 1) := by decide +kernel
theorem dL_sets_64 : decode cL_sets 64 = .ok (.aload_n 0, 1) := by decide +kernel
theorem dL_sets_65 : decode cL_sets 65 = .ok (.iload 5, 2) := by decide +kernel
theorem dL_sets_67 : decode cL_sets 67 = .ok (.aload_n 3, 1) := by decide +kernel
theorem dL_sets_68 : decode cL_sets 68 = .ok (.iload 5, 2) := by decide +kernel
theorem dL_sets_70 : decode cL_sets 70 = .ok (.iaload, 1) := by decide +kernel
theorem dL_sets_71 : decode cL_sets 71 = .ok (.aload_n 3, 1) := by decide +kernel
theorem dL_sets_72 : decode cL_sets 72 = .ok (.bipush 12, 2) := by decide +kernel
theorem dL_sets_74 : decode cL_sets 74 = .ok (.iload 5, 2) := by decide +kernel
theorem dL_sets_76 : decode cL_sets 76 = .ok (.iadd, 1) := by decide +kernel
theorem dL_sets_77 : decode cL_sets 77 = .ok (.iaload, 1) := by decide +kernel
theorem dL_sets_78 : decode cL_sets 78 = .ok (.invokevirtual 141, 3) := by decide +kernel
theorem dL_sets_81 : decode cL_sets 81 = .ok (.iload 6, 2) := by decide +kernel
theorem dL_sets_83 : decode cL_sets 83 = .ok (.if_icmp .ne 7, 3) := by decide +kernel
theorem dL_sets_86 : decode cL_sets 86 = .ok (.iconst 1, 1) := by decide +kernel
theorem dL_sets_87 : decode cL_sets 87 = .ok (.goto 4, 3) := by decide +kernel
theorem dL_sets_90 : decode cL_sets 90 = .ok (.iconst 0, 1) := by decide +kernel
theorem dL_sets_91 : decode cL_sets 91 = .ok (.ireturn, 1) := by decide +kernel
theorem dL_sets_92 : decode cL_sets 92 = .ok (.iload_n 1, 1) := by decide +kernel
theorem dL_sets_93 : decode cL_sets 93 = .ok (.iconst 1, 1) := by decide +kernel
theorem dL_sets_94 : decode cL_sets 94 = .ok (.if_icmp .ne 86, 3) := by decide +kernel
theorem dL_sets_97 : decode cL_sets 97 = .ok (.aload_n 3, 1) := by decide +kernel
theorem dL_sets_98 : decode cL_sets 98 = .ok (.bipush 24, 2) := by decide +kernel
theorem dL_sets_100 : decode cL_sets 100 = .ok (.iload 5, 2) := by decide +kernel
theorem dL_sets_102 : decode cL_sets 102 = .ok (.iadd, 1) := by decide +kernel
theorem dL_sets_103 : decode cL_sets 103 = .ok (.iaload, 1) := by decide +kernel
theorem dL_sets_104 : decode cL_sets 104 = .ok (.bipush 100, 2) := by decide +kernel
theorem dL_sets_106 : decode cL_sets 106 = .ok (.irem, 1) := by decide +kernel
theorem dL_sets_107 : decode cL_sets 107 = .ok (.istore 6, 2) := by decide +kernel
theorem dL_sets_109 : decode cL_sets 109 = .ok (.iload_n 2, 1) := by decide +kernel
theorem dL_sets_110 : decode cL_sets 110 = .ok (.iconst 4, 1) := by decide +kernel
theorem dL_sets_111 : decode cL_sets 111 = .ok (.ishr, 1) := by decide +kernel
theorem dL_sets_112 : decode cL_sets 112 = .ok (.iconst 3, 1) := by decide +kernel
theorem dL_sets_113 : decode cL_sets 113 = .ok (.invokestatic 93, 3) := by decide +kernel
theorem dL_sets_116 : decode cL_sets 116 = .ok (.ifCond .le 7, 3) := by decide +kernel
theorem dL_sets_119 : decode cL_sets 119 = .ok (.iconst 1, 1) := by decide +kernel
theorem dL_sets_120 : decode cL_sets 120 = .ok (.goto 4, 3) := by decide +kernel
theorem dL_sets_123 : decode cL_sets 123 = .ok (.iconst 0, 1) := by decide +kernel
theorem dL_sets_124 : decode cL_sets 124 = .ok (.istore 7, 2) := by decide +kernel
theorem dL_sets_126 : decode cL_sets 126 = .ok (.iload_n 2, 1) := by decide +kernel
theorem dL_sets_127 : decode cL_sets 127 = .ok (.bipush 6, 2) := by decide +kernel
theorem dL_sets_129 : decode cL_sets 129 = .ok (.ishr, 1) := by decide +kernel
theorem dL_sets_130 : decode cL_sets 130 = .ok (.bipush 61, 2) := by decide +kernel
theorem dL_sets_132 : decode cL_sets 132 = .ok (.invokestatic 93, 3) := by decide +kernel
theorem dL_sets_135 : decode cL_sets 135 = .ok (.istore 8, 2) := by decide +kernel
theorem dL_sets_137 : decode cL_sets 137 = .ok (.aload_n 3, 1) := by decide +kernel
theorem dL_sets_138 : decode cL_sets 138 = .ok (.bipush 24, 2) := by decide +kernel
theorem dL_sets_140 : decode cL_sets 140 = .ok (.iload 5, 2) := by decide +kernel
theorem dL_sets_142 : decode cL_sets 142 = .ok (.iadd, 1) := by decide +kernel
theorem dL_sets_143 : decode cL_sets 143 = .ok (.iload 7, 2) := by decide +kernel
theorem dL_sets_145 : decode cL_sets 145 = .ok (.ifCond .eq 8, 3) := by decide +kernel
theorem dL_sets_148 : decode cL_sets 148 = .ok (.iload 8, 2) := by decide +kernel
theorem dL_sets_150 : decode cL_sets 150 = .ok (.goto 8, 3) := by decide +kernel
theorem dL_sets_153 : decode cL_sets 153 = .ok (.bipush 100, 2) := by decide +kernel
theorem dL_sets_155 : decode cL_sets 155 = .ok (.iload 8, 2) := by decide +kernel
theorem dL_sets_157 : decode cL_sets 157 = .ok (.iadd, 1) := by decide +kernel
theorem dL_sets_158 : decode cL_sets 158 = .ok (.iastore, 1) := by decide +kernel
theorem dL_sets_159 : decode cL_sets 159 = .ok (.aload_n 0, 1) := by decide +kernel
theorem dL_sets_160 : decode cL_sets 160 = .ok (.iload 5, 2) := by decide +kernel
theorem dL_sets_162 : decode cL_sets 162 = .ok (.iload 7, 2) := by decide +kernel
theorem dL_sets_164 : decode cL_sets 164 = .ok (.iload 8, 2) := by decide +kernel
theorem dL_sets_166 : decode cL_sets 166 = .ok (.invokevirtual 144, 3) := by decide +kernel
theorem dL_sets_169 : decode cL_sets 169 = .ok (.iload 6, 2) := by decide +kernel
theorem dL_sets_171 : decode cL_sets 171 = .ok (.if_icmp .ne 7, 3) := by decide +kernel
theorem dL_sets_174 : decode cL_sets 174 = .ok (.iconst 1, 1) := by decide +kernel
theorem dL_sets_175 : decode cL_sets 175 = .ok (.goto 4, 3) := by decide +kernel
theorem dL_sets_178 : decode cL_sets 178 = .ok (.iconst 0, 1) := by decide +kernel
theorem dL_sets_179 : decode cL_sets 179 = .ok (.ireturn, 1) := by decide +kernel
theorem dL_sets_180 : decode cL_sets 180 = .ok (.iload_n 2, 1) := by decide +kernel
theorem dL_sets_181 : decode cL_sets 181 = .ok (.bipush 6, 2) := by decide +kernel
theorem dL_sets_183 : decode cL_sets 183 = .ok (.invokestatic 93, 3) := by decide +kernel
theorem dL_sets_186 : decode cL_sets 186 = .ok (.istore 6, 2) := by decide +kernel
theorem dL_sets_188 : decode cL_sets 188 = .ok (.aload 4, 2) := by decide +kernel
theorem dL_sets_190 : decode cL_sets 190 = .ok (.iload 6, 2) := by decide +kernel
theorem dL_sets_192 : decode cL_sets 192 = .ok (.iaload, 1) := by decide +kernel
theorem dL_sets_193 : decode cL_sets 193 = .ok (.istore 7, 2) := by decide +kernel
theorem dL_sets_195 : decode cL_sets 195 = .ok (.aload 4, 2) := by decide +kernel
theorem dL_sets_197 : decode cL_sets 197 = .ok (.iload 6, 2) := by decide +kernel
theorem dL_sets_199 : decode cL_sets 199 = .ok (.iload_n 2, 1) := by decide +kernel
theorem dL_sets_200 : decode cL_sets 200 = .ok (.iconst 4, 1) := by decide +kernel
theorem dL_sets_201 : decode cL_sets 201 = .ok (.ishr, 1) := by decide +kernel
theorem dL_sets_202 : decode cL_sets 202 = .ok (.bipush 51, 2) := by decide +kernel
theorem dL_sets_204 : decode cL_sets 204 = .ok (.invokestatic 93, 3) := by decide +kernel
theorem dL_sets_207 : decode cL_sets 207 = .ok (.iastore, 1) := by decide +kernel
theorem dL_sets_208 : decode cL_sets 208 = .ok (.aload_n 0, 1) := by decide +kernel
theorem dL_sets_209 : decode cL_sets 209 = .ok (.iload 6, 2) := by decide +kernel
theorem dL_sets_211 : decode cL_sets 211 = .ok (.aload 4, 2) := by decide +kernel
theorem dL_sets_213 : decode cL_sets 213 = .ok (.iload 6, 2) := by decide +kernel
theorem dL_sets_215 : decode cL_sets 215 = .ok (.iaload, 1) := by decide +kernel
theorem dL_sets_216 : decode cL_sets 216 = .ok (.invokevirtual 148, 3) := by decide +kernel
theorem dL_sets_219 : decode cL_sets 219 = .ok (.iload 7, 2) := by decide +kernel
theorem dL_sets_221 : decode cL_sets 221 = .ok (.if_icmp .ne 7, 3) := by decide +kernel
theorem dL_sets_224 : decode cL_sets 224 = .ok (.iconst 1, 1) := by decide +kernel
theorem dL_sets_225 : decode cL_sets 225 = .ok (.goto 4, 3) := by decide +kernel
theorem dL_sets_228 : decode cL_sets 228 = .ok (.iconst 0, 1) := by decide +kernel
theorem dL_sets_229 : decode cL_sets 229 = .ok (.ireturn, 1) := by decide +kernel
set_option maxRecDepth 20000 in
theorem ggL_asks_L_low : GoodIn wsL_asks wsL_low := goodIn_r _ [5, 6] (by decide +kernel) (by decide +kernel)
set_option maxRecDepth 20000 in
theorem gL_asks_L_low : GoodIn wsL_asks (va_wsS RL 93 yL_low wsL_low) := goodIn_app (goodIn_of _ (by decide +kernel)) ggL_asks_L_low
set_option maxRecDepth 20000 in
theorem ggL_asks_L_calls : GoodIn wsL_asks wsL_calls := goodIn_ca (goodIn_ca (goodIn_ca (goodIn_r _ [9, 10, 1, 11, 12, 13, 14, 15, 16, 17, 18, 19, 20, 21, 22, 23, 24, 25, 26, 27, 28, 29, 30, 31, 32, 33, 34, 35, 36, 37, 38, 39, 40, 41, 42, 43, 44, 45, 46, 47, 48, 49, 50, 51, 52, 53, 54, 55, 56, 57, 58, 59, 60, 61, 62, 63, 64, 65, 66, 67, 68, 69, 70, 71, 72, 73, 74, 75, 76, 77, 78, 79, 80, 81, 82, 83, 84, 85, 86, 87, 88, 89, 90, 91, 92, 93, 94, 95, 96, 97, 98, 99, 100, 101, 102, 103, 104, 105, 106, 107, 108, 109, 110, 111, 112, 113, 114, 115, 116, 117, 118, 119, 120, 121, 122, 123, 124, 125, 126, 127, 128, 129, 130, 131, 132, 133, 134, 135, 136, 137, 138, 139, 140, 141, 142, 143, 144, 145, 146, 147, 148, 149, 150, 151, 152, 153, 154, 155, 156, 157, 158, 159, 160, 161, 162, 163, 164, 165, 166, 167, 168, 169, 170, 171, 172, 173, 174, 175, 176, 177, 178, 179, 180, 181, 182, 183, 184, 185, 186, 187, 188, 189, 190, 191, 192, 193, 194, 195, 196, 197, 198, 199, 200, 201, 202, 203, 204, 205, 206, 207, 208, 209, 210, 211, 212, 213, 214, 215, 216, 217, 218, 219, 220, 221, 222, 223, 224, 225, 226, 227, 228, 229, 230, 231, 232, 233, 234, 235, 236, 237, 238, 239, 240, 241, 242, 243, 244, 245, 246, 247, 248, 249, 250, 251, 252, 253, 254, 255, 256, 257, 258, 259, 260, 261, 262, 263, 264, 265, 266, 267, 268, 269, 270, 271, 272, 273, 274, 275, 276, 277, 278, 279, 280, 281, 282, 283, 284, 285, 286, 287, 288, 289, 290, 291, 292, 293, 294, 295, 296, 297, 298, 299, 300, 301, 302, 303, 304, 305, 306, 307, 308, 309, 310, 311, 312, 313, 314, 315, 316, 317, 318, 319, 320, 321, 322, 323, 324, 325, 326, 327, 328, 329, 330, 331, 332, 333, 334, 335, 336, 337, 338, 339, 340, 341, 342, 343, 344, 345, 346] (by decide +kernel) (by decide +kernel)) (goodIn_sub (fun _ h => List.mem_cons_of_mem _ (List.mem_append_left _ (List.mem_append_left _ (List.mem_append_right _ h)))) (by decide +kernel))) (goodIn_sub (fun _ h => List.mem_cons_of_mem _ (List.mem_append_left _ (List.mem_append_right _ h))) (by decide +kernel))) (goodIn_sub (fun _ h => List.mem_cons_of_mem _ (List.mem_append_right _ h)) (by decide +kernel))
set_option maxRecDepth 20000 in
theorem gL_asks_L_calls : GoodIn wsL_asks (va_wsS RL 131 yL_calls wsL_calls) := goodIn_app (goodIn_of _ (by decide +kernel)) ggL_asks_L_calls
theorem dL_asks_0 : decode cL_asks 0 = .ok (.iload_n 1, 1) := by decide +kernel
theorem dL_asks_1 : decode cL_asks 1 = .ok (.ifCond .ne 144, 3) := by decide +kernel
theorem dL_asks_4 : decode cL_asks 4 = .ok (.iload_n 2, 1) := by decide +kernel
theorem dL_asks_5 : decode cL_asks 5 = .ok (.bipush 6, 2) := by decide +kernel
theorem dL_asks_7 : decode cL_asks 7 = .ok (.invokestatic 93, 3) := by decide +kernel
theorem dL_asks_10 : decode cL_asks 10 = .ok (.istore 6, 2) := by decide +kernel
theorem dL_asks_12 : decode cL_asks 12 = .ok (.iload_n 2, 1) := by decide +kernel
theorem dL_asks_13 : decode cL_asks 13 = .ok (.iconst 3, 1) := by decide +kernel
theorem dL_asks_14 : decode cL_asks 14 = .ok (.ishr, 1) := by decide +kernel
theorem dL_asks_15 : decode cL_asks 15 = .ok (.iload_n 2, 1) := by decide +kernel
theorem dL_asks_16 : decode cL_asks 16 = .ok (.bipush 8, 2) := by decide +kernel
theorem dL_asks_18 : decode cL_asks 18 = .ok (.ishr, 1) := by decide +kernel
theorem dL_asks_19 : decode cL_asks 19 = .ok (.iconst 2, 1) := by decide +kernel
theorem dL_asks_20 : decode cL_asks 20 = .ok (.invokestatic 93, 3) := by decide +kernel
theorem dL_asks_23 : decode cL_asks 23 = .ok (.ifCond .ne 8, 3) := by decide +kernel
theorem dL_asks_26 : decode cL_asks 26 = .ok (.bipush 12, 2) := by decide +kernel
theorem dL_asks_28 : decode cL_asks 28 = .ok (.goto 4, 3) := by decide +kernel
theorem dL_asks_31 : decode cL_asks 31 = .ok (.iconst 3, 1) := by decide +kernel
theorem dL_asks_32 : decode cL_asks 32 = .ok (.invokestatic 93, 3) := by decide +kernel
theorem dL_asks_35 : decode cL_asks 35 = .ok (.istore 7, 2) := by decide +kernel
theorem dL_asks_37 : decode cL_asks 37 = .ok (.aload 4, 2) := by decide +kernel
theorem dL_asks_39 : decode cL_asks 39 = .ok (.bipush 18, 2) := by decide +kernel
theorem dL_asks_41 : decode cL_asks 41 = .ok (.iload 6, 2) := by decide +kernel
theorem dL_asks_43 : decode cL_asks 43 = .ok (.iadd, 1) := by decide +kernel
theorem dL_asks_44 : decode cL_asks 44 = .ok (.iaload, 1) := by decide +kernel
theorem dL_asks_45 : decode cL_asks 45 = .ok (.iload 7, 2) := by decide +kernel
theorem dL_asks_47 : decode cL_asks 47 = .ok (.ishr, 1) := by decide +kernel
theorem dL_asks_48 : decode cL_asks 48 = .ok (.iconst 1, 1) := by decide +kernel
theorem dL_asks_49 : decode cL_asks 49 = .ok (.iand, 1) := by decide +kernel
theorem dL_asks_50 : decode cL_asks 50 = .ok (.ifCond .ne 7, 3) := by decide +kernel
theorem dL_asks_53 : decode cL_asks 53 = .ok (.iconst 1, 1) := by decide +kernel
theorem dL_asks_54 : decode cL_asks 54 = .ok (.goto 4, 3) := by decide +kernel
theorem dL_asks_57 : decode cL_asks 57 = .ok (.iconst 0, 1) := by decide +kernel
theorem dL_asks_58 : decode cL_asks 58 = .ok (.istore 8, 2) := by decide +kernel
theorem dL_asks_60 : decode cL_asks 60 = .ok (.aload 4, 2) := by decide +kernel
theorem dL_asks_62 : decode cL_asks 62 = .ok (.bipush 18, 2) := by decide +kernel
theorem dL_asks_64 : decode cL_asks 64 = .ok (.iload 6, 2) := by decide +kernel
theorem dL_asks_66 : decode cL_asks 66 = .ok (.iadd, 1) := by decide +kernel
theorem dL_asks_67 : decode cL_asks 67 = .ok (.dup2, 1) := by decide +kernel
theorem dL_asks_68 : decode cL_asks 68 = .ok (.iaload, 1) := by decide +kernel
theorem dL_asks_69 : decode cL_asks 69 = .ok (.iconst 1, 1) := by decide +kernel
theorem dL_asks_70 : decode cL_asks 70 = .ok (.iload 7, 2) := by decide +kernel
theorem dL_asks_72 : decode cL_asks 72 = .ok (.ishl, 1) := by decide +kernel
theorem dL_asks_73 : decode cL_asks 73 = .ok (.ior, 1) := by decide +kernel
theorem dL_asks_74 : decode cL_asks 74 = .ok (.iastore, 1) := by decide +kernel
theorem dL_asks_75 : decode cL_asks 75 = .ok (.iconst 0, 1) := by decide +kernel
theorem dL_asks_76 : decode cL_asks 76 = .ok (.istore 9, 2) := by decide +kernel
theorem dL_asks_78 : decode cL_asks 78 = .ok (.iconst 0, 1) := by decide +kernel
theorem dL_asks_79 : decode cL_asks 79 = .ok (.istore 10, 2) := by decide +kernel
theorem dL_asks_81 : decode cL_asks 81 = .ok (.iload 10, 2) := by decide +kernel
theorem dL_asks_83 : decode cL_asks 83 = .ok (.bipush 12, 2) := by decide +kernel
theorem dL_asks_85 : decode cL_asks 85 = .ok (.if_icmp .ge 27, 3) := by decide +kernel
theorem dL_asks_88 : decode cL_asks 88 = .ok (.iload 9, 2) := by decide +kernel
theorem dL_asks_90 : decode cL_asks 90 = .ok (.aload 4, 2) := by decide +kernel
theorem dL_asks_92 : decode cL_asks 92 = .ok (.bipush 18, 2) := by decide +kernel
theorem dL_asks_94 : decode cL_asks 94 = .ok (.iload 6, 2) := by decide +kernel
theorem dL_asks_96 : decode cL_asks 96 = .ok (.iadd, 1) := by decide +kernel
theorem dL_asks_97 : decode cL_asks 97 = .ok (.iaload, 1) := by decide +kernel
theorem dL_asks_98 : decode cL_asks 98 = .ok (.iload 10, 2) := by decide +kernel
theorem dL_asks_100 : decode cL_asks 100 = .ok (.ishr, 1) := by decide +kernel
theorem dL_asks_101 : decode cL_asks 101 = .ok (.iconst 1, 1) := by decide +kernel
theorem dL_asks_102 : decode cL_asks 102 = .ok (.iand, 1) := by decide +kernel
theorem dL_asks_103 : decode cL_asks 103 = .ok (.iadd, 1) := by decide +kernel
theorem dL_asks_104 : decode cL_asks 104 = .ok (.istore 9, 2) := by decide +kernel
theorem dL_asks_106 : decode cL_asks 106 = .ok (.iinc 10 1, 3) := by decide +kernel
theorem dL_asks_109 : decode cL_asks 109 = .ok (.goto (-28), 3) := by decide +kernel
theorem dL_asks_112 : decode cL_asks 112 = .ok (.aload_n 0, 1) := by decide +kernel
theorem dL_asks_113 : decode cL_asks 113 = .ok (.iconst 3, 1) := by decide +kernel
theorem dL_asks_114 : decode cL_asks 114 = .ok (.iload 6, 2) := by decide +kernel
theorem dL_asks_116 : decode cL_asks 116 = .ok (.iload 7, 2) := by decide +kernel
theorem dL_asks_118 : decode cL_asks 118 = .ok (.iconst 0, 1) := by decide +kernel
theorem dL_asks_119 : decode cL_asks 119 = .ok (.iconst 0, 1) := by decide +kernel
theorem dL_asks_120 : decode cL_asks 120 = .ok (.iconst 0, 1) := by decide +kernel
theorem dL_asks_121 : decode cL_asks 121 = .ok (.invokestatic 131, 3) := by decide +kernel
theorem dL_asks_124 : decode cL_asks 124 = .ok (.iload 8, 2) := by decide +kernel
theorem dL_asks_126 : decode cL_asks 126 = .ok (.ifCond .eq 8, 3) := by decide +kernel
theorem dL_asks_129 : decode cL_asks 129 = .ok (.iload 9, 2) := by decide +kernel
theorem dL_asks_131 : decode cL_asks 131 = .ok (.goto 5, 3) := by decide +kernel
theorem dL_asks_134 : decode cL_asks 134 = .ok (.ldc 36, 2) := by decide +kernel
theorem dL_asks_136 : decode cL_asks 136 = .ok (.if_icmp .ne 7, 3) := by decide +kernel
theorem dL_asks_139 : decode cL_asks 139 = .ok (.iconst 1, 1) := by decide +kernel
theorem dL_asks_140 : decode cL_asks 140 = .ok (.goto 4, 3) := by decide +kernel
theorem dL_asks_143 : decode cL_asks 143 = .ok (.iconst 0, 1) := by decide +kernel
theorem dL_asks_144 : decode cL_asks 144 = .ok (.ireturn, 1) := by decide +kernel
theorem dL_asks_145 : decode cL_asks 145 = .ok (.aload 5, 2) := by decide +kernel
theorem dL_asks_147 : decode cL_asks 147 = .ok (.iconst 3, 1) := by decide +kernel
theorem dL_asks_148 : decode cL_asks 148 = .ok (.iaload, 1) := by decide +kernel
theorem dL_asks_149 : decode cL_asks 149 = .ok (.bipush 20, 2) := by decide +kernel
theorem dL_asks_151 : decode cL_asks 151 = .ok (.if_icmp .ne 5, 3) := by decide +kernel
theorem dL_asks_154 : decode cL_asks 154 = .ok (.iconst 1, 1) := by decide +kernel
theorem dL_asks_155 : decode cL_asks 155 = .ok (.ireturn, 1) := by decide +kernel
theorem dL_asks_156 : decode cL_asks 156 = .ok (.aload_n 3, 1) := by decide +kernel
theorem dL_asks_157 : decode cL_asks 157 = .ok (.bipush 20, 2) := by decide +kernel
theorem dL_asks_159 : decode cL_asks 159 = .ok (.aload 5, 2) := by decide +kernel
theorem dL_asks_161 : decode cL_asks 161 = .ok (.iconst 3, 1) := by decide +kernel
theorem dL_asks_162 : decode cL_asks 162 = .ok (.iaload, 1) := by decide +kernel
theorem dL_asks_163 : decode cL_asks 163 = .ok (.iadd, 1) := by decide +kernel
theorem dL_asks_164 : decode cL_asks 164 = .ok (.iload_n 2, 1) := by decide +kernel
theorem dL_asks_165 : decode cL_asks 165 = .ok (.sipush 1001, 3) := by decide +kernel
theorem dL_asks_168 : decode cL_asks 168 = .ok (.invokestatic 93, 3) := by decide +kernel
theorem dL_asks_171 : decode cL_asks 171 = .ok (.iastore, 1) := by decide +kernel
theorem dL_asks_172 : decode cL_asks 172 = .ok (.aload 5, 2) := by decide +kernel
theorem dL_asks_174 : decode cL_asks 174 = .ok (.iconst 3, 1) := by decide +kernel
theorem dL_asks_175 : decode cL_asks 175 = .ok (.dup2, 1) := by decide +kernel
theorem dL_asks_176 : decode cL_asks 176 = .ok (.iaload, 1) := by decide +kernel
theorem dL_asks_177 : decode cL_asks 177 = .ok (.iconst 1, 1) := by decide +kernel
theorem dL_asks_178 : decode cL_asks 178 = .ok (.iadd, 1) := by decide +kernel
theorem dL_asks_179 : decode cL_asks 179 = .ok (.iastore, 1) := by decide +kernel
theorem dL_asks_180 : decode cL_asks 180 = .ok (.aload_n 0, 1) := by decide +kernel
theorem dL_asks_181 : decode cL_asks 181 = .ok (.iconst 4, 1) := by decide +kernel
theorem dL_asks_182 : decode cL_asks 182 = .ok (.aload_n 3, 1) := by decide +kernel
theorem dL_asks_183 : decode cL_asks 183 = .ok (.bipush 19, 2) := by decide +kernel
theorem dL_asks_185 : decode cL_asks 185 = .ok (.aload 5, 2) := by decide +kernel
theorem dL_asks_187 : decode cL_asks 187 = .ok (.iconst 3, 1) := by decide +kernel
theorem dL_asks_188 : decode cL_asks 188 = .ok (.iaload, 1) := by decide +kernel
theorem dL_asks_189 : decode cL_asks 189 = .ok (.iadd, 1) := by decide +kernel
theorem dL_asks_190 : decode cL_asks 190 = .ok (.iaload, 1) := by decide +kernel
theorem dL_asks_191 : decode cL_asks 191 = .ok (.iconst 0, 1) := by decide +kernel
theorem dL_asks_192 : decode cL_asks 192 = .ok (.iconst 0, 1) := by decide +kernel
theorem dL_asks_193 : decode cL_asks 193 = .ok (.iconst 0, 1) := by decide +kernel
theorem dL_asks_194 : decode cL_asks 194 = .ok (.iconst 0, 1) := by decide +kernel
theorem dL_asks_195 : decode cL_asks 195 = .ok (.invokestatic 131, 3) := by decide +kernel
theorem dL_asks_198 : decode cL_asks 198 = .ok (.aload 5, 2) := by decide +kernel
theorem dL_asks_200 : decode cL_asks 200 = .ok (.iconst 3, 1) := by decide +kernel
theorem dL_asks_201 : decode cL_asks 201 = .ok (.iaload, 1) := by decide +kernel
theorem dL_asks_202 : decode cL_asks 202 = .ok (.if_icmp .ne 7, 3) := by decide +kernel
theorem dL_asks_205 : decode cL_asks 205 = .ok (.iconst 1, 1) := by decide +kernel
theorem dL_asks_206 : decode cL_asks 206 = .ok (.goto 4, 3) := by decide +kernel
theorem dL_asks_209 : decode cL_asks 209 = .ok (.iconst 0, 1) := by decide +kernel
theorem dL_asks_210 : decode cL_asks 210 = .ok (.ireturn, 1) := by decide +kernel
