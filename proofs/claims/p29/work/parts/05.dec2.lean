theorem dL_holds_316 : decode cL_holds 316 = .ok (.aload_n 0, 1) := by decide +kernel
theorem dL_holds_317 : decode cL_holds 317 = .ok (.iload 4, 2) := by decide +kernel
theorem dL_holds_319 : decode cL_holds 319 = .ok (.iload 7, 2) := by decide +kernel
theorem dL_holds_321 : decode cL_holds 321 = .ok (.invokevirtual 70, 3) := by decide +kernel
theorem dL_holds_324 : decode cL_holds 324 = .ok (.ifCond .ne 18, 3) := by decide +kernel
theorem dL_holds_327 : decode cL_holds 327 = .ok (.aload_n 0, 1) := by decide +kernel
theorem dL_holds_328 : decode cL_holds 328 = .ok (.iload 7, 2) := by decide +kernel
theorem dL_holds_330 : decode cL_holds 330 = .ok (.iload 4, 2) := by decide +kernel
theorem dL_holds_332 : decode cL_holds 332 = .ok (.invokevirtual 70, 3) := by decide +kernel
theorem dL_holds_335 : decode cL_holds 335 = .ok (.ifCond .ne 7, 3) := by decide +kernel
theorem dL_holds_338 : decode cL_holds 338 = .ok (.iconst 1, 1) := by decide +kernel
theorem dL_holds_339 : decode cL_holds 339 = .ok (.goto 4, 3) := by decide +kernel
theorem dL_holds_342 : decode cL_holds 342 = .ok (.iconst 0, 1) := by decide +kernel
theorem dL_holds_343 : decode cL_holds 343 = .ok (.iadd, 1) := by decide +kernel
theorem dL_holds_344 : decode cL_holds 344 = .ok (.istore_n 2, 1) := by decide +kernel
theorem dL_holds_345 : decode cL_holds 345 = .ok (.iinc 7 1, 3) := by decide +kernel
theorem dL_holds_348 : decode cL_holds 348 = .ok (.goto (-218), 3) := by decide +kernel
theorem dL_holds_351 : decode cL_holds 351 = .ok (.iinc 4 1, 3) := by decide +kernel
theorem dL_holds_354 : decode cL_holds 354 = .ok (.goto (-347), 3) := by decide +kernel
theorem dL_holds_357 : decode cL_holds 357 = .ok (.iload_n 3, 1) := by decide +kernel
theorem dL_holds_358 : decode cL_holds 358 = .ok (.ifCond .ne 7, 3) := by decide +kernel
theorem dL_holds_361 : decode cL_holds 361 = .ok (.dconst 1, 1) := by decide +kernel
theorem dL_holds_362 : decode cL_holds 362 = .ok (.goto 10, 3) := by decide +kernel
theorem dL_holds_365 : decode cL_holds 365 = .ok (.iload_n 3, 1) := by decide +kernel
theorem dL_holds_366 : decode cL_holds 366 = .ok (.iload_n 2, 1) := by decide +kernel
theorem dL_holds_367 : decode cL_holds 367 = .ok (.isub, 1) := by decide +kernel
theorem dL_holds_368 : decode cL_holds 368 = .ok (.i2d, 1) := by decide +kernel
theorem dL_holds_369 : decode cL_holds 369 = .ok (.iload_n 3, 1) := by decide +kernel
theorem dL_holds_370 : decode cL_holds 370 = .ok (.i2d, 1) := by decide +kernel
theorem dL_holds_371 : decode cL_holds 371 = .ok (.ddiv, 1) := by decide +kernel
theorem dL_holds_372 : decode cL_holds 372 = .ok (.dstore 4, 2) := by decide +kernel
theorem dL_holds_374 : decode cL_holds 374 = .ok (.aload_n 0, 1) := by decide +kernel
theorem dL_holds_375 : decode cL_holds 375 = .ok (.iconst 3, 1) := by decide +kernel
theorem dL_holds_376 : decode cL_holds 376 = .ok (.invokevirtual 16, 3) := by decide +kernel
theorem dL_holds_379 : decode cL_holds 379 = .ok (.iload_n 3, 1) := by decide +kernel
theorem dL_holds_380 : decode cL_holds 380 = .ok (.if_icmp .ne 26, 3) := by decide +kernel
theorem dL_holds_383 : decode cL_holds 383 = .ok (.aload_n 0, 1) := by decide +kernel
theorem dL_holds_384 : decode cL_holds 384 = .ok (.iconst 5, 1) := by decide +kernel
theorem dL_holds_385 : decode cL_holds 385 = .ok (.invokevirtual 16, 3) := by decide +kernel
theorem dL_holds_388 : decode cL_holds 388 = .ok (.iload_n 2, 1) := by decide +kernel
theorem dL_holds_389 : decode cL_holds 389 = .ok (.if_icmp .ne 17, 3) := by decide +kernel
theorem dL_holds_392 : decode cL_holds 392 = .ok (.aload_n 0, 1) := by decide +kernel
theorem dL_holds_393 : decode cL_holds 393 = .ok (.invokevirtual 80, 3) := by decide +kernel
theorem dL_holds_396 : decode cL_holds 396 = .ok (.dload 4, 2) := by decide +kernel
theorem dL_holds_398 : decode cL_holds 398 = .ok (.dcmp .l, 1) := by decide +kernel
theorem dL_holds_399 : decode cL_holds 399 = .ok (.ifCond .ne 7, 3) := by decide +kernel
theorem dL_holds_402 : decode cL_holds 402 = .ok (.iconst 1, 1) := by decide +kernel
theorem dL_holds_403 : decode cL_holds 403 = .ok (.goto 4, 3) := by decide +kernel
theorem dL_holds_406 : decode cL_holds 406 = .ok (.iconst 0, 1) := by decide +kernel
theorem dL_holds_407 : decode cL_holds 407 = .ok (.ireturn, 1) := by decide +kernel
set_option maxRecDepth 20000 in
theorem ggL_law_X7_init : GoodIn wsL_law wsX7_init := goodIn_r _ [6, 7, 8, 9, 10, 11, 12, 13, 14, 15, 16, 17, 18, 19, 20, 21, 22, 23, 24, 25, 26, 27, 28, 29, 30, 31, 32, 33, 34, 35, 36, 37, 38, 39, 40, 41, 42, 43, 44, 45, 46, 47, 48, 49, 50, 51, 52, 53, 54, 55, 56, 57, 58, 59, 60, 61, 62, 63, 64, 65, 66, 67, 68, 69, 70, 71, 72, 73, 74, 75, 76, 77, 78, 79, 80, 81, 82, 83, 84, 85, 86, 87, 88, 89, 90, 91, 92, 93, 94, 95, 96, 97, 98, 99, 100, 101, 102, 103, 104, 105, 106, 107, 108, 109, 110, 111, 112, 113, 114, 115, 116, 117, 533, 534, 535, 536, 537, 538, 539, 540, 523, 524, 525, 526, 527, 528, 529, 530, 531, 532, 541, 542, 543, 544, 545, 546, 547, 548, 549, 550, 551, 552, 553, 554, 555, 556, 557, 558, 559, 560, 561, 562, 563, 564, 565, 566, 567, 568, 569, 570, 571, 572, 573, 574, 575, 576, 577, 578] (by decide +kernel) (by decide +kernel)
set_option maxRecDepth 20000 in
theorem gL_law_X7_init : GoodIn wsL_law (wsX7_init) := ggL_law_X7_init
set_option maxRecDepth 20000 in
theorem ggL_law_L_cell : GoodIn wsL_law wsL_cell := goodIn_r _ [121, 122, 123] (by decide +kernel) (by decide +kernel)
set_option maxRecDepth 20000 in
theorem gL_law_L_cell : GoodIn wsL_law (va_wsS RL 20 yL_cell wsL_cell) := goodIn_app (goodIn_of _ (by decide +kernel)) ggL_law_L_cell
set_option maxRecDepth 20000 in
theorem ggL_law_L_low : GoodIn wsL_law wsL_low := goodIn_r _ [126, 127] (by decide +kernel) (by decide +kernel)
set_option maxRecDepth 20000 in
theorem gL_law_L_low : GoodIn wsL_law (va_wsS RL 26 yL_low wsL_low) := goodIn_app (goodIn_of _ (by decide +kernel)) ggL_law_L_low
set_option maxRecDepth 20000 in
set_option maxRecDepth 20000 in
theorem gpL_law_L_build_wsL_build_r1 : GoodIn wsL_law wsL_build_r1 := goodIn_r _ [118, 119, 120, 121, 122, 123, 124, 125, 126, 127, 131, 132, 133, 2, 134, 135, 136, 13, 137, 138, 139, 140, 141, 31] (by decide +kernel) (by decide +kernel)
set_option maxRecDepth 20000 in
theorem gpL_law_L_build_wsL_build_r2 : GoodIn wsL_law wsL_build_r2 := goodIn_r _ [142, 143, 144, 30, 145, 100, 102, 146, 147, 148, 12, 149, 41, 42, 44, 45, 46, 47, 48, 49, 150, 151, 152, 153] (by decide +kernel) (by decide +kernel)
set_option maxRecDepth 20000 in
theorem gpL_law_L_build_wsL_build_r3 : GoodIn wsL_law wsL_build_r3 := goodIn_r _ [36, 37, 154, 155, 156, 157, 158, 159, 160, 161, 162, 163, 164, 165, 166, 17, 167, 168, 169, 170, 171, 172, 173, 174] (by decide +kernel) (by decide +kernel)
set_option maxRecDepth 20000 in
theorem gpL_law_L_build_wsL_build_r4 : GoodIn wsL_law wsL_build_r4 := goodIn_r _ [175, 176, 177, 178, 179, 180, 181, 182, 183, 184, 185, 186, 187, 188, 189, 16, 190, 54, 191, 192, 193, 194, 195, 58] (by decide +kernel) (by decide +kernel)
set_option maxRecDepth 20000 in
theorem gpL_law_L_build_wsL_build_r5 : GoodIn wsL_law wsL_build_r5 := goodIn_r _ [62, 196, 55, 197, 56, 198, 57, 199, 200, 201, 202, 203, 204, 205, 206, 207, 208, 209, 210, 211, 212, 213, 214, 215] (by decide +kernel) (by decide +kernel)
set_option maxRecDepth 20000 in
theorem gpL_law_L_build_wsL_build_r6 : GoodIn wsL_law wsL_build_r6 := goodIn_r _ [216, 217, 218, 219, 220, 221, 222, 223, 224, 225, 226, 227, 59, 60, 228, 61, 229, 230, 231, 232, 233, 234, 235, 236] (by decide +kernel) (by decide +kernel)
set_option maxRecDepth 20000 in
theorem gpL_law_L_build_wsL_build_r7 : GoodIn wsL_law wsL_build_r7 := goodIn_r _ [237, 238, 239, 240, 241, 242, 243, 244, 245, 246, 247, 248, 249, 250, 251, 252, 253, 254, 255, 256, 257, 258, 259, 260] (by decide +kernel) (by decide +kernel)
set_option maxRecDepth 20000 in
theorem gpL_law_L_build_wsL_build_r8 : GoodIn wsL_law wsL_build_r8 := goodIn_r _ [261, 262, 263, 264, 265, 266, 267, 268, 269, 270, 271, 272, 273, 274, 275, 276, 277, 278, 279, 21, 280, 281, 282, 283] (by decide +kernel) (by decide +kernel)
set_option maxRecDepth 20000 in
theorem gpL_law_L_build_wsL_build_r9 : GoodIn wsL_law wsL_build_r9 := goodIn_r _ [284, 285, 286, 287, 20, 288, 67, 73, 75, 289, 74, 290, 71, 79, 291, 292, 293, 78, 294, 85, 295, 296, 297, 298] (by decide +kernel) (by decide +kernel)
set_option maxRecDepth 20000 in
theorem gpL_law_L_build_wsL_build_r10 : GoodIn wsL_law wsL_build_r10 := goodIn_r _ [299, 70, 300, 301, 302, 303, 68, 69, 304, 305, 306, 307, 308, 309, 310, 311, 312, 313, 314, 72, 315, 316, 317, 318] (by decide +kernel) (by decide +kernel)
set_option maxRecDepth 20000 in
theorem gpL_law_L_build_wsL_build_r11 : GoodIn wsL_law wsL_build_r11 := goodIn_r _ [319, 86, 320, 321, 322, 323, 84, 324, 325, 326, 327, 328, 329, 330, 331, 332, 333, 334, 335, 336, 337, 338, 339, 340] (by decide +kernel) (by decide +kernel)
set_option maxRecDepth 20000 in
theorem gpL_law_L_build_wsL_build_r12 : GoodIn wsL_law wsL_build_r12 := goodIn_r _ [26, 341, 342, 27, 343, 344, 345, 346, 347, 348, 349, 350, 351, 352, 353, 354, 355, 356, 357, 358, 359, 360, 361, 362] (by decide +kernel) (by decide +kernel)
set_option maxRecDepth 20000 in
theorem gpL_law_L_build_wsL_build_r13 : GoodIn wsL_law wsL_build_r13 := goodIn_r _ [363, 364, 365, 366, 367, 368, 369, 370, 371, 372, 373, 374, 375, 376, 377, 378, 379, 380, 381, 382, 383, 384, 385, 386] (by decide +kernel) (by decide +kernel)
set_option maxRecDepth 20000 in
theorem gpL_law_L_build_wsL_build_r14 : GoodIn wsL_law wsL_build_r14 := goodIn_r _ [387, 388, 389, 390, 391, 392, 393, 394, 395, 396, 397, 398, 399, 400, 401, 402, 403, 404, 405, 406] (by decide +kernel) (by decide +kernel)
theorem ggL_law_L_build : GoodIn wsL_law wsL_build := goodIn_cons (goodIn_r [Cond.code yL_build cL_build 10 (some .boolean)] [130] (by decide +kernel) (by decide +kernel)) (goodIn_app (goodIn_app (goodIn_app (goodIn_app (goodIn_app (goodIn_app (goodIn_app (goodIn_app (goodIn_app (goodIn_app gpL_law_L_build_wsL_build_r1 (goodIn_app gpL_law_L_build_wsL_build_r2 (goodIn_app gpL_law_L_build_wsL_build_r3 (goodIn_app gpL_law_L_build_wsL_build_r4 (goodIn_app gpL_law_L_build_wsL_build_r5 (goodIn_app gpL_law_L_build_wsL_build_r6 (goodIn_app gpL_law_L_build_wsL_build_r7 (goodIn_app gpL_law_L_build_wsL_build_r8 (goodIn_app gpL_law_L_build_wsL_build_r9 (goodIn_app gpL_law_L_build_wsL_build_r10 (goodIn_app gpL_law_L_build_wsL_build_r11 (goodIn_app gpL_law_L_build_wsL_build_r12 (goodIn_app gpL_law_L_build_wsL_build_r13 gpL_law_L_build_wsL_build_r14))))))))))))) (goodIn_sub inlX7 (by decide +kernel))) (goodIn_sub inlX5 (by decide +kernel))) (goodIn_sub inlX2 (by decide +kernel))) (goodIn_sub inlX6 (by decide +kernel))) (goodIn_sub inlX0 (by decide +kernel))) (goodIn_sub inlX4 (by decide +kernel))) (goodIn_sub (fun _ h => List.mem_append_left _ (List.mem_append_left _ (List.mem_append_right _ h))) (by decide +kernel))) (goodIn_sub (fun _ h => List.mem_append_left _ (List.mem_append_right _ h)) (by decide +kernel))) (goodIn_sub (fun _ h => List.mem_append_right _ h) (by decide +kernel)))
set_option maxRecDepth 20000 in
theorem gL_law_L_build : GoodIn wsL_law (va_wsS RL 85 yL_build wsL_build) := goodIn_app (goodIn_of _ (by decide +kernel)) ggL_law_L_build
set_option maxRecDepth 20000 in
theorem ggL_law_X7_makespan : GoodIn wsL_law wsX7_makespan := goodIn_r _ [279, 21, 280, 281, 282, 283, 2, 284, 37, 183, 184, 185, 186, 36, 17, 187, 188, 189, 16, 190, 54, 191, 192, 193, 194, 195, 58, 62, 196, 55, 197, 56, 198, 57, 199, 200, 201, 202, 203, 204, 205, 206, 207, 208, 209, 210, 211, 212, 213, 214, 215, 216, 217, 218, 219, 220, 221, 222, 223, 224, 225, 226, 227, 59, 60, 228, 61, 229, 230, 231, 232, 233, 234, 235, 236, 237, 238, 239, 240, 241, 242, 243, 244, 245, 246, 247, 248, 249, 250, 251, 252, 253, 254, 255, 256, 257, 258, 259, 260, 261, 262, 263, 264, 265, 266, 267, 285, 286, 287, 20, 288, 67, 73, 75, 289, 74, 290, 71, 79, 291, 292, 293, 78, 294, 85, 295, 296, 297, 298, 299, 70, 300, 301, 302, 303, 68, 69, 304, 305, 306, 307, 308, 309, 310, 311, 312, 313, 314, 72, 315, 316, 317, 318, 319, 86, 320, 321, 322, 323, 84, 324, 325, 326, 327, 328, 329, 330, 331, 332, 523, 524, 525, 526, 527, 528, 529, 530, 531, 532, 550, 551, 552, 553, 554, 555, 556, 557, 558, 559, 541, 542, 543, 544, 545, 546, 547, 548, 549, 533, 534, 535, 536, 537, 538, 539, 540, 576, 577, 578] (by decide +kernel) (by decide +kernel)
set_option maxRecDepth 20000 in
theorem gL_law_X7_makespan : GoodIn wsL_law (wsV RL 32 RX7 yX7_makespan wsX7_makespan) := goodIn_app (goodIn_of _ (by decide +kernel)) ggL_law_X7_makespan
set_option maxRecDepth 20000 in
theorem ggL_law_X7_lowerBound : GoodIn wsL_law wsX7_lowerBound := goodIn_r _ [336, 337, 338, 339, 2, 340, 26, 13, 137, 341, 342, 230, 231, 232, 27, 167, 343, 147, 148, 12, 149, 41, 42, 44, 45, 46, 47, 48, 49, 187, 188, 189, 16, 190, 54, 191, 192, 193, 194, 195, 58, 62, 196, 55, 197, 56, 198, 57, 199, 200, 201, 202, 203, 204, 205, 206, 207, 208, 209, 210, 211, 212, 213, 214, 215, 216, 217, 218, 219, 220, 221, 222, 223, 224, 225, 226, 227, 59, 60, 228, 61, 229, 233, 234, 235, 236, 237, 238, 239, 240, 241, 242, 243, 244, 245, 246, 247, 248, 249, 250, 251, 252, 253, 254, 255, 256, 257, 258, 259, 260, 261, 262, 263, 264, 265, 266, 267, 523, 524, 525, 526, 527, 528, 529, 530, 531, 532, 533, 534, 535, 536, 537, 538, 539, 540, 541, 542, 543, 544, 545, 546, 547, 548, 549] (by decide +kernel) (by decide +kernel)
set_option maxRecDepth 20000 in
theorem gL_law_X7_lowerBound : GoodIn wsL_law (wsV RL 36 RX7 yX7_lowerBound wsX7_lowerBound) := goodIn_app (goodIn_of _ (by decide +kernel)) ggL_law_X7_lowerBound
set_option maxRecDepth 20000 in
theorem ggL_law_X7_drawn : GoodIn wsL_law wsX7_drawn := goodIn_ca (goodIn_r _ [410, 135, 136, 411, 25, 412, 413, 414, 24, 415, 91, 416, 417, 418, 419, 94, 92, 420, 421, 422, 292, 293, 78, 294, 85, 423, 424, 425, 426, 427, 428, 429, 430, 431, 205, 2, 206, 432, 173, 174, 175, 176, 177, 178, 433, 317, 318, 319, 86, 320, 321, 310, 234, 231, 235, 322, 323, 84, 324, 434, 330, 331, 332, 435, 307, 308, 309, 523, 524, 525, 526, 527, 528, 529, 530, 531, 532, 560, 561, 562, 533, 534, 535, 536, 537, 538, 539, 540, 576, 577, 578] (by decide +kernel) (by decide +kernel)) (goodIn_sub (fun _ h => List.mem_append_left _ (List.mem_append_left _ (List.mem_append_right _ h))) (by decide +kernel))
set_option maxRecDepth 20000 in
theorem gL_law_X7_drawn : GoodIn wsL_law (wsV RL 90 RX7 yX7_drawn wsX7_drawn) := goodIn_app (goodIn_of _ (by decide +kernel)) ggL_law_X7_drawn
set_option maxRecDepth 20000 in
theorem ggL_law_X7_value : GoodIn wsL_law wsX7_value := goodIn_ca (goodIn_r _ [161, 135, 136, 162, 163, 164, 2, 165, 13, 166, 137, 17, 167, 168, 169, 170, 12, 171, 42, 49, 172, 173, 174, 175, 176, 177, 178, 179, 180, 181, 182, 44, 183, 184, 185, 186, 36, 187, 188, 189, 16, 190, 54, 191, 192, 193, 194, 195, 58, 62, 196, 55, 197, 56, 198, 57, 199, 200, 201, 202, 203, 204, 205, 206, 207, 208, 209, 210, 211, 212, 213, 214, 215, 216, 217, 218, 219, 220, 221, 222, 223, 224, 225, 226, 227, 59, 60, 228, 61, 229, 230, 231, 232, 233, 234, 235, 236, 237, 238, 239, 240, 241, 242, 243, 244, 245, 246, 247, 248, 249, 250, 251, 252, 253, 254, 255, 256, 257, 258, 259, 260, 261, 262, 263, 264, 265, 266, 267, 268, 269, 270, 271, 272, 273, 274, 275, 523, 524, 525, 526, 527, 528, 529, 530, 531, 532, 533, 534, 535, 536, 537, 538, 539, 540, 541, 542, 543, 544, 545, 546, 547, 548, 549] (by decide +kernel) (by decide +kernel)) (goodIn_sub (fun _ h => List.mem_append_left _ (List.mem_append_left _ (List.mem_append_right _ h))) (by decide +kernel))
set_option maxRecDepth 20000 in
theorem gL_law_X7_value : GoodIn wsL_law (wsV RL 16 RX7 yX7_value wsX7_value) := goodIn_app (goodIn_of _ (by decide +kernel)) ggL_law_X7_value
set_option maxRecDepth 20000 in
theorem ggL_law_X7_inBest : GoodIn wsL_law wsX7_inBest := goodIn_ca (goodIn_ca (goodIn_r _ [439, 135, 136, 21, 280, 440, 441, 371, 372, 373, 2, 374, 359, 360, 13, 375, 376, 377, 12, 378, 42, 281, 282, 283, 284, 37, 183, 184, 185, 186, 36, 17, 187, 188, 189, 16, 190, 54, 191, 192, 193, 194, 195, 58, 62, 196, 55, 197, 56, 198, 57, 199, 200, 201, 202, 203, 204, 205, 206, 207, 208, 209, 210, 211, 212, 213, 214, 215, 216, 217, 218, 219, 220, 221, 222, 223, 224, 225, 226, 227, 59, 60, 228, 61, 229, 230, 231, 232, 233, 234, 235, 236, 237, 238, 239, 240, 241, 242, 243, 244, 245, 246, 247, 248, 249, 250, 251, 252, 253, 254, 255, 256, 257, 258, 259, 260, 261, 262, 263, 264, 265, 266, 267, 285, 286, 287, 20, 288, 67, 73, 75, 289, 74, 290, 71, 79, 291, 292, 293, 78, 294, 85, 295, 296, 297, 298, 299, 70, 300, 301, 302, 303, 68, 69, 304, 305, 306, 307, 308, 309, 310, 311, 312, 313, 314, 72, 315, 316, 317, 318, 319, 86, 320, 321, 322, 323, 84, 324, 325, 326, 327, 328, 329, 330, 331, 332, 523, 524, 525, 526, 527, 528, 529, 530, 531, 532, 550, 551, 552, 553, 554, 555, 556, 557, 558, 559, 533, 534, 535, 536, 537, 538, 539, 540, 541, 542, 543, 544, 545, 546, 547, 548, 549, 576, 577, 578] (by decide +kernel) (by decide +kernel)) (goodIn_sub (fun _ h => List.mem_append_left _ (List.mem_append_left _ (List.mem_append_right _ h))) (by decide +kernel))) (goodIn_sub (fun _ h => List.mem_append_left _ (List.mem_append_right _ h)) (by decide +kernel))
set_option maxRecDepth 20000 in
theorem gL_law_X7_inBest : GoodIn wsL_law (wsV RL 51 RX7 yX7_inBest wsX7_inBest) := goodIn_app (goodIn_of _ (by decide +kernel)) ggL_law_X7_inBest
set_option maxRecDepth 20000 in
theorem ggL_law_X7_refutes : GoodIn wsL_law wsX7_refutes := goodIn_ca (goodIn_r _ [445, 26, 13, 27, 167, 371, 372, 373, 2, 374, 359, 360, 375, 376, 377, 12, 378, 42, 343, 147, 148, 149, 41, 44, 45, 46, 47, 48, 49, 403, 404, 405, 406, 187, 188, 189, 16, 190, 54, 191, 192, 193, 194, 195, 58, 62, 196, 55, 197, 56, 198, 57, 199, 200, 201, 202, 203, 204, 205, 206, 207, 208, 209, 210, 211, 212, 213, 214, 215, 216, 217, 218, 219, 220, 221, 222, 223, 224, 225, 226, 227, 59, 60, 228, 61, 229, 230, 231, 232, 233, 234, 235, 236, 237, 238, 239, 240, 241, 242, 243, 244, 245, 246, 247, 248, 249, 250, 251, 252, 253, 254, 255, 256, 257, 258, 259, 260, 261, 262, 263, 264, 265, 266, 267, 523, 524, 525, 526, 527, 528, 529, 530, 531, 532, 541, 542, 543, 544, 545, 546, 547, 548, 549, 533, 534, 535, 536, 537, 538, 539, 540] (by decide +kernel) (by decide +kernel)) (goodIn_sub (fun _ h => List.mem_append_left _ (List.mem_append_right _ h)) (by decide +kernel))
set_option maxRecDepth 20000 in
theorem gL_law_X7_refutes : GoodIn wsL_law (wsV RL 74 RX7 yX7_refutes wsX7_refutes) := goodIn_app (goodIn_of _ (by decide +kernel)) ggL_law_X7_refutes
set_option maxRecDepth 20000 in
set_option maxRecDepth 20000 in
theorem gpL_law_L_isPlan_wsL_isPlan_r1 : GoodIn wsL_law wsL_isPlan_r1 := goodIn_r _ [436, 437, 438, 2, 439, 135, 136, 21, 280, 440, 441, 371, 372, 373, 374, 359, 360, 13, 375, 376, 377, 12, 378, 42] (by decide +kernel) (by decide +kernel)
set_option maxRecDepth 20000 in
theorem gpL_law_L_isPlan_wsL_isPlan_r2 : GoodIn wsL_law wsL_isPlan_r2 := goodIn_r _ [281, 282, 283, 284, 37, 183, 184, 185, 186, 36, 17, 187, 188, 189, 16, 190, 54, 191, 192, 193, 194, 195, 58, 62] (by decide +kernel) (by decide +kernel)
set_option maxRecDepth 20000 in
theorem gpL_law_L_isPlan_wsL_isPlan_r3 : GoodIn wsL_law wsL_isPlan_r3 := goodIn_r _ [196, 55, 197, 56, 198, 57, 199, 200, 201, 202, 203, 204, 205, 206, 207, 208, 209, 210, 211, 212, 213, 214, 215, 216] (by decide +kernel) (by decide +kernel)
set_option maxRecDepth 20000 in
theorem gpL_law_L_isPlan_wsL_isPlan_r4 : GoodIn wsL_law wsL_isPlan_r4 := goodIn_r _ [217, 218, 219, 220, 221, 222, 223, 224, 225, 226, 227, 59, 60, 228, 61, 229, 230, 231, 232, 233, 234, 235, 236, 237] (by decide +kernel) (by decide +kernel)
set_option maxRecDepth 20000 in
theorem gpL_law_L_isPlan_wsL_isPlan_r5 : GoodIn wsL_law wsL_isPlan_r5 := goodIn_r _ [238, 239, 240, 241, 242, 243, 244, 245, 246, 247, 248, 249, 250, 251, 252, 253, 254, 255, 256, 257, 258, 259, 260, 261] (by decide +kernel) (by decide +kernel)
set_option maxRecDepth 20000 in
theorem gpL_law_L_isPlan_wsL_isPlan_r6 : GoodIn wsL_law wsL_isPlan_r6 := goodIn_r _ [262, 263, 264, 265, 266, 267, 285, 286, 287, 20, 288, 67, 73, 75, 289, 74, 290, 71, 79, 291, 292, 293, 78, 294] (by decide +kernel) (by decide +kernel)
set_option maxRecDepth 20000 in
theorem gpL_law_L_isPlan_wsL_isPlan_r7 : GoodIn wsL_law wsL_isPlan_r7 := goodIn_r _ [85, 295, 296, 297, 298, 299, 70, 300, 301, 302, 303, 68, 69, 304, 305, 306, 307, 308, 309, 310, 311, 312, 313, 314] (by decide +kernel) (by decide +kernel)
set_option maxRecDepth 20000 in
theorem gpL_law_L_isPlan_wsL_isPlan_r8 : GoodIn wsL_law wsL_isPlan_r8 := goodIn_r _ [72, 315, 316, 317, 318, 319, 86, 320, 321, 322, 323, 84, 324, 325, 326, 327, 328, 329, 330, 331, 332, 367, 368, 369] (by decide +kernel) (by decide +kernel)
set_option maxRecDepth 20000 in
theorem gpL_law_L_isPlan_wsL_isPlan_r9 : GoodIn wsL_law wsL_isPlan_r9 := goodIn_r _ [370, 379, 380, 381, 382, 44, 45, 46, 47, 48, 49, 449, 450, 120, 451, 276, 277, 278, 279] (by decide +kernel) (by decide +kernel)
theorem ggL_law_L_isPlan : GoodIn wsL_law wsL_isPlan := goodIn_cons (goodIn_r [Cond.code yL_isPlan cL_isPlan 9 (some .boolean)] [448] (by decide +kernel) (by decide +kernel)) (goodIn_app (goodIn_app (goodIn_app (goodIn_app (goodIn_app (goodIn_app (goodIn_app (goodIn_app gpL_law_L_isPlan_wsL_isPlan_r1 (goodIn_app gpL_law_L_isPlan_wsL_isPlan_r2 (goodIn_app gpL_law_L_isPlan_wsL_isPlan_r3 (goodIn_app gpL_law_L_isPlan_wsL_isPlan_r4 (goodIn_app gpL_law_L_isPlan_wsL_isPlan_r5 (goodIn_app gpL_law_L_isPlan_wsL_isPlan_r6 (goodIn_app gpL_law_L_isPlan_wsL_isPlan_r7 (goodIn_app gpL_law_L_isPlan_wsL_isPlan_r8 gpL_law_L_isPlan_wsL_isPlan_r9)))))))) (goodIn_sub inlX7 (by decide +kernel))) (goodIn_sub inlX0 (by decide +kernel))) (goodIn_sub inlX5 (by decide +kernel))) (goodIn_sub inlX6 (by decide +kernel))) (goodIn_sub inlX4 (by decide +kernel))) (goodIn_sub (fun _ h => List.mem_append_left _ (List.mem_append_left _ (List.mem_append_right _ h))) (by decide +kernel))) (goodIn_sub (fun _ h => List.mem_append_left _ (List.mem_append_right _ h)) (by decide +kernel)))
set_option maxRecDepth 20000 in
theorem gL_law_L_isPlan : GoodIn wsL_law (va_wsS RL 93 yL_isPlan wsL_isPlan) := goodIn_app (goodIn_of _ (by decide +kernel)) ggL_law_L_isPlan
set_option maxRecDepth 20000 in
set_option maxRecDepth 20000 in
theorem gpL_law_L_holds_wsL_holds_r1 : GoodIn wsL_law wsL_holds_r1 := goodIn_r _ [436, 437, 438, 2, 439, 135, 136, 21, 280, 440, 441, 371, 372, 373, 374, 359, 360, 13, 375, 376, 377, 12, 378, 42] (by decide +kernel) (by decide +kernel)
set_option maxRecDepth 20000 in
theorem gpL_law_L_holds_wsL_holds_r2 : GoodIn wsL_law wsL_holds_r2 := goodIn_r _ [281, 282, 283, 284, 37, 183, 184, 185, 186, 36, 17, 187, 188, 189, 16, 190, 54, 191, 192, 193, 194, 195, 58, 62] (by decide +kernel) (by decide +kernel)
set_option maxRecDepth 20000 in
theorem gpL_law_L_holds_wsL_holds_r3 : GoodIn wsL_law wsL_holds_r3 := goodIn_r _ [196, 55, 197, 56, 198, 57, 199, 200, 201, 202, 203, 204, 205, 206, 207, 208, 209, 210, 211, 212, 213, 214, 215, 216] (by decide +kernel) (by decide +kernel)
set_option maxRecDepth 20000 in
theorem gpL_law_L_holds_wsL_holds_r4 : GoodIn wsL_law wsL_holds_r4 := goodIn_r _ [217, 218, 219, 220, 221, 222, 223, 224, 225, 226, 227, 59, 60, 228, 61, 229, 230, 231, 232, 233, 234, 235, 236, 237] (by decide +kernel) (by decide +kernel)
set_option maxRecDepth 20000 in
theorem gpL_law_L_holds_wsL_holds_r5 : GoodIn wsL_law wsL_holds_r5 := goodIn_r _ [238, 239, 240, 241, 242, 243, 244, 245, 246, 247, 248, 249, 250, 251, 252, 253, 254, 255, 256, 257, 258, 259, 260, 261] (by decide +kernel) (by decide +kernel)
set_option maxRecDepth 20000 in
theorem gpL_law_L_holds_wsL_holds_r6 : GoodIn wsL_law wsL_holds_r6 := goodIn_r _ [262, 263, 264, 265, 266, 267, 285, 286, 287, 20, 288, 67, 73, 75, 289, 74, 290, 71, 79, 291, 292, 293, 78, 294] (by decide +kernel) (by decide +kernel)
set_option maxRecDepth 20000 in
theorem gpL_law_L_holds_wsL_holds_r7 : GoodIn wsL_law wsL_holds_r7 := goodIn_r _ [85, 295, 296, 297, 298, 299, 70, 300, 301, 302, 303, 68, 69, 304, 305, 306, 307, 308, 309, 310, 311, 312, 313, 314] (by decide +kernel) (by decide +kernel)
set_option maxRecDepth 20000 in
theorem gpL_law_L_holds_wsL_holds_r8 : GoodIn wsL_law wsL_holds_r8 := goodIn_r _ [72, 315, 316, 317, 318, 319, 86, 320, 321, 322, 323, 84, 324, 325, 326, 327, 328, 329, 330, 331, 332, 455, 456, 457] (by decide +kernel) (by decide +kernel)
set_option maxRecDepth 20000 in
theorem gpL_law_L_holds_wsL_holds_r9 : GoodIn wsL_law wsL_holds_r9 := goodIn_r _ [458, 459, 460, 461, 462, 463, 361, 362, 167, 464, 465, 466, 467, 468, 449, 450, 120, 451, 367, 368, 369, 370, 379, 380] (by decide +kernel) (by decide +kernel)
set_option maxRecDepth 20000 in
theorem gpL_law_L_holds_wsL_holds_r10 : GoodIn wsL_law wsL_holds_r10 := goodIn_r _ [381, 382, 44, 45, 46, 47, 48, 49, 469, 470, 471, 472, 473, 474, 475, 476, 477, 478, 479, 480, 481, 26, 341, 27] (by decide +kernel) (by decide +kernel)
set_option maxRecDepth 20000 in
theorem gpL_law_L_holds_wsL_holds_r11 : GoodIn wsL_law wsL_holds_r11 := goodIn_r _ [343, 147, 148, 149, 41, 482, 483, 484, 485, 486, 273, 274, 275, 442, 443, 444, 445, 403, 404, 405, 406, 487, 488, 489] (by decide +kernel) (by decide +kernel)
set_option maxRecDepth 20000 in
theorem gpL_law_L_holds_wsL_holds_r12 : GoodIn wsL_law wsL_holds_r12 := goodIn_r _ [490, 491, 492, 493, 494, 272, 495, 396, 397, 398, 496, 497, 498, 499, 158, 159, 160, 161, 162, 163, 164, 165, 166, 137] (by decide +kernel) (by decide +kernel)
set_option maxRecDepth 20000 in
theorem gpL_law_L_holds_wsL_holds_r13 : GoodIn wsL_law wsL_holds_r13 := goodIn_r _ [168, 169, 170, 171, 172, 173, 174, 175, 176, 177, 178, 179, 180, 181, 182, 268, 269, 270, 271, 500, 501, 502, 503] (by decide +kernel) (by decide +kernel)
theorem ggL_law_L_holds : GoodIn wsL_law wsL_holds := goodIn_cons (goodIn_r [Cond.code yL_holds cL_holds 9 (some .boolean)] [454] (by decide +kernel) (by decide +kernel)) (goodIn_app (goodIn_app (goodIn_app (goodIn_app (goodIn_app (goodIn_app (goodIn_app (goodIn_app (goodIn_app gpL_law_L_holds_wsL_holds_r1 (goodIn_app gpL_law_L_holds_wsL_holds_r2 (goodIn_app gpL_law_L_holds_wsL_holds_r3 (goodIn_app gpL_law_L_holds_wsL_holds_r4 (goodIn_app gpL_law_L_holds_wsL_holds_r5 (goodIn_app gpL_law_L_holds_wsL_holds_r6 (goodIn_app gpL_law_L_holds_wsL_holds_r7 (goodIn_app gpL_law_L_holds_wsL_holds_r8 (goodIn_app gpL_law_L_holds_wsL_holds_r9 (goodIn_app gpL_law_L_holds_wsL_holds_r10 (goodIn_app gpL_law_L_holds_wsL_holds_r11 (goodIn_app gpL_law_L_holds_wsL_holds_r12 gpL_law_L_holds_wsL_holds_r13)))))))))))) (goodIn_sub inlX7 (by decide +kernel))) (goodIn_sub inlX0 (by decide +kernel))) (goodIn_sub inlX5 (by decide +kernel))) (goodIn_sub inlX6 (by decide +kernel))) (goodIn_sub inlX4 (by decide +kernel))) (goodIn_sub (fun _ h => List.mem_append_left _ (List.mem_append_left _ (List.mem_append_right _ h))) (by decide +kernel))) (goodIn_sub (fun _ h => List.mem_append_left _ (List.mem_append_right _ h)) (by decide +kernel))) (goodIn_sub (fun _ h => List.mem_append_right _ h) (by decide +kernel)))
set_option maxRecDepth 20000 in
theorem gL_law_L_holds : GoodIn wsL_law (va_wsS RL 97 yL_holds wsL_holds) := goodIn_app (goodIn_of _ (by decide +kernel)) ggL_law_L_holds
set_option maxRecDepth 20000 in
theorem ggL_law_X7_giveDominance : GoodIn wsL_law wsX7_giveDominance := goodIn_r _ [507, 13, 137, 138, 139, 140, 2, 141, 31, 142, 143, 144, 30, 145, 100, 102, 146, 147, 148, 12, 149, 41, 42, 44, 45, 46, 47, 48, 49, 150, 151, 152, 153, 36, 37, 508, 509, 510, 511, 395, 396, 397, 398, 205, 206, 512, 513, 400, 401, 402, 403, 404, 405, 406, 523, 524, 525, 526, 527, 528, 529, 530, 531, 532, 533, 534, 535, 536, 537, 538, 539, 540, 563, 564] (by decide +kernel) (by decide +kernel)
set_option maxRecDepth 20000 in
theorem gL_law_X7_giveDominance : GoodIn wsL_law (wsV RL 100 RX7 yX7_giveDominance wsX7_giveDominance) := goodIn_app (goodIn_of _ (by decide +kernel)) ggL_law_X7_giveDominance
set_option maxRecDepth 20000 in
theorem ggL_law_X7_undo : GoodIn wsL_law wsX7_undo := goodIn_ca (goodIn_r _ [517, 361, 362, 31, 518, 13, 519, 520, 521, 30, 522, 100, 102, 146, 147, 148, 12, 149, 41, 42, 44, 45, 46, 47, 48, 49, 150, 151, 152, 2, 153, 36, 37, 523, 524, 525, 526, 527, 528, 529, 530, 531, 532, 563, 564, 533, 534, 535, 536, 537, 538, 539, 540] (by decide +kernel) (by decide +kernel)) (goodIn_sub (fun _ h => List.mem_append_right _ h) (by decide +kernel))
