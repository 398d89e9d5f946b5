set_option maxRecDepth 20000 in
theorem gpL_load_h : GoodIn wsL_law [Cond.codeWith yL_load cL_load 4 (some .int) [(0, 9, 12, 13)]] := goodIn_r _ [218] (by decide +kernel) (by decide +kernel)
set_option maxRecDepth 20000 in
theorem gpL_load_r1 : GoodIn wsL_law wsL_load_r1 := goodIn_r _ [219, 220, 221, 222, 2, 223, 224, 225, 16, 200, 226, 20, 227, 25, 30, 228, 229, 230, 231, 232, 15, 233, 41, 35] (by decide +kernel) (by decide +kernel)
set_option maxRecDepth 20000 in
theorem gpL_load_r2 : GoodIn wsL_law wsL_load_r2 := goodIn_r _ [234, 235, 236, 237, 238, 239, 36, 240, 241, 157, 242, 42, 37, 38, 44, 45, 46, 47, 243, 244, 245, 246, 43, 247] (by decide +kernel) (by decide +kernel)
set_option maxRecDepth 20000 in
theorem gpL_load_r3 : GoodIn wsL_law wsL_load_r3 := goodIn_r _ [248, 249, 250, 40, 251, 252, 253, 254, 255, 256, 257, 258, 259, 260, 261, 262, 263, 264, 265, 266, 267, 268, 269, 270] (by decide +kernel) (by decide +kernel)
set_option maxRecDepth 20000 in
theorem gpL_load_r4 : GoodIn wsL_law wsL_load_r4 := goodIn_r _ [271, 272, 273, 274, 275, 276, 277, 278, 279, 280, 281, 282, 283, 284, 285, 286, 287, 288, 289, 290, 291, 292, 293, 294] (by decide +kernel) (by decide +kernel)
set_option maxRecDepth 20000 in
theorem gpL_load_r5 : GoodIn wsL_law wsL_load_r5 := goodIn_r _ [295, 296, 297, 298, 299, 300, 301, 302, 303, 304, 305, 306, 307, 308, 309, 310, 311, 312, 313, 314, 315, 316, 317, 318] (by decide +kernel) (by decide +kernel)
set_option maxRecDepth 20000 in
theorem gpL_load_r6 : GoodIn wsL_law wsL_load_r6 := goodIn_r _ [319, 99, 100, 19, 101, 54, 58, 102, 103, 104, 53, 105, 62, 63, 64, 65, 66, 68, 69, 75, 106, 107, 108, 109] (by decide +kernel) (by decide +kernel)
set_option maxRecDepth 20000 in
theorem gpL_load_r7 : GoodIn wsL_law wsL_load_r7 := goodIn_r _ [110, 111, 112, 113, 114, 115, 116, 74, 117, 118, 119, 120, 121, 80, 122, 123, 124, 125, 79, 126, 127, 128, 129, 130] (by decide +kernel) (by decide +kernel)
set_option maxRecDepth 20000 in
theorem gpL_load_r8 : GoodIn wsL_law wsL_load_r8 := goodIn_r _ [131, 132, 57, 133, 85, 86, 87, 88, 134, 320, 321, 322, 323, 324, 325, 326, 327, 328, 329, 330, 331, 332, 333, 334] (by decide +kernel) (by decide +kernel)
set_option maxRecDepth 20000 in
theorem gpL_load_r9 : GoodIn wsL_law wsL_load_r9 := goodIn_r _ [335, 336, 337, 338, 339, 340, 341, 342, 343, 344, 345, 346, 347, 348, 349, 350, 351, 136, 137, 138, 70, 71, 352, 353] (by decide +kernel) (by decide +kernel)
set_option maxRecDepth 20000 in
theorem gpL_load_r10 : GoodIn wsL_law wsL_load_r10 := goodIn_r _ [354, 355, 356, 357, 358, 359, 360, 361, 362, 363, 364, 365, 366, 367, 368, 369, 370, 371, 372, 373, 374, 375, 376, 377] (by decide +kernel) (by decide +kernel)
set_option maxRecDepth 20000 in
theorem gpL_load_r11 : GoodIn wsL_law wsL_load_r11 := goodIn_r _ [378, 379, 380, 381, 382, 383, 89, 384, 385, 386, 387, 388, 389, 390, 391, 392, 393, 394, 395, 396, 397, 398, 399, 400] (by decide +kernel) (by decide +kernel)
set_option maxRecDepth 20000 in
theorem gpL_load_r12 : GoodIn wsL_law wsL_load_r12 := goodIn_r _ [401, 402, 403, 404, 405, 406, 407, 408, 409, 410, 411, 27, 28, 29, 412, 413, 414, 415, 416, 417, 418, 419, 420, 421] (by decide +kernel) (by decide +kernel)
set_option maxRecDepth 20000 in
theorem gpL_load_r13 : GoodIn wsL_law wsL_load_r13 := goodIn_r _ [422, 423, 424, 425, 426, 427, 428, 429, 430, 431, 432, 433, 434, 139, 140, 141, 24, 142, 94, 97, 143, 95, 144, 145] (by decide +kernel) (by decide +kernel)
set_option maxRecDepth 20000 in
theorem gpL_load_r14 : GoodIn wsL_law wsL_load_r14 := goodIn_r _ [146, 147, 148, 149, 150, 93, 96, 151, 152, 153, 154, 155, 156, 158, 159, 160, 161, 162, 163, 164, 165, 166, 167, 168] (by decide +kernel) (by decide +kernel)
set_option maxRecDepth 20000 in
theorem gpL_load_r15 : GoodIn wsL_law wsL_load_r15 := goodIn_r _ [169, 170, 171, 172, 173, 174, 175, 176, 177, 178, 179] (by decide +kernel) (by decide +kernel)
set_option maxRecDepth 20000 in
theorem ggL_law_L_load : GoodIn wsL_law wsL_load := goodIn_ca (goodIn_co gpL_load_h (goodIn_app (goodIn_app (goodIn_app (goodIn_app (goodIn_app (goodIn_app (goodIn_app (goodIn_app gpL_load_r1 (goodIn_app gpL_load_r2 (goodIn_app gpL_load_r3 (goodIn_app gpL_load_r4 (goodIn_app gpL_load_r5 (goodIn_app gpL_load_r6 (goodIn_app gpL_load_r7 (goodIn_app gpL_load_r8 (goodIn_app gpL_load_r9 (goodIn_app gpL_load_r10 (goodIn_app gpL_load_r11 (goodIn_app gpL_load_r12 (goodIn_app gpL_load_r13 (goodIn_app gpL_load_r14 gpL_load_r15)))))))))))))) gpX60) gpX30) gpX40) gpX10) gpX00) gpX20) gpX50)) (goodIn_sub (fun _ h => List.mem_append_left _ (List.mem_append_left _ (List.mem_append_right _ h))) (by decide +kernel))
set_option maxRecDepth 20000 in
theorem gL_law_L_load : GoodIn wsL_law (va_wsS RL 76 yL_load wsL_load) := goodIn_app (goodIn_of _ (by decide +kernel)) ggL_law_L_load
set_option maxRecDepth 20000 in
theorem gpX7_load_h : GoodIn wsL_law [Cond.code yX7_load cX7_load 5 (some .int)] := goodIn_r _ [438] (by decide +kernel) (by decide +kernel)
set_option maxRecDepth 20000 in
theorem gpX7_load_r1 : GoodIn wsL_law wsX7_load_r1 := goodIn_r _ [213, 214, 439, 440, 441, 442, 443, 444, 445, 187, 185, 186, 446, 447, 5, 448, 449, 450, 451, 452, 453, 454, 455, 456] (by decide +kernel) (by decide +kernel)
set_option maxRecDepth 20000 in
theorem gpX7_load_r2 : GoodIn wsL_law wsX7_load_r2 := goodIn_r _ [457, 458, 459, 460, 461, 462, 463, 464, 465, 466, 467, 468, 184, 469, 256, 257, 258, 259, 260, 261, 262, 263, 264, 265] (by decide +kernel) (by decide +kernel)
set_option maxRecDepth 20000 in
theorem gpX7_load_r3 : GoodIn wsL_law wsX7_load_r3 := goodIn_r _ [266, 470, 268, 269, 270, 271, 272, 273, 274, 275, 276, 277, 278, 279, 280, 281, 282, 283, 284, 285, 286, 287, 288, 289] (by decide +kernel) (by decide +kernel)
set_option maxRecDepth 20000 in
theorem gpX7_load_r4 : GoodIn wsL_law wsX7_load_r4 := goodIn_r _ [290, 291, 292, 293, 294, 295, 296, 297, 298, 299, 300, 301, 302, 303, 471, 472, 473, 474, 475, 476, 477, 478, 479, 480] (by decide +kernel) (by decide +kernel)
set_option maxRecDepth 20000 in
theorem gpX7_load_r5 : GoodIn wsL_law wsX7_load_r5 := goodIn_r _ [481, 482, 483, 484, 485, 486, 193, 194, 195, 487, 488, 489, 490, 491, 492, 493, 494, 495, 496, 497, 498, 499, 500, 501] (by decide +kernel) (by decide +kernel)
