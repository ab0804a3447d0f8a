set_option maxRecDepth 20000 in
theorem wl_r1 : ∀ w ∈ wsL_law_r1, w ∈ lw_tbl := fun w h => (goodIn_r wsL_law_r1 [44, 45, 39, 327, 328, 40, 46, 47, 48, 49, 50, 51, 60, 106, 61, 62, 63, 64, 65, 66, 67, 68, 69, 70] (by decide +kernel) (by decide +kernel) w h).1
set_option maxRecDepth 20000 in
theorem wl_r2 : ∀ w ∈ wsL_law_r2, w ∈ lw_tbl := fun w h => (goodIn_r wsL_law_r2 [71, 72, 73, 74, 52, 54, 0, 55, 56, 58, 1, 59, 329, 330, 331, 332, 333, 334, 335, 337, 338, 339, 341, 342] (by decide +kernel) (by decide +kernel) w h).1
set_option maxRecDepth 20000 in
theorem wl_r3 : ∀ w ∈ wsL_law_r3, w ∈ lw_tbl := fun w h => (goodIn_r wsL_law_r3 [344, 348, 336, 107, 108, 109, 110, 382, 383, 384, 385, 386, 387, 388, 111, 112, 113, 114, 115, 117, 2, 118, 119, 121] (by decide +kernel) (by decide +kernel) w h).1
set_option maxRecDepth 20000 in
theorem wl_r4 : ∀ w ∈ wsL_law_r4, w ∈ lw_tbl := fun w h => (goodIn_r wsL_law_r4 [3, 122, 123, 125, 4, 126, 127, 128, 129, 130, 131, 132, 389, 390, 391, 392, 393, 395, 23, 396, 133, 134, 135, 136] (by decide +kernel) (by decide +kernel) w h).1
set_option maxRecDepth 20000 in
theorem wl_r5 : ∀ w ∈ wsL_law_r5, w ∈ lw_tbl := fun w h => (goodIn_r wsL_law_r5 [397, 398, 399, 400, 137, 138, 139, 140, 141, 143, 5, 144, 145, 147, 6, 148, 149, 151, 7, 152, 401, 402, 403, 404] (by decide +kernel) (by decide +kernel) w h).1
set_option maxRecDepth 20000 in
theorem wl_r6 : ∀ w ∈ wsL_law_r6, w ∈ lw_tbl := fun w h => (goodIn_r wsL_law_r6 [405, 407, 24, 408, 153, 154, 155, 156, 409, 410, 411, 412, 157, 158, 159, 160, 161, 163, 8, 164, 165, 166, 167, 413] (by decide +kernel) (by decide +kernel) w h).1
set_option maxRecDepth 20000 in
theorem wl_r7 : ∀ w ∈ wsL_law_r7, w ∈ lw_tbl := fun w h => (goodIn_r wsL_law_r7 [414, 415, 416, 343, 421, 422, 423, 417, 419, 25, 420, 424, 426, 26, 427, 428, 430, 27, 431, 168, 169, 170, 171, 432] (by decide +kernel) (by decide +kernel) w h).1
set_option maxRecDepth 20000 in
theorem wl_r8 : ∀ w ∈ wsL_law_r8, w ∈ lw_tbl := fun w h => (goodIn_r wsL_law_r8 [433, 434, 435, 436, 438, 28, 439, 172, 173, 174, 175, 176, 178, 9, 179, 440, 441, 442, 443, 180, 181, 182, 183, 184] (by decide +kernel) (by decide +kernel) w h).1
set_option maxRecDepth 20000 in
theorem wl_r9 : ∀ w ∈ wsL_law_r9, w ∈ lw_tbl := fun w h => (goodIn_r wsL_law_r9 [186, 10, 187, 197, 198, 42, 199, 188, 189, 190, 191, 192, 41, 193, 194, 195, 196, 444, 445, 446, 447, 448, 450, 29] (by decide +kernel) (by decide +kernel) w h).1
set_option maxRecDepth 20000 in
theorem wl_r10 : ∀ w ∈ wsL_law_r10, w ∈ lw_tbl := fun w h => (goodIn_r wsL_law_r10 [451, 452, 453, 454, 455, 456, 457, 458, 459, 460, 200, 201, 202, 203, 204, 206, 11, 207, 208, 209, 210, 461, 462, 463] (by decide +kernel) (by decide +kernel) w h).1
set_option maxRecDepth 20000 in
theorem wl_r11 : ∀ w ∈ wsL_law_r11, w ∈ lw_tbl := fun w h => (goodIn_r wsL_law_r11 [464, 465, 467, 30, 468, 469, 471, 31, 472, 211, 212, 213, 214, 215, 217, 12, 218, 473, 474, 475, 476, 477, 479, 32] (by decide +kernel) (by decide +kernel) w h).1
set_option maxRecDepth 20000 in
theorem wl_r12 : ∀ w ∈ wsL_law_r12, w ∈ lw_tbl := fun w h => (goodIn_r wsL_law_r12 [480, 219, 220, 221, 222, 481, 482, 483, 484, 223, 224, 225, 226, 227, 229, 13, 230, 231, 233, 14, 234, 485, 486, 487] (by decide +kernel) (by decide +kernel) w h).1
set_option maxRecDepth 20000 in
theorem wl_r13 : ∀ w ∈ wsL_law_r13, w ∈ lw_tbl := fun w h => (goodIn_r wsL_law_r13 [488, 489, 491, 33, 492, 493, 347, 345, 346, 494, 496, 34, 497, 235, 236, 237, 238, 498, 499, 500, 501, 239, 240, 241] (by decide +kernel) (by decide +kernel) w h).1
set_option maxRecDepth 20000 in
theorem wl_r14 : ∀ w ∈ wsL_law_r14, w ∈ lw_tbl := fun w h => (goodIn_r wsL_law_r14 [242, 502, 503, 504, 505, 243, 244, 245, 246, 247, 248, 249, 506, 507, 508, 509, 250, 251, 252, 253, 510, 511, 512, 513] (by decide +kernel) (by decide +kernel) w h).1
set_option maxRecDepth 20000 in
theorem wl_r15 : ∀ w ∈ wsL_law_r15, w ∈ lw_tbl := fun w h => (goodIn_r wsL_law_r15 [254, 255, 256, 257, 258, 259, 43, 260, 261, 263, 15, 264, 265, 267, 16, 268, 269, 271, 17, 272, 514, 515, 516, 517] (by decide +kernel) (by decide +kernel) w h).1
set_option maxRecDepth 20000 in
theorem wl_r16 : ∀ w ∈ wsL_law_r16, w ∈ lw_tbl := fun w h => (goodIn_r wsL_law_r16 [518, 520, 35, 521, 273, 274, 275, 276, 277, 279, 18, 280, 522, 523, 524, 525, 281, 282, 283, 284, 285, 286, 287, 526] (by decide +kernel) (by decide +kernel) w h).1
set_option maxRecDepth 20000 in
theorem wl_r17 : ∀ w ∈ wsL_law_r17, w ∈ lw_tbl := fun w h => (goodIn_r wsL_law_r17 [527, 528, 529, 340, 288, 289, 290, 291, 530, 531, 532, 533, 292, 293, 294, 295, 296, 298, 19, 299, 300, 302, 20, 303] (by decide +kernel) (by decide +kernel) w h).1
set_option maxRecDepth 20000 in
theorem wl_r18 : ∀ w ∈ wsL_law_r18, w ∈ lw_tbl := fun w h => (goodIn_r wsL_law_r18 [304, 305, 306, 534, 535, 536, 537, 538, 540, 36, 541, 542, 543, 544, 307, 308, 309, 310, 311, 313, 21, 314, 315, 317] (by decide +kernel) (by decide +kernel) w h).1
set_option maxRecDepth 20000 in
theorem wl_r19 : ∀ w ∈ wsL_law_r19, w ∈ lw_tbl := fun w h => (goodIn_r wsL_law_r19 [22, 318, 545, 546, 547, 548, 549, 551, 37, 552, 319, 320, 321, 322, 553, 554, 555, 556, 323, 324, 325, 326, 557, 558] (by decide +kernel) (by decide +kernel) w h).1
set_option maxRecDepth 20000 in
theorem wl_r20 : ∀ w ∈ wsL_law_r20, w ∈ lw_tbl := fun w h => (goodIn_r wsL_law_r20 [559, 560] (by decide +kernel) (by decide +kernel) w h).1
set_option maxRecDepth 20000 in
theorem wl_X0 : ∀ w ∈ wsX00, w ∈ lw_tbl := fun w h => (goodIn_r wsX00 [75, 77, 79, 81, 83, 85, 87, 89, 91, 93, 95, 97, 99, 101, 103] (by decide +kernel) (by decide +kernel) w h).1
set_option maxRecDepth 20000 in
theorem wl_X1 : ∀ w ∈ wsX10, w ∈ lw_tbl := fun w h => (goodIn_r wsX10 [349, 351, 353, 355, 357, 359, 361, 363, 365, 367, 369, 371, 373, 375, 377, 379] (by decide +kernel) (by decide +kernel) w h).1
theorem wsL_law_in : ∀ w ∈ wsL_law, w ∈ lw_tbl := List.forall_mem_append.mpr ⟨List.forall_mem_append.mpr ⟨List.forall_mem_append.mpr ⟨List.forall_mem_append.mpr ⟨wl_r1, List.forall_mem_append.mpr ⟨wl_r2, List.forall_mem_append.mpr ⟨wl_r3, List.forall_mem_append.mpr ⟨wl_r4, List.forall_mem_append.mpr ⟨wl_r5, List.forall_mem_append.mpr ⟨wl_r6, List.forall_mem_append.mpr ⟨wl_r7, List.forall_mem_append.mpr ⟨wl_r8, List.forall_mem_append.mpr ⟨wl_r9, List.forall_mem_append.mpr ⟨wl_r10, List.forall_mem_append.mpr ⟨wl_r11, List.forall_mem_append.mpr ⟨wl_r12, List.forall_mem_append.mpr ⟨wl_r13, List.forall_mem_append.mpr ⟨wl_r14, List.forall_mem_append.mpr ⟨wl_r15, List.forall_mem_append.mpr ⟨wl_r16, List.forall_mem_append.mpr ⟨wl_r17, List.forall_mem_append.mpr ⟨wl_r18, List.forall_mem_append.mpr ⟨wl_r19, wl_r20⟩⟩⟩⟩⟩⟩⟩⟩⟩⟩⟩⟩⟩⟩⟩⟩⟩⟩⟩, wl_X0⟩, wl_X1⟩, fun _ h => absurd h List.not_mem_nil⟩
theorem inlX0 : ∀ w ∈ wsX00, w ∈ wsL_law := fun _ h => List.mem_append_left _ (List.mem_append_left _ (List.mem_append_right _ h))
theorem inX0 : ∀ w ∈ wsX00, w ∈ lw_tbl := fun w h => wsL_law_in w (inlX0 w h)
theorem inlX1 : ∀ w ∈ wsX10, w ∈ wsL_law := fun _ h => List.mem_append_left _ (List.mem_append_right _ h)
