/-! the law's words among the tables', by their places -/
theorem mem_ix {big ws : List Cond} (ps : List Nat) (hp : ws = ps.filterMap (fun i => big[i]?)) : ∀ w ∈ ws, w ∈ big := by
  intro w hw
  rw [hp] at hw
  obtain ⟨i, -, hi⟩ := List.mem_filterMap.mp hw
  exact List.mem_of_getElem? hi
set_option maxRecDepth 20000 in
theorem inr_1 : ∀ w ∈ wsL_law_r1, w ∈ lw_tbl := mem_ix [30, 31, 22, 394, 395, 23, 631, 32, 33, 34, 35, 36, 37, 57, 44, 45, 38, 40, 0, 41, 42, 43, 396, 397] (by decide +kernel)
set_option maxRecDepth 20000 in
theorem inr_2 : ∀ w ∈ wsL_law_r2, w ∈ lw_tbl := mem_ix [398, 399, 403, 404, 443, 405, 406, 407, 58, 59, 60, 61, 70, 71, 24, 72, 73, 25, 46, 180, 181, 27, 47, 161] (by decide +kernel)
set_option maxRecDepth 20000 in
theorem inr_3 : ∀ w ∈ wsL_law_r3, w ∈ lw_tbl := mem_ix [62, 63, 64, 65, 66, 67, 68, 69, 74, 75, 76, 77, 78, 83, 84, 85, 86, 151, 79, 155, 157, 160, 162, 87] (by decide +kernel)
set_option maxRecDepth 20000 in
theorem inr_4 : ∀ w ∈ wsL_law_r4, w ∈ lw_tbl := mem_ix [88, 89, 90, 166, 119, 91, 92, 93, 94, 95, 96, 97, 98, 99, 100, 101, 102, 103, 104, 105, 106, 107, 108, 109] (by decide +kernel)
set_option maxRecDepth 20000 in
theorem inr_5 : ∀ w ∈ wsL_law_r5, w ∈ lw_tbl := mem_ix [111, 110, 113, 114, 115, 116, 117, 118, 120, 121, 26, 122, 123, 124, 125, 126, 127, 128, 129, 130, 132, 133, 135, 136] (by decide +kernel)
set_option maxRecDepth 20000 in
theorem inr_6 : ∀ w ∈ wsL_law_r6, w ∈ lw_tbl := mem_ix [137, 138, 139, 140, 141, 142, 143, 144, 145, 146, 147, 148, 149, 150, 182, 183, 184, 185, 186, 154, 187, 158, 188, 444] (by decide +kernel)
set_option maxRecDepth 20000 in
theorem inr_7 : ∀ w ∈ wsL_law_r7, w ∈ lw_tbl := mem_ix [445, 446, 447, 400, 401, 402, 448, 449, 450, 451, 196, 197, 198, 199, 156, 159, 452, 453, 454, 455, 456, 457, 458, 200] (by decide +kernel)
set_option maxRecDepth 20000 in
theorem inr_8 : ∀ w ∈ wsL_law_r8, w ∈ lw_tbl := mem_ix [201, 202, 203, 152, 204, 205, 206, 207, 208, 459, 460, 461, 462, 463, 465, 1, 466, 467, 476, 468, 470, 2, 471, 472] (by decide +kernel)
set_option maxRecDepth 20000 in
theorem inr_9 : ∀ w ∈ wsL_law_r9, w ∈ lw_tbl := mem_ix [474, 3, 475, 209, 210, 211, 212, 213, 214, 215, 216, 217, 218, 219, 220, 477, 478, 479, 480, 408, 409, 410, 481, 482] (by decide +kernel)
set_option maxRecDepth 20000 in
theorem inr_10 : ∀ w ∈ wsL_law_r10, w ∈ lw_tbl := mem_ix [483, 484, 485, 487, 4, 488, 489, 491, 5, 492, 221, 222, 223, 224, 493, 494, 495, 496, 225, 226, 227, 228, 165, 229] (by decide +kernel)
set_option maxRecDepth 20000 in
theorem inr_11 : ∀ w ∈ wsL_law_r11, w ∈ lw_tbl := mem_ix [497, 498, 499, 500, 501, 503, 6, 504, 505, 507, 7, 508, 509, 511, 8, 512, 513, 515, 9, 516, 517, 518, 520, 10] (by decide +kernel)
set_option maxRecDepth 20000 in
theorem inr_12 : ∀ w ∈ wsL_law_r12, w ∈ lw_tbl := mem_ix [521, 230, 231, 232, 233, 234, 522, 523, 524, 525, 526, 528, 11, 529, 235, 236, 237, 238, 239, 530, 531, 532, 533, 240] (by decide +kernel)
set_option maxRecDepth 20000 in
theorem inr_13 : ∀ w ∈ wsL_law_r13, w ∈ lw_tbl := mem_ix [241, 242, 243, 244, 245, 246, 247, 248, 249, 250, 251, 534, 535, 536, 537, 252, 253, 254, 255, 256, 257, 258, 259, 260] (by decide +kernel)
set_option maxRecDepth 20000 in
theorem inr_14 : ∀ w ∈ wsL_law_r14, w ∈ lw_tbl := mem_ix [261, 262, 263, 538, 539, 540, 541, 264, 265, 266, 267, 268, 269, 270, 271, 272, 542, 543, 544, 545, 546, 551, 547, 549] (by decide +kernel)
set_option maxRecDepth 20000 in
theorem inr_15 : ∀ w ∈ wsL_law_r15, w ∈ lw_tbl := mem_ix [12, 550, 273, 274, 275, 276, 277, 278, 279, 280, 281, 552, 553, 554, 555, 282, 283, 284, 285, 286, 287, 288, 289, 290] (by decide +kernel)
set_option maxRecDepth 20000 in
theorem inr_16 : ∀ w ∈ wsL_law_r16, w ∈ lw_tbl := mem_ix [291, 292, 294, 293, 295, 296, 297, 298, 299, 300, 301, 302, 303, 304, 305, 28, 306, 307, 308, 29, 309, 310, 311, 312] (by decide +kernel)
set_option maxRecDepth 20000 in
theorem inr_17 : ∀ w ∈ wsL_law_r17, w ∈ lw_tbl := mem_ix [313, 314, 317, 319, 320, 321, 322, 153, 323, 324, 325, 326, 327, 328, 329, 330, 331, 332, 333, 334, 335, 336, 337, 338] (by decide +kernel)
set_option maxRecDepth 20000 in
theorem inr_18 : ∀ w ∈ wsL_law_r18, w ∈ lw_tbl := mem_ix [339, 340, 341, 342, 556, 557, 558, 559, 411, 412, 413, 560, 561, 562, 563, 564, 566, 13, 567, 568, 570, 14, 571, 572] (by decide +kernel)
set_option maxRecDepth 20000 in
theorem inr_19 : ∀ w ∈ wsL_law_r19, w ∈ lw_tbl := mem_ix [574, 15, 575, 576, 578, 16, 579, 580, 582, 17, 583, 343, 344, 345, 346, 347, 584, 585, 586, 587, 588, 590, 18, 591] (by decide +kernel)
set_option maxRecDepth 20000 in
theorem inr_20 : ∀ w ∈ wsL_law_r20, w ∈ lw_tbl := mem_ix [348, 349, 350, 351, 352, 592, 593, 594, 595, 353, 354, 355, 356, 596, 597, 598, 599, 357, 358, 359, 360, 164, 361, 362] (by decide +kernel)
set_option maxRecDepth 20000 in
theorem inr_21 : ∀ w ∈ wsL_law_r21, w ∈ lw_tbl := mem_ix [363, 364, 600, 601, 602, 603, 365, 366, 367, 368, 604, 605, 606, 607, 369, 370, 371, 372, 373, 374, 375, 376, 163, 377] (by decide +kernel)
set_option maxRecDepth 20000 in
theorem inr_22 : ∀ w ∈ wsL_law_r22, w ∈ lw_tbl := mem_ix [378, 379, 380, 381, 382, 383, 608, 609, 610, 611, 612, 614, 19, 615, 616, 618, 20, 619, 384, 385, 386, 387, 620, 621] (by decide +kernel)
set_option maxRecDepth 20000 in
theorem inr_23 : ∀ w ∈ wsL_law_r23, w ∈ lw_tbl := mem_ix [622, 623, 624, 388, 389, 390, 391, 392, 393, 625, 626, 627, 628, 629, 630] (by decide +kernel)
set_option maxRecDepth 20000 in
theorem inX0 : ∀ w ∈ wsX00, w ∈ lw_tbl := mem_ix [167, 169, 171, 173, 175, 177] (by decide +kernel)
set_option maxRecDepth 20000 in
theorem inX1 : ∀ w ∈ wsX10, w ∈ lw_tbl := mem_ix [189, 191, 193] (by decide +kernel)
set_option maxRecDepth 20000 in
theorem inX2 : ∀ w ∈ wsX20, w ∈ lw_tbl := mem_ix [80] (by decide +kernel)
set_option maxRecDepth 20000 in
theorem inX3 : ∀ w ∈ wsX30, w ∈ lw_tbl := mem_ix [48, 50, 52, 54] (by decide +kernel)
set_option maxRecDepth 20000 in
theorem inX4 : ∀ w ∈ wsX40, w ∈ lw_tbl := mem_ix [414, 416, 418, 420, 422, 424, 426, 428, 430, 432, 434, 436, 438, 440] (by decide +kernel)
theorem wsL_law_in : ∀ w ∈ wsL_law, w ∈ lw_tbl := List.forall_mem_append.mpr ⟨List.forall_mem_append.mpr ⟨List.forall_mem_append.mpr ⟨List.forall_mem_append.mpr ⟨List.forall_mem_append.mpr ⟨List.forall_mem_append.mpr ⟨List.forall_mem_append.mpr ⟨inr_1, List.forall_mem_append.mpr ⟨inr_2, List.forall_mem_append.mpr ⟨inr_3, List.forall_mem_append.mpr ⟨inr_4, List.forall_mem_append.mpr ⟨inr_5, List.forall_mem_append.mpr ⟨inr_6, List.forall_mem_append.mpr ⟨inr_7, List.forall_mem_append.mpr ⟨inr_8, List.forall_mem_append.mpr ⟨inr_9, List.forall_mem_append.mpr ⟨inr_10, List.forall_mem_append.mpr ⟨inr_11, List.forall_mem_append.mpr ⟨inr_12, List.forall_mem_append.mpr ⟨inr_13, List.forall_mem_append.mpr ⟨inr_14, List.forall_mem_append.mpr ⟨inr_15, List.forall_mem_append.mpr ⟨inr_16, List.forall_mem_append.mpr ⟨inr_17, List.forall_mem_append.mpr ⟨inr_18, List.forall_mem_append.mpr ⟨inr_19, List.forall_mem_append.mpr ⟨inr_20, List.forall_mem_append.mpr ⟨inr_21, List.forall_mem_append.mpr ⟨inr_22, inr_23⟩⟩⟩⟩⟩⟩⟩⟩⟩⟩⟩⟩⟩⟩⟩⟩⟩⟩⟩⟩⟩⟩, inX3⟩, inX4⟩, inX0⟩, inX2⟩, inX1⟩, fun _ h => absurd h List.not_mem_nil⟩
theorem inlX0 : ∀ w ∈ wsX00, w ∈ wsL_law := fun _ h => List.mem_append_left _ (List.mem_append_left _ (List.mem_append_left _ (List.mem_append_right _ h)))
theorem inlX1 : ∀ w ∈ wsX10, w ∈ wsL_law := fun _ h => List.mem_append_left _ (List.mem_append_right _ h)
theorem inlX2 : ∀ w ∈ wsX20, w ∈ wsL_law := fun _ h => List.mem_append_left _ (List.mem_append_left _ (List.mem_append_right _ h))
theorem inlX3 : ∀ w ∈ wsX30, w ∈ wsL_law := fun _ h => List.mem_append_left _ (List.mem_append_left _ (List.mem_append_left _ (List.mem_append_left _ (List.mem_append_left _ (List.mem_append_right _ h)))))
theorem inlX4 : ∀ w ∈ wsX40, w ∈ wsL_law := fun _ h => List.mem_append_left _ (List.mem_append_left _ (List.mem_append_left _ (List.mem_append_left _ (List.mem_append_right _ h))))
