/-! ===== the law's words among the tables' ===== -/
theorem jw_in {ws big : List Cond} (ps : List Nat) (h : ws = ps.filterMap (fun i => big[i]?)) : ∀ w ∈ ws, w ∈ big := by
  intro w hw
  rw [h] at hw
  obtain ⟨i, -, hi⟩ := List.mem_filterMap.mp hw
  exact List.mem_of_getElem? hi
set_option maxRecDepth 20000 in
theorem jw_in_r1 : ∀ w ∈ wsL_law_r1, w ∈ lw_tbl := jw_in [71, 72, 65, 446, 447, 68, 73, 74, 75, 76, 77, 78, 79, 80, 66, 135, 94, 95, 67, 136, 137, 138, 139, 140] (by decide +kernel)
set_option maxRecDepth 20000 in
theorem jw_in_r2 : ∀ w ∈ wsL_law_r2, w ∈ lw_tbl := jw_in [141, 163, 142, 143, 82, 83, 84, 93, 85, 86, 97, 98, 99, 100, 102, 104, 105, 107, 109, 111, 112, 114, 448, 449] (by decide +kernel)
set_option maxRecDepth 20000 in
theorem jw_in_r3 : ∀ w ∈ wsL_law_r3, w ∈ lw_tbl := jw_in [450, 451, 452, 453, 486, 454, 455, 457, 460, 461, 462, 164, 165, 166, 167, 168, 169, 170, 171, 172, 173, 487, 488, 489] (by decide +kernel)
set_option maxRecDepth 20000 in
theorem jw_in_r4 : ∀ w ∈ wsL_law_r4, w ∈ lw_tbl := jw_in [490, 491, 492, 493, 494, 495, 496, 174, 175, 176, 177, 180, 0, 181, 182, 184, 1, 185, 187, 188, 192, 2, 193, 194] (by decide +kernel)
set_option maxRecDepth 20000 in
theorem jw_in_r5 : ∀ w ∈ wsL_law_r5, w ∈ lw_tbl := jw_in [497, 498, 499, 500, 501, 503, 37, 504, 505, 506, 507, 508, 510, 38, 511, 512, 514, 39, 515, 195, 196, 197, 198, 201] (by decide +kernel)
set_option maxRecDepth 20000 in
theorem jw_in_r6 : ∀ w ∈ wsL_law_r6, w ∈ lw_tbl := jw_in [3, 202, 516, 517, 518, 519, 456, 203, 204, 205, 206, 520, 521, 522, 523, 207, 208, 209, 210, 213, 4, 214, 215, 217] (by decide +kernel)
set_option maxRecDepth 20000 in
theorem jw_in_r7 : ∀ w ∈ wsL_law_r7, w ∈ lw_tbl := jw_in [5, 218, 219, 221, 6, 222, 224, 226, 7, 227, 229, 231, 8, 232, 524, 525, 526, 527, 528, 530, 40, 531, 532, 534] (by decide +kernel)
set_option maxRecDepth 20000 in
theorem jw_in_r8 : ∀ w ∈ wsL_law_r8, w ∈ lw_tbl := jw_in [41, 535, 536, 538, 42, 539, 234, 235, 236, 237, 240, 9, 241, 540, 541, 542, 543, 544, 244, 245, 246, 247, 545, 546] (by decide +kernel)
set_option maxRecDepth 20000 in
theorem jw_in_r9 : ∀ w ∈ wsL_law_r9, w ∈ lw_tbl := jw_in [547, 548, 248, 249, 250, 251, 254, 10, 255, 256, 258, 11, 259, 260, 262, 12, 263, 264, 549, 550, 551, 552, 553, 555] (by decide +kernel)
set_option maxRecDepth 20000 in
theorem jw_in_r10 : ∀ w ∈ wsL_law_r10, w ∈ lw_tbl := jw_in [43, 556, 265, 266, 267, 268, 557, 558, 559, 560, 269, 270, 271, 272, 273, 274, 275, 278, 13, 279, 280, 282, 14, 283] (by decide +kernel)
set_option maxRecDepth 20000 in
theorem jw_in_r11 : ∀ w ∈ wsL_law_r11, w ∈ lw_tbl := jw_in [284, 286, 15, 287, 288, 289, 69, 290, 291, 293, 16, 294, 295, 296, 297, 298, 300, 17, 301, 302, 304, 18, 305, 306] (by decide +kernel)
set_option maxRecDepth 20000 in
theorem jw_in_r12 : ∀ w ∈ wsL_law_r12, w ∈ lw_tbl := jw_in [308, 19, 309, 310, 312, 20, 313, 314, 315, 69, 316, 317, 319, 21, 320, 321, 323, 22, 324, 325, 561, 562, 563, 564] (by decide +kernel)
set_option maxRecDepth 20000 in
theorem jw_in_r13 : ∀ w ∈ wsL_law_r13, w ∈ lw_tbl := jw_in [565, 567, 44, 568, 569, 571, 45, 572, 573, 575, 46, 576, 577, 579, 47, 580, 581, 583, 48, 584, 585, 587, 49, 588] (by decide +kernel)
set_option maxRecDepth 20000 in
theorem jw_in_r14 : ∀ w ∈ wsL_law_r14, w ∈ lw_tbl := jw_in [589, 591, 50, 592, 593, 595, 51, 596, 597, 598, 599, 600, 602, 52, 603, 604, 606, 53, 607, 326, 327, 328, 329, 332] (by decide +kernel)
set_option maxRecDepth 20000 in
theorem jw_in_r15 : ∀ w ∈ wsL_law_r15, w ∈ lw_tbl := jw_in [23, 333, 608, 609, 610, 611, 334, 335, 336, 337, 338, 339, 340, 343, 24, 344, 345, 347, 25, 348, 351, 26, 352, 354] (by decide +kernel)
set_option maxRecDepth 20000 in
theorem jw_in_r16 : ∀ w ∈ wsL_law_r16, w ∈ lw_tbl := jw_in [355, 356, 357, 358, 359, 360, 361, 362, 612, 613, 614, 615, 458, 459, 616, 618, 54, 619, 620, 621, 622, 623, 624, 625] (by decide +kernel)
set_option maxRecDepth 20000 in
theorem jw_in_r17 : ∀ w ∈ wsL_law_r17, w ∈ lw_tbl := jw_in [363, 364, 365, 366, 369, 27, 370, 373, 28, 374, 626, 627, 628, 629, 630, 632, 55, 633, 375, 376, 377, 378, 634, 635] (by decide +kernel)
set_option maxRecDepth 20000 in
theorem jw_in_r18 : ∀ w ∈ wsL_law_r18, w ∈ lw_tbl := jw_in [636, 637, 379, 380, 381, 382, 383, 384, 389, 387, 29, 388, 391, 393, 30, 394, 395, 397, 396, 70, 638, 639, 640, 641] (by decide +kernel)
set_option maxRecDepth 20000 in
theorem jw_in_r19 : ∀ w ∈ wsL_law_r19, w ∈ lw_tbl := jw_in [642, 643, 648, 644, 646, 56, 647, 649, 651, 57, 652, 398, 399, 400, 401, 404, 31, 405, 406, 409, 32, 410, 411, 412] (by decide +kernel)
set_option maxRecDepth 20000 in
theorem jw_in_r20 : ∀ w ∈ wsL_law_r20, w ∈ lw_tbl := jw_in [653, 654, 655, 656, 657, 659, 58, 660, 661, 663, 59, 664, 665, 667, 60, 668, 413, 414, 415, 416, 417, 419, 33, 420] (by decide +kernel)
set_option maxRecDepth 20000 in
theorem jw_in_r21 : ∀ w ∈ wsL_law_r21, w ∈ lw_tbl := jw_in [423, 34, 424, 425, 427, 35, 428, 669, 670, 671, 672, 673, 675, 61, 676, 677, 679, 62, 680, 429, 430, 431, 432, 433] (by decide +kernel)
set_option maxRecDepth 20000 in
theorem jw_in_r22 : ∀ w ∈ wsL_law_r22, w ∈ lw_tbl := jw_in [435, 36, 436, 681, 682, 683, 684, 437, 438, 439, 440, 685, 686, 687, 688, 441, 442, 443, 444, 689, 690, 691, 692, 693] (by decide +kernel)
set_option maxRecDepth 20000 in
theorem jw_in_r23 : ∀ w ∈ wsL_law_r23, w ∈ lw_tbl := jw_in [695, 63, 696] (by decide +kernel)
set_option maxRecDepth 20000 in
theorem jw_in_X20 : ∀ w ∈ wsX20, w ∈ lw_tbl := jw_in [144, 146, 148, 150, 152, 154, 156, 158, 160] (by decide +kernel)
set_option maxRecDepth 20000 in
theorem jw_in_X30 : ∀ w ∈ wsX30, w ∈ lw_tbl := jw_in [463, 465, 467, 469, 471, 473, 475, 477, 479, 481, 483] (by decide +kernel)
set_option maxRecDepth 20000 in
theorem jw_in_X10 : ∀ w ∈ wsX10, w ∈ lw_tbl := jw_in [88, 90] (by decide +kernel)
set_option maxRecDepth 20000 in
theorem jw_in_X00 : ∀ w ∈ wsX00, w ∈ lw_tbl := jw_in [116, 118, 120, 122, 124, 126, 128, 130, 132] (by decide +kernel)
theorem jw_app {a b big : List Cond} (ha : ∀ w ∈ a, w ∈ big) (hb : ∀ w ∈ b, w ∈ big) : ∀ w ∈ a ++ b, w ∈ big := fun w h => (List.mem_append.mp h).elim (ha w) (hb w)
theorem wsL_law_in : ∀ w ∈ wsL_law, w ∈ lw_tbl := jw_app (jw_app (jw_app (jw_app (jw_app (jw_app jw_in_r1 (jw_app jw_in_r2 (jw_app jw_in_r3 (jw_app jw_in_r4 (jw_app jw_in_r5 (jw_app jw_in_r6 (jw_app jw_in_r7 (jw_app jw_in_r8 (jw_app jw_in_r9 (jw_app jw_in_r10 (jw_app jw_in_r11 (jw_app jw_in_r12 (jw_app jw_in_r13 (jw_app jw_in_r14 (jw_app jw_in_r15 (jw_app jw_in_r16 (jw_app jw_in_r17 (jw_app jw_in_r18 (jw_app jw_in_r19 (jw_app jw_in_r20 (jw_app jw_in_r21 (jw_app jw_in_r22 jw_in_r23)))))))))))))))))))))) jw_in_X20) jw_in_X30) jw_in_X10) jw_in_X00) (fun _ h => absurd h List.not_mem_nil)
