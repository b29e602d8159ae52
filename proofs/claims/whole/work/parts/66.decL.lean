set_option maxRecDepth 20000 in
theorem ggL_law_X2_init : GoodIn wsL_law wsX2_init := goodIn_r _ [8, 9, 10, 11, 12, 13, 14, 15, 16, 17, 18, 19, 20, 21, 22, 23, 24, 25, 26, 27, 28, 29, 30, 31, 32, 33, 34, 35, 36, 37, 38, 39, 40, 41, 42, 43, 44, 45, 551, 552, 531, 532, 533, 534, 535, 536, 537, 538, 539, 553, 554, 555, 556, 557, 558, 559, 560, 561] (by decide +kernel) (by decide +kernel)
set_option maxRecDepth 20000 in
theorem gL_law_X2_init : GoodIn wsL_law (wsX2_init) := ggL_law_X2_init
set_option maxRecDepth 20000 in
theorem ggL_law_X3_init : GoodIn wsL_law wsX3_init := goodIn_r _ [48, 49, 10, 11, 31, 50, 51, 52, 53, 54, 55, 25, 56, 57, 58, 540, 541, 542, 543, 544, 545, 546, 547, 548, 549, 550] (by decide +kernel) (by decide +kernel)
set_option maxRecDepth 20000 in
theorem gL_law_X3_init : GoodIn wsL_law (wsX3_init) := ggL_law_X3_init
set_option maxRecDepth 20000 in
theorem ggL_law_X2_node : GoodIn wsL_law wsX2_node := goodIn_r _ [62, 19, 63, 64, 2, 65, 66, 67, 68, 531, 532, 533, 534, 535, 536, 537, 538, 539, 553, 554, 555, 556, 557, 558, 559, 560, 561] (by decide +kernel) (by decide +kernel)
set_option maxRecDepth 20000 in
theorem gL_law_X2_node : GoodIn wsL_law (wsV RL 13 RX2 yX2_node wsX2_node) := goodIn_app (goodIn_of _ (by decide +kernel)) ggL_law_X2_node
set_option maxRecDepth 20000 in
theorem ggL_law_X3_node : GoodIn wsL_law wsX3_node := goodIn_r _ [72, 50, 73, 74, 5, 75, 76, 77, 78, 540, 541, 542, 543, 544, 545, 546, 547, 548, 549, 550] (by decide +kernel) (by decide +kernel)
set_option maxRecDepth 20000 in
theorem gL_law_X3_node : GoodIn wsL_law (wsV RL 17 RX3 yX3_node wsX3_node) := goodIn_app (goodIn_of _ (by decide +kernel)) ggL_law_X3_node
set_option maxRecDepth 20000 in
theorem ggL_law_X2_edge : GoodIn wsL_law wsX2_edge := goodIn_r _ [82, 19, 63, 64, 2, 65, 66, 67, 68, 83, 18, 84, 85, 41, 42, 40, 44, 86, 87, 88, 89, 90, 91, 92, 93, 94, 95, 531, 532, 533, 534, 535, 536, 537, 538, 539, 553, 554, 555, 556, 557, 558, 559, 560, 561] (by decide +kernel) (by decide +kernel)
set_option maxRecDepth 20000 in
theorem gL_law_X2_edge : GoodIn wsL_law (wsV RL 18 RX2 yX2_edge wsX2_edge) := goodIn_app (goodIn_of _ (by decide +kernel)) ggL_law_X2_edge
set_option maxRecDepth 20000 in
theorem ggL_law_X3_edge : GoodIn wsL_law wsX3_edge := goodIn_r _ [99, 73, 74, 5, 75, 76, 77, 78, 100, 101, 102, 103, 50, 104, 105, 106, 107, 108, 109, 110, 111, 112, 113, 114, 540, 541, 542, 543, 544, 545, 546, 547, 548, 549, 550] (by decide +kernel) (by decide +kernel)
set_option maxRecDepth 20000 in
theorem gL_law_X3_edge : GoodIn wsL_law (wsV RL 21 RX3 yX3_edge wsX3_edge) := goodIn_app (goodIn_of _ (by decide +kernel)) ggL_law_X3_edge
set_option maxRecDepth 20000 in
theorem ggL_law_X2_say : GoodIn wsL_law wsX2_say := goodIn_r _ [118, 15, 66, 67, 2, 68, 119, 14, 120, 121, 33, 32, 531, 532, 533, 534, 535, 536, 537, 538, 539, 551, 552] (by decide +kernel) (by decide +kernel)
set_option maxRecDepth 20000 in
theorem gL_law_X2_say : GoodIn wsL_law (wsV RL 22 RX2 yX2_say wsX2_say) := goodIn_app (goodIn_of _ (by decide +kernel)) ggL_law_X2_say
set_option maxRecDepth 20000 in
theorem ggL_law_X3_say : GoodIn wsL_law wsX3_say := goodIn_r _ [125, 126, 54, 76, 77, 5, 78, 540, 541, 542, 543, 544, 545, 546, 547, 548, 549, 550] (by decide +kernel) (by decide +kernel)
set_option maxRecDepth 20000 in
theorem gL_law_X3_say : GoodIn wsL_law (wsV RL 26 RX3 yX3_say wsX3_say) := goodIn_app (goodIn_of _ (by decide +kernel)) ggL_law_X3_say
set_option maxRecDepth 20000 in
theorem ggL_law_X2_wipe : GoodIn wsL_law wsX2_wipe := goodIn_r _ [130, 15, 531, 532, 533, 534, 535, 536, 537, 538, 539, 551, 552] (by decide +kernel) (by decide +kernel)
set_option maxRecDepth 20000 in
theorem gL_law_X2_wipe : GoodIn wsL_law (wsV RL 27 RX2 yX2_wipe wsX2_wipe) := goodIn_app (goodIn_of _ (by decide +kernel)) ggL_law_X2_wipe
set_option maxRecDepth 20000 in
theorem ggL_law_X3_wipe : GoodIn wsL_law wsX3_wipe := goodIn_r _ [134, 126, 540, 541, 542, 543, 544, 545, 546, 547, 548, 549, 550] (by decide +kernel) (by decide +kernel)
set_option maxRecDepth 20000 in
theorem gL_law_X3_wipe : GoodIn wsL_law (wsV RL 31 RX3 yX3_wipe wsX3_wipe) := goodIn_app (goodIn_of _ (by decide +kernel)) ggL_law_X3_wipe
set_option maxRecDepth 20000 in
theorem ggL_law_X2_fault : GoodIn wsL_law wsX2_fault := goodIn_r _ [138, 15, 139, 14, 140, 141, 33, 142, 143, 144, 145, 32, 146, 147, 148, 149, 64, 2, 65, 66, 67, 68, 150, 151, 152, 153, 90, 91, 154, 155, 156, 157, 531, 532, 533, 534, 535, 536, 537, 538, 539, 551, 552] (by decide +kernel) (by decide +kernel)
set_option maxRecDepth 20000 in
theorem gL_law_X2_fault : GoodIn wsL_law (wsV RL 32 RX2 yX2_fault wsX2_fault) := goodIn_app (goodIn_of _ (by decide +kernel)) ggL_law_X2_fault
set_option maxRecDepth 20000 in
theorem ggL_law_X3_fault : GoodIn wsL_law wsX3_fault := goodIn_r _ [161, 126, 162, 163, 164, 5, 165, 54, 166, 167, 168, 169, 76, 77, 78, 170, 171, 172, 173, 104, 105, 106, 540, 541, 542, 543, 544, 545, 546, 547, 548, 549, 550] (by decide +kernel) (by decide +kernel)
set_option maxRecDepth 20000 in
theorem gL_law_X3_fault : GoodIn wsL_law (wsV RL 35 RX3 yX3_fault wsX3_fault) := goodIn_app (goodIn_of _ (by decide +kernel)) ggL_law_X3_fault
set_option maxRecDepth 20000 in
theorem ggL_law_X2_net : GoodIn wsL_law wsX2_net := goodIn_r _ [177, 15, 19, 139, 14, 140, 141, 33, 142, 143, 144, 145, 32, 146, 147, 148, 149, 64, 2, 65, 66, 67, 68, 150, 151, 152, 153, 90, 91, 154, 155, 156, 157, 178, 18, 179, 180, 95, 83, 84, 85, 41, 42, 40, 44, 86, 87, 88, 89, 92, 93, 94, 531, 532, 533, 534, 535, 536, 537, 538, 539, 551, 552, 553, 554, 555, 556, 557, 558, 559, 560, 561] (by decide +kernel) (by decide +kernel)
set_option maxRecDepth 20000 in
theorem gL_law_X2_net : GoodIn wsL_law (wsV RL 36 RX2 yX2_net wsX2_net) := goodIn_app (goodIn_of _ (by decide +kernel)) ggL_law_X2_net
set_option maxRecDepth 20000 in
theorem ggL_law_X3_net : GoodIn wsL_law wsX3_net := goodIn_r _ [184, 50, 126, 54, 185, 159, 160, 5, 161, 162, 163, 164, 165, 166, 167, 168, 169, 76, 77, 78, 170, 171, 172, 173, 104, 105, 106, 111, 112, 113, 114, 107, 108, 109, 110, 540, 541, 542, 543, 544, 545, 546, 547, 548, 549, 550] (by decide +kernel) (by decide +kernel)
set_option maxRecDepth 20000 in
theorem gL_law_X3_net : GoodIn wsL_law (wsV RL 39 RX3 yX3_net wsX3_net) := goodIn_app (goodIn_of _ (by decide +kernel)) ggL_law_X3_net
set_option maxRecDepth 20000 in
theorem ggL_law_X2_jobs : GoodIn wsL_law wsX2_jobs := goodIn_r _ [189, 19, 63, 64, 2, 65, 66, 67, 68, 531, 532, 533, 534, 535, 536, 537, 538, 539, 553, 554, 555, 556, 557, 558, 559, 560, 561] (by decide +kernel) (by decide +kernel)
set_option maxRecDepth 20000 in
theorem gL_law_X2_jobs : GoodIn wsL_law (wsV RL 40 RX2 yX2_jobs wsX2_jobs) := goodIn_app (goodIn_of _ (by decide +kernel)) ggL_law_X2_jobs
set_option maxRecDepth 20000 in
theorem ggL_law_X3_jobs : GoodIn wsL_law wsX3_jobs := goodIn_r _ [193, 50, 73, 74, 5, 75, 76, 77, 78, 540, 541, 542, 543, 544, 545, 546, 547, 548, 549, 550] (by decide +kernel) (by decide +kernel)
set_option maxRecDepth 20000 in
theorem gL_law_X3_jobs : GoodIn wsL_law (wsV RL 43 RX3 yX3_jobs wsX3_jobs) := goodIn_app (goodIn_of _ (by decide +kernel)) ggL_law_X3_jobs
set_option maxRecDepth 20000 in
theorem ggL_law_X2_told : GoodIn wsL_law wsX2_told := goodIn_r _ [197, 19, 63, 64, 2, 65, 66, 67, 68, 198, 18, 199, 200, 39, 201, 202, 203, 204, 40, 205, 206, 207, 208, 87, 88, 89, 41, 90, 91, 209, 531, 532, 533, 534, 535, 536, 537, 538, 539, 553, 554, 555, 556, 557, 558, 559, 560, 561] (by decide +kernel) (by decide +kernel)
set_option maxRecDepth 20000 in
theorem gL_law_X2_told : GoodIn wsL_law (wsV RL 44 RX2 yX2_told wsX2_told) := goodIn_app (goodIn_of _ (by decide +kernel)) ggL_law_X2_told
set_option maxRecDepth 20000 in
theorem ggL_law_X3_told : GoodIn wsL_law wsX3_told := goodIn_r _ [213, 50, 73, 74, 5, 75, 76, 77, 78, 100, 101, 102, 103, 104, 105, 106, 214, 215, 216, 217, 540, 541, 542, 543, 544, 545, 546, 547, 548, 549, 550] (by decide +kernel) (by decide +kernel)
set_option maxRecDepth 20000 in
theorem gL_law_X3_told : GoodIn wsL_law (wsV RL 48 RX3 yX3_told wsX3_told) := goodIn_app (goodIn_of _ (by decide +kernel)) ggL_law_X3_told
set_option maxRecDepth 20000 in
theorem ggL_law_X2_carry : GoodIn wsL_law wsX2_carry := goodIn_r _ [221, 19, 63, 64, 2, 65, 66, 67, 68, 87, 18, 88, 89, 41, 90, 91, 209, 531, 532, 533, 534, 535, 536, 537, 538, 539, 553, 554, 555, 556, 557, 558, 559, 560, 561] (by decide +kernel) (by decide +kernel)
set_option maxRecDepth 20000 in
theorem gL_law_X2_carry : GoodIn wsL_law (wsV RL 49 RX2 yX2_carry wsX2_carry) := goodIn_app (goodIn_of _ (by decide +kernel)) ggL_law_X2_carry
set_option maxRecDepth 20000 in
theorem ggL_law_X3_carry : GoodIn wsL_law wsX3_carry := goodIn_r _ [225, 50, 73, 74, 5, 75, 76, 77, 78, 100, 101, 102, 103, 104, 105, 106, 540, 541, 542, 543, 544, 545, 546, 547, 548, 549, 550] (by decide +kernel) (by decide +kernel)
set_option maxRecDepth 20000 in
theorem gL_law_X3_carry : GoodIn wsL_law (wsV RL 52 RX3 yX3_carry wsX3_carry) := goodIn_app (goodIn_of _ (by decide +kernel)) ggL_law_X3_carry
set_option maxRecDepth 20000 in
theorem ggL_law_X2_run : GoodIn wsL_law wsX2_run := goodIn_r _ [229, 19, 230, 231, 2, 232, 66, 67, 68, 233, 18, 234, 235, 45, 236, 237, 238, 239, 240, 241, 242, 243, 244, 245, 246, 247, 201, 202, 203, 204, 40, 86, 87, 88, 89, 41, 90, 91, 248, 249, 250, 251, 42, 38, 37, 43, 252, 253, 254, 255, 256, 257, 258, 259, 260, 261, 262, 263, 264, 265, 266, 267, 268, 269, 270, 271, 272, 273, 274, 275, 276, 277, 278, 279, 280, 281, 282, 39, 283, 198, 199, 200, 531, 532, 533, 534, 535, 536, 537, 538, 539, 553, 554, 555, 556, 557, 558, 559, 560, 561] (by decide +kernel) (by decide +kernel)
set_option maxRecDepth 20000 in
theorem gL_law_X2_run : GoodIn wsL_law (wsV RL 53 RX2 yX2_run wsX2_run) := goodIn_app (goodIn_of _ (by decide +kernel)) ggL_law_X2_run
set_option maxRecDepth 20000 in
theorem ggL_law_X3_run : GoodIn wsL_law wsX3_run := goodIn_r _ [287, 76, 77, 5, 78, 288, 289, 290, 291, 50, 292, 293, 294, 295, 55, 296, 297, 298, 299, 214, 215, 216, 217, 100, 101, 102, 103, 104, 105, 106, 300, 301, 302, 303, 304, 305, 306, 307, 308, 309, 310, 311, 312, 313, 314, 315, 316, 317, 318, 319, 320, 321, 322, 323, 324, 325, 326, 327, 328, 329, 330, 540, 541, 542, 543, 544, 545, 546, 547, 548, 549, 550] (by decide +kernel) (by decide +kernel)
set_option maxRecDepth 20000 in
theorem gL_law_X3_run : GoodIn wsL_law (wsV RL 56 RX3 yX3_run wsX3_run) := goodIn_app (goodIn_of _ (by decide +kernel)) ggL_law_X3_run
set_option maxRecDepth 20000 in
theorem ggL_law_X2_reset : GoodIn wsL_law wsX2_reset := goodIn_r _ [334, 19, 335, 18, 336, 337, 39, 42, 45, 531, 532, 533, 534, 535, 536, 537, 538, 539, 553, 554, 555, 556, 557, 558, 559, 560, 561] (by decide +kernel) (by decide +kernel)
set_option maxRecDepth 20000 in
theorem gL_law_X2_reset : GoodIn wsL_law (wsV RL 57 RX2 yX2_reset wsX2_reset) := goodIn_app (goodIn_of _ (by decide +kernel)) ggL_law_X2_reset
set_option maxRecDepth 20000 in
theorem ggL_law_X3_reset : GoodIn wsL_law wsX3_reset := goodIn_r _ [341, 50, 540, 541, 542, 543, 544, 545, 546, 547, 548, 549, 550] (by decide +kernel) (by decide +kernel)
set_option maxRecDepth 20000 in
theorem gL_law_X3_reset : GoodIn wsL_law (wsV RL 60 RX3 yX3_reset wsX3_reset) := goodIn_app (goodIn_of _ (by decide +kernel)) ggL_law_X3_reset
set_option maxRecDepth 20000 in
theorem ggL_law_X2_uneven : GoodIn wsL_law wsX2_uneven := goodIn_r _ [345, 19, 346, 347, 2, 348, 66, 67, 68, 349, 18, 350, 351, 352, 353, 354, 355, 38, 37, 356, 357, 358, 359, 360, 361, 362, 363, 364, 365, 366, 246, 367, 531, 532, 533, 534, 535, 536, 537, 538, 539, 553, 554, 555, 556, 557, 558, 559, 560, 561] (by decide +kernel) (by decide +kernel)
set_option maxRecDepth 20000 in
theorem gL_law_X2_uneven : GoodIn wsL_law (wsV RL 61 RX2 yX2_uneven wsX2_uneven) := goodIn_app (goodIn_of _ (by decide +kernel)) ggL_law_X2_uneven
set_option maxRecDepth 20000 in
theorem ggL_law_X3_uneven : GoodIn wsL_law wsX3_uneven := goodIn_r _ [371, 372, 373, 76, 77, 5, 78, 374, 375, 376, 377, 50, 378, 379, 380, 381, 382, 383, 540, 541, 542, 543, 544, 545, 546, 547, 548, 549, 550] (by decide +kernel) (by decide +kernel)
set_option maxRecDepth 20000 in
theorem gL_law_X3_uneven : GoodIn wsL_law (wsV RL 64 RX3 yX3_uneven wsX3_uneven) := goodIn_app (goodIn_of _ (by decide +kernel)) ggL_law_X3_uneven
set_option maxRecDepth 20000 in
theorem ggL_law_X2_share : GoodIn wsL_law wsX2_share := goodIn_r _ [387, 19, 63, 64, 2, 65, 66, 67, 68, 346, 347, 348, 388, 18, 389, 390, 38, 391, 392, 393, 37, 359, 360, 361, 362, 363, 364, 365, 366, 246, 367, 531, 532, 533, 534, 535, 536, 537, 538, 539, 553, 554, 555, 556, 557, 558, 559, 560, 561] (by decide +kernel) (by decide +kernel)
set_option maxRecDepth 20000 in
theorem gL_law_X2_share : GoodIn wsL_law (wsV RL 65 RX2 yX2_share wsX2_share) := goodIn_app (goodIn_of _ (by decide +kernel)) ggL_law_X2_share
set_option maxRecDepth 20000 in
theorem ggL_law_X3_share : GoodIn wsL_law wsX3_share := goodIn_r _ [397, 50, 73, 74, 5, 75, 76, 77, 78, 398, 399, 400, 401, 378, 379, 380, 381, 382, 383, 540, 541, 542, 543, 544, 545, 546, 547, 548, 549, 550] (by decide +kernel) (by decide +kernel)
set_option maxRecDepth 20000 in
theorem gL_law_X3_share : GoodIn wsL_law (wsV RL 68 RX3 yX3_share wsX3_share) := goodIn_app (goodIn_of _ (by decide +kernel)) ggL_law_X3_share
set_option maxRecDepth 20000 in
theorem ggL_law_X2_potential : GoodIn wsL_law wsX2_potential := goodIn_r _ [405, 19, 388, 18, 389, 390, 38, 391, 392, 393, 37, 531, 532, 533, 534, 535, 536, 537, 538, 539, 553, 554, 555, 556, 557, 558, 559, 560, 561] (by decide +kernel) (by decide +kernel)
set_option maxRecDepth 20000 in
theorem gL_law_X2_potential : GoodIn wsL_law (wsV RL 69 RX2 yX2_potential wsX2_potential) := goodIn_app (goodIn_of _ (by decide +kernel)) ggL_law_X2_potential
set_option maxRecDepth 20000 in
theorem ggL_law_X3_potential : GoodIn wsL_law wsX3_potential := goodIn_r _ [409, 50, 398, 399, 400, 5, 401, 540, 541, 542, 543, 544, 545, 546, 547, 548, 549, 550] (by decide +kernel) (by decide +kernel)
set_option maxRecDepth 20000 in
theorem gL_law_X3_potential : GoodIn wsL_law (wsV RL 73 RX3 yX3_potential wsX3_potential) := goodIn_app (goodIn_of _ (by decide +kernel)) ggL_law_X3_potential
set_option maxRecDepth 20000 in
theorem ggL_law_X2_ideal : GoodIn wsL_law wsX2_ideal := goodIn_r _ [413, 414, 415, 19, 416, 26, 63, 64, 2, 65, 66, 67, 68, 346, 347, 348, 417, 18, 418, 419, 38, 241, 242, 243, 244, 245, 246, 247, 201, 202, 203, 204, 40, 420, 421, 422, 423, 27, 424, 425, 426, 427, 87, 88, 89, 41, 90, 91, 359, 360, 361, 362, 363, 364, 365, 366, 367, 531, 532, 533, 534, 535, 536, 537, 538, 539, 553, 554, 555, 556, 557, 558, 559, 560, 561] (by decide +kernel) (by decide +kernel)
set_option maxRecDepth 20000 in
theorem gL_law_X2_ideal : GoodIn wsL_law (wsV RL 74 RX2 yX2_ideal wsX2_ideal) := goodIn_app (goodIn_of _ (by decide +kernel)) ggL_law_X2_ideal
set_option maxRecDepth 20000 in
theorem ggL_law_X3_ideal : GoodIn wsL_law wsX3_ideal := goodIn_r _ [431, 432, 433, 434, 56, 50, 73, 74, 5, 75, 76, 77, 78, 435, 436, 437, 438, 296, 297, 298, 299, 214, 215, 216, 217, 100, 101, 102, 103, 104, 105, 106, 439, 440, 441, 442, 57, 378, 379, 380, 381, 382, 383, 540, 541, 542, 543, 544, 545, 546, 547, 548, 549, 550] (by decide +kernel) (by decide +kernel)
set_option maxRecDepth 20000 in
theorem gL_law_X3_ideal : GoodIn wsL_law (wsV RL 78 RX3 yX3_ideal wsX3_ideal) := goodIn_app (goodIn_of _ (by decide +kernel)) ggL_law_X3_ideal
set_option maxRecDepth 20000 in
theorem ggL_law_X2_until : GoodIn wsL_law wsX2_until := goodIn_r _ [446, 23, 19, 230, 231, 2, 232, 66, 67, 68, 447, 18, 448, 449, 37, 450, 425, 426, 427, 38, 39, 40, 41, 42, 44, 45, 451, 452, 453, 454, 349, 350, 351, 352, 353, 354, 355, 455, 356, 357, 358, 233, 234, 235, 236, 237, 238, 239, 240, 241, 242, 243, 244, 245, 246, 247, 201, 202, 203, 204, 86, 87, 88, 89, 90, 91, 248, 249, 250, 251, 43, 252, 253, 254, 255, 256, 257, 258, 259, 260, 261, 262, 263, 264, 265, 266, 267, 268, 269, 270, 271, 272, 273, 274, 275, 276, 277, 278, 279, 280, 281, 282, 283, 198, 199, 200, 531, 532, 533, 534, 535, 536, 537, 538, 539, 553, 554, 555, 556, 557, 558, 559, 560, 561] (by decide +kernel) (by decide +kernel)
set_option maxRecDepth 20000 in
theorem gL_law_X2_until : GoodIn wsL_law (wsV RL 79 RX2 yX2_until wsX2_until) := goodIn_app (goodIn_of _ (by decide +kernel)) ggL_law_X2_until
set_option maxRecDepth 20000 in
theorem ggL_law_X3_until : GoodIn wsL_law wsX3_until := goodIn_r _ [459, 76, 77, 5, 78, 460, 461, 462, 463, 51, 50, 464, 465, 466, 467, 372, 373, 374, 375, 376, 377, 288, 289, 290, 291, 292, 293, 294, 295, 55, 296, 297, 298, 299, 214, 215, 216, 217, 100, 101, 102, 103, 104, 105, 106, 300, 301, 302, 303, 304, 305, 306, 307, 308, 309, 310, 311, 312, 313, 314, 315, 316, 317, 318, 319, 320, 321, 322, 323, 324, 325, 326, 327, 328, 329, 330, 468, 469, 470, 471, 540, 541, 542, 543, 544, 545, 546, 547, 548, 549, 550] (by decide +kernel) (by decide +kernel)
set_option maxRecDepth 20000 in
theorem gL_law_X3_until : GoodIn wsL_law (wsV RL 82 RX3 yX3_until wsX3_until) := goodIn_app (goodIn_of _ (by decide +kernel)) ggL_law_X3_until
set_option maxRecDepth 20000 in
theorem ggL_law_X2_ring : GoodIn wsL_law wsX2_ring := goodIn_r _ [475, 230, 231, 2, 232, 66, 67, 68, 476, 477, 478, 479, 23, 19, 24, 447, 18, 448, 449, 37, 450, 425, 426, 427, 38, 39, 40, 41, 42, 44, 45, 233, 234, 235, 236, 237, 238, 239, 240, 241, 242, 243, 244, 245, 246, 247, 201, 202, 203, 204, 86, 87, 88, 89, 90, 91, 248, 249, 250, 251, 43, 252, 253, 254, 255, 256, 257, 258, 259, 260, 261, 262, 263, 264, 265, 266, 267, 268, 269, 270, 271, 272, 273, 274, 275, 276, 277, 278, 279, 280, 281, 282, 283, 198, 199, 200, 480, 481, 482, 483, 484, 485, 486, 531, 532, 533, 534, 535, 536, 537, 538, 539, 553, 554, 555, 556, 557, 558, 559, 560, 561] (by decide +kernel) (by decide +kernel)
set_option maxRecDepth 20000 in
theorem gL_law_X2_ring : GoodIn wsL_law (wsV RL 83 RX2 yX2_ring wsX2_ring) := goodIn_app (goodIn_of _ (by decide +kernel)) ggL_law_X2_ring
set_option maxRecDepth 20000 in
theorem ggL_law_X3_ring : GoodIn wsL_law wsX3_ring := goodIn_r _ [490, 76, 77, 5, 78, 460, 461, 462, 463, 51, 50, 491, 492, 493, 494, 58, 214, 215, 216, 217, 100, 101, 102, 103, 104, 105, 106, 312, 313, 314, 315, 288, 289, 290, 291, 292, 293, 294, 295, 55, 296, 297, 298, 299, 300, 301, 302, 303, 304, 305, 306, 307, 308, 309, 310, 311, 316, 317, 318, 319, 320, 321, 322, 323, 324, 325, 326, 327, 328, 329, 330, 468, 469, 470, 471, 495, 496, 497, 498, 540, 541, 542, 543, 544, 545, 546, 547, 548, 549, 550] (by decide +kernel) (by decide +kernel)
set_option maxRecDepth 20000 in
theorem gL_law_X3_ring : GoodIn wsL_law (wsV RL 86 RX3 yX3_ring wsX3_ring) := goodIn_app (goodIn_of _ (by decide +kernel)) ggL_law_X3_ring
set_option maxRecDepth 20000 in
theorem ggL_law_X2_image : GoodIn wsL_law wsX2_image := goodIn_r _ [502, 19, 22, 66, 67, 2, 68, 503, 504, 505, 506, 20, 21, 447, 18, 448, 449, 37, 450, 425, 426, 427, 38, 39, 40, 41, 42, 44, 45, 531, 532, 533, 534, 535, 536, 537, 538, 539, 553, 554, 555, 556, 557, 558, 559, 560, 561] (by decide +kernel) (by decide +kernel)
set_option maxRecDepth 20000 in
theorem gL_law_X2_image : GoodIn wsL_law (wsV RL 87 RX2 yX2_image wsX2_image) := goodIn_app (goodIn_of _ (by decide +kernel)) ggL_law_X2_image
set_option maxRecDepth 20000 in
theorem ggL_law_X3_image : GoodIn wsL_law wsX3_image := goodIn_r _ [510, 53, 76, 77, 5, 78, 460, 461, 462, 463, 51, 50, 540, 541, 542, 543, 544, 545, 546, 547, 548, 549, 550] (by decide +kernel) (by decide +kernel)
set_option maxRecDepth 20000 in
theorem gL_law_X3_image : GoodIn wsL_law (wsV RL 90 RX3 yX3_image wsX3_image) := goodIn_app (goodIn_of _ (by decide +kernel)) ggL_law_X3_image
set_option maxRecDepth 20000 in
theorem ggL_law_X2_restore : GoodIn wsL_law wsX2_restore := goodIn_r _ [514, 22, 19, 66, 67, 2, 68, 503, 504, 505, 506, 20, 21, 447, 18, 448, 449, 37, 450, 425, 426, 427, 38, 39, 40, 41, 42, 44, 45, 531, 532, 533, 534, 535, 536, 537, 538, 539, 553, 554, 555, 556, 557, 558, 559, 560, 561] (by decide +kernel) (by decide +kernel)
set_option maxRecDepth 20000 in
theorem gL_law_X2_restore : GoodIn wsL_law (wsV RL 91 RX2 yX2_restore wsX2_restore) := goodIn_app (goodIn_of _ (by decide +kernel)) ggL_law_X2_restore
set_option maxRecDepth 20000 in
theorem ggL_law_X3_restore : GoodIn wsL_law wsX3_restore := goodIn_r _ [518, 53, 76, 77, 5, 78, 468, 469, 470, 471, 50, 51, 540, 541, 542, 543, 544, 545, 546, 547, 548, 549, 550] (by decide +kernel) (by decide +kernel)
set_option maxRecDepth 20000 in
theorem gL_law_X3_restore : GoodIn wsL_law (wsV RL 94 RX3 yX3_restore wsX3_restore) := goodIn_app (goodIn_of _ (by decide +kernel)) ggL_law_X3_restore
set_option maxRecDepth 20000 in
theorem ggL_law_X2_count : GoodIn wsL_law wsX2_count := goodIn_r _ [522, 19, 15, 22, 388, 18, 389, 390, 38, 241, 242, 243, 244, 245, 246, 247, 201, 202, 203, 204, 40, 264, 265, 266, 41, 417, 418, 419, 531, 532, 533, 534, 535, 536, 537, 538, 539, 553, 554, 555, 556, 557, 558, 559, 560, 561, 551, 552] (by decide +kernel) (by decide +kernel)
set_option maxRecDepth 20000 in
theorem gL_law_X2_count : GoodIn wsL_law (wsV RL 95 RX2 yX2_count wsX2_count) := goodIn_app (goodIn_of _ (by decide +kernel)) ggL_law_X2_count
set_option maxRecDepth 20000 in
theorem ggL_law_X3_count : GoodIn wsL_law wsX3_count := goodIn_r _ [526, 126, 50, 53, 107, 108, 109, 5, 110, 398, 399, 400, 401, 296, 297, 298, 299, 214, 215, 216, 217, 100, 101, 102, 103, 104, 105, 106, 312, 313, 314, 315, 527, 528, 529, 530, 540, 541, 542, 543, 544, 545, 546, 547, 548, 549, 550] (by decide +kernel) (by decide +kernel)
set_option maxRecDepth 20000 in
theorem gL_law_X3_count : GoodIn wsL_law (wsV RL 98 RX3 yX3_count wsX3_count) := goodIn_app (goodIn_of _ (by decide +kernel)) ggL_law_X3_count
theorem dL_law_0 : decode cL_law 0 = .ok (.new 7, 3) := by decide +kernel
theorem dL_law_3 : decode cL_law 3 = .ok (.dup, 1) := by decide +kernel
theorem dL_law_4 : decode cL_law 4 = .ok (.invokespecial 9, 3) := by decide +kernel
theorem dL_law_7 : decode cL_law 7 = .ok (.astore_n 1, 1) := by decide +kernel
theorem dL_law_8 : decode cL_law 8 = .ok (.new 10, 3) := by decide +kernel
theorem dL_law_11 : decode cL_law 11 = .ok (.dup, 1) := by decide +kernel
theorem dL_law_12 : decode cL_law 12 = .ok (.invokespecial 12, 3) := by decide +kernel
theorem dL_law_15 : decode cL_law 15 = .ok (.astore_n 2, 1) := by decide +kernel
theorem dL_law_16 : decode cL_law 16 = .ok (.iconst 0, 1) := by decide +kernel
theorem dL_law_17 : decode cL_law 17 = .ok (.istore_n 3, 1) := by decide +kernel
theorem dL_law_18 : decode cL_law 18 = .ok (.iload_n 3, 1) := by decide +kernel
theorem dL_law_19 : decode cL_law 19 = .ok (.aload_n 0, 1) := by decide +kernel
theorem dL_law_20 : decode cL_law 20 = .ok (.arraylength, 1) := by decide +kernel
theorem dL_law_21 : decode cL_law 21 = .ok (.iconst 4, 1) := by decide +kernel
theorem dL_law_22 : decode cL_law 22 = .ok (.isub, 1) := by decide +kernel
theorem dL_law_23 : decode cL_law 23 = .ok (.if_icmp .gt 643, 3) := by decide +kernel
theorem dL_law_26 : decode cL_law 26 = .ok (.aload_n 0, 1) := by decide +kernel
theorem dL_law_27 : decode cL_law 27 = .ok (.iload_n 3, 1) := by decide +kernel
theorem dL_law_28 : decode cL_law 28 = .ok (.iaload, 1) := by decide +kernel
theorem dL_law_29 : decode cL_law 29 = .ok (.bipush 31, 2) := by decide +kernel
theorem dL_law_31 : decode cL_law 31 = .ok (.iand, 1) := by decide +kernel
theorem dL_law_32 : decode cL_law 32 = .ok (.tableswitch 628 0 19 #[96, 139, 182, 205, 218, 231, 244, 267, 300, 333, 366, 379, 402, 435, 449, 493, 526, 559, 582, 605], 96) := by decide +kernel
theorem dL_law_128 : decode cL_law 128 = .ok (.aload_n 1, 1) := by decide +kernel
theorem dL_law_129 : decode cL_law 129 = .ok (.aload_n 0, 1) := by decide +kernel
theorem dL_law_130 : decode cL_law 130 = .ok (.iload_n 3, 1) := by decide +kernel
theorem dL_law_131 : decode cL_law 131 = .ok (.iconst 1, 1) := by decide +kernel
theorem dL_law_132 : decode cL_law 132 = .ok (.iadd, 1) := by decide +kernel
theorem dL_law_133 : decode cL_law 133 = .ok (.iaload, 1) := by decide +kernel
theorem dL_law_134 : decode cL_law 134 = .ok (.aload_n 0, 1) := by decide +kernel
theorem dL_law_135 : decode cL_law 135 = .ok (.iload_n 3, 1) := by decide +kernel
theorem dL_law_136 : decode cL_law 136 = .ok (.iconst 2, 1) := by decide +kernel
theorem dL_law_137 : decode cL_law 137 = .ok (.iadd, 1) := by decide +kernel
theorem dL_law_138 : decode cL_law 138 = .ok (.iaload, 1) := by decide +kernel
theorem dL_law_139 : decode cL_law 139 = .ok (.aload_n 0, 1) := by decide +kernel
theorem dL_law_140 : decode cL_law 140 = .ok (.iload_n 3, 1) := by decide +kernel
theorem dL_law_141 : decode cL_law 141 = .ok (.iconst 3, 1) := by decide +kernel
theorem dL_law_142 : decode cL_law 142 = .ok (.iadd, 1) := by decide +kernel
theorem dL_law_143 : decode cL_law 143 = .ok (.iaload, 1) := by decide +kernel
theorem dL_law_144 : decode cL_law 144 = .ok (.invokevirtual 13, 3) := by decide +kernel
theorem dL_law_147 : decode cL_law 147 = .ok (.aload_n 2, 1) := by decide +kernel
theorem dL_law_148 : decode cL_law 148 = .ok (.aload_n 0, 1) := by decide +kernel
theorem dL_law_149 : decode cL_law 149 = .ok (.iload_n 3, 1) := by decide +kernel
theorem dL_law_150 : decode cL_law 150 = .ok (.iconst 1, 1) := by decide +kernel
theorem dL_law_151 : decode cL_law 151 = .ok (.iadd, 1) := by decide +kernel
theorem dL_law_152 : decode cL_law 152 = .ok (.iaload, 1) := by decide +kernel
theorem dL_law_153 : decode cL_law 153 = .ok (.aload_n 0, 1) := by decide +kernel
theorem dL_law_154 : decode cL_law 154 = .ok (.iload_n 3, 1) := by decide +kernel
theorem dL_law_155 : decode cL_law 155 = .ok (.iconst 2, 1) := by decide +kernel
theorem dL_law_156 : decode cL_law 156 = .ok (.iadd, 1) := by decide +kernel
theorem dL_law_157 : decode cL_law 157 = .ok (.iaload, 1) := by decide +kernel
theorem dL_law_158 : decode cL_law 158 = .ok (.aload_n 0, 1) := by decide +kernel
theorem dL_law_159 : decode cL_law 159 = .ok (.iload_n 3, 1) := by decide +kernel
theorem dL_law_160 : decode cL_law 160 = .ok (.iconst 3, 1) := by decide +kernel
theorem dL_law_161 : decode cL_law 161 = .ok (.iadd, 1) := by decide +kernel
theorem dL_law_162 : decode cL_law 162 = .ok (.iaload, 1) := by decide +kernel
theorem dL_law_163 : decode cL_law 163 = .ok (.invokevirtual 17, 3) := by decide +kernel
theorem dL_law_166 : decode cL_law 166 = .ok (.if_icmp .eq 494, 3) := by decide +kernel
theorem dL_law_169 : decode cL_law 169 = .ok (.iconst 0, 1) := by decide +kernel
theorem dL_law_170 : decode cL_law 170 = .ok (.ireturn, 1) := by decide +kernel
theorem dL_law_171 : decode cL_law 171 = .ok (.aload_n 1, 1) := by decide +kernel
theorem dL_law_172 : decode cL_law 172 = .ok (.aload_n 0, 1) := by decide +kernel
theorem dL_law_173 : decode cL_law 173 = .ok (.iload_n 3, 1) := by decide +kernel
theorem dL_law_174 : decode cL_law 174 = .ok (.iconst 1, 1) := by decide +kernel
theorem dL_law_175 : decode cL_law 175 = .ok (.iadd, 1) := by decide +kernel
theorem dL_law_176 : decode cL_law 176 = .ok (.iaload, 1) := by decide +kernel
theorem dL_law_177 : decode cL_law 177 = .ok (.aload_n 0, 1) := by decide +kernel
theorem dL_law_178 : decode cL_law 178 = .ok (.iload_n 3, 1) := by decide +kernel
theorem dL_law_179 : decode cL_law 179 = .ok (.iconst 2, 1) := by decide +kernel
theorem dL_law_180 : decode cL_law 180 = .ok (.iadd, 1) := by decide +kernel
theorem dL_law_181 : decode cL_law 181 = .ok (.iaload, 1) := by decide +kernel
theorem dL_law_182 : decode cL_law 182 = .ok (.aload_n 0, 1) := by decide +kernel
theorem dL_law_183 : decode cL_law 183 = .ok (.iload_n 3, 1) := by decide +kernel
theorem dL_law_184 : decode cL_law 184 = .ok (.iconst 3, 1) := by decide +kernel
theorem dL_law_185 : decode cL_law 185 = .ok (.iadd, 1) := by decide +kernel
theorem dL_law_186 : decode cL_law 186 = .ok (.iaload, 1) := by decide +kernel
theorem dL_law_187 : decode cL_law 187 = .ok (.invokevirtual 18, 3) := by decide +kernel
theorem dL_law_190 : decode cL_law 190 = .ok (.aload_n 2, 1) := by decide +kernel
theorem dL_law_191 : decode cL_law 191 = .ok (.aload_n 0, 1) := by decide +kernel
theorem dL_law_192 : decode cL_law 192 = .ok (.iload_n 3, 1) := by decide +kernel
theorem dL_law_193 : decode cL_law 193 = .ok (.iconst 1, 1) := by decide +kernel
theorem dL_law_194 : decode cL_law 194 = .ok (.iadd, 1) := by decide +kernel
theorem dL_law_195 : decode cL_law 195 = .ok (.iaload, 1) := by decide +kernel
theorem dL_law_196 : decode cL_law 196 = .ok (.aload_n 0, 1) := by decide +kernel
theorem dL_law_197 : decode cL_law 197 = .ok (.iload_n 3, 1) := by decide +kernel
theorem dL_law_198 : decode cL_law 198 = .ok (.iconst 2, 1) := by decide +kernel
theorem dL_law_199 : decode cL_law 199 = .ok (.iadd, 1) := by decide +kernel
theorem dL_law_200 : decode cL_law 200 = .ok (.iaload, 1) := by decide +kernel
theorem dL_law_201 : decode cL_law 201 = .ok (.aload_n 0, 1) := by decide +kernel
theorem dL_law_202 : decode cL_law 202 = .ok (.iload_n 3, 1) := by decide +kernel
theorem dL_law_203 : decode cL_law 203 = .ok (.iconst 3, 1) := by decide +kernel
theorem dL_law_204 : decode cL_law 204 = .ok (.iadd, 1) := by decide +kernel
theorem dL_law_205 : decode cL_law 205 = .ok (.iaload, 1) := by decide +kernel
theorem dL_law_206 : decode cL_law 206 = .ok (.invokevirtual 21, 3) := by decide +kernel
theorem dL_law_209 : decode cL_law 209 = .ok (.if_icmp .eq 451, 3) := by decide +kernel
theorem dL_law_212 : decode cL_law 212 = .ok (.iconst 0, 1) := by decide +kernel
theorem dL_law_213 : decode cL_law 213 = .ok (.ireturn, 1) := by decide +kernel
theorem dL_law_214 : decode cL_law 214 = .ok (.aload_n 1, 1) := by decide +kernel
theorem dL_law_215 : decode cL_law 215 = .ok (.aload_n 0, 1) := by decide +kernel
theorem dL_law_216 : decode cL_law 216 = .ok (.iload_n 3, 1) := by decide +kernel
theorem dL_law_217 : decode cL_law 217 = .ok (.iconst 1, 1) := by decide +kernel
theorem dL_law_218 : decode cL_law 218 = .ok (.iadd, 1) := by decide +kernel
theorem dL_law_219 : decode cL_law 219 = .ok (.iaload, 1) := by decide +kernel
theorem dL_law_220 : decode cL_law 220 = .ok (.invokevirtual 22, 3) := by decide +kernel
theorem dL_law_223 : decode cL_law 223 = .ok (.aload_n 2, 1) := by decide +kernel
theorem dL_law_224 : decode cL_law 224 = .ok (.aload_n 0, 1) := by decide +kernel
theorem dL_law_225 : decode cL_law 225 = .ok (.iload_n 3, 1) := by decide +kernel
theorem dL_law_226 : decode cL_law 226 = .ok (.iconst 1, 1) := by decide +kernel
theorem dL_law_227 : decode cL_law 227 = .ok (.iadd, 1) := by decide +kernel
theorem dL_law_228 : decode cL_law 228 = .ok (.iaload, 1) := by decide +kernel
theorem dL_law_229 : decode cL_law 229 = .ok (.invokevirtual 26, 3) := by decide +kernel
theorem dL_law_232 : decode cL_law 232 = .ok (.if_icmp .eq 428, 3) := by decide +kernel
theorem dL_law_235 : decode cL_law 235 = .ok (.iconst 0, 1) := by decide +kernel
theorem dL_law_236 : decode cL_law 236 = .ok (.ireturn, 1) := by decide +kernel
theorem dL_law_237 : decode cL_law 237 = .ok (.aload_n 1, 1) := by decide +kernel
theorem dL_law_238 : decode cL_law 238 = .ok (.invokevirtual 27, 3) := by decide +kernel
theorem dL_law_241 : decode cL_law 241 = .ok (.aload_n 2, 1) := by decide +kernel
theorem dL_law_242 : decode cL_law 242 = .ok (.invokevirtual 31, 3) := by decide +kernel
theorem dL_law_245 : decode cL_law 245 = .ok (.if_icmp .eq 415, 3) := by decide +kernel
theorem dL_law_248 : decode cL_law 248 = .ok (.iconst 0, 1) := by decide +kernel
theorem dL_law_249 : decode cL_law 249 = .ok (.ireturn, 1) := by decide +kernel
theorem dL_law_250 : decode cL_law 250 = .ok (.aload_n 1, 1) := by decide +kernel
theorem dL_law_251 : decode cL_law 251 = .ok (.invokevirtual 32, 3) := by decide +kernel
theorem dL_law_254 : decode cL_law 254 = .ok (.aload_n 2, 1) := by decide +kernel
theorem dL_law_255 : decode cL_law 255 = .ok (.invokevirtual 35, 3) := by decide +kernel
theorem dL_law_258 : decode cL_law 258 = .ok (.if_icmp .eq 402, 3) := by decide +kernel
theorem dL_law_261 : decode cL_law 261 = .ok (.iconst 0, 1) := by decide +kernel
theorem dL_law_262 : decode cL_law 262 = .ok (.ireturn, 1) := by decide +kernel
theorem dL_law_263 : decode cL_law 263 = .ok (.aload_n 1, 1) := by decide +kernel
theorem dL_law_264 : decode cL_law 264 = .ok (.invokevirtual 36, 3) := by decide +kernel
theorem dL_law_267 : decode cL_law 267 = .ok (.aload_n 2, 1) := by decide +kernel
theorem dL_law_268 : decode cL_law 268 = .ok (.invokevirtual 39, 3) := by decide +kernel
theorem dL_law_271 : decode cL_law 271 = .ok (.if_icmp .eq 389, 3) := by decide +kernel
theorem dL_law_274 : decode cL_law 274 = .ok (.iconst 0, 1) := by decide +kernel
theorem dL_law_275 : decode cL_law 275 = .ok (.ireturn, 1) := by decide +kernel
theorem dL_law_276 : decode cL_law 276 = .ok (.aload_n 1, 1) := by decide +kernel
theorem dL_law_277 : decode cL_law 277 = .ok (.aload_n 0, 1) := by decide +kernel
theorem dL_law_278 : decode cL_law 278 = .ok (.iload_n 3, 1) := by decide +kernel
theorem dL_law_279 : decode cL_law 279 = .ok (.iconst 1, 1) := by decide +kernel
theorem dL_law_280 : decode cL_law 280 = .ok (.iadd, 1) := by decide +kernel
theorem dL_law_281 : decode cL_law 281 = .ok (.iaload, 1) := by decide +kernel
theorem dL_law_282 : decode cL_law 282 = .ok (.invokevirtual 40, 3) := by decide +kernel
theorem dL_law_285 : decode cL_law 285 = .ok (.aload_n 2, 1) := by decide +kernel
theorem dL_law_286 : decode cL_law 286 = .ok (.aload_n 0, 1) := by decide +kernel
theorem dL_law_287 : decode cL_law 287 = .ok (.iload_n 3, 1) := by decide +kernel
theorem dL_law_288 : decode cL_law 288 = .ok (.iconst 1, 1) := by decide +kernel
theorem dL_law_289 : decode cL_law 289 = .ok (.iadd, 1) := by decide +kernel
theorem dL_law_290 : decode cL_law 290 = .ok (.iaload, 1) := by decide +kernel
theorem dL_law_291 : decode cL_law 291 = .ok (.invokevirtual 43, 3) := by decide +kernel
theorem dL_law_294 : decode cL_law 294 = .ok (.if_icmp .eq 366, 3) := by decide +kernel
theorem dL_law_297 : decode cL_law 297 = .ok (.iconst 0, 1) := by decide +kernel
theorem dL_law_298 : decode cL_law 298 = .ok (.ireturn, 1) := by decide +kernel
theorem dL_law_299 : decode cL_law 299 = .ok (.aload_n 1, 1) := by decide +kernel
theorem dL_law_300 : decode cL_law 300 = .ok (.aload_n 0, 1) := by decide +kernel
theorem dL_law_301 : decode cL_law 301 = .ok (.iload_n 3, 1) := by decide +kernel
theorem dL_law_302 : decode cL_law 302 = .ok (.iconst 1, 1) := by decide +kernel
theorem dL_law_303 : decode cL_law 303 = .ok (.iadd, 1) := by decide +kernel
theorem dL_law_304 : decode cL_law 304 = .ok (.iaload, 1) := by decide +kernel
theorem dL_law_305 : decode cL_law 305 = .ok (.aload_n 0, 1) := by decide +kernel
theorem dL_law_306 : decode cL_law 306 = .ok (.iload_n 3, 1) := by decide +kernel
theorem dL_law_307 : decode cL_law 307 = .ok (.iconst 2, 1) := by decide +kernel
theorem dL_law_308 : decode cL_law 308 = .ok (.iadd, 1) := by decide +kernel
theorem dL_law_309 : decode cL_law 309 = .ok (.iaload, 1) := by decide +kernel
theorem dL_law_310 : decode cL_law 310 = .ok (.invokevirtual 44, 3) := by decide +kernel
theorem dL_law_313 : decode cL_law 313 = .ok (.aload_n 2, 1) := by decide +kernel
theorem dL_law_314 : decode cL_law 314 = .ok (.aload_n 0, 1) := by decide +kernel
theorem dL_law_315 : decode cL_law 315 = .ok (.iload_n 3, 1) := by decide +kernel
theorem dL_law_316 : decode cL_law 316 = .ok (.iconst 1, 1) := by decide +kernel
theorem dL_law_317 : decode cL_law 317 = .ok (.iadd, 1) := by decide +kernel
theorem dL_law_318 : decode cL_law 318 = .ok (.iaload, 1) := by decide +kernel
theorem dL_law_319 : decode cL_law 319 = .ok (.aload_n 0, 1) := by decide +kernel
theorem dL_law_320 : decode cL_law 320 = .ok (.iload_n 3, 1) := by decide +kernel
theorem dL_law_321 : decode cL_law 321 = .ok (.iconst 2, 1) := by decide +kernel
theorem dL_law_322 : decode cL_law 322 = .ok (.iadd, 1) := by decide +kernel
theorem dL_law_323 : decode cL_law 323 = .ok (.iaload, 1) := by decide +kernel
theorem dL_law_324 : decode cL_law 324 = .ok (.invokevirtual 48, 3) := by decide +kernel
theorem dL_law_327 : decode cL_law 327 = .ok (.if_icmp .eq 333, 3) := by decide +kernel
theorem dL_law_330 : decode cL_law 330 = .ok (.iconst 0, 1) := by decide +kernel
theorem dL_law_331 : decode cL_law 331 = .ok (.ireturn, 1) := by decide +kernel
theorem dL_law_332 : decode cL_law 332 = .ok (.aload_n 1, 1) := by decide +kernel
theorem dL_law_333 : decode cL_law 333 = .ok (.aload_n 0, 1) := by decide +kernel
theorem dL_law_334 : decode cL_law 334 = .ok (.iload_n 3, 1) := by decide +kernel
theorem dL_law_335 : decode cL_law 335 = .ok (.iconst 1, 1) := by decide +kernel
theorem dL_law_336 : decode cL_law 336 = .ok (.iadd, 1) := by decide +kernel
theorem dL_law_337 : decode cL_law 337 = .ok (.iaload, 1) := by decide +kernel
theorem dL_law_338 : decode cL_law 338 = .ok (.aload_n 0, 1) := by decide +kernel
theorem dL_law_339 : decode cL_law 339 = .ok (.iload_n 3, 1) := by decide +kernel
theorem dL_law_340 : decode cL_law 340 = .ok (.iconst 2, 1) := by decide +kernel
theorem dL_law_341 : decode cL_law 341 = .ok (.iadd, 1) := by decide +kernel
theorem dL_law_342 : decode cL_law 342 = .ok (.iaload, 1) := by decide +kernel
theorem dL_law_343 : decode cL_law 343 = .ok (.invokevirtual 49, 3) := by decide +kernel
theorem dL_law_346 : decode cL_law 346 = .ok (.aload_n 2, 1) := by decide +kernel
theorem dL_law_347 : decode cL_law 347 = .ok (.aload_n 0, 1) := by decide +kernel
theorem dL_law_348 : decode cL_law 348 = .ok (.iload_n 3, 1) := by decide +kernel
theorem dL_law_349 : decode cL_law 349 = .ok (.iconst 1, 1) := by decide +kernel
theorem dL_law_350 : decode cL_law 350 = .ok (.iadd, 1) := by decide +kernel
theorem dL_law_351 : decode cL_law 351 = .ok (.iaload, 1) := by decide +kernel
theorem dL_law_352 : decode cL_law 352 = .ok (.aload_n 0, 1) := by decide +kernel
theorem dL_law_353 : decode cL_law 353 = .ok (.iload_n 3, 1) := by decide +kernel
theorem dL_law_354 : decode cL_law 354 = .ok (.iconst 2, 1) := by decide +kernel
theorem dL_law_355 : decode cL_law 355 = .ok (.iadd, 1) := by decide +kernel
theorem dL_law_356 : decode cL_law 356 = .ok (.iaload, 1) := by decide +kernel
theorem dL_law_357 : decode cL_law 357 = .ok (.invokevirtual 52, 3) := by decide +kernel
theorem dL_law_360 : decode cL_law 360 = .ok (.if_icmp .eq 300, 3) := by decide +kernel
theorem dL_law_363 : decode cL_law 363 = .ok (.iconst 0, 1) := by decide +kernel
theorem dL_law_364 : decode cL_law 364 = .ok (.ireturn, 1) := by decide +kernel
theorem dL_law_365 : decode cL_law 365 = .ok (.aload_n 1, 1) := by decide +kernel
theorem dL_law_366 : decode cL_law 366 = .ok (.aload_n 0, 1) := by decide +kernel
theorem dL_law_367 : decode cL_law 367 = .ok (.iload_n 3, 1) := by decide +kernel
theorem dL_law_368 : decode cL_law 368 = .ok (.iconst 1, 1) := by decide +kernel
theorem dL_law_369 : decode cL_law 369 = .ok (.iadd, 1) := by decide +kernel
theorem dL_law_370 : decode cL_law 370 = .ok (.iaload, 1) := by decide +kernel
theorem dL_law_371 : decode cL_law 371 = .ok (.aload_n 0, 1) := by decide +kernel
theorem dL_law_372 : decode cL_law 372 = .ok (.iload_n 3, 1) := by decide +kernel
theorem dL_law_373 : decode cL_law 373 = .ok (.iconst 2, 1) := by decide +kernel
theorem dL_law_374 : decode cL_law 374 = .ok (.iadd, 1) := by decide +kernel
theorem dL_law_375 : decode cL_law 375 = .ok (.iaload, 1) := by decide +kernel
theorem dL_law_376 : decode cL_law 376 = .ok (.invokevirtual 53, 3) := by decide +kernel
theorem dL_law_379 : decode cL_law 379 = .ok (.aload_n 2, 1) := by decide +kernel
theorem dL_law_380 : decode cL_law 380 = .ok (.aload_n 0, 1) := by decide +kernel
theorem dL_law_381 : decode cL_law 381 = .ok (.iload_n 3, 1) := by decide +kernel
theorem dL_law_382 : decode cL_law 382 = .ok (.iconst 1, 1) := by decide +kernel
theorem dL_law_383 : decode cL_law 383 = .ok (.iadd, 1) := by decide +kernel
theorem dL_law_384 : decode cL_law 384 = .ok (.iaload, 1) := by decide +kernel
theorem dL_law_385 : decode cL_law 385 = .ok (.aload_n 0, 1) := by decide +kernel
theorem dL_law_386 : decode cL_law 386 = .ok (.iload_n 3, 1) := by decide +kernel
theorem dL_law_387 : decode cL_law 387 = .ok (.iconst 2, 1) := by decide +kernel
theorem dL_law_388 : decode cL_law 388 = .ok (.iadd, 1) := by decide +kernel
theorem dL_law_389 : decode cL_law 389 = .ok (.iaload, 1) := by decide +kernel
theorem dL_law_390 : decode cL_law 390 = .ok (.invokevirtual 56, 3) := by decide +kernel
theorem dL_law_393 : decode cL_law 393 = .ok (.if_icmp .eq 267, 3) := by decide +kernel
theorem dL_law_396 : decode cL_law 396 = .ok (.iconst 0, 1) := by decide +kernel
theorem dL_law_397 : decode cL_law 397 = .ok (.ireturn, 1) := by decide +kernel
theorem dL_law_398 : decode cL_law 398 = .ok (.aload_n 1, 1) := by decide +kernel
theorem dL_law_399 : decode cL_law 399 = .ok (.invokevirtual 57, 3) := by decide +kernel
theorem dL_law_402 : decode cL_law 402 = .ok (.aload_n 2, 1) := by decide +kernel
theorem dL_law_403 : decode cL_law 403 = .ok (.invokevirtual 60, 3) := by decide +kernel
theorem dL_law_406 : decode cL_law 406 = .ok (.if_icmp .eq 254, 3) := by decide +kernel
theorem dL_law_409 : decode cL_law 409 = .ok (.iconst 0, 1) := by decide +kernel
theorem dL_law_410 : decode cL_law 410 = .ok (.ireturn, 1) := by decide +kernel
theorem dL_law_411 : decode cL_law 411 = .ok (.aload_n 1, 1) := by decide +kernel
theorem dL_law_412 : decode cL_law 412 = .ok (.aload_n 0, 1) := by decide +kernel
theorem dL_law_413 : decode cL_law 413 = .ok (.iload_n 3, 1) := by decide +kernel
theorem dL_law_414 : decode cL_law 414 = .ok (.iconst 1, 1) := by decide +kernel
theorem dL_law_415 : decode cL_law 415 = .ok (.iadd, 1) := by decide +kernel
theorem dL_law_416 : decode cL_law 416 = .ok (.iaload, 1) := by decide +kernel
theorem dL_law_417 : decode cL_law 417 = .ok (.invokevirtual 61, 3) := by decide +kernel
theorem dL_law_420 : decode cL_law 420 = .ok (.aload_n 2, 1) := by decide +kernel
theorem dL_law_421 : decode cL_law 421 = .ok (.aload_n 0, 1) := by decide +kernel
theorem dL_law_422 : decode cL_law 422 = .ok (.iload_n 3, 1) := by decide +kernel
theorem dL_law_423 : decode cL_law 423 = .ok (.iconst 1, 1) := by decide +kernel
theorem dL_law_424 : decode cL_law 424 = .ok (.iadd, 1) := by decide +kernel
theorem dL_law_425 : decode cL_law 425 = .ok (.iaload, 1) := by decide +kernel
theorem dL_law_426 : decode cL_law 426 = .ok (.invokevirtual 64, 3) := by decide +kernel
theorem dL_law_429 : decode cL_law 429 = .ok (.if_icmp .eq 231, 3) := by decide +kernel
theorem dL_law_432 : decode cL_law 432 = .ok (.iconst 0, 1) := by decide +kernel
theorem dL_law_433 : decode cL_law 433 = .ok (.ireturn, 1) := by decide +kernel
theorem dL_law_434 : decode cL_law 434 = .ok (.aload_n 1, 1) := by decide +kernel
theorem dL_law_435 : decode cL_law 435 = .ok (.aload_n 0, 1) := by decide +kernel
theorem dL_law_436 : decode cL_law 436 = .ok (.iload_n 3, 1) := by decide +kernel
theorem dL_law_437 : decode cL_law 437 = .ok (.iconst 1, 1) := by decide +kernel
theorem dL_law_438 : decode cL_law 438 = .ok (.iadd, 1) := by decide +kernel
theorem dL_law_439 : decode cL_law 439 = .ok (.iaload, 1) := by decide +kernel
theorem dL_law_440 : decode cL_law 440 = .ok (.aload_n 0, 1) := by decide +kernel
theorem dL_law_441 : decode cL_law 441 = .ok (.iload_n 3, 1) := by decide +kernel
theorem dL_law_442 : decode cL_law 442 = .ok (.iconst 2, 1) := by decide +kernel
theorem dL_law_443 : decode cL_law 443 = .ok (.iadd, 1) := by decide +kernel
theorem dL_law_444 : decode cL_law 444 = .ok (.iaload, 1) := by decide +kernel
theorem dL_law_445 : decode cL_law 445 = .ok (.invokevirtual 65, 3) := by decide +kernel
theorem dL_law_448 : decode cL_law 448 = .ok (.aload_n 2, 1) := by decide +kernel
theorem dL_law_449 : decode cL_law 449 = .ok (.aload_n 0, 1) := by decide +kernel
theorem dL_law_450 : decode cL_law 450 = .ok (.iload_n 3, 1) := by decide +kernel
theorem dL_law_451 : decode cL_law 451 = .ok (.iconst 1, 1) := by decide +kernel
theorem dL_law_452 : decode cL_law 452 = .ok (.iadd, 1) := by decide +kernel
theorem dL_law_453 : decode cL_law 453 = .ok (.iaload, 1) := by decide +kernel
theorem dL_law_454 : decode cL_law 454 = .ok (.aload_n 0, 1) := by decide +kernel
theorem dL_law_455 : decode cL_law 455 = .ok (.iload_n 3, 1) := by decide +kernel
theorem dL_law_456 : decode cL_law 456 = .ok (.iconst 2, 1) := by decide +kernel
theorem dL_law_457 : decode cL_law 457 = .ok (.iadd, 1) := by decide +kernel
theorem dL_law_458 : decode cL_law 458 = .ok (.iaload, 1) := by decide +kernel
theorem dL_law_459 : decode cL_law 459 = .ok (.invokevirtual 68, 3) := by decide +kernel
theorem dL_law_462 : decode cL_law 462 = .ok (.if_icmp .eq 198, 3) := by decide +kernel
theorem dL_law_465 : decode cL_law 465 = .ok (.iconst 0, 1) := by decide +kernel
theorem dL_law_466 : decode cL_law 466 = .ok (.ireturn, 1) := by decide +kernel
theorem dL_law_467 : decode cL_law 467 = .ok (.aload_n 1, 1) := by decide +kernel
theorem dL_law_468 : decode cL_law 468 = .ok (.invokevirtual 69, 3) := by decide +kernel
theorem dL_law_471 : decode cL_law 471 = .ok (.aload_n 2, 1) := by decide +kernel
theorem dL_law_472 : decode cL_law 472 = .ok (.invokevirtual 73, 3) := by decide +kernel
theorem dL_law_475 : decode cL_law 475 = .ok (.lcmp, 1) := by decide +kernel
theorem dL_law_476 : decode cL_law 476 = .ok (.ifCond .eq 184, 3) := by decide +kernel
theorem dL_law_479 : decode cL_law 479 = .ok (.iconst 0, 1) := by decide +kernel
theorem dL_law_480 : decode cL_law 480 = .ok (.ireturn, 1) := by decide +kernel
theorem dL_law_481 : decode cL_law 481 = .ok (.aload_n 1, 1) := by decide +kernel
theorem dL_law_482 : decode cL_law 482 = .ok (.aload_n 0, 1) := by decide +kernel
theorem dL_law_483 : decode cL_law 483 = .ok (.iload_n 3, 1) := by decide +kernel
theorem dL_law_484 : decode cL_law 484 = .ok (.iconst 1, 1) := by decide +kernel
theorem dL_law_485 : decode cL_law 485 = .ok (.iadd, 1) := by decide +kernel
theorem dL_law_486 : decode cL_law 486 = .ok (.iaload, 1) := by decide +kernel
theorem dL_law_487 : decode cL_law 487 = .ok (.aload_n 0, 1) := by decide +kernel
theorem dL_law_488 : decode cL_law 488 = .ok (.iload_n 3, 1) := by decide +kernel
theorem dL_law_489 : decode cL_law 489 = .ok (.iconst 2, 1) := by decide +kernel
theorem dL_law_490 : decode cL_law 490 = .ok (.iadd, 1) := by decide +kernel
theorem dL_law_491 : decode cL_law 491 = .ok (.iaload, 1) := by decide +kernel
theorem dL_law_492 : decode cL_law 492 = .ok (.aload_n 0, 1) := by decide +kernel
theorem dL_law_493 : decode cL_law 493 = .ok (.iload_n 3, 1) := by decide +kernel
theorem dL_law_494 : decode cL_law 494 = .ok (.iconst 3, 1) := by decide +kernel
theorem dL_law_495 : decode cL_law 495 = .ok (.iadd, 1) := by decide +kernel
theorem dL_law_496 : decode cL_law 496 = .ok (.iaload, 1) := by decide +kernel
theorem dL_law_497 : decode cL_law 497 = .ok (.invokevirtual 74, 3) := by decide +kernel
theorem dL_law_500 : decode cL_law 500 = .ok (.aload_n 2, 1) := by decide +kernel
theorem dL_law_501 : decode cL_law 501 = .ok (.aload_n 0, 1) := by decide +kernel
theorem dL_law_502 : decode cL_law 502 = .ok (.iload_n 3, 1) := by decide +kernel
theorem dL_law_503 : decode cL_law 503 = .ok (.iconst 1, 1) := by decide +kernel
theorem dL_law_504 : decode cL_law 504 = .ok (.iadd, 1) := by decide +kernel
theorem dL_law_505 : decode cL_law 505 = .ok (.iaload, 1) := by decide +kernel
theorem dL_law_506 : decode cL_law 506 = .ok (.aload_n 0, 1) := by decide +kernel
theorem dL_law_507 : decode cL_law 507 = .ok (.iload_n 3, 1) := by decide +kernel
theorem dL_law_508 : decode cL_law 508 = .ok (.iconst 2, 1) := by decide +kernel
theorem dL_law_509 : decode cL_law 509 = .ok (.iadd, 1) := by decide +kernel
theorem dL_law_510 : decode cL_law 510 = .ok (.iaload, 1) := by decide +kernel
theorem dL_law_511 : decode cL_law 511 = .ok (.aload_n 0, 1) := by decide +kernel
theorem dL_law_512 : decode cL_law 512 = .ok (.iload_n 3, 1) := by decide +kernel
theorem dL_law_513 : decode cL_law 513 = .ok (.iconst 3, 1) := by decide +kernel
theorem dL_law_514 : decode cL_law 514 = .ok (.iadd, 1) := by decide +kernel
theorem dL_law_515 : decode cL_law 515 = .ok (.iaload, 1) := by decide +kernel
theorem dL_law_516 : decode cL_law 516 = .ok (.invokevirtual 78, 3) := by decide +kernel
theorem dL_law_519 : decode cL_law 519 = .ok (.lcmp, 1) := by decide +kernel
theorem dL_law_520 : decode cL_law 520 = .ok (.ifCond .eq 140, 3) := by decide +kernel
theorem dL_law_523 : decode cL_law 523 = .ok (.iconst 0, 1) := by decide +kernel
theorem dL_law_524 : decode cL_law 524 = .ok (.ireturn, 1) := by decide +kernel
theorem dL_law_525 : decode cL_law 525 = .ok (.aload_n 1, 1) := by decide +kernel
theorem dL_law_526 : decode cL_law 526 = .ok (.aload_n 0, 1) := by decide +kernel
theorem dL_law_527 : decode cL_law 527 = .ok (.iload_n 3, 1) := by decide +kernel
theorem dL_law_528 : decode cL_law 528 = .ok (.iconst 1, 1) := by decide +kernel
theorem dL_law_529 : decode cL_law 529 = .ok (.iadd, 1) := by decide +kernel
theorem dL_law_530 : decode cL_law 530 = .ok (.iaload, 1) := by decide +kernel
theorem dL_law_531 : decode cL_law 531 = .ok (.aload_n 0, 1) := by decide +kernel
theorem dL_law_532 : decode cL_law 532 = .ok (.iload_n 3, 1) := by decide +kernel
theorem dL_law_533 : decode cL_law 533 = .ok (.iconst 2, 1) := by decide +kernel
theorem dL_law_534 : decode cL_law 534 = .ok (.iadd, 1) := by decide +kernel
theorem dL_law_535 : decode cL_law 535 = .ok (.iaload, 1) := by decide +kernel
theorem dL_law_536 : decode cL_law 536 = .ok (.invokevirtual 79, 3) := by decide +kernel
theorem dL_law_539 : decode cL_law 539 = .ok (.aload_n 2, 1) := by decide +kernel
theorem dL_law_540 : decode cL_law 540 = .ok (.aload_n 0, 1) := by decide +kernel
theorem dL_law_541 : decode cL_law 541 = .ok (.iload_n 3, 1) := by decide +kernel
theorem dL_law_542 : decode cL_law 542 = .ok (.iconst 1, 1) := by decide +kernel
theorem dL_law_543 : decode cL_law 543 = .ok (.iadd, 1) := by decide +kernel
theorem dL_law_544 : decode cL_law 544 = .ok (.iaload, 1) := by decide +kernel
theorem dL_law_545 : decode cL_law 545 = .ok (.aload_n 0, 1) := by decide +kernel
theorem dL_law_546 : decode cL_law 546 = .ok (.iload_n 3, 1) := by decide +kernel
theorem dL_law_547 : decode cL_law 547 = .ok (.iconst 2, 1) := by decide +kernel
theorem dL_law_548 : decode cL_law 548 = .ok (.iadd, 1) := by decide +kernel
theorem dL_law_549 : decode cL_law 549 = .ok (.iaload, 1) := by decide +kernel
theorem dL_law_550 : decode cL_law 550 = .ok (.invokevirtual 82, 3) := by decide +kernel
theorem dL_law_553 : decode cL_law 553 = .ok (.if_icmp .eq 107, 3) := by decide +kernel
theorem dL_law_556 : decode cL_law 556 = .ok (.iconst 0, 1) := by decide +kernel
theorem dL_law_557 : decode cL_law 557 = .ok (.ireturn, 1) := by decide +kernel
theorem dL_law_558 : decode cL_law 558 = .ok (.aload_n 1, 1) := by decide +kernel
theorem dL_law_559 : decode cL_law 559 = .ok (.aload_n 0, 1) := by decide +kernel
theorem dL_law_560 : decode cL_law 560 = .ok (.iload_n 3, 1) := by decide +kernel
theorem dL_law_561 : decode cL_law 561 = .ok (.iconst 1, 1) := by decide +kernel
theorem dL_law_562 : decode cL_law 562 = .ok (.iadd, 1) := by decide +kernel
theorem dL_law_563 : decode cL_law 563 = .ok (.iaload, 1) := by decide +kernel
theorem dL_law_564 : decode cL_law 564 = .ok (.aload_n 0, 1) := by decide +kernel
theorem dL_law_565 : decode cL_law 565 = .ok (.iload_n 3, 1) := by decide +kernel
theorem dL_law_566 : decode cL_law 566 = .ok (.iconst 2, 1) := by decide +kernel
theorem dL_law_567 : decode cL_law 567 = .ok (.iadd, 1) := by decide +kernel
theorem dL_law_568 : decode cL_law 568 = .ok (.iaload, 1) := by decide +kernel
theorem dL_law_569 : decode cL_law 569 = .ok (.invokevirtual 83, 3) := by decide +kernel
theorem dL_law_572 : decode cL_law 572 = .ok (.aload_n 2, 1) := by decide +kernel
theorem dL_law_573 : decode cL_law 573 = .ok (.aload_n 0, 1) := by decide +kernel
theorem dL_law_574 : decode cL_law 574 = .ok (.iload_n 3, 1) := by decide +kernel
theorem dL_law_575 : decode cL_law 575 = .ok (.iconst 1, 1) := by decide +kernel
theorem dL_law_576 : decode cL_law 576 = .ok (.iadd, 1) := by decide +kernel
theorem dL_law_577 : decode cL_law 577 = .ok (.iaload, 1) := by decide +kernel
theorem dL_law_578 : decode cL_law 578 = .ok (.aload_n 0, 1) := by decide +kernel
theorem dL_law_579 : decode cL_law 579 = .ok (.iload_n 3, 1) := by decide +kernel
theorem dL_law_580 : decode cL_law 580 = .ok (.iconst 2, 1) := by decide +kernel
theorem dL_law_581 : decode cL_law 581 = .ok (.iadd, 1) := by decide +kernel
theorem dL_law_582 : decode cL_law 582 = .ok (.iaload, 1) := by decide +kernel
theorem dL_law_583 : decode cL_law 583 = .ok (.invokevirtual 86, 3) := by decide +kernel
theorem dL_law_586 : decode cL_law 586 = .ok (.if_icmp .eq 74, 3) := by decide +kernel
theorem dL_law_589 : decode cL_law 589 = .ok (.iconst 0, 1) := by decide +kernel
theorem dL_law_590 : decode cL_law 590 = .ok (.ireturn, 1) := by decide +kernel
theorem dL_law_591 : decode cL_law 591 = .ok (.aload_n 1, 1) := by decide +kernel
theorem dL_law_592 : decode cL_law 592 = .ok (.aload_n 0, 1) := by decide +kernel
theorem dL_law_593 : decode cL_law 593 = .ok (.iload_n 3, 1) := by decide +kernel
theorem dL_law_594 : decode cL_law 594 = .ok (.iconst 1, 1) := by decide +kernel
theorem dL_law_595 : decode cL_law 595 = .ok (.iadd, 1) := by decide +kernel
theorem dL_law_596 : decode cL_law 596 = .ok (.iaload, 1) := by decide +kernel
theorem dL_law_597 : decode cL_law 597 = .ok (.invokevirtual 87, 3) := by decide +kernel
theorem dL_law_600 : decode cL_law 600 = .ok (.aload_n 2, 1) := by decide +kernel
theorem dL_law_601 : decode cL_law 601 = .ok (.aload_n 0, 1) := by decide +kernel
theorem dL_law_602 : decode cL_law 602 = .ok (.iload_n 3, 1) := by decide +kernel
theorem dL_law_603 : decode cL_law 603 = .ok (.iconst 1, 1) := by decide +kernel
theorem dL_law_604 : decode cL_law 604 = .ok (.iadd, 1) := by decide +kernel
theorem dL_law_605 : decode cL_law 605 = .ok (.iaload, 1) := by decide +kernel
theorem dL_law_606 : decode cL_law 606 = .ok (.invokevirtual 90, 3) := by decide +kernel
theorem dL_law_609 : decode cL_law 609 = .ok (.if_icmp .eq 51, 3) := by decide +kernel
theorem dL_law_612 : decode cL_law 612 = .ok (.iconst 0, 1) := by decide +kernel
theorem dL_law_613 : decode cL_law 613 = .ok (.ireturn, 1) := by decide +kernel
theorem dL_law_614 : decode cL_law 614 = .ok (.aload_n 1, 1) := by decide +kernel
theorem dL_law_615 : decode cL_law 615 = .ok (.aload_n 0, 1) := by decide +kernel
theorem dL_law_616 : decode cL_law 616 = .ok (.iload_n 3, 1) := by decide +kernel
theorem dL_law_617 : decode cL_law 617 = .ok (.iconst 1, 1) := by decide +kernel
theorem dL_law_618 : decode cL_law 618 = .ok (.iadd, 1) := by decide +kernel
theorem dL_law_619 : decode cL_law 619 = .ok (.iaload, 1) := by decide +kernel
theorem dL_law_620 : decode cL_law 620 = .ok (.invokevirtual 91, 3) := by decide +kernel
theorem dL_law_623 : decode cL_law 623 = .ok (.aload_n 2, 1) := by decide +kernel
theorem dL_law_624 : decode cL_law 624 = .ok (.aload_n 0, 1) := by decide +kernel
theorem dL_law_625 : decode cL_law 625 = .ok (.iload_n 3, 1) := by decide +kernel
theorem dL_law_626 : decode cL_law 626 = .ok (.iconst 1, 1) := by decide +kernel
theorem dL_law_627 : decode cL_law 627 = .ok (.iadd, 1) := by decide +kernel
theorem dL_law_628 : decode cL_law 628 = .ok (.iaload, 1) := by decide +kernel
theorem dL_law_629 : decode cL_law 629 = .ok (.invokevirtual 94, 3) := by decide +kernel
theorem dL_law_632 : decode cL_law 632 = .ok (.if_icmp .eq 28, 3) := by decide +kernel
theorem dL_law_635 : decode cL_law 635 = .ok (.iconst 0, 1) := by decide +kernel
theorem dL_law_636 : decode cL_law 636 = .ok (.ireturn, 1) := by decide +kernel
theorem dL_law_637 : decode cL_law 637 = .ok (.aload_n 1, 1) := by decide +kernel
theorem dL_law_638 : decode cL_law 638 = .ok (.aload_n 0, 1) := by decide +kernel
theorem dL_law_639 : decode cL_law 639 = .ok (.iload_n 3, 1) := by decide +kernel
theorem dL_law_640 : decode cL_law 640 = .ok (.iconst 1, 1) := by decide +kernel
theorem dL_law_641 : decode cL_law 641 = .ok (.iadd, 1) := by decide +kernel
theorem dL_law_642 : decode cL_law 642 = .ok (.iaload, 1) := by decide +kernel
theorem dL_law_643 : decode cL_law 643 = .ok (.invokevirtual 95, 3) := by decide +kernel
theorem dL_law_646 : decode cL_law 646 = .ok (.aload_n 2, 1) := by decide +kernel
theorem dL_law_647 : decode cL_law 647 = .ok (.aload_n 0, 1) := by decide +kernel
theorem dL_law_648 : decode cL_law 648 = .ok (.iload_n 3, 1) := by decide +kernel
theorem dL_law_649 : decode cL_law 649 = .ok (.iconst 1, 1) := by decide +kernel
theorem dL_law_650 : decode cL_law 650 = .ok (.iadd, 1) := by decide +kernel
theorem dL_law_651 : decode cL_law 651 = .ok (.iaload, 1) := by decide +kernel
theorem dL_law_652 : decode cL_law 652 = .ok (.invokevirtual 98, 3) := by decide +kernel
theorem dL_law_655 : decode cL_law 655 = .ok (.if_icmp .eq 5, 3) := by decide +kernel
theorem dL_law_658 : decode cL_law 658 = .ok (.iconst 0, 1) := by decide +kernel
theorem dL_law_659 : decode cL_law 659 = .ok (.ireturn, 1) := by decide +kernel
theorem dL_law_660 : decode cL_law 660 = .ok (.iinc 3 4, 3) := by decide +kernel
theorem dL_law_663 : decode cL_law 663 = .ok (.goto (-645), 3) := by decide +kernel
theorem dL_law_666 : decode cL_law 666 = .ok (.iconst 1, 1) := by decide +kernel
theorem dL_law_667 : decode cL_law 667 = .ok (.ireturn, 1) := by decide +kernel
