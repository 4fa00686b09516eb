/-! the words of each call of the law -/
set_option maxRecDepth 20000 in
theorem ggL_law_X6_init : GoodIn wsL_lawB wsX6_init := goodIn_r _ [9, 10, 11, 12, 13, 14, 15, 16, 17, 18, 19, 20, 21, 22, 23, 24, 25, 26, 27, 28, 29, 30, 31, 32, 33, 34, 35, 36, 37, 38, 39, 40, 41, 42, 43, 44, 45, 46, 47, 48, 49, 50, 51, 52, 53, 54, 55, 56, 57, 58, 59, 60, 61, 62, 63, 64, 65, 66, 67, 68, 69, 70, 71, 72, 73, 74, 75, 76, 77, 78, 79, 80, 81, 82, 83, 84, 85, 86, 87, 88, 806, 807, 783, 784, 785, 786, 787, 788, 808, 809, 810, 811, 812, 813, 814, 815, 816, 817, 818, 819, 820, 821, 822, 823, 824, 825, 826, 827, 828, 829, 830, 831, 832, 833] (by decide +kernel) (by decide +kernel)
set_option maxRecDepth 20000 in
theorem gL_law_X6_init : GoodIn wsL_lawB (wsX6_init) := ggL_law_X6_init
set_option maxRecDepth 20000 in
theorem ggL_law_X7_init : GoodIn wsL_lawB wsX7_init := goodIn_r _ [91, 92, 11, 12, 43, 93, 94, 95, 96, 97, 98, 99, 100, 5, 101, 789, 790, 791, 792, 793, 794, 795, 796, 797, 798, 799, 800, 801, 802, 803, 804, 805] (by decide +kernel) (by decide +kernel)
set_option maxRecDepth 20000 in
theorem gL_law_X7_init : GoodIn wsL_lawB (wsX7_init) := ggL_law_X7_init
set_option maxRecDepth 20000 in
theorem ggL_law_X6_feed : GoodIn wsL_lawB wsX6_feed := goodIn_r _ [105, 16, 106, 15, 107, 108, 39, 38, 783, 784, 785, 786, 787, 788, 806, 807] (by decide +kernel) (by decide +kernel)
set_option maxRecDepth 20000 in
theorem gL_law_X6_feed : GoodIn wsL_lawB (wsV RL 19 RX6 yX6_feed wsX6_feed) := goodIn_app (goodIn_of _ (by decide +kernel)) ggL_law_X6_feed
set_option maxRecDepth 20000 in
theorem ggL_law_X7_feed : GoodIn wsL_lawB wsX7_feed := goodIn_r _ [112, 113, 114, 115, 116, 117, 5, 118, 93, 789, 790, 791, 792, 793, 794, 795, 796, 797, 798, 799, 800, 801, 802, 803, 804, 805] (by decide +kernel) (by decide +kernel)
set_option maxRecDepth 20000 in
theorem gL_law_X7_feed : GoodIn wsL_lawB (wsV RL 23 RX7 yX7_feed wsX7_feed) := goodIn_app (goodIn_of _ (by decide +kernel)) ggL_law_X7_feed
set_option maxRecDepth 20000 in
theorem ggL_law_X6_end : GoodIn wsL_lawB wsX6_end := goodIn_r _ [122, 16, 783, 784, 785, 786, 787, 788, 806, 807] (by decide +kernel) (by decide +kernel)
set_option maxRecDepth 20000 in
theorem gL_law_X6_end : GoodIn wsL_lawB (wsV RL 24 RX6 yX6_end wsX6_end) := goodIn_app (goodIn_of _ (by decide +kernel)) ggL_law_X6_end
set_option maxRecDepth 20000 in
theorem ggL_law_X7_end : GoodIn wsL_lawB wsX7_end := goodIn_r _ [126, 113, 114, 789, 790, 791, 792, 793, 794, 795, 796, 797, 798, 799, 800, 801, 802, 803, 804, 805] (by decide +kernel) (by decide +kernel)
set_option maxRecDepth 20000 in
theorem gL_law_X7_end : GoodIn wsL_lawB (wsV RL 28 RX7 yX7_end wsX7_end) := goodIn_app (goodIn_of _ (by decide +kernel)) ggL_law_X7_end
set_option maxRecDepth 20000 in
theorem ggL_law_X6_text : GoodIn wsL_lawB wsX6_text := goodIn_r _ [130, 25, 16, 20, 21, 33, 131, 24, 132, 133, 63, 56, 57, 58, 59, 134, 62, 135, 136, 68, 69, 70, 71, 137, 138, 139, 140, 141, 142, 143, 72, 144, 145, 146, 147, 148, 149, 150, 151, 152, 153, 154, 155, 64, 156, 157, 158, 159, 160, 161, 162, 163, 164, 165, 166, 167, 168, 169, 170, 171, 172, 173, 174, 175, 176, 177, 178, 179, 180, 181, 182, 183, 184, 185, 186, 187, 188, 189, 190, 191, 192, 193, 194, 195, 196, 197, 198, 199, 200, 201, 202, 203, 204, 205, 206, 207, 208, 209, 210, 211, 212, 213, 214, 215, 47, 19, 48, 49, 50, 51, 52, 44, 216, 217, 218, 219, 220, 221, 222, 223, 224, 225, 226, 227, 228, 229, 230, 231, 232, 233, 234, 235, 236, 237, 238, 239, 240, 241, 242, 243, 244, 45, 245, 246, 247, 248, 249, 250, 251, 252, 253, 254, 255, 256, 257, 258, 259, 32, 260, 261, 87, 783, 784, 785, 786, 787, 788, 806, 807, 813, 814, 815, 816, 817, 818, 829, 830, 831, 832, 833, 808, 809, 810, 811, 812, 822, 823, 824, 825, 826, 827, 828] (by decide +kernel) (by decide +kernel)
set_option maxRecDepth 20000 in
theorem gL_law_X6_text : GoodIn wsL_lawB (wsV RL 29 RX6 yX6_text wsX6_text) := goodIn_app (goodIn_of _ (by decide +kernel)) ggL_law_X6_text
set_option maxRecDepth 20000 in
theorem ggL_law_X7_text : GoodIn wsL_lawB wsX7_text := goodIn_r _ [265, 113, 114, 266, 267, 268, 95, 98, 269, 270, 94, 271, 99, 100, 5, 101, 272, 273, 274, 275, 93, 276, 277, 278, 279, 280, 281, 282, 283, 284, 285, 286, 287, 288, 289, 290, 291, 292, 293, 294, 295, 296, 297, 298, 299, 300, 301, 302, 303, 304, 305, 306, 307, 308, 309, 310, 311, 312, 313, 314, 315, 316, 317, 318, 319, 320, 321, 322, 323, 324, 325, 326, 327, 328, 329, 330, 331, 332, 333, 334, 335, 336, 337, 338, 339, 340, 341, 342, 343, 344, 345, 346, 789, 790, 791, 792, 793, 794, 795, 796, 797, 798, 799, 800, 801, 802, 803, 804, 805] (by decide +kernel) (by decide +kernel)
set_option maxRecDepth 20000 in
theorem gL_law_X7_text : GoodIn wsL_lawB (wsV RL 33 RX7 yX7_text wsX7_text) := goodIn_app (goodIn_of _ (by decide +kernel)) ggL_law_X7_text
set_option maxRecDepth 20000 in
theorem ggL_law_X6_fault : GoodIn wsL_lawB wsX6_fault := goodIn_r _ [350, 25, 783, 784, 785, 786, 787, 788, 813, 814, 815, 816, 817, 818] (by decide +kernel) (by decide +kernel)
set_option maxRecDepth 20000 in
theorem gL_law_X6_fault : GoodIn wsL_lawB (wsV RL 34 RX6 yX6_fault wsX6_fault) := goodIn_app (goodIn_of _ (by decide +kernel)) ggL_law_X6_fault
set_option maxRecDepth 20000 in
theorem ggL_law_X7_fault : GoodIn wsL_lawB wsX7_fault := goodIn_r _ [354, 113, 267, 789, 790, 791, 792, 793, 794, 795, 796, 797, 798, 799, 800, 801, 802, 803, 804, 805] (by decide +kernel) (by decide +kernel)
set_option maxRecDepth 20000 in
theorem gL_law_X7_fault : GoodIn wsL_lawB (wsV RL 37 RX7 yX7_fault wsX7_fault) := goodIn_app (goodIn_of _ (by decide +kernel)) ggL_law_X7_fault
set_option maxRecDepth 20000 in
theorem ggL_law_X6_now : GoodIn wsL_lawB wsX6_now := goodIn_r _ [358, 20, 33, 16, 359, 19, 360, 361, 51, 362, 249, 250, 251, 52, 231, 232, 233, 234, 363, 364, 365, 366, 44, 367, 368, 369, 370, 371, 372, 373, 783, 784, 785, 786, 787, 788, 808, 809, 810, 811, 812, 822, 823, 824, 825, 826, 827, 828, 806, 807] (by decide +kernel) (by decide +kernel)
set_option maxRecDepth 20000 in
theorem gL_law_X6_now : GoodIn wsL_lawB (wsV RL 38 RX6 yX6_now wsX6_now) := goodIn_app (goodIn_of _ (by decide +kernel)) ggL_law_X6_now
set_option maxRecDepth 20000 in
theorem ggL_law_X7_now : GoodIn wsL_lawB wsX7_now := goodIn_r _ [377, 113, 94, 271, 114, 378, 379, 380, 5, 381, 382, 383, 384, 385, 386, 387, 388, 389, 390, 391, 392, 393, 394, 395, 396, 789, 790, 791, 792, 793, 794, 795, 796, 797, 798, 799, 800, 801, 802, 803, 804, 805] (by decide +kernel) (by decide +kernel)
set_option maxRecDepth 20000 in
theorem gL_law_X7_now : GoodIn wsL_lawB (wsV RL 42 RX7 yX7_now wsX7_now) := goodIn_app (goodIn_of _ (by decide +kernel)) ggL_law_X7_now
set_option maxRecDepth 20000 in
theorem ggL_law_L_node : GoodIn wsL_lawB wsL_nodeB := goodIn_ca (goodIn_r _ [400, 401, 402, 403, 404, 2, 405, 406, 407, 20, 232, 19, 233, 234, 51, 228, 229, 230, 52, 231, 408, 409, 410, 44, 359, 360, 361, 362, 249, 250, 251, 363, 364, 365, 366, 783, 784, 785, 786, 787, 788, 808, 809, 810, 811, 812] (by decide +kernel) (by decide +kernel)) (goodIn_sub (fun _ h => List.mem_append_right _ h) (by decide +kernel))
set_option maxRecDepth 20000 in
theorem gL_law_L_node : GoodIn wsL_lawB (va_wsS RL 43 yL_node wsL_nodeB) := goodIn_app (goodIn_of _ (by decide +kernel)) ggL_law_L_node
set_option maxRecDepth 20000 in
theorem ggL_law_X7_node : GoodIn wsL_lawB wsX7_node := goodIn_r _ [414, 113, 94, 415, 416, 417, 5, 418, 312, 313, 314, 419, 420, 421, 422, 390, 391, 392, 393, 378, 379, 380, 381, 382, 383, 384, 385, 386, 387, 388, 389, 789, 790, 791, 792, 793, 794, 795, 796, 797, 798, 799, 800, 801, 802, 803, 804, 805] (by decide +kernel) (by decide +kernel)
set_option maxRecDepth 20000 in
theorem gL_law_X7_node : GoodIn wsL_lawB (wsV RL 48 RX7 yX7_node wsX7_node) := goodIn_app (goodIn_of _ (by decide +kernel)) ggL_law_X7_node
set_option maxRecDepth 20000 in
theorem ggL_law_X7_thrown : GoodIn wsL_lawB wsX7_thrown := goodIn_r _ [426, 113, 789, 790, 791, 792, 793, 794, 795, 796, 797, 798, 799, 800, 801, 802, 803, 804, 805] (by decide +kernel) (by decide +kernel)
set_option maxRecDepth 20000 in
theorem gL_law_X7_thrown : GoodIn wsL_lawB (wsV RL 49 RX7 yX7_thrown wsX7_thrown) := goodIn_app (goodIn_of _ (by decide +kernel)) ggL_law_X7_thrown
set_option maxRecDepth 20000 in
theorem ggL_law_X6_factor : GoodIn wsL_lawB wsX6_factor := goodIn_r _ [430, 20, 249, 19, 250, 251, 52, 231, 232, 233, 234, 51, 431, 432, 433, 50, 434, 435, 2, 436, 437, 438, 439, 45, 783, 784, 785, 786, 787, 788, 808, 809, 810, 811, 812] (by decide +kernel) (by decide +kernel)
set_option maxRecDepth 20000 in
theorem gL_law_X6_factor : GoodIn wsL_lawB (wsV RL 52 RX6 yX6_factor wsX6_factor) := goodIn_app (goodIn_of _ (by decide +kernel)) ggL_law_X6_factor
set_option maxRecDepth 20000 in
theorem ggL_law_X7_factor : GoodIn wsL_lawB wsX7_factor := goodIn_r _ [443, 113, 94, 444, 445, 446, 5, 447, 415, 416, 417, 418, 312, 313, 314, 448, 449, 450, 451, 452, 453, 454, 334, 335, 336, 789, 790, 791, 792, 793, 794, 795, 796, 797, 798, 799, 800, 801, 802, 803, 804, 805] (by decide +kernel) (by decide +kernel)
set_option maxRecDepth 20000 in
theorem gL_law_X7_factor : GoodIn wsL_lawB (wsV RL 56 RX7 yX7_factor wsX7_factor) := goodIn_app (goodIn_of _ (by decide +kernel)) ggL_law_X7_factor
set_option maxRecDepth 20000 in
theorem ggL_law_X6_value : GoodIn wsL_lawB wsX6_value := goodIn_r _ [458, 20, 459, 232, 19, 233, 234, 51, 431, 432, 433, 50, 460, 461, 462, 463, 359, 360, 361, 362, 249, 250, 251, 52, 231, 363, 364, 365, 366, 44, 464, 465, 466, 467, 468, 469, 470, 471, 472, 437, 438, 439, 45, 473, 2, 474, 783, 784, 785, 786, 787, 788, 808, 809, 810, 811, 812] (by decide +kernel) (by decide +kernel)
set_option maxRecDepth 20000 in
theorem gL_law_X6_value : GoodIn wsL_lawB (wsV RL 57 RX6 yX6_value wsX6_value) := goodIn_app (goodIn_of _ (by decide +kernel)) ggL_law_X6_value
set_option maxRecDepth 20000 in
theorem ggL_law_X7_value : GoodIn wsL_lawB wsX7_value := goodIn_r _ [478, 113, 479, 415, 416, 417, 5, 418, 94, 312, 313, 314, 448, 449, 450, 451, 480, 481, 482, 483, 382, 383, 384, 385, 386, 387, 388, 389, 390, 391, 392, 393, 484, 485, 486, 487, 488, 489, 490, 491, 334, 335, 336, 789, 790, 791, 792, 793, 794, 795, 796, 797, 798, 799, 800, 801, 802, 803, 804, 805] (by decide +kernel) (by decide +kernel)
set_option maxRecDepth 20000 in
theorem gL_law_X7_value : GoodIn wsL_lawB (wsV RL 60 RX7 yX7_value wsX7_value) := goodIn_app (goodIn_of _ (by decide +kernel)) ggL_law_X7_value
set_option maxRecDepth 20000 in
theorem ggL_law_X6_how : GoodIn wsL_lawB wsX6_how := goodIn_r _ [495, 20, 29, 249, 19, 250, 251, 52, 231, 232, 233, 234, 51, 431, 432, 433, 50, 496, 28, 497, 498, 78, 437, 438, 439, 45, 783, 784, 785, 786, 787, 788, 808, 809, 810, 811, 812, 819, 820, 821] (by decide +kernel) (by decide +kernel)
set_option maxRecDepth 20000 in
theorem gL_law_X6_how : GoodIn wsL_lawB (wsV RL 61 RX6 yX6_how wsX6_how) := goodIn_app (goodIn_of _ (by decide +kernel)) ggL_law_X6_how
set_option maxRecDepth 20000 in
theorem ggL_law_X7_how : GoodIn wsL_lawB wsX7_how := goodIn_r _ [502, 113, 444, 445, 446, 5, 447, 94, 415, 416, 417, 418, 312, 313, 314, 503, 504, 505, 506, 448, 449, 450, 451, 507, 508, 509, 510, 334, 335, 336, 789, 790, 791, 792, 793, 794, 795, 796, 797, 798, 799, 800, 801, 802, 803, 804, 805] (by decide +kernel) (by decide +kernel)
set_option maxRecDepth 20000 in
theorem gL_law_X7_how : GoodIn wsL_lawB (wsV RL 64 RX7 yX7_how wsX7_how) := goodIn_app (goodIn_of _ (by decide +kernel)) ggL_law_X7_how
set_option maxRecDepth 20000 in
theorem ggL_law_X6_order : GoodIn wsL_lawB wsX6_order := goodIn_r _ [514, 515, 516, 2, 517, 518, 519, 520, 521, 522, 523, 524] (by decide +kernel) (by decide +kernel)
set_option maxRecDepth 20000 in
theorem gL_law_X6_order : GoodIn wsL_lawB (wsV RL 65 RX6 yX6_order wsX6_order) := goodIn_app (goodIn_of _ (by decide +kernel)) ggL_law_X6_order
set_option maxRecDepth 20000 in
theorem ggL_law_X7_order : GoodIn wsL_lawB wsX7_order := goodIn_r _ [528, 113, 529, 530, 5, 531, 312, 313, 314, 532, 533, 534, 789, 790, 791, 792, 793, 794, 795, 796, 797, 798, 799, 800, 801, 802, 803, 804, 805] (by decide +kernel) (by decide +kernel)
set_option maxRecDepth 20000 in
theorem gL_law_X7_order : GoodIn wsL_lawB (wsV RL 68 RX7 yX7_order wsX7_order) := goodIn_app (goodIn_of _ (by decide +kernel)) ggL_law_X7_order
set_option maxRecDepth 20000 in
theorem ggL_law_X6_effect : GoodIn wsL_lawB wsX6_effect := goodIn_r _ [538, 20, 459, 29, 232, 19, 233, 234, 51, 431, 432, 433, 50, 515, 516, 2, 517, 539, 28, 540, 541, 78, 359, 360, 361, 362, 249, 250, 251, 52, 231, 363, 364, 365, 366, 44, 542, 543, 544, 545, 76, 546, 138, 139, 140, 547, 548, 549, 550, 469, 470, 471, 472, 437, 438, 439, 45, 473, 474, 551, 496, 497, 498, 552, 553, 554, 555, 556, 557, 558, 559, 560, 368, 369, 370, 371, 372, 373, 561, 562, 563, 564, 565, 566, 521, 522, 523, 524, 567, 568, 569, 570, 783, 784, 785, 786, 787, 788, 808, 809, 810, 811, 812, 819, 820, 821] (by decide +kernel) (by decide +kernel)
set_option maxRecDepth 20000 in
theorem gL_law_X6_effect : GoodIn wsL_lawB (wsV RL 69 RX6 yX6_effect wsX6_effect) := goodIn_app (goodIn_of _ (by decide +kernel)) ggL_law_X6_effect
set_option maxRecDepth 20000 in
theorem ggL_law_X7_effect : GoodIn wsL_lawB wsX7_effect := goodIn_r _ [574, 113, 479, 415, 416, 417, 5, 418, 94, 312, 313, 314, 503, 504, 505, 506, 448, 449, 450, 451, 529, 530, 531, 575, 576, 577, 578, 382, 383, 384, 385, 386, 387, 388, 389, 390, 391, 392, 393, 579, 580, 581, 582, 507, 508, 509, 510, 334, 335, 336, 484, 485, 486, 487, 488, 489, 490, 491, 583, 584, 585, 586, 587, 588, 589, 590, 591, 592, 532, 533, 534, 789, 790, 791, 792, 793, 794, 795, 796, 797, 798, 799, 800, 801, 802, 803, 804, 805] (by decide +kernel) (by decide +kernel)
set_option maxRecDepth 20000 in
theorem gL_law_X7_effect : GoodIn wsL_lawB (wsV RL 72 RX7 yX7_effect wsX7_effect) := goodIn_app (goodIn_of _ (by decide +kernel)) ggL_law_X7_effect
set_option maxRecDepth 20000 in
theorem ggL_law_X6_mix : GoodIn wsL_lawB wsX6_mix := goodIn_r _ [596, 20, 459, 29, 232, 19, 233, 234, 51, 431, 432, 433, 50, 597, 28, 598, 599, 78, 600, 601, 602, 603, 359, 360, 361, 362, 249, 250, 251, 52, 231, 363, 364, 365, 366, 44, 551, 496, 497, 498, 437, 438, 439, 45, 783, 784, 785, 786, 787, 788, 808, 809, 810, 811, 812, 819, 820, 821] (by decide +kernel) (by decide +kernel)
set_option maxRecDepth 20000 in
theorem gL_law_X6_mix : GoodIn wsL_lawB (wsV RL 73 RX6 yX6_mix wsX6_mix) := goodIn_app (goodIn_of _ (by decide +kernel)) ggL_law_X6_mix
set_option maxRecDepth 20000 in
theorem ggL_law_X7_mix : GoodIn wsL_lawB wsX7_mix := goodIn_r _ [607, 113, 479, 415, 416, 417, 5, 418, 94, 312, 313, 314, 503, 504, 505, 506, 448, 449, 450, 451, 390, 391, 392, 393, 608, 609, 610, 611, 382, 383, 384, 385, 386, 387, 388, 389, 507, 508, 509, 510, 334, 335, 336, 789, 790, 791, 792, 793, 794, 795, 796, 797, 798, 799, 800, 801, 802, 803, 804, 805] (by decide +kernel) (by decide +kernel)
set_option maxRecDepth 20000 in
theorem gL_law_X7_mix : GoodIn wsL_lawB (wsV RL 76 RX7 yX7_mix wsX7_mix) := goodIn_app (goodIn_of _ (by decide +kernel)) ggL_law_X7_mix
set_option maxRecDepth 20000 in
theorem ggL_law_X6_flatters : GoodIn wsL_lawB wsX6_flatters := goodIn_r _ [615, 20, 29, 232, 19, 233, 234, 51, 431, 432, 433, 50, 434, 435, 2, 436, 616, 28, 617, 618, 78, 76, 359, 360, 361, 362, 249, 250, 251, 52, 231, 363, 364, 365, 366, 44, 546, 138, 139, 140, 551, 496, 497, 498, 437, 438, 439, 45, 547, 548, 549, 550, 469, 470, 471, 472, 473, 474, 619, 620, 621, 622, 565, 566, 521, 522, 523, 524, 561, 562, 563, 564, 783, 784, 785, 786, 787, 788, 808, 809, 810, 811, 812, 819, 820, 821] (by decide +kernel) (by decide +kernel)
set_option maxRecDepth 20000 in
theorem gL_law_X6_flatters : GoodIn wsL_lawB (wsV RL 77 RX6 yX6_flatters wsX6_flatters) := goodIn_app (goodIn_of _ (by decide +kernel)) ggL_law_X6_flatters
set_option maxRecDepth 20000 in
theorem ggL_law_X7_flatters : GoodIn wsL_lawB wsX7_flatters := goodIn_r _ [626, 113, 415, 416, 417, 5, 418, 94, 312, 313, 314, 503, 504, 505, 506, 448, 449, 450, 451, 452, 453, 454, 575, 576, 577, 578, 382, 383, 384, 385, 386, 387, 388, 389, 390, 391, 392, 393, 579, 580, 581, 582, 507, 508, 509, 510, 334, 335, 336, 484, 485, 486, 487, 488, 489, 490, 491, 583, 584, 585, 586, 587, 588, 589, 590, 591, 592, 532, 533, 534, 789, 790, 791, 792, 793, 794, 795, 796, 797, 798, 799, 800, 801, 802, 803, 804, 805] (by decide +kernel) (by decide +kernel)
set_option maxRecDepth 20000 in
theorem gL_law_X7_flatters : GoodIn wsL_lawB (wsV RL 81 RX7 yX7_flatters wsX7_flatters) := goodIn_app (goodIn_of _ (by decide +kernel)) ggL_law_X7_flatters
set_option maxRecDepth 20000 in
theorem ggL_law_X6_mover : GoodIn wsL_lawB wsX6_mover := goodIn_r _ [630, 20, 29, 431, 19, 432, 433, 50, 631, 28, 632, 633, 78, 77, 634, 635, 636, 637, 249, 250, 251, 52, 231, 232, 233, 234, 51, 465, 466, 467, 468, 469, 470, 471, 472, 437, 438, 439, 45, 473, 2, 474, 638, 639, 640, 641, 783, 784, 785, 786, 787, 788, 808, 809, 810, 811, 812, 819, 820, 821] (by decide +kernel) (by decide +kernel)
set_option maxRecDepth 20000 in
theorem gL_law_X6_mover : GoodIn wsL_lawB (wsV RL 82 RX6 yX6_mover wsX6_mover) := goodIn_app (goodIn_of _ (by decide +kernel)) ggL_law_X6_mover
set_option maxRecDepth 20000 in
theorem ggL_law_X7_mover : GoodIn wsL_lawB wsX7_mover := goodIn_r _ [645, 113, 94, 503, 504, 505, 5, 506, 448, 449, 450, 451, 312, 313, 314, 444, 445, 446, 447, 415, 416, 417, 418, 646, 647, 648, 649, 650, 651, 652, 653, 480, 481, 482, 483, 382, 383, 384, 385, 386, 387, 388, 389, 390, 391, 392, 393, 484, 485, 486, 487, 488, 489, 490, 491, 334, 335, 336, 789, 790, 791, 792, 793, 794, 795, 796, 797, 798, 799, 800, 801, 802, 803, 804, 805] (by decide +kernel) (by decide +kernel)
set_option maxRecDepth 20000 in
theorem gL_law_X7_mover : GoodIn wsL_lawB (wsV RL 85 RX7 yX7_mover wsX7_mover) := goodIn_app (goodIn_of _ (by decide +kernel)) ggL_law_X7_mover
set_option maxRecDepth 20000 in
theorem ggL_law_X6_branch : GoodIn wsL_lawB wsX6_branch := goodIn_r _ [657, 20, 29, 431, 19, 432, 433, 50, 658, 28, 659, 660, 78, 634, 635, 636, 637, 228, 229, 230, 52, 231, 232, 233, 234, 51, 460, 461, 462, 463, 359, 360, 361, 362, 249, 250, 251, 363, 364, 365, 366, 44, 464, 465, 466, 467, 468, 469, 470, 471, 472, 437, 438, 439, 45, 473, 2, 474, 783, 784, 785, 786, 787, 788, 808, 809, 810, 811, 812, 819, 820, 821] (by decide +kernel) (by decide +kernel)
set_option maxRecDepth 20000 in
theorem gL_law_X6_branch : GoodIn wsL_lawB (wsV RL 86 RX6 yX6_branch wsX6_branch) := goodIn_app (goodIn_of _ (by decide +kernel)) ggL_law_X6_branch
set_option maxRecDepth 20000 in
theorem ggL_law_X7_branch : GoodIn wsL_lawB wsX7_branch := goodIn_r _ [664, 113, 94, 503, 504, 505, 5, 506, 448, 449, 450, 451, 312, 313, 314, 665, 666, 667, 668, 415, 416, 417, 418, 646, 647, 648, 649, 650, 651, 652, 653, 480, 481, 482, 483, 382, 383, 384, 385, 386, 387, 388, 389, 390, 391, 392, 393, 484, 485, 486, 487, 488, 489, 490, 491, 334, 335, 336, 789, 790, 791, 792, 793, 794, 795, 796, 797, 798, 799, 800, 801, 802, 803, 804, 805] (by decide +kernel) (by decide +kernel)
set_option maxRecDepth 20000 in
theorem gL_law_X7_branch : GoodIn wsL_lawB (wsV RL 89 RX7 yX7_branch wsX7_branch) := goodIn_app (goodIn_of _ (by decide +kernel)) ggL_law_X7_branch
set_option maxRecDepth 20000 in
theorem ggL_law_X6_would : GoodIn wsL_lawB wsX6_would := goodIn_r _ [672, 20, 459, 249, 19, 250, 251, 52, 231, 232, 233, 234, 51, 431, 432, 433, 50, 673, 674, 2, 675, 676, 677, 434, 435, 436, 678, 679, 680, 472, 437, 438, 439, 45, 464, 465, 466, 467, 468, 469, 470, 471, 473, 474, 241, 242, 243, 244, 783, 784, 785, 786, 787, 788, 808, 809, 810, 811, 812] (by decide +kernel) (by decide +kernel)
set_option maxRecDepth 20000 in
theorem gL_law_X6_would : GoodIn wsL_lawB (wsV RL 90 RX6 yX6_would wsX6_would) := goodIn_app (goodIn_of _ (by decide +kernel)) ggL_law_X6_would
set_option maxRecDepth 20000 in
theorem ggL_law_X7_would : GoodIn wsL_lawB wsX7_would := goodIn_r _ [684, 113, 479, 685, 686, 687, 5, 688, 444, 445, 446, 447, 94, 415, 416, 417, 418, 312, 313, 314, 448, 449, 450, 451, 452, 453, 454, 341, 342, 343, 344, 345, 346, 689, 690, 691, 692, 334, 335, 336, 480, 481, 482, 483, 382, 383, 384, 385, 386, 387, 388, 389, 390, 391, 392, 393, 484, 485, 486, 487, 488, 489, 490, 491, 789, 790, 791, 792, 793, 794, 795, 796, 797, 798, 799, 800, 801, 802, 803, 804, 805] (by decide +kernel) (by decide +kernel)
set_option maxRecDepth 20000 in
theorem gL_law_X7_would : GoodIn wsL_lawB (wsV RL 93 RX7 yX7_would wsX7_would) := goodIn_app (goodIn_of _ (by decide +kernel)) ggL_law_X7_would
set_option maxRecDepth 20000 in
theorem ggL_law_X6_needs : GoodIn wsL_lawB wsX6_needs := goodIn_r _ [696, 20, 697, 698, 249, 19, 250, 251, 52, 231, 232, 233, 234, 51, 431, 432, 433, 50, 699, 700, 701, 702, 460, 461, 462, 463, 359, 360, 361, 362, 363, 364, 365, 366, 44, 464, 465, 466, 467, 468, 469, 470, 471, 472, 437, 438, 439, 45, 473, 2, 474, 703, 704, 705, 706, 783, 784, 785, 786, 787, 788, 808, 809, 810, 811, 812] (by decide +kernel) (by decide +kernel)
set_option maxRecDepth 20000 in
theorem gL_law_X6_needs : GoodIn wsL_lawB (wsV RL 94 RX6 yX6_needs wsX6_needs) := goodIn_app (goodIn_of _ (by decide +kernel)) ggL_law_X6_needs
set_option maxRecDepth 20000 in
theorem ggL_law_X7_needs : GoodIn wsL_lawB wsX7_needs := goodIn_r _ [710, 113, 711, 712, 444, 445, 446, 5, 447, 94, 415, 416, 417, 418, 312, 313, 314, 448, 449, 450, 451, 689, 690, 691, 692, 334, 335, 336, 480, 481, 482, 483, 382, 383, 384, 385, 386, 387, 388, 389, 390, 391, 392, 393, 484, 485, 486, 487, 488, 489, 490, 491, 789, 790, 791, 792, 793, 794, 795, 796, 797, 798, 799, 800, 801, 802, 803, 804, 805] (by decide +kernel) (by decide +kernel)
set_option maxRecDepth 20000 in
theorem gL_law_X7_needs : GoodIn wsL_lawB (wsV RL 97 RX7 yX7_needs wsX7_needs) := goodIn_app (goodIn_of _ (by decide +kernel)) ggL_law_X7_needs
set_option maxRecDepth 20000 in
theorem ggL_law_X6_set : GoodIn wsL_lawB wsX6_set := goodIn_r _ [716, 20, 33, 249, 19, 250, 251, 52, 231, 232, 233, 234, 51, 431, 432, 433, 50, 673, 674, 2, 675, 676, 677, 434, 435, 436, 437, 438, 439, 45, 717, 32, 718, 719, 88, 85, 86, 720, 256, 257, 258, 721, 722, 723, 724, 87, 725, 726, 636, 727, 82, 83, 242, 243, 244, 783, 784, 785, 786, 787, 788, 808, 809, 810, 811, 812, 822, 823, 824, 825, 826, 827, 828] (by decide +kernel) (by decide +kernel)
set_option maxRecDepth 20000 in
theorem gL_law_X6_set : GoodIn wsL_lawB (wsV RL 98 RX6 yX6_set wsX6_set) := goodIn_app (goodIn_of _ (by decide +kernel)) ggL_law_X6_set
set_option maxRecDepth 20000 in
theorem ggL_law_X7_set : GoodIn wsL_lawB wsX7_set := goodIn_r _ [731, 113, 94, 685, 686, 687, 5, 688, 444, 445, 446, 447, 415, 416, 417, 418, 312, 313, 314, 448, 449, 450, 451, 452, 453, 454, 341, 342, 343, 344, 345, 346, 732, 733, 734, 735, 271, 96, 334, 335, 336, 789, 790, 791, 792, 793, 794, 795, 796, 797, 798, 799, 800, 801, 802, 803, 804, 805] (by decide +kernel) (by decide +kernel)
set_option maxRecDepth 20000 in
theorem gL_law_X7_set : GoodIn wsL_lawB (wsV RL 101 RX7 yX7_set wsX7_set) := goodIn_app (goodIn_of _ (by decide +kernel)) ggL_law_X7_set
set_option maxRecDepth 20000 in
theorem ggL_law_X6_copy : GoodIn wsL_lawB wsX6_copy := goodIn_r _ [739, 20, 33, 431, 19, 432, 433, 50, 717, 32, 718, 719, 88, 85, 86, 720, 256, 257, 258, 721, 722, 723, 724, 87, 725, 726, 636, 727, 82, 83, 740, 741, 742, 51, 362, 249, 250, 251, 52, 231, 232, 233, 234, 472, 437, 438, 439, 45, 241, 242, 243, 244, 783, 784, 785, 786, 787, 788, 808, 809, 810, 811, 812, 822, 823, 824, 825, 826, 827, 828] (by decide +kernel) (by decide +kernel)
set_option maxRecDepth 20000 in
theorem gL_law_X6_copy : GoodIn wsL_lawB (wsV RL 102 RX6 yX6_copy wsX6_copy) := goodIn_app (goodIn_of _ (by decide +kernel)) ggL_law_X6_copy
set_option maxRecDepth 20000 in
theorem ggL_law_X7_copy : GoodIn wsL_lawB wsX7_copy := goodIn_r _ [746, 113, 94, 503, 504, 505, 5, 506, 448, 449, 450, 451, 312, 313, 314, 732, 733, 734, 735, 271, 96, 444, 445, 446, 447, 415, 416, 417, 418, 334, 335, 336, 789, 790, 791, 792, 793, 794, 795, 796, 797, 798, 799, 800, 801, 802, 803, 804, 805] (by decide +kernel) (by decide +kernel)
set_option maxRecDepth 20000 in
theorem gL_law_X7_copy : GoodIn wsL_lawB (wsV RL 105 RX7 yX7_copy wsX7_copy) := goodIn_app (goodIn_of _ (by decide +kernel)) ggL_law_X7_copy
set_option maxRecDepth 20000 in
theorem ggL_law_X6_move : GoodIn wsL_lawB wsX6_move := goodIn_r _ [750, 20, 33, 232, 19, 233, 234, 51, 228, 229, 230, 52, 231, 364, 365, 366, 44, 751, 32, 752, 753, 84, 86, 88, 721, 722, 723, 724, 87, 725, 726, 636, 727, 82, 83, 783, 784, 785, 786, 787, 788, 808, 809, 810, 811, 812, 822, 823, 824, 825, 826, 827, 828] (by decide +kernel) (by decide +kernel)
set_option maxRecDepth 20000 in
theorem gL_law_X6_move : GoodIn wsL_lawB (wsV RL 106 RX6 yX6_move wsX6_move) := goodIn_app (goodIn_of _ (by decide +kernel)) ggL_law_X6_move
set_option maxRecDepth 20000 in
theorem ggL_law_X7_move : GoodIn wsL_lawB wsX7_move := goodIn_r _ [757, 113, 94, 415, 416, 417, 5, 418, 312, 313, 314, 665, 666, 667, 668, 390, 391, 392, 393, 386, 387, 388, 389, 732, 733, 734, 735, 271, 96, 789, 790, 791, 792, 793, 794, 795, 796, 797, 798, 799, 800, 801, 802, 803, 804, 805] (by decide +kernel) (by decide +kernel)
set_option maxRecDepth 20000 in
theorem gL_law_X7_move : GoodIn wsL_lawB (wsV RL 110 RX7 yX7_move wsX7_move) := goodIn_app (goodIn_of _ (by decide +kernel)) ggL_law_X7_move
set_option maxRecDepth 20000 in
theorem ggL_law_X6_grow : GoodIn wsL_lawB wsX6_grow := goodIn_r _ [761, 20, 33, 228, 19, 229, 230, 52, 231, 232, 233, 234, 51, 762, 32, 763, 764, 721, 722, 723, 724, 86, 87, 725, 726, 636, 727, 82, 83, 238, 239, 240, 44, 241, 242, 243, 244, 45, 783, 784, 785, 786, 787, 788, 808, 809, 810, 811, 812, 822, 823, 824, 825, 826, 827, 828] (by decide +kernel) (by decide +kernel)
set_option maxRecDepth 20000 in
theorem gL_law_X6_grow : GoodIn wsL_lawB (wsV RL 111 RX6 yX6_grow wsX6_grow) := goodIn_app (goodIn_of _ (by decide +kernel)) ggL_law_X6_grow
set_option maxRecDepth 20000 in
theorem ggL_law_X7_grow : GoodIn wsL_lawB wsX7_grow := goodIn_r _ [768, 113, 94, 665, 666, 667, 5, 668, 415, 416, 417, 418, 312, 313, 314, 732, 733, 734, 735, 271, 96, 331, 332, 333, 334, 335, 336, 789, 790, 791, 792, 793, 794, 795, 796, 797, 798, 799, 800, 801, 802, 803, 804, 805] (by decide +kernel) (by decide +kernel)
set_option maxRecDepth 20000 in
theorem gL_law_X7_grow : GoodIn wsL_lawB (wsV RL 114 RX7 yX7_grow wsX7_grow) := goodIn_app (goodIn_of _ (by decide +kernel)) ggL_law_X7_grow
set_option maxRecDepth 20000 in
theorem ggL_law_X6_undo : GoodIn wsL_lawB wsX6_undo := goodIn_r _ [772, 33, 773, 32, 774, 775, 83, 86, 82, 85, 88, 720, 256, 257, 258, 84, 87, 776, 19, 777, 778, 51, 783, 784, 785, 786, 787, 788, 822, 823, 824, 825, 826, 827, 828, 808, 809, 810, 811, 812] (by decide +kernel) (by decide +kernel)
set_option maxRecDepth 20000 in
theorem gL_law_X6_undo : GoodIn wsL_lawB (wsV RL 115 RX6 yX6_undo wsX6_undo) := goodIn_app (goodIn_of _ (by decide +kernel)) ggL_law_X6_undo
set_option maxRecDepth 20000 in
theorem ggL_law_X7_undo : GoodIn wsL_lawB wsX7_undo := goodIn_r _ [782, 113, 271, 94, 96, 789, 790, 791, 792, 793, 794, 795, 796, 797, 798, 799, 800, 801, 802, 803, 804, 805] (by decide +kernel) (by decide +kernel)
set_option maxRecDepth 20000 in
theorem gL_law_X7_undo : GoodIn wsL_lawB (wsV RL 118 RX7 yX7_undo wsX7_undo) := goodIn_app (goodIn_of _ (by decide +kernel)) ggL_law_X7_undo
