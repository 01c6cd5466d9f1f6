/-! the law: its callees words -/
set_option maxRecDepth 20000 in
theorem ggL_law_X5_init : GoodIn wsL_law wsX5_init := goodIn_r _ [8, 9, 10, 11, 12, 13, 14, 15, 16, 17, 18, 19, 20, 21, 22, 23, 24, 25, 26, 27, 28, 29, 30, 31, 32, 33, 34, 35, 36, 37, 38, 39, 40, 41, 42, 43, 44, 45, 46, 47, 48, 49, 50, 51, 52, 53, 54, 55, 56, 57, 58, 59, 60, 61, 62, 63, 64, 65, 66, 67, 68, 69, 70, 71, 72, 73, 74, 832, 833, 834, 835, 836, 837, 838, 839, 840, 841, 842, 843, 844, 845, 809, 810, 811, 812, 813, 814, 815, 816, 846, 847, 848, 849, 850, 851, 852, 853, 854] (by decide +kernel) (by decide +kernel)
set_option maxRecDepth 20000 in
theorem gL_law_X5_init : GoodIn wsL_law (wsX5_init) := ggL_law_X5_init
set_option maxRecDepth 20000 in
theorem ggL_law_X6_init : GoodIn wsL_law wsX6_init := goodIn_r _ [77, 78, 10, 11, 32, 79, 18, 80, 81, 82, 83, 84, 85, 86, 87, 5, 88, 817, 818, 819, 820, 821, 822, 823, 824, 825, 826, 827, 828, 829, 830, 831] (by decide +kernel) (by decide +kernel)
set_option maxRecDepth 20000 in
theorem gL_law_X6_init : GoodIn wsL_law (wsX6_init) := ggL_law_X6_init
set_option maxRecDepth 20000 in
theorem ggL_law_X5_house : GoodIn wsL_law wsX5_house := goodIn_r _ [92, 15, 93, 94, 95, 2, 96, 97, 98, 99, 100, 33, 101, 48, 49, 14, 50, 51, 52, 53, 54, 55, 56, 57, 58, 59, 40, 41, 809, 810, 811, 812, 813, 814, 815, 816, 832, 833, 834, 835, 836, 837, 838, 839, 840, 841, 842, 843, 844, 845] (by decide +kernel) (by decide +kernel)
set_option maxRecDepth 20000 in
theorem gL_law_X5_house : GoodIn wsL_law (wsV RL 13 RX5 yX5_house wsX5_house) := goodIn_app (goodIn_of _ (by decide +kernel)) ggL_law_X5_house
set_option maxRecDepth 20000 in
theorem ggL_law_X6_house : GoodIn wsL_law wsX6_house := goodIn_r _ [105, 106, 79, 107, 108, 5, 109, 110, 111, 112, 113, 82, 85, 86, 87, 88, 817, 818, 819, 820, 821, 822, 823, 824, 825, 826, 827, 828, 829, 830, 831] (by decide +kernel) (by decide +kernel)
set_option maxRecDepth 20000 in
theorem gL_law_X6_house : GoodIn wsL_law (wsV RL 17 RX6 yX6_house wsX6_house) := goodIn_app (goodIn_of _ (by decide +kernel)) ggL_law_X6_house
set_option maxRecDepth 20000 in
theorem ggL_law_X5_lift : GoodIn wsL_law wsX5_lift := goodIn_r _ [117, 15, 93, 94, 95, 2, 96, 97, 98, 99, 100, 33, 118, 119, 120, 14, 121, 52, 38, 39, 55, 809, 810, 811, 812, 813, 814, 815, 816, 832, 833, 834, 835, 836, 837, 838, 839, 840, 841, 842, 843, 844, 845] (by decide +kernel) (by decide +kernel)
set_option maxRecDepth 20000 in
theorem gL_law_X5_lift : GoodIn wsL_law (wsV RL 18 RX5 yX5_lift wsX5_lift) := goodIn_app (goodIn_of _ (by decide +kernel)) ggL_law_X5_lift
set_option maxRecDepth 20000 in
theorem ggL_law_X6_lift : GoodIn wsL_law wsX6_lift := goodIn_r _ [125, 126, 127, 79, 107, 108, 5, 109, 110, 111, 112, 113, 82, 128, 129, 130, 131, 132, 133, 134, 135, 817, 818, 819, 820, 821, 822, 823, 824, 825, 826, 827, 828, 829, 830, 831] (by decide +kernel) (by decide +kernel)
set_option maxRecDepth 20000 in
theorem gL_law_X6_lift : GoodIn wsL_law (wsV RL 22 RX6 yX6_lift wsX6_lift) := goodIn_app (goodIn_of _ (by decide +kernel)) ggL_law_X6_lift
set_option maxRecDepth 20000 in
theorem ggL_law_X5_line : GoodIn wsL_law wsX5_line := goodIn_r _ [139, 15, 140, 141, 94, 95, 2, 96, 97, 98, 99, 100, 33, 142, 57, 58, 14, 59, 40, 41, 809, 810, 811, 812, 813, 814, 815, 816, 832, 833, 834, 835, 836, 837, 838, 839, 840, 841, 842, 843, 844, 845] (by decide +kernel) (by decide +kernel)
set_option maxRecDepth 20000 in
theorem gL_law_X5_line : GoodIn wsL_law (wsV RL 23 RX5 yX5_line wsX5_line) := goodIn_app (goodIn_of _ (by decide +kernel)) ggL_law_X5_line
set_option maxRecDepth 20000 in
theorem ggL_law_X6_line : GoodIn wsL_law wsX6_line := goodIn_r _ [146, 147, 148, 79, 107, 108, 5, 109, 110, 111, 112, 113, 82, 817, 818, 819, 820, 821, 822, 823, 824, 825, 826, 827, 828, 829, 830, 831] (by decide +kernel) (by decide +kernel)
set_option maxRecDepth 20000 in
theorem gL_law_X6_line : GoodIn wsL_law (wsV RL 27 RX6 yX6_line wsX6_line) := goodIn_app (goodIn_of _ (by decide +kernel)) ggL_law_X6_line
set_option maxRecDepth 20000 in
theorem ggL_law_X5_type : GoodIn wsL_law wsX5_type := goodIn_r _ [152, 27, 153, 94, 95, 2, 96, 97, 98, 99, 100, 33, 154, 155, 156, 26, 157, 158, 69, 809, 810, 811, 812, 813, 814, 815, 816, 847, 848, 849, 850, 851, 852] (by decide +kernel) (by decide +kernel)
set_option maxRecDepth 20000 in
theorem gL_law_X5_type : GoodIn wsL_law (wsV RL 28 RX5 yX5_type wsX5_type) := goodIn_app (goodIn_of _ (by decide +kernel)) ggL_law_X5_type
set_option maxRecDepth 20000 in
theorem ggL_law_X6_type : GoodIn wsL_law wsX6_type := goodIn_r _ [162, 163, 164, 81, 107, 108, 5, 109, 110, 111, 112, 113, 82, 128, 129, 130, 131, 817, 818, 819, 820, 821, 822, 823, 824, 825, 826, 827, 828, 829, 830, 831] (by decide +kernel) (by decide +kernel)
set_option maxRecDepth 20000 in
theorem gL_law_X6_type : GoodIn wsL_law (wsV RL 31 RX6 yX6_type wsX6_type) := goodIn_app (goodIn_of _ (by decide +kernel)) ggL_law_X6_type
set_option maxRecDepth 20000 in
theorem ggL_law_X5_clear : GoodIn wsL_law wsX5_clear := goodIn_r _ [168, 27, 153, 809, 810, 811, 812, 813, 814, 815, 816, 847, 848, 849, 850, 851, 852] (by decide +kernel) (by decide +kernel)
set_option maxRecDepth 20000 in
theorem gL_law_X5_clear : GoodIn wsL_law (wsV RL 32 RX5 yX5_clear wsX5_clear) := goodIn_app (goodIn_of _ (by decide +kernel)) ggL_law_X5_clear
set_option maxRecDepth 20000 in
theorem ggL_law_X6_clear : GoodIn wsL_law wsX6_clear := goodIn_r _ [172, 164, 817, 818, 819, 820, 821, 822, 823, 824, 825, 826, 827, 828, 829, 830, 831] (by decide +kernel) (by decide +kernel)
set_option maxRecDepth 20000 in
theorem gL_law_X6_clear : GoodIn wsL_law (wsV RL 36 RX6 yX6_clear wsX6_clear) := goodIn_app (goodIn_of _ (by decide +kernel)) ggL_law_X6_clear
set_option maxRecDepth 20000 in
theorem ggL_law_X5_read : GoodIn wsL_law wsX5_read := goodIn_r _ [176, 27, 16, 15, 177, 178, 179, 26, 180, 181, 182, 183, 184, 185, 186, 187, 158, 69, 188, 189, 190, 191, 192, 193, 194, 195, 196, 197, 198, 199, 200, 201, 202, 203, 204, 205, 206, 207, 208, 209, 210, 211, 212, 213, 214, 215, 216, 217, 218, 219, 220, 221, 222, 223, 224, 225, 226, 227, 228, 229, 230, 231, 232, 233, 234, 235, 236, 237, 238, 239, 240, 241, 242, 243, 244, 245, 246, 247, 248, 249, 250, 251, 252, 253, 254, 255, 256, 257, 258, 259, 260, 261, 262, 263, 264, 265, 266, 267, 95, 2, 96, 268, 48, 49, 14, 50, 51, 52, 53, 54, 55, 56, 57, 58, 59, 40, 41, 269, 270, 271, 272, 273, 274, 275, 276, 277, 278, 279, 280, 281, 282, 119, 120, 121, 38, 39, 283, 284, 285, 286, 287, 288, 289, 290, 291, 292, 293, 294, 295, 42, 43, 44, 45, 46, 809, 810, 811, 812, 813, 814, 815, 816, 847, 848, 849, 850, 851, 852, 832, 833, 834, 835, 836, 837, 838, 839, 840, 841, 842, 843, 844, 845] (by decide +kernel) (by decide +kernel)
set_option maxRecDepth 20000 in
theorem gL_law_X5_read : GoodIn wsL_law (wsV RL 37 RX5 yX5_read wsX5_read) := goodIn_app (goodIn_of _ (by decide +kernel)) ggL_law_X5_read
set_option maxRecDepth 20000 in
theorem ggL_law_X6_read : GoodIn wsL_law wsX6_read := goodIn_r _ [299, 300, 301, 164, 85, 86, 87, 5, 88, 79, 302, 303, 304, 305, 306, 307, 308, 309, 310, 311, 312, 313, 314, 315, 81, 107, 108, 109, 316, 317, 318, 319, 320, 321, 322, 323, 324, 325, 326, 327, 328, 329, 330, 331, 84, 332, 333, 334, 335, 336, 337, 338, 339, 132, 133, 134, 135, 340, 341, 342, 343, 344, 345, 346, 347, 817, 818, 819, 820, 821, 822, 823, 824, 825, 826, 827, 828, 829, 830, 831] (by decide +kernel) (by decide +kernel)
set_option maxRecDepth 20000 in
theorem gL_law_X6_read : GoodIn wsL_law (wsV RL 40 RX6 yX6_read wsX6_read) := goodIn_app (goodIn_of _ (by decide +kernel)) ggL_law_X6_read
set_option maxRecDepth 20000 in
theorem ggL_law_X5_passes : GoodIn wsL_law wsX5_passes := goodIn_r _ [351, 15, 352, 353, 354, 355, 356, 94, 95, 2, 96, 97, 98, 99, 100, 33, 357, 358, 359, 14, 360, 55, 46, 292, 293, 294, 295, 53, 809, 810, 811, 812, 813, 814, 815, 816, 832, 833, 834, 835, 836, 837, 838, 839, 840, 841, 842, 843, 844, 845] (by decide +kernel) (by decide +kernel)
set_option maxRecDepth 20000 in
theorem gL_law_X5_passes : GoodIn wsL_law (wsV RL 41 RX5 yX5_passes wsX5_passes) := goodIn_app (goodIn_of _ (by decide +kernel)) ggL_law_X5_passes
set_option maxRecDepth 20000 in
theorem ggL_law_X6_passes : GoodIn wsL_law wsX6_passes := goodIn_r _ [364, 127, 79, 107, 108, 5, 109, 110, 111, 112, 113, 82, 817, 818, 819, 820, 821, 822, 823, 824, 825, 826, 827, 828, 829, 830, 831] (by decide +kernel) (by decide +kernel)
set_option maxRecDepth 20000 in
theorem gL_law_X6_passes : GoodIn wsL_law (wsV RL 44 RX6 yX6_passes wsX6_passes) := goodIn_app (goodIn_of _ (by decide +kernel)) ggL_law_X6_passes
set_option maxRecDepth 20000 in
theorem ggL_law_X5_undo : GoodIn wsL_law wsX5_undo := goodIn_r _ [368, 15, 369, 352, 97, 98, 99, 2, 100, 33, 94, 95, 96, 370, 371, 372, 14, 373, 55, 46, 53, 809, 810, 811, 812, 813, 814, 815, 816, 832, 833, 834, 835, 836, 837, 838, 839, 840, 841, 842, 843, 844, 845] (by decide +kernel) (by decide +kernel)
set_option maxRecDepth 20000 in
theorem gL_law_X5_undo : GoodIn wsL_law (wsV RL 45 RX5 yX5_undo wsX5_undo) := goodIn_app (goodIn_of _ (by decide +kernel)) ggL_law_X5_undo
set_option maxRecDepth 20000 in
theorem ggL_law_X6_undo : GoodIn wsL_law wsX6_undo := goodIn_r _ [377, 79, 378, 379, 380, 5, 381, 82, 817, 818, 819, 820, 821, 822, 823, 824, 825, 826, 827, 828, 829, 830, 831] (by decide +kernel) (by decide +kernel)
set_option maxRecDepth 20000 in
theorem gL_law_X6_undo : GoodIn wsL_law (wsV RL 48 RX6 yX6_undo wsX6_undo) := goodIn_app (goodIn_of _ (by decide +kernel)) ggL_law_X6_undo
set_option maxRecDepth 20000 in
theorem ggL_law_X5_of : GoodIn wsL_law wsX5_of := goodIn_r _ [385, 15, 386, 23, 352, 387, 388, 389, 390, 391, 14, 392, 52, 94, 95, 2, 96, 97, 98, 99, 100, 33, 393, 394, 395, 22, 396, 64, 397, 398, 399, 400, 401, 402, 403, 404, 405, 355, 406, 407, 354, 356, 408, 409, 410, 411, 412, 413, 414, 415, 416, 417, 418, 809, 810, 811, 812, 813, 814, 815, 816, 832, 833, 834, 835, 836, 837, 838, 839, 840, 841, 842, 843, 844, 845, 846] (by decide +kernel) (by decide +kernel)
set_option maxRecDepth 20000 in
theorem gL_law_X5_of : GoodIn wsL_law (wsV RL 49 RX5 yX5_of wsX5_of) := goodIn_app (goodIn_of _ (by decide +kernel)) ggL_law_X5_of
set_option maxRecDepth 20000 in
theorem ggL_law_X6_of : GoodIn wsL_law wsX6_of := goodIn_r _ [422, 126, 79, 423, 424, 425, 5, 426, 107, 108, 109, 110, 111, 112, 113, 82, 427, 428, 429, 430, 431, 432, 433, 434, 435, 436, 437, 438, 439, 440, 441, 442, 443, 444, 445, 446, 447, 448, 449, 450, 451, 452, 453, 454, 817, 818, 819, 820, 821, 822, 823, 824, 825, 826, 827, 828, 829, 830, 831] (by decide +kernel) (by decide +kernel)
set_option maxRecDepth 20000 in
theorem gL_law_X6_of : GoodIn wsL_law (wsV RL 52 RX6 yX6_of wsX6_of) := goodIn_app (goodIn_of _ (by decide +kernel)) ggL_law_X6_of
set_option maxRecDepth 20000 in
theorem ggL_law_X5_where : GoodIn wsL_law wsX5_where := goodIn_r _ [458, 15, 23, 389, 390, 391, 14, 392, 52, 459, 460, 2, 461, 94, 95, 96, 97, 98, 99, 100, 33, 393, 394, 395, 22, 396, 64, 397, 398, 399, 400, 401, 402, 403, 404, 405, 355, 406, 407, 354, 356, 408, 409, 410, 809, 810, 811, 812, 813, 814, 815, 816, 832, 833, 834, 835, 836, 837, 838, 839, 840, 841, 842, 843, 844, 845, 846] (by decide +kernel) (by decide +kernel)
set_option maxRecDepth 20000 in
theorem gL_law_X5_where : GoodIn wsL_law (wsV RL 53 RX5 yX5_where wsX5_where) := goodIn_app (goodIn_of _ (by decide +kernel)) ggL_law_X5_where
set_option maxRecDepth 20000 in
theorem ggL_law_X6_where : GoodIn wsL_law wsX6_where := goodIn_r _ [465, 423, 424, 425, 5, 426, 79, 107, 108, 109, 466, 467, 468, 469, 427, 428, 429, 430, 431, 432, 433, 434, 435, 436, 437, 438, 439, 440, 441, 442, 443, 444, 445, 446, 110, 111, 112, 113, 82, 817, 818, 819, 820, 821, 822, 823, 824, 825, 826, 827, 828, 829, 830, 831] (by decide +kernel) (by decide +kernel)
set_option maxRecDepth 20000 in
theorem gL_law_X6_where : GoodIn wsL_law (wsV RL 56 RX6 yX6_where wsX6_where) := goodIn_app (goodIn_of _ (by decide +kernel)) ggL_law_X6_where
set_option maxRecDepth 20000 in
theorem ggL_law_X5_first : GoodIn wsL_law wsX5_first := goodIn_r _ [473, 15, 23, 474, 475, 476, 14, 477, 51, 459, 460, 2, 461, 94, 95, 96, 97, 98, 99, 100, 33, 478, 479, 480, 22, 481, 482, 483, 484, 485, 64, 486, 487, 488, 489, 490, 397, 398, 399, 491, 417, 402, 418, 400, 401, 403, 404, 405, 355, 406, 407, 354, 356, 408, 409, 410, 492, 413, 414, 415, 493, 494, 495, 496, 497, 498, 809, 810, 811, 812, 813, 814, 815, 816, 832, 833, 834, 835, 836, 837, 838, 839, 840, 841, 842, 843, 844, 845, 846] (by decide +kernel) (by decide +kernel)
set_option maxRecDepth 20000 in
theorem gL_law_X5_first : GoodIn wsL_law (wsV RL 57 RX5 yX5_first wsX5_first) := goodIn_app (goodIn_of _ (by decide +kernel)) ggL_law_X5_first
set_option maxRecDepth 20000 in
theorem ggL_law_X6_first : GoodIn wsL_law wsX6_first := goodIn_r _ [502, 503, 504, 505, 506, 507, 508, 5, 509, 79, 107, 108, 109, 466, 467, 468, 469, 110, 111, 112, 113, 82, 510, 511, 512, 513, 514, 515, 516, 517, 518, 519, 520, 427, 428, 429, 430, 431, 432, 433, 434, 435, 436, 437, 438, 439, 440, 441, 442, 443, 444, 445, 446, 451, 452, 453, 454, 447, 448, 449, 450, 817, 818, 819, 820, 821, 822, 823, 824, 825, 826, 827, 828, 829, 830, 831] (by decide +kernel) (by decide +kernel)
set_option maxRecDepth 20000 in
theorem gL_law_X6_first : GoodIn wsL_law (wsV RL 60 RX6 yX6_first wsX6_first) := goodIn_app (goodIn_of _ (by decide +kernel)) ggL_law_X6_first
set_option maxRecDepth 20000 in
theorem ggL_law_X5_often : GoodIn wsL_law wsX5_often := goodIn_r _ [524, 15, 474, 475, 476, 14, 477, 51, 94, 95, 2, 96, 97, 98, 99, 100, 33, 525, 526, 527, 528, 23, 494, 495, 496, 22, 497, 498, 479, 480, 481, 482, 483, 484, 485, 64, 486, 487, 488, 489, 490, 397, 398, 399, 491, 417, 402, 418, 400, 401, 403, 404, 405, 355, 406, 407, 354, 356, 408, 409, 410, 492, 413, 414, 415, 529, 530, 531, 532, 31, 533, 534, 535, 30, 536, 73, 74, 537, 538, 539, 540, 541, 542, 543, 478, 809, 810, 811, 812, 813, 814, 815, 816, 832, 833, 834, 835, 836, 837, 838, 839, 840, 841, 842, 843, 844, 845, 846, 853, 854] (by decide +kernel) (by decide +kernel)
set_option maxRecDepth 20000 in
theorem gL_law_X5_often : GoodIn wsL_law (wsV RL 61 RX5 yX5_often wsX5_often) := goodIn_app (goodIn_of _ (by decide +kernel)) ggL_law_X5_often
set_option maxRecDepth 20000 in
theorem ggL_law_X6_often : GoodIn wsL_law wsX6_often := goodIn_r _ [547, 504, 505, 506, 507, 508, 5, 509, 79, 107, 108, 109, 110, 111, 112, 113, 82, 510, 511, 512, 513, 514, 515, 516, 517, 518, 519, 520, 427, 428, 429, 430, 431, 432, 433, 434, 435, 436, 437, 438, 439, 440, 441, 442, 443, 444, 445, 446, 451, 452, 453, 454, 447, 448, 449, 450, 378, 379, 380, 381, 548, 549, 550, 551, 552, 83, 817, 818, 819, 820, 821, 822, 823, 824, 825, 826, 827, 828, 829, 830, 831] (by decide +kernel) (by decide +kernel)
set_option maxRecDepth 20000 in
theorem gL_law_X6_often : GoodIn wsL_law (wsV RL 64 RX6 yX6_often wsX6_often) := goodIn_app (goodIn_of _ (by decide +kernel)) ggL_law_X6_often
set_option maxRecDepth 20000 in
theorem ggL_law_X5_own : GoodIn wsL_law wsX5_own := goodIn_r _ [556, 15, 474, 475, 476, 14, 477, 51, 94, 95, 2, 96, 97, 98, 99, 100, 33, 540, 541, 542, 543, 23, 478, 479, 480, 22, 481, 482, 483, 484, 485, 64, 486, 487, 488, 489, 490, 397, 398, 399, 491, 417, 402, 418, 400, 401, 403, 404, 405, 355, 406, 407, 354, 356, 408, 409, 410, 492, 413, 414, 415, 529, 530, 531, 532, 31, 533, 534, 535, 30, 536, 73, 74, 537, 538, 539, 809, 810, 811, 812, 813, 814, 815, 816, 832, 833, 834, 835, 836, 837, 838, 839, 840, 841, 842, 843, 844, 845, 846, 853, 854] (by decide +kernel) (by decide +kernel)
set_option maxRecDepth 20000 in
theorem gL_law_X5_own : GoodIn wsL_law (wsV RL 65 RX5 yX5_own wsX5_own) := goodIn_app (goodIn_of _ (by decide +kernel)) ggL_law_X5_own
set_option maxRecDepth 20000 in
theorem ggL_law_X6_own : GoodIn wsL_law wsX6_own := goodIn_r _ [560, 505, 506, 507, 508, 5, 509, 79, 107, 108, 109, 110, 111, 112, 113, 82, 510, 511, 512, 513, 504, 514, 515, 516, 517, 518, 519, 520, 427, 428, 429, 430, 431, 432, 433, 434, 435, 436, 437, 438, 439, 440, 441, 442, 443, 444, 445, 446, 451, 452, 453, 454, 447, 448, 449, 450, 378, 379, 380, 381, 548, 549, 550, 551, 552, 83, 817, 818, 819, 820, 821, 822, 823, 824, 825, 826, 827, 828, 829, 830, 831] (by decide +kernel) (by decide +kernel)
set_option maxRecDepth 20000 in
theorem gL_law_X6_own : GoodIn wsL_law (wsV RL 68 RX6 yX6_own wsX6_own) := goodIn_app (goodIn_of _ (by decide +kernel)) ggL_law_X6_own
set_option maxRecDepth 20000 in
theorem ggL_law_X5_ride : GoodIn wsL_law wsX5_ride := goodIn_r _ [564, 15, 23, 474, 475, 476, 14, 477, 51, 459, 460, 2, 461, 94, 95, 96, 97, 98, 99, 100, 33, 565, 566, 567, 22, 568, 498, 479, 480, 481, 482, 483, 484, 485, 64, 486, 487, 488, 489, 490, 397, 398, 399, 491, 417, 402, 418, 400, 401, 403, 404, 405, 355, 406, 407, 354, 356, 408, 409, 410, 492, 413, 414, 415, 569, 570, 571, 572, 809, 810, 811, 812, 813, 814, 815, 816, 832, 833, 834, 835, 836, 837, 838, 839, 840, 841, 842, 843, 844, 845, 846] (by decide +kernel) (by decide +kernel)
set_option maxRecDepth 20000 in
theorem gL_law_X5_ride : GoodIn wsL_law (wsV RL 69 RX5 yX5_ride wsX5_ride) := goodIn_app (goodIn_of _ (by decide +kernel)) ggL_law_X5_ride
set_option maxRecDepth 20000 in
theorem ggL_law_X6_ride : GoodIn wsL_law wsX6_ride := goodIn_r _ [576, 506, 507, 508, 5, 509, 79, 107, 108, 109, 466, 467, 468, 469, 110, 111, 112, 113, 82, 577, 578, 579, 580, 504, 505, 510, 511, 512, 513, 514, 515, 516, 517, 518, 519, 520, 427, 428, 429, 430, 431, 432, 433, 434, 435, 436, 437, 438, 439, 440, 441, 442, 443, 444, 445, 446, 451, 452, 453, 454, 447, 448, 449, 450, 817, 818, 819, 820, 821, 822, 823, 824, 825, 826, 827, 828, 829, 830, 831] (by decide +kernel) (by decide +kernel)
set_option maxRecDepth 20000 in
theorem gL_law_X6_ride : GoodIn wsL_law (wsV RL 73 RX6 yX6_ride wsX6_ride) := goodIn_app (goodIn_of _ (by decide +kernel)) ggL_law_X6_ride
