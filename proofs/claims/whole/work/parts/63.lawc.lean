/-! the law: its callees words -/
set_option maxRecDepth 20000 in
theorem ggL_law_X5_walk : GoodIn wsL_law wsX5_walk := goodIn_r _ [584, 15, 585, 586, 355, 587, 388, 23, 474, 475, 476, 14, 477, 51, 459, 460, 2, 461, 94, 95, 96, 97, 98, 99, 100, 33, 565, 566, 567, 22, 568, 498, 479, 480, 481, 482, 483, 484, 485, 64, 486, 487, 488, 489, 490, 397, 398, 399, 491, 417, 402, 418, 400, 401, 403, 404, 405, 406, 407, 354, 356, 408, 409, 410, 492, 413, 414, 415, 569, 570, 571, 572, 809, 810, 811, 812, 813, 814, 815, 816, 832, 833, 834, 835, 836, 837, 838, 839, 840, 841, 842, 843, 844, 845, 846] (by decide +kernel) (by decide +kernel)
set_option maxRecDepth 20000 in
theorem gL_law_X5_walk : GoodIn wsL_law (wsV RL 74 RX5 yX5_walk wsX5_walk) := goodIn_app (goodIn_of _ (by decide +kernel)) ggL_law_X5_walk
set_option maxRecDepth 20000 in
theorem ggL_law_X6_walk : GoodIn wsL_law wsX6_walk := goodIn_r _ [591, 592, 79, 506, 507, 508, 5, 509, 107, 108, 109, 466, 467, 468, 469, 110, 111, 112, 113, 82, 577, 578, 579, 580, 504, 505, 510, 511, 512, 513, 514, 515, 516, 517, 518, 519, 520, 427, 428, 429, 430, 431, 432, 433, 434, 435, 436, 437, 438, 439, 440, 441, 442, 443, 444, 445, 446, 451, 452, 453, 454, 447, 448, 449, 450, 817, 818, 819, 820, 821, 822, 823, 824, 825, 826, 827, 828, 829, 830, 831] (by decide +kernel) (by decide +kernel)
set_option maxRecDepth 20000 in
theorem gL_law_X6_walk : GoodIn wsL_law (wsV RL 77 RX6 yX6_walk wsX6_walk) := goodIn_app (goodIn_of _ (by decide +kernel)) ggL_law_X6_walk
set_option maxRecDepth 20000 in
theorem ggL_law_X5_lines : GoodIn wsL_law wsX5_lines := goodIn_r _ [596, 31, 15, 597, 598, 599, 600, 14, 601, 41, 40, 602, 603, 604, 533, 534, 535, 30, 536, 73, 74, 537, 538, 539, 809, 810, 811, 812, 813, 814, 815, 816, 832, 833, 834, 835, 836, 837, 838, 839, 840, 841, 842, 843, 844, 845, 853, 854] (by decide +kernel) (by decide +kernel)
set_option maxRecDepth 20000 in
theorem gL_law_X5_lines : GoodIn wsL_law (wsV RL 78 RX5 yX5_lines wsX5_lines) := goodIn_app (goodIn_of _ (by decide +kernel)) ggL_law_X5_lines
set_option maxRecDepth 20000 in
theorem ggL_law_X6_lines : GoodIn wsL_law wsX6_lines := goodIn_r _ [608, 609, 610, 611, 612, 5, 613, 79, 614, 615, 616, 548, 549, 550, 551, 552, 83, 817, 818, 819, 820, 821, 822, 823, 824, 825, 826, 827, 828, 829, 830, 831] (by decide +kernel) (by decide +kernel)
set_option maxRecDepth 20000 in
theorem gL_law_X6_lines : GoodIn wsL_law (wsV RL 81 RX6 yX6_lines wsX6_lines) := goodIn_app (goodIn_of _ (by decide +kernel)) ggL_law_X6_lines
set_option maxRecDepth 20000 in
theorem ggL_law_X5_even : GoodIn wsL_law wsX5_even := goodIn_r _ [620, 15, 585, 586, 355, 587, 598, 599, 600, 14, 601, 41, 40, 602, 603, 604, 809, 810, 811, 812, 813, 814, 815, 816, 832, 833, 834, 835, 836, 837, 838, 839, 840, 841, 842, 843, 844, 845] (by decide +kernel) (by decide +kernel)
set_option maxRecDepth 20000 in
theorem gL_law_X5_even : GoodIn wsL_law (wsV RL 82 RX5 yX5_even wsX5_even) := goodIn_app (goodIn_of _ (by decide +kernel)) ggL_law_X5_even
set_option maxRecDepth 20000 in
theorem ggL_law_X6_even : GoodIn wsL_law wsX6_even := goodIn_r _ [624, 592, 610, 611, 612, 5, 613, 79, 614, 615, 616, 817, 818, 819, 820, 821, 822, 823, 824, 825, 826, 827, 828, 829, 830, 831] (by decide +kernel) (by decide +kernel)
set_option maxRecDepth 20000 in
theorem gL_law_X6_even : GoodIn wsL_law (wsV RL 85 RX6 yX6_even wsX6_even) := goodIn_app (goodIn_of _ (by decide +kernel)) ggL_law_X6_even
set_option maxRecDepth 20000 in
theorem ggL_law_X5_note : GoodIn wsL_law wsX5_note := goodIn_r _ [628, 15, 629, 389, 390, 391, 14, 392, 52, 474, 475, 476, 477, 51, 94, 95, 2, 96, 97, 98, 99, 100, 33, 630, 631, 632, 633, 54, 42, 43, 44, 45, 809, 810, 811, 812, 813, 814, 815, 816, 832, 833, 834, 835, 836, 837, 838, 839, 840, 841, 842, 843, 844, 845] (by decide +kernel) (by decide +kernel)
set_option maxRecDepth 20000 in
theorem gL_law_X5_note : GoodIn wsL_law (wsV RL 86 RX5 yX5_note wsX5_note) := goodIn_app (goodIn_of _ (by decide +kernel)) ggL_law_X5_note
set_option maxRecDepth 20000 in
theorem ggL_law_X6_note : GoodIn wsL_law wsX6_note := goodIn_r _ [637, 127, 79, 423, 424, 425, 5, 426, 107, 108, 109, 506, 507, 508, 509, 110, 111, 112, 113, 82, 128, 129, 130, 131, 817, 818, 819, 820, 821, 822, 823, 824, 825, 826, 827, 828, 829, 830, 831] (by decide +kernel) (by decide +kernel)
set_option maxRecDepth 20000 in
theorem gL_law_X6_note : GoodIn wsL_law (wsV RL 89 RX6 yX6_note wsX6_note) := goodIn_app (goodIn_of _ (by decide +kernel)) ggL_law_X6_note
set_option maxRecDepth 20000 in
theorem ggL_law_X5_forget : GoodIn wsL_law wsX5_forget := goodIn_r _ [641, 15, 629, 809, 810, 811, 812, 813, 814, 815, 816, 832, 833, 834, 835, 836, 837, 838, 839, 840, 841, 842, 843, 844, 845] (by decide +kernel) (by decide +kernel)
set_option maxRecDepth 20000 in
theorem gL_law_X5_forget : GoodIn wsL_law (wsV RL 90 RX5 yX5_forget wsX5_forget) := goodIn_app (goodIn_of _ (by decide +kernel)) ggL_law_X5_forget
set_option maxRecDepth 20000 in
theorem ggL_law_X6_forget : GoodIn wsL_law wsX6_forget := goodIn_r _ [645, 79, 817, 818, 819, 820, 821, 822, 823, 824, 825, 826, 827, 828, 829, 830, 831] (by decide +kernel) (by decide +kernel)
set_option maxRecDepth 20000 in
theorem gL_law_X6_forget : GoodIn wsL_law (wsV RL 93 RX6 yX6_forget wsX6_forget) := goodIn_app (goodIn_of _ (by decide +kernel)) ggL_law_X6_forget
set_option maxRecDepth 20000 in
theorem ggL_law_X5_is : GoodIn wsL_law wsX5_is := goodIn_r _ [649, 15, 23, 389, 390, 391, 14, 392, 52, 94, 95, 2, 96, 97, 98, 99, 100, 33, 650, 651, 652, 22, 653, 64, 399, 654, 655, 656, 657, 658, 659, 398, 660, 661, 662, 400, 401, 402, 403, 404, 405, 355, 406, 407, 354, 356, 408, 409, 410, 663, 664, 665, 666, 397, 809, 810, 811, 812, 813, 814, 815, 816, 832, 833, 834, 835, 836, 837, 838, 839, 840, 841, 842, 843, 844, 845, 846] (by decide +kernel) (by decide +kernel)
set_option maxRecDepth 20000 in
theorem gL_law_X5_is : GoodIn wsL_law (wsV RL 94 RX5 yX5_is wsX5_is) := goodIn_app (goodIn_of _ (by decide +kernel)) ggL_law_X5_is
set_option maxRecDepth 20000 in
theorem ggL_law_X6_is : GoodIn wsL_law wsX6_is := goodIn_r _ [670, 79, 423, 424, 425, 5, 426, 107, 108, 109, 110, 111, 112, 113, 82, 671, 672, 673, 674, 675, 676, 677, 678, 431, 432, 433, 434, 435, 436, 437, 438, 439, 440, 441, 442, 443, 444, 445, 446, 817, 818, 819, 820, 821, 822, 823, 824, 825, 826, 827, 828, 829, 830, 831] (by decide +kernel) (by decide +kernel)
set_option maxRecDepth 20000 in
theorem gL_law_X6_is : GoodIn wsL_law (wsV RL 97 RX6 yX6_is wsX6_is) := goodIn_app (goodIn_of _ (by decide +kernel)) ggL_law_X6_is
set_option maxRecDepth 20000 in
theorem ggL_law_X5_look : GoodIn wsL_law wsX5_look := goodIn_r _ [682, 15, 23, 389, 390, 391, 14, 392, 52, 474, 475, 476, 477, 51, 97, 98, 99, 2, 100, 33, 94, 95, 96, 683, 684, 685, 22, 686, 64, 399, 687, 405, 355, 406, 688, 651, 652, 653, 654, 655, 656, 657, 658, 659, 398, 660, 661, 662, 400, 401, 402, 403, 404, 407, 354, 356, 408, 409, 410, 689, 690, 691, 692, 693, 694, 695, 696, 697, 698, 699, 809, 810, 811, 812, 813, 814, 815, 816, 832, 833, 834, 835, 836, 837, 838, 839, 840, 841, 842, 843, 844, 845, 846] (by decide +kernel) (by decide +kernel)
set_option maxRecDepth 20000 in
theorem gL_law_X5_look : GoodIn wsL_law (wsV RL 98 RX5 yX5_look wsX5_look) := goodIn_app (goodIn_of _ (by decide +kernel)) ggL_law_X5_look
set_option maxRecDepth 20000 in
theorem ggL_law_X6_look : GoodIn wsL_law wsX6_look := goodIn_r _ [703, 592, 79, 423, 424, 425, 5, 426, 107, 108, 109, 506, 507, 508, 509, 110, 111, 112, 113, 82, 671, 672, 673, 674, 675, 676, 677, 678, 431, 432, 433, 434, 435, 436, 437, 438, 439, 440, 441, 442, 443, 444, 445, 446, 514, 515, 516, 817, 818, 819, 820, 821, 822, 823, 824, 825, 826, 827, 828, 829, 830, 831] (by decide +kernel) (by decide +kernel)
set_option maxRecDepth 20000 in
theorem gL_law_X6_look : GoodIn wsL_law (wsV RL 101 RX6 yX6_look wsX6_look) := goodIn_app (goodIn_of _ (by decide +kernel)) ggL_law_X6_look
set_option maxRecDepth 20000 in
theorem ggL_law_X5_porters : GoodIn wsL_law wsX5_porters := goodIn_r _ [707, 15, 93, 23, 708, 31, 474, 475, 476, 14, 477, 51, 459, 460, 2, 461, 94, 95, 96, 97, 98, 99, 100, 33, 709, 570, 571, 22, 572, 487, 488, 489, 490, 64, 397, 398, 399, 491, 417, 402, 418, 400, 401, 403, 404, 405, 355, 406, 407, 354, 356, 408, 409, 410, 533, 534, 535, 30, 536, 73, 74, 537, 538, 539, 809, 810, 811, 812, 813, 814, 815, 816, 832, 833, 834, 835, 836, 837, 838, 839, 840, 841, 842, 843, 844, 845, 846, 853, 854] (by decide +kernel) (by decide +kernel)
set_option maxRecDepth 20000 in
theorem gL_law_X5_porters : GoodIn wsL_law (wsV RL 102 RX5 yX5_porters wsX5_porters) := goodIn_app (goodIn_of _ (by decide +kernel)) ggL_law_X5_porters
set_option maxRecDepth 20000 in
theorem ggL_law_X6_porters : GoodIn wsL_law wsX6_porters := goodIn_r _ [713, 714, 715, 79, 505, 506, 507, 508, 5, 509, 107, 108, 109, 466, 467, 468, 469, 110, 111, 112, 113, 82, 514, 515, 516, 510, 511, 512, 513, 504, 517, 518, 519, 520, 427, 428, 429, 430, 431, 432, 433, 434, 435, 436, 437, 438, 439, 440, 441, 442, 443, 444, 445, 446, 451, 452, 453, 454, 447, 448, 449, 450, 548, 549, 550, 551, 552, 83, 817, 818, 819, 820, 821, 822, 823, 824, 825, 826, 827, 828, 829, 830, 831] (by decide +kernel) (by decide +kernel)
set_option maxRecDepth 20000 in
theorem gL_law_X6_porters : GoodIn wsL_law (wsV RL 105 RX6 yX6_porters wsX6_porters) := goodIn_app (goodIn_of _ (by decide +kernel)) ggL_law_X6_porters
set_option maxRecDepth 20000 in
theorem ggL_law_X5_days : GoodIn wsL_law wsX5_days := goodIn_r _ [719, 15, 720, 721, 722, 723, 724, 725, 23, 474, 475, 476, 14, 477, 51, 94, 95, 2, 96, 97, 98, 99, 100, 33, 494, 495, 496, 22, 497, 498, 479, 480, 481, 482, 483, 484, 485, 64, 486, 487, 488, 489, 490, 397, 398, 399, 491, 417, 402, 418, 400, 401, 403, 404, 405, 355, 406, 407, 354, 356, 408, 409, 410, 492, 413, 414, 415, 809, 810, 811, 812, 813, 814, 815, 816, 832, 833, 834, 835, 836, 837, 838, 839, 840, 841, 842, 843, 844, 845, 846] (by decide +kernel) (by decide +kernel)
set_option maxRecDepth 20000 in
theorem gL_law_X5_days : GoodIn wsL_law (wsV RL 106 RX5 yX5_days wsX5_days) := goodIn_app (goodIn_of _ (by decide +kernel)) ggL_law_X5_days
set_option maxRecDepth 20000 in
theorem ggL_law_X6_days : GoodIn wsL_law wsX6_days := goodIn_r _ [729, 730, 609, 731, 732, 733, 734, 735, 504, 505, 506, 507, 508, 5, 509, 79, 107, 108, 109, 110, 111, 112, 113, 82, 510, 511, 512, 513, 514, 515, 516, 517, 518, 519, 520, 427, 428, 429, 430, 431, 432, 433, 434, 435, 436, 437, 438, 439, 440, 441, 442, 443, 444, 445, 446, 451, 452, 453, 454, 447, 448, 449, 450, 817, 818, 819, 820, 821, 822, 823, 824, 825, 826, 827, 828, 829, 830, 831] (by decide +kernel) (by decide +kernel)
set_option maxRecDepth 20000 in
theorem gL_law_X6_days : GoodIn wsL_law (wsV RL 109 RX6 yX6_days wsX6_days) := goodIn_app (goodIn_of _ (by decide +kernel)) ggL_law_X6_days
set_option maxRecDepth 20000 in
theorem ggL_law_X5_part : GoodIn wsL_law wsX5_part := goodIn_r _ [739, 31, 740, 741, 94, 95, 2, 96, 97, 98, 99, 100, 33, 809, 810, 811, 812, 813, 814, 815, 816, 853, 854] (by decide +kernel) (by decide +kernel)
set_option maxRecDepth 20000 in
theorem gL_law_X5_part : GoodIn wsL_law (wsV RL 110 RX5 yX5_part wsX5_part) := goodIn_app (goodIn_of _ (by decide +kernel)) ggL_law_X5_part
set_option maxRecDepth 20000 in
theorem ggL_law_X6_part : GoodIn wsL_law wsX6_part := goodIn_r _ [745, 552, 83, 110, 111, 112, 5, 113, 82, 817, 818, 819, 820, 821, 822, 823, 824, 825, 826, 827, 828, 829, 830, 831] (by decide +kernel) (by decide +kernel)
set_option maxRecDepth 20000 in
theorem gL_law_X6_part : GoodIn wsL_law (wsV RL 114 RX6 yX6_part wsX6_part) := goodIn_app (goodIn_of _ (by decide +kernel)) ggL_law_X6_part
set_option maxRecDepth 20000 in
theorem ggL_law_X5_image : GoodIn wsL_law wsX5_image := goodIn_r _ [749, 17, 15, 19, 94, 95, 2, 96, 97, 98, 99, 100, 33, 288, 289, 290, 14, 291, 51, 52, 53, 54, 55, 38, 292, 293, 294, 295, 39, 40, 41, 42, 43, 44, 45, 46, 809, 810, 811, 812, 813, 814, 815, 816, 832, 833, 834, 835, 836, 837, 838, 839, 840, 841, 842, 843, 844, 845] (by decide +kernel) (by decide +kernel)
set_option maxRecDepth 20000 in
theorem gL_law_X5_image : GoodIn wsL_law (wsV RL 115 RX5 yX5_image wsX5_image) := goodIn_app (goodIn_of _ (by decide +kernel)) ggL_law_X5_image
set_option maxRecDepth 20000 in
theorem ggL_law_X6_image : GoodIn wsL_law wsX6_image := goodIn_r _ [753, 80, 107, 108, 5, 109, 110, 111, 112, 113, 82, 344, 345, 346, 347, 79, 817, 818, 819, 820, 821, 822, 823, 824, 825, 826, 827, 828, 829, 830, 831] (by decide +kernel) (by decide +kernel)
set_option maxRecDepth 20000 in
theorem gL_law_X6_image : GoodIn wsL_law (wsV RL 118 RX6 yX6_image wsX6_image) := goodIn_app (goodIn_of _ (by decide +kernel)) ggL_law_X6_image
set_option maxRecDepth 20000 in
theorem ggL_law_X5_from : GoodIn wsL_law wsX5_from := goodIn_r _ [757, 19, 15, 17, 94, 95, 2, 96, 97, 98, 99, 100, 33, 288, 289, 290, 14, 291, 51, 52, 53, 54, 55, 38, 292, 293, 294, 295, 39, 40, 41, 42, 43, 44, 45, 46, 809, 810, 811, 812, 813, 814, 815, 816, 832, 833, 834, 835, 836, 837, 838, 839, 840, 841, 842, 843, 844, 845] (by decide +kernel) (by decide +kernel)
set_option maxRecDepth 20000 in
theorem gL_law_X5_from : GoodIn wsL_law (wsV RL 119 RX5 yX5_from wsX5_from) := goodIn_app (goodIn_of _ (by decide +kernel)) ggL_law_X5_from
set_option maxRecDepth 20000 in
theorem ggL_law_X6_from : GoodIn wsL_law wsX6_from := goodIn_r _ [761, 80, 107, 108, 5, 109, 110, 111, 112, 113, 82, 378, 379, 380, 381, 344, 345, 346, 347, 79, 817, 818, 819, 820, 821, 822, 823, 824, 825, 826, 827, 828, 829, 830, 831] (by decide +kernel) (by decide +kernel)
set_option maxRecDepth 20000 in
theorem gL_law_X6_from : GoodIn wsL_law (wsV RL 122 RX6 yX6_from wsX6_from) := goodIn_app (goodIn_of _ (by decide +kernel)) ggL_law_X6_from
set_option maxRecDepth 20000 in
theorem ggL_law_X5_status : GoodIn wsL_law wsX5_status := goodIn_r _ [765, 33, 94, 95, 2, 96, 97, 98, 99, 100, 809, 810, 811, 812, 813, 814, 815, 816] (by decide +kernel) (by decide +kernel)
set_option maxRecDepth 20000 in
theorem gL_law_X5_status : GoodIn wsL_law (wsV RL 123 RX5 yX5_status wsX5_status) := goodIn_app (goodIn_of _ (by decide +kernel)) ggL_law_X5_status
set_option maxRecDepth 20000 in
theorem ggL_law_X6_status : GoodIn wsL_law wsX6_status := goodIn_r _ [769, 503, 82, 107, 108, 5, 109, 770, 771, 772, 773, 817, 818, 819, 820, 821, 822, 823, 824, 825, 826, 827, 828, 829, 830, 831] (by decide +kernel) (by decide +kernel)
set_option maxRecDepth 20000 in
theorem gL_law_X6_status : GoodIn wsL_law (wsV RL 126 RX6 yX6_status wsX6_status) := goodIn_app (goodIn_of _ (by decide +kernel)) ggL_law_X6_status
set_option maxRecDepth 20000 in
theorem ggL_law_X5_count : GoodIn wsL_law wsX5_count := goodIn_r _ [777, 15, 93, 388, 352, 629, 369, 27, 153, 97, 98, 99, 2, 100, 33, 94, 95, 96, 809, 810, 811, 812, 813, 814, 815, 816, 832, 833, 834, 835, 836, 837, 838, 839, 840, 841, 842, 843, 844, 845, 847, 848, 849, 850, 851, 852] (by decide +kernel) (by decide +kernel)
set_option maxRecDepth 20000 in
theorem gL_law_X5_count : GoodIn wsL_law (wsV RL 127 RX5 yX5_count wsX5_count) := goodIn_app (goodIn_of _ (by decide +kernel)) ggL_law_X5_count
set_option maxRecDepth 20000 in
theorem ggL_law_X6_count : GoodIn wsL_law wsX6_count := goodIn_r _ [781, 126, 107, 108, 5, 109, 782, 783, 784, 785, 164, 79, 110, 111, 112, 113, 82, 817, 818, 819, 820, 821, 822, 823, 824, 825, 826, 827, 828, 829, 830, 831] (by decide +kernel) (by decide +kernel)
set_option maxRecDepth 20000 in
theorem gL_law_X6_count : GoodIn wsL_law (wsV RL 130 RX6 yX6_count wsX6_count) := goodIn_app (goodIn_of _ (by decide +kernel)) ggL_law_X6_count
set_option maxRecDepth 20000 in
theorem ggL_law_X5_digest : GoodIn wsL_law wsX5_digest := goodIn_r _ [789, 790, 791, 15, 31, 740, 741, 792, 775, 776, 2, 777, 93, 388, 352, 629, 369, 27, 153, 97, 98, 99, 100, 33, 94, 95, 96, 793, 794, 795, 14, 796, 52, 797, 38, 39, 40, 41, 54, 42, 43, 44, 45, 809, 810, 811, 812, 813, 814, 815, 816, 853, 854, 832, 833, 834, 835, 836, 837, 838, 839, 840, 841, 842, 843, 844, 845, 847, 848, 849, 850, 851, 852] (by decide +kernel) (by decide +kernel)
set_option maxRecDepth 20000 in
theorem gL_law_X5_digest : GoodIn wsL_law (wsV RL 131 RX5 yX5_digest wsX5_digest) := goodIn_app (goodIn_of _ (by decide +kernel)) ggL_law_X5_digest
set_option maxRecDepth 20000 in
theorem ggL_law_X6_digest : GoodIn wsL_law wsX6_digest := goodIn_r _ [801, 802, 803, 79, 552, 83, 782, 783, 784, 5, 785, 164, 804, 805, 806, 807, 808, 817, 818, 819, 820, 821, 822, 823, 824, 825, 826, 827, 828, 829, 830, 831] (by decide +kernel) (by decide +kernel)
set_option maxRecDepth 20000 in
theorem gL_law_X6_digest : GoodIn wsL_law (wsV RL 135 RX6 yX6_digest wsX6_digest) := goodIn_app (goodIn_of _ (by decide +kernel)) ggL_law_X6_digest
