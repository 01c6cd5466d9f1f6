/-! the law: its callees words -/
set_option maxRecDepth 20000 in
theorem ggL_law_X5_walk : GoodIn wsL_law wsX5_walk := goodIn_r _ [587, 15, 588, 589, 355, 590, 388, 23, 477, 478, 479, 14, 480, 51, 462, 463, 2, 464, 94, 95, 96, 97, 98, 99, 100, 33, 568, 569, 570, 22, 571, 501, 482, 483, 484, 485, 486, 487, 488, 64, 489, 490, 491, 492, 493, 397, 398, 399, 494, 420, 402, 421, 400, 401, 403, 404, 405, 406, 407, 408, 409, 354, 356, 410, 411, 412, 413, 495, 416, 417, 418, 572, 573, 574, 575, 812, 813, 814, 815, 816, 817, 818, 819, 835, 836, 837, 838, 839, 840, 841, 842, 843, 844, 845, 846, 847, 848, 849] (by decide +kernel) (by decide +kernel)
set_option maxRecDepth 20000 in
theorem gL_law_X5_walk : GoodIn wsL_law (wsV RL 74 RX5 yX5_walk wsX5_walk) := goodIn_app (goodIn_of _ (by decide +kernel)) ggL_law_X5_walk
set_option maxRecDepth 20000 in
theorem ggL_law_X6_walk : GoodIn wsL_law wsX6_walk := goodIn_r _ [594, 595, 79, 509, 510, 511, 5, 512, 107, 108, 109, 469, 470, 471, 472, 110, 111, 112, 113, 82, 580, 581, 582, 583, 507, 508, 513, 514, 515, 516, 517, 518, 519, 520, 521, 522, 523, 430, 431, 432, 433, 434, 435, 436, 437, 438, 439, 440, 441, 442, 443, 444, 445, 446, 447, 448, 449, 454, 455, 456, 457, 450, 451, 452, 453, 820, 821, 822, 823, 824, 825, 826, 827, 828, 829, 830, 831, 832, 833, 834] (by decide +kernel) (by decide +kernel)
set_option maxRecDepth 20000 in
theorem gL_law_X6_walk : GoodIn wsL_law (wsV RL 77 RX6 yX6_walk wsX6_walk) := goodIn_app (goodIn_of _ (by decide +kernel)) ggL_law_X6_walk
set_option maxRecDepth 20000 in
theorem ggL_law_X5_lines : GoodIn wsL_law wsX5_lines := goodIn_r _ [599, 31, 15, 600, 601, 602, 603, 14, 604, 41, 40, 605, 606, 607, 536, 537, 538, 30, 539, 73, 74, 540, 541, 542, 812, 813, 814, 815, 816, 817, 818, 819, 835, 836, 837, 838, 839, 840, 841, 842, 843, 844, 845, 846, 847, 848, 856, 857] (by decide +kernel) (by decide +kernel)
set_option maxRecDepth 20000 in
theorem gL_law_X5_lines : GoodIn wsL_law (wsV RL 78 RX5 yX5_lines wsX5_lines) := goodIn_app (goodIn_of _ (by decide +kernel)) ggL_law_X5_lines
set_option maxRecDepth 20000 in
theorem ggL_law_X6_lines : GoodIn wsL_law wsX6_lines := goodIn_r _ [611, 612, 613, 614, 615, 5, 616, 79, 617, 618, 619, 551, 552, 553, 554, 555, 83, 820, 821, 822, 823, 824, 825, 826, 827, 828, 829, 830, 831, 832, 833, 834] (by decide +kernel) (by decide +kernel)
set_option maxRecDepth 20000 in
theorem gL_law_X6_lines : GoodIn wsL_law (wsV RL 81 RX6 yX6_lines wsX6_lines) := goodIn_app (goodIn_of _ (by decide +kernel)) ggL_law_X6_lines
set_option maxRecDepth 20000 in
theorem ggL_law_X5_even : GoodIn wsL_law wsX5_even := goodIn_r _ [623, 15, 588, 589, 355, 590, 601, 602, 603, 14, 604, 41, 40, 605, 606, 607, 812, 813, 814, 815, 816, 817, 818, 819, 835, 836, 837, 838, 839, 840, 841, 842, 843, 844, 845, 846, 847, 848] (by decide +kernel) (by decide +kernel)
set_option maxRecDepth 20000 in
theorem gL_law_X5_even : GoodIn wsL_law (wsV RL 82 RX5 yX5_even wsX5_even) := goodIn_app (goodIn_of _ (by decide +kernel)) ggL_law_X5_even
set_option maxRecDepth 20000 in
theorem ggL_law_X6_even : GoodIn wsL_law wsX6_even := goodIn_r _ [627, 595, 613, 614, 615, 5, 616, 79, 617, 618, 619, 820, 821, 822, 823, 824, 825, 826, 827, 828, 829, 830, 831, 832, 833, 834] (by decide +kernel) (by decide +kernel)
set_option maxRecDepth 20000 in
theorem gL_law_X6_even : GoodIn wsL_law (wsV RL 85 RX6 yX6_even wsX6_even) := goodIn_app (goodIn_of _ (by decide +kernel)) ggL_law_X6_even
set_option maxRecDepth 20000 in
theorem ggL_law_X5_note : GoodIn wsL_law wsX5_note := goodIn_r _ [631, 15, 632, 389, 390, 391, 14, 392, 52, 477, 478, 479, 480, 51, 94, 95, 2, 96, 97, 98, 99, 100, 33, 633, 634, 635, 636, 54, 42, 43, 44, 45, 812, 813, 814, 815, 816, 817, 818, 819, 835, 836, 837, 838, 839, 840, 841, 842, 843, 844, 845, 846, 847, 848] (by decide +kernel) (by decide +kernel)
set_option maxRecDepth 20000 in
theorem gL_law_X5_note : GoodIn wsL_law (wsV RL 86 RX5 yX5_note wsX5_note) := goodIn_app (goodIn_of _ (by decide +kernel)) ggL_law_X5_note
set_option maxRecDepth 20000 in
theorem ggL_law_X6_note : GoodIn wsL_law wsX6_note := goodIn_r _ [640, 127, 79, 426, 427, 428, 5, 429, 107, 108, 109, 509, 510, 511, 512, 110, 111, 112, 113, 82, 128, 129, 130, 131, 820, 821, 822, 823, 824, 825, 826, 827, 828, 829, 830, 831, 832, 833, 834] (by decide +kernel) (by decide +kernel)
set_option maxRecDepth 20000 in
theorem gL_law_X6_note : GoodIn wsL_law (wsV RL 89 RX6 yX6_note wsX6_note) := goodIn_app (goodIn_of _ (by decide +kernel)) ggL_law_X6_note
set_option maxRecDepth 20000 in
theorem ggL_law_X5_forget : GoodIn wsL_law wsX5_forget := goodIn_r _ [644, 15, 632, 812, 813, 814, 815, 816, 817, 818, 819, 835, 836, 837, 838, 839, 840, 841, 842, 843, 844, 845, 846, 847, 848] (by decide +kernel) (by decide +kernel)
set_option maxRecDepth 20000 in
theorem gL_law_X5_forget : GoodIn wsL_law (wsV RL 90 RX5 yX5_forget wsX5_forget) := goodIn_app (goodIn_of _ (by decide +kernel)) ggL_law_X5_forget
set_option maxRecDepth 20000 in
theorem ggL_law_X6_forget : GoodIn wsL_law wsX6_forget := goodIn_r _ [648, 79, 820, 821, 822, 823, 824, 825, 826, 827, 828, 829, 830, 831, 832, 833, 834] (by decide +kernel) (by decide +kernel)
set_option maxRecDepth 20000 in
theorem gL_law_X6_forget : GoodIn wsL_law (wsV RL 93 RX6 yX6_forget wsX6_forget) := goodIn_app (goodIn_of _ (by decide +kernel)) ggL_law_X6_forget
set_option maxRecDepth 20000 in
theorem ggL_law_X5_is : GoodIn wsL_law wsX5_is := goodIn_r _ [652, 15, 23, 389, 390, 391, 14, 392, 52, 94, 95, 2, 96, 97, 98, 99, 100, 33, 653, 654, 655, 22, 656, 64, 399, 657, 658, 659, 660, 661, 662, 398, 663, 664, 665, 400, 401, 402, 403, 404, 405, 406, 407, 355, 408, 409, 354, 356, 410, 411, 412, 413, 666, 667, 668, 669, 397, 812, 813, 814, 815, 816, 817, 818, 819, 835, 836, 837, 838, 839, 840, 841, 842, 843, 844, 845, 846, 847, 848, 849] (by decide +kernel) (by decide +kernel)
set_option maxRecDepth 20000 in
theorem gL_law_X5_is : GoodIn wsL_law (wsV RL 94 RX5 yX5_is wsX5_is) := goodIn_app (goodIn_of _ (by decide +kernel)) ggL_law_X5_is
set_option maxRecDepth 20000 in
theorem ggL_law_X6_is : GoodIn wsL_law wsX6_is := goodIn_r _ [673, 79, 426, 427, 428, 5, 429, 107, 108, 109, 110, 111, 112, 113, 82, 674, 675, 676, 677, 678, 679, 680, 681, 434, 435, 436, 437, 438, 439, 440, 441, 442, 443, 444, 445, 446, 447, 448, 449, 820, 821, 822, 823, 824, 825, 826, 827, 828, 829, 830, 831, 832, 833, 834] (by decide +kernel) (by decide +kernel)
set_option maxRecDepth 20000 in
theorem gL_law_X6_is : GoodIn wsL_law (wsV RL 97 RX6 yX6_is wsX6_is) := goodIn_app (goodIn_of _ (by decide +kernel)) ggL_law_X6_is
set_option maxRecDepth 20000 in
theorem ggL_law_X5_look : GoodIn wsL_law wsX5_look := goodIn_r _ [685, 15, 23, 389, 390, 391, 14, 392, 52, 477, 478, 479, 480, 51, 97, 98, 99, 2, 100, 33, 94, 95, 96, 686, 687, 688, 22, 689, 64, 399, 690, 407, 355, 408, 691, 654, 655, 656, 657, 658, 659, 660, 661, 662, 398, 663, 664, 665, 400, 401, 402, 403, 404, 405, 406, 409, 354, 356, 410, 411, 412, 413, 692, 693, 694, 695, 696, 697, 698, 699, 700, 701, 702, 812, 813, 814, 815, 816, 817, 818, 819, 835, 836, 837, 838, 839, 840, 841, 842, 843, 844, 845, 846, 847, 848, 849] (by decide +kernel) (by decide +kernel)
set_option maxRecDepth 20000 in
theorem gL_law_X5_look : GoodIn wsL_law (wsV RL 98 RX5 yX5_look wsX5_look) := goodIn_app (goodIn_of _ (by decide +kernel)) ggL_law_X5_look
set_option maxRecDepth 20000 in
theorem ggL_law_X6_look : GoodIn wsL_law wsX6_look := goodIn_r _ [706, 595, 79, 426, 427, 428, 5, 429, 107, 108, 109, 509, 510, 511, 512, 110, 111, 112, 113, 82, 674, 675, 676, 677, 678, 679, 680, 681, 434, 435, 436, 437, 438, 439, 440, 441, 442, 443, 444, 445, 446, 447, 448, 449, 517, 518, 519, 820, 821, 822, 823, 824, 825, 826, 827, 828, 829, 830, 831, 832, 833, 834] (by decide +kernel) (by decide +kernel)
set_option maxRecDepth 20000 in
theorem gL_law_X6_look : GoodIn wsL_law (wsV RL 101 RX6 yX6_look wsX6_look) := goodIn_app (goodIn_of _ (by decide +kernel)) ggL_law_X6_look
set_option maxRecDepth 20000 in
theorem ggL_law_X5_porters : GoodIn wsL_law wsX5_porters := goodIn_r _ [710, 15, 93, 23, 711, 31, 477, 478, 479, 14, 480, 51, 462, 463, 2, 464, 94, 95, 96, 97, 98, 99, 100, 33, 712, 573, 574, 22, 575, 490, 491, 492, 493, 64, 397, 398, 399, 494, 420, 402, 421, 400, 401, 403, 404, 405, 406, 407, 355, 408, 409, 354, 356, 410, 411, 412, 413, 536, 537, 538, 30, 539, 73, 74, 540, 541, 542, 812, 813, 814, 815, 816, 817, 818, 819, 835, 836, 837, 838, 839, 840, 841, 842, 843, 844, 845, 846, 847, 848, 849, 856, 857] (by decide +kernel) (by decide +kernel)
set_option maxRecDepth 20000 in
theorem gL_law_X5_porters : GoodIn wsL_law (wsV RL 102 RX5 yX5_porters wsX5_porters) := goodIn_app (goodIn_of _ (by decide +kernel)) ggL_law_X5_porters
set_option maxRecDepth 20000 in
theorem ggL_law_X6_porters : GoodIn wsL_law wsX6_porters := goodIn_r _ [716, 717, 718, 79, 508, 509, 510, 511, 5, 512, 107, 108, 109, 469, 470, 471, 472, 110, 111, 112, 113, 82, 517, 518, 519, 513, 514, 515, 516, 507, 520, 521, 522, 523, 430, 431, 432, 433, 434, 435, 436, 437, 438, 439, 440, 441, 442, 443, 444, 445, 446, 447, 448, 449, 454, 455, 456, 457, 450, 451, 452, 453, 551, 552, 553, 554, 555, 83, 820, 821, 822, 823, 824, 825, 826, 827, 828, 829, 830, 831, 832, 833, 834] (by decide +kernel) (by decide +kernel)
set_option maxRecDepth 20000 in
theorem gL_law_X6_porters : GoodIn wsL_law (wsV RL 105 RX6 yX6_porters wsX6_porters) := goodIn_app (goodIn_of _ (by decide +kernel)) ggL_law_X6_porters
set_option maxRecDepth 20000 in
theorem ggL_law_X5_days : GoodIn wsL_law wsX5_days := goodIn_r _ [722, 15, 723, 724, 725, 726, 727, 728, 23, 477, 478, 479, 14, 480, 51, 94, 95, 2, 96, 97, 98, 99, 100, 33, 497, 498, 499, 22, 500, 501, 482, 483, 484, 485, 486, 487, 488, 64, 489, 490, 491, 492, 493, 397, 398, 399, 494, 420, 402, 421, 400, 401, 403, 404, 405, 406, 407, 355, 408, 409, 354, 356, 410, 411, 412, 413, 495, 416, 417, 418, 812, 813, 814, 815, 816, 817, 818, 819, 835, 836, 837, 838, 839, 840, 841, 842, 843, 844, 845, 846, 847, 848, 849] (by decide +kernel) (by decide +kernel)
set_option maxRecDepth 20000 in
theorem gL_law_X5_days : GoodIn wsL_law (wsV RL 106 RX5 yX5_days wsX5_days) := goodIn_app (goodIn_of _ (by decide +kernel)) ggL_law_X5_days
set_option maxRecDepth 20000 in
theorem ggL_law_X6_days : GoodIn wsL_law wsX6_days := goodIn_r _ [732, 733, 612, 734, 735, 736, 737, 738, 507, 508, 509, 510, 511, 5, 512, 79, 107, 108, 109, 110, 111, 112, 113, 82, 513, 514, 515, 516, 517, 518, 519, 520, 521, 522, 523, 430, 431, 432, 433, 434, 435, 436, 437, 438, 439, 440, 441, 442, 443, 444, 445, 446, 447, 448, 449, 454, 455, 456, 457, 450, 451, 452, 453, 820, 821, 822, 823, 824, 825, 826, 827, 828, 829, 830, 831, 832, 833, 834] (by decide +kernel) (by decide +kernel)
set_option maxRecDepth 20000 in
theorem gL_law_X6_days : GoodIn wsL_law (wsV RL 109 RX6 yX6_days wsX6_days) := goodIn_app (goodIn_of _ (by decide +kernel)) ggL_law_X6_days
set_option maxRecDepth 20000 in
theorem ggL_law_X5_part : GoodIn wsL_law wsX5_part := goodIn_r _ [742, 31, 743, 744, 94, 95, 2, 96, 97, 98, 99, 100, 33, 812, 813, 814, 815, 816, 817, 818, 819, 856, 857] (by decide +kernel) (by decide +kernel)
set_option maxRecDepth 20000 in
theorem gL_law_X5_part : GoodIn wsL_law (wsV RL 110 RX5 yX5_part wsX5_part) := goodIn_app (goodIn_of _ (by decide +kernel)) ggL_law_X5_part
set_option maxRecDepth 20000 in
theorem ggL_law_X6_part : GoodIn wsL_law wsX6_part := goodIn_r _ [748, 555, 83, 110, 111, 112, 5, 113, 82, 820, 821, 822, 823, 824, 825, 826, 827, 828, 829, 830, 831, 832, 833, 834] (by decide +kernel) (by decide +kernel)
set_option maxRecDepth 20000 in
theorem gL_law_X6_part : GoodIn wsL_law (wsV RL 114 RX6 yX6_part wsX6_part) := goodIn_app (goodIn_of _ (by decide +kernel)) ggL_law_X6_part
set_option maxRecDepth 20000 in
theorem ggL_law_X5_image : GoodIn wsL_law wsX5_image := goodIn_r _ [752, 17, 15, 19, 94, 95, 2, 96, 97, 98, 99, 100, 33, 288, 289, 290, 14, 291, 51, 52, 53, 54, 55, 38, 292, 293, 294, 295, 39, 40, 41, 42, 43, 44, 45, 46, 812, 813, 814, 815, 816, 817, 818, 819, 835, 836, 837, 838, 839, 840, 841, 842, 843, 844, 845, 846, 847, 848] (by decide +kernel) (by decide +kernel)
set_option maxRecDepth 20000 in
theorem gL_law_X5_image : GoodIn wsL_law (wsV RL 115 RX5 yX5_image wsX5_image) := goodIn_app (goodIn_of _ (by decide +kernel)) ggL_law_X5_image
set_option maxRecDepth 20000 in
theorem ggL_law_X6_image : GoodIn wsL_law wsX6_image := goodIn_r _ [756, 80, 107, 108, 5, 109, 110, 111, 112, 113, 82, 344, 345, 346, 347, 79, 820, 821, 822, 823, 824, 825, 826, 827, 828, 829, 830, 831, 832, 833, 834] (by decide +kernel) (by decide +kernel)
set_option maxRecDepth 20000 in
theorem gL_law_X6_image : GoodIn wsL_law (wsV RL 118 RX6 yX6_image wsX6_image) := goodIn_app (goodIn_of _ (by decide +kernel)) ggL_law_X6_image
set_option maxRecDepth 20000 in
theorem ggL_law_X5_from : GoodIn wsL_law wsX5_from := goodIn_r _ [760, 19, 15, 17, 94, 95, 2, 96, 97, 98, 99, 100, 33, 288, 289, 290, 14, 291, 51, 52, 53, 54, 55, 38, 292, 293, 294, 295, 39, 40, 41, 42, 43, 44, 45, 46, 812, 813, 814, 815, 816, 817, 818, 819, 835, 836, 837, 838, 839, 840, 841, 842, 843, 844, 845, 846, 847, 848] (by decide +kernel) (by decide +kernel)
set_option maxRecDepth 20000 in
theorem gL_law_X5_from : GoodIn wsL_law (wsV RL 119 RX5 yX5_from wsX5_from) := goodIn_app (goodIn_of _ (by decide +kernel)) ggL_law_X5_from
set_option maxRecDepth 20000 in
theorem ggL_law_X6_from : GoodIn wsL_law wsX6_from := goodIn_r _ [764, 80, 107, 108, 5, 109, 110, 111, 112, 113, 82, 378, 379, 380, 381, 344, 345, 346, 347, 79, 820, 821, 822, 823, 824, 825, 826, 827, 828, 829, 830, 831, 832, 833, 834] (by decide +kernel) (by decide +kernel)
set_option maxRecDepth 20000 in
theorem gL_law_X6_from : GoodIn wsL_law (wsV RL 122 RX6 yX6_from wsX6_from) := goodIn_app (goodIn_of _ (by decide +kernel)) ggL_law_X6_from
set_option maxRecDepth 20000 in
theorem ggL_law_X5_status : GoodIn wsL_law wsX5_status := goodIn_r _ [768, 33, 94, 95, 2, 96, 97, 98, 99, 100, 812, 813, 814, 815, 816, 817, 818, 819] (by decide +kernel) (by decide +kernel)
set_option maxRecDepth 20000 in
theorem gL_law_X5_status : GoodIn wsL_law (wsV RL 123 RX5 yX5_status wsX5_status) := goodIn_app (goodIn_of _ (by decide +kernel)) ggL_law_X5_status
set_option maxRecDepth 20000 in
theorem ggL_law_X6_status : GoodIn wsL_law wsX6_status := goodIn_r _ [772, 506, 82, 107, 108, 5, 109, 773, 774, 775, 776, 820, 821, 822, 823, 824, 825, 826, 827, 828, 829, 830, 831, 832, 833, 834] (by decide +kernel) (by decide +kernel)
set_option maxRecDepth 20000 in
theorem gL_law_X6_status : GoodIn wsL_law (wsV RL 126 RX6 yX6_status wsX6_status) := goodIn_app (goodIn_of _ (by decide +kernel)) ggL_law_X6_status
set_option maxRecDepth 20000 in
theorem ggL_law_X5_count : GoodIn wsL_law wsX5_count := goodIn_r _ [780, 15, 93, 388, 352, 632, 369, 27, 153, 97, 98, 99, 2, 100, 33, 94, 95, 96, 812, 813, 814, 815, 816, 817, 818, 819, 835, 836, 837, 838, 839, 840, 841, 842, 843, 844, 845, 846, 847, 848, 850, 851, 852, 853, 854, 855] (by decide +kernel) (by decide +kernel)
set_option maxRecDepth 20000 in
theorem gL_law_X5_count : GoodIn wsL_law (wsV RL 127 RX5 yX5_count wsX5_count) := goodIn_app (goodIn_of _ (by decide +kernel)) ggL_law_X5_count
set_option maxRecDepth 20000 in
theorem ggL_law_X6_count : GoodIn wsL_law wsX6_count := goodIn_r _ [784, 126, 107, 108, 5, 109, 785, 786, 787, 788, 164, 79, 110, 111, 112, 113, 82, 820, 821, 822, 823, 824, 825, 826, 827, 828, 829, 830, 831, 832, 833, 834] (by decide +kernel) (by decide +kernel)
set_option maxRecDepth 20000 in
theorem gL_law_X6_count : GoodIn wsL_law (wsV RL 130 RX6 yX6_count wsX6_count) := goodIn_app (goodIn_of _ (by decide +kernel)) ggL_law_X6_count
set_option maxRecDepth 20000 in
theorem ggL_law_X5_digest : GoodIn wsL_law wsX5_digest := goodIn_r _ [792, 793, 794, 15, 31, 743, 744, 795, 778, 779, 2, 780, 93, 388, 352, 632, 369, 27, 153, 97, 98, 99, 100, 33, 94, 95, 96, 796, 797, 798, 14, 799, 52, 800, 38, 39, 40, 41, 54, 42, 43, 44, 45, 812, 813, 814, 815, 816, 817, 818, 819, 856, 857, 835, 836, 837, 838, 839, 840, 841, 842, 843, 844, 845, 846, 847, 848, 850, 851, 852, 853, 854, 855] (by decide +kernel) (by decide +kernel)
set_option maxRecDepth 20000 in
theorem gL_law_X5_digest : GoodIn wsL_law (wsV RL 131 RX5 yX5_digest wsX5_digest) := goodIn_app (goodIn_of _ (by decide +kernel)) ggL_law_X5_digest
set_option maxRecDepth 20000 in
theorem ggL_law_X6_digest : GoodIn wsL_law wsX6_digest := goodIn_r _ [804, 805, 806, 79, 555, 83, 785, 786, 787, 5, 788, 164, 807, 808, 809, 810, 811, 820, 821, 822, 823, 824, 825, 826, 827, 828, 829, 830, 831, 832, 833, 834] (by decide +kernel) (by decide +kernel)
set_option maxRecDepth 20000 in
theorem gL_law_X6_digest : GoodIn wsL_law (wsV RL 135 RX6 yX6_digest wsX6_digest) := goodIn_app (goodIn_of _ (by decide +kernel)) ggL_law_X6_digest
