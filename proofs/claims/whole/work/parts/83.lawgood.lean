set_option maxRecDepth 20000 in
theorem ggL_law_X5_init : GoodIn wsL_law wsX5_init := goodIn_r _ [9, 10, 11, 12, 13, 14, 15, 16, 17, 18, 19, 20, 21, 22, 23, 24, 25, 26, 27, 28, 29, 30, 31, 32, 33, 34, 35, 36, 37, 38, 39, 40, 41, 42, 43, 44, 45, 46, 47, 48, 49, 50, 51, 52, 53, 54, 55, 56, 57, 58, 59, 60, 61, 62, 63, 64, 65, 66, 67, 68, 69, 70, 829, 830, 831, 832, 833, 834, 835, 794, 795, 796, 797, 798, 799, 800, 801, 836, 837, 838, 839, 840, 841, 842, 843, 844, 845, 846, 847, 848, 849] (by decide +kernel) (by decide +kernel)
set_option maxRecDepth 20000 in
theorem gL_law_X5_init : GoodIn wsL_law (wsX5_init) := ggL_law_X5_init
set_option maxRecDepth 20000 in
theorem ggL_law_X6_init : GoodIn wsL_law wsX6_init := goodIn_r _ [73, 74, 11, 12, 37, 75, 76, 77, 78, 79, 80, 81, 82, 83, 84, 85, 86, 87, 88, 89, 90, 91, 92, 93, 94, 95, 96, 97, 98, 99, 802, 803, 804, 805, 806, 807, 808, 809, 810, 811, 812, 813, 814, 815, 816, 817, 818, 819, 820, 821, 822, 823, 824, 825, 826, 827, 828] (by decide +kernel) (by decide +kernel)
set_option maxRecDepth 20000 in
theorem gL_law_X6_init : GoodIn wsL_law (wsX6_init) := ggL_law_X6_init
set_option maxRecDepth 20000 in
theorem ggL_law_X5_add : GoodIn wsL_law wsX5_add := goodIn_r _ [103, 16, 104, 105, 23, 106, 107, 108, 2, 109, 110, 111, 112, 113, 114, 115, 116, 117, 118, 119, 120, 121, 22, 122, 58, 59, 123, 124, 125, 126, 127, 128, 129, 130, 131, 35, 132, 133, 134, 135, 136, 51, 54, 137, 138, 139, 140, 50, 141, 53, 142, 143, 144, 145, 146, 147, 148, 149, 150, 151, 152, 153, 154, 155, 156, 157, 158, 52, 159, 160, 161, 162, 163, 164, 165, 166, 167, 168, 169, 170, 171, 172, 173, 174, 175, 15, 176, 40, 41, 177, 178, 179, 180, 181, 182, 794, 795, 796, 797, 798, 799, 800, 801, 829, 830, 831, 832, 833, 834, 835, 841, 842, 843, 844, 845, 836, 837] (by decide +kernel) (by decide +kernel)
set_option maxRecDepth 20000 in
theorem gL_law_X5_add : GoodIn wsL_law (wsV RL 13 RX5 yX5_add wsX5_add) := goodIn_app (goodIn_of _ (by decide +kernel)) ggL_law_X5_add
set_option maxRecDepth 20000 in
theorem ggL_law_X6_add : GoodIn wsL_law wsX6_add := goodIn_r _ [186, 75, 80, 78, 77, 79, 81, 82, 187, 188, 5, 189, 190, 191, 192, 193, 194, 195, 196, 197, 198, 199, 200, 201, 202, 203, 204, 205, 206, 207, 208, 209, 210, 211, 212, 213, 214, 165, 166, 167, 215, 216, 217, 218, 219, 220, 221, 222, 802, 803, 804, 805, 806, 807, 808, 809, 810, 811, 812, 813, 814, 815, 816, 817, 818, 819, 820, 821, 822, 823, 824, 825, 826, 827, 828] (by decide +kernel) (by decide +kernel)
set_option maxRecDepth 20000 in
theorem gL_law_X6_add : GoodIn wsL_law (wsV RL 17 RX6 yX6_add wsX6_add) := goodIn_app (goodIn_of _ (by decide +kernel)) ggL_law_X6_add
set_option maxRecDepth 20000 in
theorem ggL_law_X5_take : GoodIn wsL_law wsX5_take := goodIn_r _ [226, 23, 16, 104, 106, 107, 108, 2, 109, 110, 111, 112, 113, 114, 115, 119, 120, 121, 22, 122, 58, 59, 116, 117, 118, 129, 130, 131, 35, 132, 133, 134, 135, 136, 51, 54, 137, 138, 139, 140, 50, 141, 53, 142, 143, 144, 145, 146, 147, 173, 174, 175, 15, 176, 40, 41, 177, 178, 179, 180, 181, 182, 227, 228, 229, 230, 231, 232, 233, 234, 235, 236, 237, 238, 239, 240, 794, 795, 796, 797, 798, 799, 800, 801, 829, 830, 831, 832, 833, 834, 835, 836, 837, 841, 842, 843, 844, 845] (by decide +kernel) (by decide +kernel)
set_option maxRecDepth 20000 in
theorem gL_law_X5_take : GoodIn wsL_law (wsV RL 18 RX5 yX5_take wsX5_take) := goodIn_app (goodIn_of _ (by decide +kernel)) ggL_law_X5_take
set_option maxRecDepth 20000 in
theorem ggL_law_X6_take : GoodIn wsL_law wsX6_take := goodIn_r _ [244, 187, 188, 5, 189, 190, 191, 192, 193, 194, 195, 196, 197, 198, 199, 200, 201, 75, 79, 82, 77, 81, 202, 203, 204, 205, 206, 207, 208, 209, 215, 216, 217, 218, 219, 220, 221, 222, 802, 803, 804, 805, 806, 807, 808, 809, 810, 811, 812, 813, 814, 815, 816, 817, 818, 819, 820, 821, 822, 823, 824, 825, 826, 827, 828] (by decide +kernel) (by decide +kernel)
set_option maxRecDepth 20000 in
theorem gL_law_X6_take : GoodIn wsL_law (wsV RL 21 RX6 yX6_take wsX6_take) := goodIn_app (goodIn_of _ (by decide +kernel)) ggL_law_X6_take
set_option maxRecDepth 20000 in
theorem ggL_law_X5_reset : GoodIn wsL_law wsX5_reset := goodIn_r _ [248, 23, 16, 104, 106, 107, 108, 2, 109, 113, 114, 115, 119, 120, 121, 22, 122, 58, 59, 116, 117, 118, 149, 150, 151, 35, 152, 153, 154, 133, 134, 135, 136, 51, 54, 137, 138, 139, 140, 50, 141, 53, 142, 143, 144, 145, 146, 147, 173, 174, 175, 15, 176, 40, 41, 177, 178, 179, 180, 181, 182, 227, 228, 229, 230, 231, 232, 233, 234, 235, 236, 237, 238, 239, 240, 794, 795, 796, 797, 798, 799, 800, 801, 829, 830, 831, 832, 833, 834, 835, 836, 837, 841, 842, 843, 844, 845] (by decide +kernel) (by decide +kernel)
set_option maxRecDepth 20000 in
theorem gL_law_X5_reset : GoodIn wsL_law (wsV RL 22 RX5 yX5_reset wsX5_reset) := goodIn_app (goodIn_of _ (by decide +kernel)) ggL_law_X5_reset
set_option maxRecDepth 20000 in
theorem ggL_law_X6_reset : GoodIn wsL_law wsX6_reset := goodIn_r _ [252, 187, 188, 5, 189, 190, 191, 192, 193, 194, 195, 196, 197, 198, 199, 200, 201, 75, 79, 82, 77, 81, 202, 203, 204, 205, 206, 207, 208, 209, 215, 216, 217, 218, 219, 220, 221, 222, 802, 803, 804, 805, 806, 807, 808, 809, 810, 811, 812, 813, 814, 815, 816, 817, 818, 819, 820, 821, 822, 823, 824, 825, 826, 827, 828] (by decide +kernel) (by decide +kernel)
set_option maxRecDepth 20000 in
theorem gL_law_X6_reset : GoodIn wsL_law (wsV RL 26 RX6 yX6_reset wsX6_reset) := goodIn_app (goodIn_of _ (by decide +kernel)) ggL_law_X6_reset
set_option maxRecDepth 20000 in
theorem ggL_law_X5_kind : GoodIn wsL_law wsX5_kind := goodIn_r _ [256, 16, 127, 110, 111, 2, 112, 113, 114, 115, 257, 258, 259, 116, 117, 118, 794, 795, 796, 797, 798, 799, 800, 801, 829, 830, 831, 832, 833, 834, 835] (by decide +kernel) (by decide +kernel)
set_option maxRecDepth 20000 in
theorem gL_law_X5_kind : GoodIn wsL_law (wsV RL 27 RX5 yX5_kind wsX5_kind) := goodIn_app (goodIn_of _ (by decide +kernel)) ggL_law_X5_kind
set_option maxRecDepth 20000 in
theorem ggL_law_X6_kind : GoodIn wsL_law wsX6_kind := goodIn_r _ [263, 264, 80, 194, 195, 5, 196, 197, 190, 191, 192, 193, 802, 803, 804, 805, 806, 807, 808, 809, 810, 811, 812, 813, 814, 815, 816, 817, 818, 819, 820, 821, 822, 823, 824, 825, 826, 827, 828] (by decide +kernel) (by decide +kernel)
set_option maxRecDepth 20000 in
theorem gL_law_X6_kind : GoodIn wsL_law (wsV RL 31 RX6 yX6_kind wsX6_kind) := goodIn_app (goodIn_of _ (by decide +kernel)) ggL_law_X6_kind
set_option maxRecDepth 20000 in
theorem ggL_law_X5_taken : GoodIn wsL_law wsX5_taken := goodIn_r _ [268, 16, 127, 110, 111, 2, 112, 113, 114, 115, 257, 258, 259, 116, 117, 118, 269, 270, 271, 272, 794, 795, 796, 797, 798, 799, 800, 801, 829, 830, 831, 832, 833, 834, 835] (by decide +kernel) (by decide +kernel)
set_option maxRecDepth 20000 in
theorem gL_law_X5_taken : GoodIn wsL_law (wsV RL 32 RX5 yX5_taken wsX5_taken) := goodIn_app (goodIn_of _ (by decide +kernel)) ggL_law_X5_taken
set_option maxRecDepth 20000 in
theorem ggL_law_X6_taken : GoodIn wsL_law wsX6_taken := goodIn_r _ [276, 264, 80, 194, 195, 5, 196, 197, 190, 191, 192, 193, 802, 803, 804, 805, 806, 807, 808, 809, 810, 811, 812, 813, 814, 815, 816, 817, 818, 819, 820, 821, 822, 823, 824, 825, 826, 827, 828] (by decide +kernel) (by decide +kernel)
set_option maxRecDepth 20000 in
theorem gL_law_X6_taken : GoodIn wsL_law (wsV RL 35 RX6 yX6_taken wsX6_taken) := goodIn_app (goodIn_of _ (by decide +kernel)) ggL_law_X6_taken
set_option maxRecDepth 20000 in
theorem ggL_law_X5_worth : GoodIn wsL_law wsX5_worth := goodIn_r _ [280, 281, 16, 106, 107, 108, 2, 109, 110, 111, 112, 113, 114, 115, 116, 117, 118, 282, 283, 284, 15, 285, 36, 38, 286, 287, 288, 35, 289, 137, 138, 139, 140, 50, 141, 53, 54, 142, 143, 290, 291, 292, 293, 51, 294, 295, 296, 297, 52, 298, 299, 300, 301, 153, 164, 165, 166, 167, 302, 303, 304, 305, 306, 307, 128, 308, 794, 795, 796, 797, 798, 799, 800, 801, 829, 830, 831, 832, 833, 834, 835, 841, 842, 843, 844, 845, 836, 837] (by decide +kernel) (by decide +kernel)
set_option maxRecDepth 20000 in
theorem gL_law_X5_worth : GoodIn wsL_law (wsV RL 36 RX5 yX5_worth wsX5_worth) := goodIn_app (goodIn_of _ (by decide +kernel)) ggL_law_X5_worth
set_option maxRecDepth 20000 in
theorem ggL_law_X6_worth : GoodIn wsL_law wsX6_worth := goodIn_r _ [312, 187, 188, 5, 189, 190, 191, 192, 193, 194, 195, 196, 197, 313, 314, 315, 316, 80, 317, 318, 319, 320, 75, 82, 79, 77, 214, 165, 166, 167, 78, 321, 322, 323, 324, 325, 326, 327, 328, 329, 330, 331, 332, 333, 334, 335, 336, 802, 803, 804, 805, 806, 807, 808, 809, 810, 811, 812, 813, 814, 815, 816, 817, 818, 819, 820, 821, 822, 823, 824, 825, 826, 827, 828] (by decide +kernel) (by decide +kernel)
set_option maxRecDepth 20000 in
theorem gL_law_X6_worth : GoodIn wsL_law (wsV RL 40 RX6 yX6_worth wsX6_worth) := goodIn_app (goodIn_of _ (by decide +kernel)) ggL_law_X6_worth
set_option maxRecDepth 20000 in
theorem ggL_law_X5_told : GoodIn wsL_law wsX5_told := goodIn_r _ [340, 16, 106, 341, 342, 107, 108, 2, 109, 343, 344, 345, 15, 346, 40, 347, 348, 349, 350, 351, 42, 181, 182, 352, 353, 354, 355, 356, 357, 358, 794, 795, 796, 797, 798, 799, 800, 801, 829, 830, 831, 832, 833, 834, 835, 836, 837] (by decide +kernel) (by decide +kernel)
set_option maxRecDepth 20000 in
theorem gL_law_X5_told : GoodIn wsL_law (wsV RL 41 RX5 yX5_told wsX5_told) := goodIn_app (goodIn_of _ (by decide +kernel)) ggL_law_X5_told
set_option maxRecDepth 20000 in
theorem ggL_law_X6_told : GoodIn wsL_law wsX6_told := goodIn_r _ [362, 190, 363, 364, 81, 83, 82, 187, 188, 5, 189, 191, 192, 193, 365, 366, 367, 368, 369, 370, 371, 372, 802, 803, 804, 805, 806, 807, 808, 809, 810, 811, 812, 813, 814, 815, 816, 817, 818, 819, 820, 821, 822, 823, 824, 825, 826, 827, 828] (by decide +kernel) (by decide +kernel)
set_option maxRecDepth 20000 in
theorem gL_law_X6_told : GoodIn wsL_law (wsV RL 44 RX6 yX6_told wsX6_told) := goodIn_app (goodIn_of _ (by decide +kernel)) ggL_law_X6_told
set_option maxRecDepth 20000 in
theorem ggL_law_X5_dot : GoodIn wsL_law wsX5_dot := goodIn_r _ [376, 16, 104, 105, 377, 378, 379, 107, 108, 2, 109, 380, 142, 143, 794, 795, 796, 797, 798, 799, 800, 801, 829, 830, 831, 832, 833, 834, 835, 841, 842, 843, 844, 845] (by decide +kernel) (by decide +kernel)
set_option maxRecDepth 20000 in
theorem gL_law_X5_dot : GoodIn wsL_law (wsV RL 45 RX5 yX5_dot wsX5_dot) := goodIn_app (goodIn_of _ (by decide +kernel)) ggL_law_X5_dot
set_option maxRecDepth 20000 in
theorem ggL_law_X6_dot : GoodIn wsL_law wsX6_dot := goodIn_r _ [384, 197, 75, 79, 77, 78, 191, 192, 5, 193, 187, 188, 189, 190, 802, 803, 804, 805, 806, 807, 808, 809, 810, 811, 812, 813, 814, 815, 816, 817, 818, 819, 820, 821, 822, 823, 824, 825, 826, 827, 828] (by decide +kernel) (by decide +kernel)
set_option maxRecDepth 20000 in
theorem gL_law_X6_dot : GoodIn wsL_law (wsV RL 48 RX6 yX6_dot wsX6_dot) := goodIn_app (goodIn_of _ (by decide +kernel)) ggL_law_X6_dot
set_option maxRecDepth 20000 in
theorem ggL_law_X5_has : GoodIn wsL_law wsX5_has := goodIn_r _ [388, 23, 16, 104, 106, 107, 108, 2, 109, 110, 111, 112, 113, 114, 115, 119, 120, 121, 22, 122, 58, 59, 116, 117, 118, 129, 130, 131, 35, 132, 133, 134, 135, 136, 51, 54, 137, 138, 139, 140, 50, 141, 53, 142, 143, 144, 145, 146, 147, 227, 228, 229, 230, 231, 232, 233, 234, 235, 236, 237, 238, 239, 240, 794, 795, 796, 797, 798, 799, 800, 801, 829, 830, 831, 832, 833, 834, 835, 836, 837, 841, 842, 843, 844, 845] (by decide +kernel) (by decide +kernel)
set_option maxRecDepth 20000 in
theorem gL_law_X5_has : GoodIn wsL_law (wsV RL 49 RX5 yX5_has wsX5_has) := goodIn_app (goodIn_of _ (by decide +kernel)) ggL_law_X5_has
set_option maxRecDepth 20000 in
theorem ggL_law_X6_has : GoodIn wsL_law wsX6_has := goodIn_r _ [392, 187, 188, 5, 189, 190, 191, 192, 193, 194, 195, 196, 197, 198, 199, 200, 201, 75, 79, 82, 77, 81, 202, 203, 204, 205, 206, 207, 208, 209, 802, 803, 804, 805, 806, 807, 808, 809, 810, 811, 812, 813, 814, 815, 816, 817, 818, 819, 820, 821, 822, 823, 824, 825, 826, 827, 828] (by decide +kernel) (by decide +kernel)
set_option maxRecDepth 20000 in
theorem gL_law_X6_has : GoodIn wsL_law (wsV RL 52 RX6 yX6_has wsX6_has) := goodIn_app (goodIn_of _ (by decide +kernel)) ggL_law_X6_has
set_option maxRecDepth 20000 in
theorem ggL_law_X5_send : GoodIn wsL_law wsX5_send := goodIn_r _ [396, 16, 397, 398, 106, 107, 108, 2, 109, 399, 181, 182, 400, 401, 402, 15, 403, 44, 404, 40, 347, 405, 406, 407, 46, 408, 409, 410, 64, 65, 411, 412, 413, 414, 415, 416, 417, 22, 418, 58, 59, 119, 120, 121, 122, 794, 795, 796, 797, 798, 799, 800, 801, 829, 830, 831, 832, 833, 834, 835, 836, 837, 846, 847, 848, 849] (by decide +kernel) (by decide +kernel)
set_option maxRecDepth 20000 in
theorem gL_law_X5_send : GoodIn wsL_law (wsV RL 53 RX5 yX5_send wsX5_send) := goodIn_app (goodIn_of _ (by decide +kernel)) ggL_law_X5_send
set_option maxRecDepth 20000 in
theorem ggL_law_X6_send : GoodIn wsL_law wsX6_send := goodIn_r _ [422, 423, 84, 85, 81, 86, 424, 412, 413, 414, 187, 188, 5, 189, 190, 191, 192, 193, 425, 426, 427, 428, 82, 202, 203, 204, 205, 802, 803, 804, 805, 806, 807, 808, 809, 810, 811, 812, 813, 814, 815, 816, 817, 818, 819, 820, 821, 822, 823, 824, 825, 826, 827, 828] (by decide +kernel) (by decide +kernel)
set_option maxRecDepth 20000 in
theorem gL_law_X6_send : GoodIn wsL_law (wsV RL 56 RX6 yX6_send wsX6_send) := goodIn_app (goodIn_of _ (by decide +kernel)) ggL_law_X6_send
set_option maxRecDepth 20000 in
theorem ggL_law_X5_come : GoodIn wsL_law wsX5_come := goodIn_r _ [432, 16, 433, 106, 434, 435, 436, 437, 438, 2, 439, 397, 227, 228, 229, 22, 230, 58, 231, 232, 233, 234, 235, 236, 237, 238, 239, 240, 440, 178, 179, 180, 59, 441, 442, 443, 15, 444, 445, 446, 42, 447, 181, 182, 448, 449, 450, 451, 44, 404, 794, 795, 796, 797, 798, 799, 800, 801, 829, 830, 831, 832, 833, 834, 835, 846, 847, 848, 849, 836, 837] (by decide +kernel) (by decide +kernel)
set_option maxRecDepth 20000 in
theorem gL_law_X5_come : GoodIn wsL_law (wsV RL 57 RX5 yX5_come wsX5_come) := goodIn_app (goodIn_of _ (by decide +kernel)) ggL_law_X5_come
set_option maxRecDepth 20000 in
theorem ggL_law_X6_come : GoodIn wsL_law wsX6_come := goodIn_r _ [455, 85, 81, 83, 84, 86, 456, 457, 458, 5, 459, 423, 191, 192, 193, 460, 461, 462, 463, 464, 235, 236, 237, 238, 239, 240, 219, 220, 221, 222, 82, 465, 466, 467, 468, 469, 470, 471, 472, 424, 412, 413, 414, 425, 426, 427, 428, 802, 803, 804, 805, 806, 807, 808, 809, 810, 811, 812, 813, 814, 815, 816, 817, 818, 819, 820, 821, 822, 823, 824, 825, 826, 827, 828] (by decide +kernel) (by decide +kernel)
set_option maxRecDepth 20000 in
theorem gL_law_X6_come : GoodIn wsL_law (wsV RL 61 RX6 yX6_come wsX6_come) := goodIn_app (goodIn_of _ (by decide +kernel)) ggL_law_X6_come
set_option maxRecDepth 20000 in
theorem ggL_law_X5_lose : GoodIn wsL_law wsX5_lose := goodIn_r _ [476, 16, 436, 437, 438, 2, 439, 397, 448, 449, 450, 15, 451, 44, 404, 794, 795, 796, 797, 798, 799, 800, 801, 829, 830, 831, 832, 833, 834, 835] (by decide +kernel) (by decide +kernel)
set_option maxRecDepth 20000 in
theorem gL_law_X5_lose : GoodIn wsL_law (wsV RL 62 RX5 yX5_lose wsX5_lose) := goodIn_app (goodIn_of _ (by decide +kernel)) ggL_law_X5_lose
set_option maxRecDepth 20000 in
theorem ggL_law_X6_lose : GoodIn wsL_law wsX6_lose := goodIn_r _ [480, 456, 457, 458, 5, 459, 423, 191, 192, 193, 465, 466, 467, 468, 469, 470, 471, 472, 84, 85, 86, 424, 412, 413, 414, 425, 426, 427, 428, 81, 82, 802, 803, 804, 805, 806, 807, 808, 809, 810, 811, 812, 813, 814, 815, 816, 817, 818, 819, 820, 821, 822, 823, 824, 825, 826, 827, 828] (by decide +kernel) (by decide +kernel)
set_option maxRecDepth 20000 in
theorem gL_law_X6_lose : GoodIn wsL_law (wsV RL 65 RX6 yX6_lose wsX6_lose) := goodIn_app (goodIn_of _ (by decide +kernel)) ggL_law_X6_lose
set_option maxRecDepth 20000 in
theorem ggL_law_X5_twice : GoodIn wsL_law wsX5_twice := goodIn_r _ [484, 16, 397, 433, 436, 437, 438, 2, 439, 485, 486, 487, 46, 488, 409, 410, 64, 65, 489, 406, 407, 408, 411, 412, 413, 414, 415, 416, 417, 22, 418, 58, 59, 794, 795, 796, 797, 798, 799, 800, 801, 829, 830, 831, 832, 833, 834, 835, 846, 847, 848, 849, 836, 837] (by decide +kernel) (by decide +kernel)
set_option maxRecDepth 20000 in
theorem gL_law_X5_twice : GoodIn wsL_law (wsV RL 66 RX5 yX5_twice wsX5_twice) := goodIn_app (goodIn_of _ (by decide +kernel)) ggL_law_X5_twice
set_option maxRecDepth 20000 in
theorem ggL_law_X6_twice : GoodIn wsL_law wsX6_twice := goodIn_r _ [493, 423, 456, 457, 458, 5, 459, 191, 192, 193, 469, 470, 471, 472, 84, 85, 86, 424, 412, 413, 414, 425, 426, 427, 428, 81, 82, 802, 803, 804, 805, 806, 807, 808, 809, 810, 811, 812, 813, 814, 815, 816, 817, 818, 819, 820, 821, 822, 823, 824, 825, 826, 827, 828] (by decide +kernel) (by decide +kernel)
set_option maxRecDepth 20000 in
theorem gL_law_X6_twice : GoodIn wsL_law (wsV RL 69 RX6 yX6_twice wsX6_twice) := goodIn_app (goodIn_of _ (by decide +kernel)) ggL_law_X6_twice
set_option maxRecDepth 20000 in
theorem ggL_law_X5_letter : GoodIn wsL_law wsX5_letter := goodIn_r _ [497, 16, 433, 498, 434, 435, 436, 437, 438, 2, 439, 397, 227, 228, 229, 22, 230, 58, 231, 232, 233, 234, 235, 236, 237, 238, 239, 240, 499, 500, 501, 502, 59, 794, 795, 796, 797, 798, 799, 800, 801, 829, 830, 831, 832, 833, 834, 835, 846, 847, 848, 849, 836, 837] (by decide +kernel) (by decide +kernel)
set_option maxRecDepth 20000 in
theorem gL_law_X5_letter : GoodIn wsL_law (wsV RL 70 RX5 yX5_letter wsX5_letter) := goodIn_app (goodIn_of _ (by decide +kernel)) ggL_law_X5_letter
set_option maxRecDepth 20000 in
theorem ggL_law_X6_letter : GoodIn wsL_law wsX6_letter := goodIn_r _ [506, 190, 84, 85, 81, 82, 456, 457, 458, 5, 459, 423, 191, 192, 193, 460, 461, 462, 463, 464, 235, 236, 237, 238, 239, 240, 802, 803, 804, 805, 806, 807, 808, 809, 810, 811, 812, 813, 814, 815, 816, 817, 818, 819, 820, 821, 822, 823, 824, 825, 826, 827, 828] (by decide +kernel) (by decide +kernel)
set_option maxRecDepth 20000 in
theorem gL_law_X6_letter : GoodIn wsL_law (wsV RL 73 RX6 yX6_letter wsX6_letter) := goodIn_app (goodIn_of _ (by decide +kernel)) ggL_law_X6_letter
set_option maxRecDepth 20000 in
theorem ggL_law_X5_met : GoodIn wsL_law wsX5_met := goodIn_r _ [510, 281, 16, 106, 24, 110, 111, 2, 112, 113, 114, 115, 511, 512, 513, 514, 119, 120, 121, 22, 122, 58, 59, 440, 178, 179, 180, 116, 117, 118, 282, 283, 284, 15, 285, 36, 38, 286, 287, 288, 35, 289, 137, 138, 139, 140, 50, 141, 53, 54, 142, 143, 290, 291, 292, 293, 51, 294, 295, 296, 297, 52, 298, 299, 300, 301, 153, 164, 165, 166, 167, 302, 303, 304, 305, 306, 307, 128, 308, 794, 795, 796, 797, 798, 799, 800, 801, 829, 830, 831, 832, 833, 834, 835, 836, 837, 841, 842, 843, 844, 845] (by decide +kernel) (by decide +kernel)
set_option maxRecDepth 20000 in
theorem gL_law_X5_met : GoodIn wsL_law (wsV RL 74 RX5 yX5_met wsX5_met) := goodIn_app (goodIn_of _ (by decide +kernel)) ggL_law_X5_met
set_option maxRecDepth 20000 in
theorem ggL_law_X6_met : GoodIn wsL_law wsX6_met := goodIn_r _ [518, 194, 195, 5, 196, 197, 190, 191, 192, 193, 333, 334, 335, 336, 519, 520, 521, 522, 425, 426, 427, 428, 81, 424, 412, 413, 414, 82, 219, 220, 221, 222, 313, 314, 315, 316, 80, 317, 318, 319, 320, 75, 79, 77, 214, 165, 166, 167, 78, 321, 322, 323, 324, 325, 326, 327, 328, 329, 330, 331, 332, 802, 803, 804, 805, 806, 807, 808, 809, 810, 811, 812, 813, 814, 815, 816, 817, 818, 819, 820, 821, 822, 823, 824, 825, 826, 827, 828] (by decide +kernel) (by decide +kernel)
set_option maxRecDepth 20000 in
theorem gL_law_X6_met : GoodIn wsL_law (wsV RL 78 RX6 yX6_met wsX6_met) := goodIn_app (goodIn_of _ (by decide +kernel)) ggL_law_X6_met
set_option maxRecDepth 20000 in
theorem ggL_law_X5_apart : GoodIn wsL_law wsX5_apart := goodIn_r _ [526, 16, 106, 341, 342, 107, 108, 2, 109, 527, 528, 529, 530, 25, 531, 416, 417, 22, 418, 58, 59, 440, 178, 179, 180, 532, 533, 534, 535, 536, 537, 538, 235, 236, 237, 238, 239, 240, 539, 794, 795, 796, 797, 798, 799, 800, 801, 829, 830, 831, 832, 833, 834, 835, 836, 837] (by decide +kernel) (by decide +kernel)
set_option maxRecDepth 20000 in
theorem gL_law_X5_apart : GoodIn wsL_law (wsV RL 79 RX5 yX5_apart wsX5_apart) := goodIn_app (goodIn_of _ (by decide +kernel)) ggL_law_X5_apart
set_option maxRecDepth 20000 in
theorem ggL_law_X6_apart : GoodIn wsL_law wsX6_apart := goodIn_r _ [543, 190, 81, 82, 187, 188, 5, 189, 191, 192, 193, 544, 545, 546, 547, 425, 426, 427, 428, 424, 412, 413, 414, 219, 220, 221, 222, 548, 549, 550, 551, 552, 553, 554, 555, 464, 235, 236, 237, 238, 239, 240, 802, 803, 804, 805, 806, 807, 808, 809, 810, 811, 812, 813, 814, 815, 816, 817, 818, 819, 820, 821, 822, 823, 824, 825, 826, 827, 828] (by decide +kernel) (by decide +kernel)
set_option maxRecDepth 20000 in
theorem gL_law_X6_apart : GoodIn wsL_law (wsV RL 82 RX6 yX6_apart wsX6_apart) := goodIn_app (goodIn_of _ (by decide +kernel)) ggL_law_X6_apart
set_option maxRecDepth 20000 in
theorem ggL_law_X5_needs : GoodIn wsL_law wsX5_needs := goodIn_r _ [559, 107, 108, 2, 109, 110, 111, 112, 113, 114, 115, 116, 117, 118, 560, 561, 562, 563, 16, 25, 564, 565, 566, 567, 397, 433, 434, 538, 235, 236, 237, 238, 239, 240, 568, 569, 570, 571, 106, 435, 531, 416, 417, 22, 418, 58, 59, 440, 178, 179, 180, 282, 283, 284, 15, 285, 36, 38, 286, 287, 288, 35, 289, 137, 138, 139, 140, 50, 141, 53, 54, 142, 143, 290, 291, 292, 293, 51, 294, 295, 296, 297, 52, 298, 299, 300, 301, 153, 164, 165, 166, 167, 302, 303, 304, 305, 306, 307, 128, 308, 794, 795, 796, 797, 798, 799, 800, 801, 829, 830, 831, 832, 833, 834, 835, 846, 847, 848, 849, 836, 837, 841, 842, 843, 844, 845] (by decide +kernel) (by decide +kernel)
set_option maxRecDepth 20000 in
theorem gL_law_X5_needs : GoodIn wsL_law (wsV RL 85 RX5 yX5_needs wsX5_needs) := goodIn_app (goodIn_of _ (by decide +kernel)) ggL_law_X5_needs
set_option maxRecDepth 20000 in
theorem ggL_law_X6_needs : GoodIn wsL_law wsX6_needs := goodIn_r _ [575, 423, 85, 187, 188, 5, 189, 190, 191, 192, 193, 194, 195, 196, 197, 464, 235, 236, 237, 238, 239, 240, 576, 577, 578, 579, 425, 426, 427, 428, 81, 424, 412, 413, 414, 82, 219, 220, 221, 222, 313, 314, 315, 316, 80, 317, 318, 319, 320, 75, 79, 77, 214, 165, 166, 167, 78, 321, 322, 323, 324, 325, 326, 327, 328, 329, 330, 331, 332, 802, 803, 804, 805, 806, 807, 808, 809, 810, 811, 812, 813, 814, 815, 816, 817, 818, 819, 820, 821, 822, 823, 824, 825, 826, 827, 828] (by decide +kernel) (by decide +kernel)
set_option maxRecDepth 20000 in
theorem gL_law_X6_needs : GoodIn wsL_law (wsV RL 89 RX6 yX6_needs wsX6_needs) := goodIn_app (goodIn_of _ (by decide +kernel)) ggL_law_X6_needs
set_option maxRecDepth 20000 in
theorem ggL_law_X5_drawn : GoodIn wsL_law wsX5_drawn := goodIn_r _ [583, 584, 585, 586, 2, 587, 26, 16, 106, 531, 416, 417, 22, 418, 58, 59, 588, 589, 590, 591, 592, 593, 594, 440, 178, 179, 180, 595, 596, 597, 598, 24, 511, 512, 513, 514, 119, 120, 121, 122, 532, 533, 534, 535, 536, 537, 538, 235, 236, 237, 238, 239, 240, 794, 795, 796, 797, 798, 799, 800, 801, 829, 830, 831, 832, 833, 834, 835, 836, 837] (by decide +kernel) (by decide +kernel)
set_option maxRecDepth 20000 in
theorem gL_law_X5_drawn : GoodIn wsL_law (wsV RL 90 RX5 yX5_drawn wsX5_drawn) := goodIn_app (goodIn_of _ (by decide +kernel)) ggL_law_X5_drawn
set_option maxRecDepth 20000 in
theorem ggL_law_X6_drawn : GoodIn wsL_law wsX6_drawn := goodIn_r _ [602, 603, 191, 192, 5, 193, 604, 605, 606, 607, 608, 519, 520, 521, 522, 425, 426, 427, 428, 81, 424, 412, 413, 414, 82, 219, 220, 221, 222, 609, 610, 611, 612, 548, 549, 550, 551, 802, 803, 804, 805, 806, 807, 808, 809, 810, 811, 812, 813, 814, 815, 816, 817, 818, 819, 820, 821, 822, 823, 824, 825, 826, 827, 828] (by decide +kernel) (by decide +kernel)
set_option maxRecDepth 20000 in
theorem gL_law_X6_drawn : GoodIn wsL_law (wsV RL 93 RX6 yX6_drawn wsX6_drawn) := goodIn_app (goodIn_of _ (by decide +kernel)) ggL_law_X6_drawn
set_option maxRecDepth 20000 in
theorem ggL_law_X5_chance : GoodIn wsL_law wsX5_chance := goodIn_r _ [616, 584, 585, 586, 2, 587, 26, 16, 106, 531, 416, 417, 22, 418, 58, 59, 588, 589, 590, 591, 592, 593, 594, 440, 178, 179, 180, 595, 596, 597, 598, 24, 511, 512, 513, 514, 119, 120, 121, 122, 532, 533, 534, 535, 536, 537, 538, 235, 236, 237, 238, 239, 240, 617, 618, 619, 794, 795, 796, 797, 798, 799, 800, 801, 829, 830, 831, 832, 833, 834, 835, 836, 837] (by decide +kernel) (by decide +kernel)
set_option maxRecDepth 20000 in
theorem gL_law_X5_chance : GoodIn wsL_law (wsV RL 94 RX5 yX5_chance wsX5_chance) := goodIn_app (goodIn_of _ (by decide +kernel)) ggL_law_X5_chance
set_option maxRecDepth 20000 in
theorem ggL_law_X6_chance : GoodIn wsL_law wsX6_chance := goodIn_r _ [623, 624, 191, 192, 5, 193, 604, 605, 606, 607, 608, 519, 520, 521, 522, 425, 426, 427, 428, 81, 424, 412, 413, 414, 82, 219, 220, 221, 222, 609, 610, 611, 612, 548, 549, 550, 551, 625, 626, 627, 802, 803, 804, 805, 806, 807, 808, 809, 810, 811, 812, 813, 814, 815, 816, 817, 818, 819, 820, 821, 822, 823, 824, 825, 826, 827, 828] (by decide +kernel) (by decide +kernel)
set_option maxRecDepth 20000 in
theorem gL_law_X6_chance : GoodIn wsL_law (wsV RL 97 RX6 yX6_chance wsX6_chance) := goodIn_app (goodIn_of _ (by decide +kernel)) ggL_law_X6_chance
set_option maxRecDepth 20000 in
theorem ggL_law_X5_tells : GoodIn wsL_law wsX5_tells := goodIn_r _ [631, 19, 632, 16, 106, 633, 634, 2, 635, 107, 108, 109, 113, 114, 115, 636, 637, 638, 28, 639, 69, 640, 641, 642, 643, 127, 116, 117, 118, 644, 645, 646, 647, 648, 104, 649, 287, 288, 35, 289, 137, 138, 139, 140, 50, 141, 53, 54, 142, 143, 290, 291, 292, 293, 51, 294, 295, 296, 297, 52, 298, 299, 300, 301, 153, 164, 165, 166, 167, 302, 303, 304, 305, 306, 307, 128, 308, 650, 651, 652, 653, 654, 655, 656, 657, 658, 659, 660, 661, 397, 25, 564, 565, 566, 567, 433, 434, 568, 569, 570, 571, 435, 531, 416, 417, 22, 418, 58, 59, 440, 178, 179, 180, 794, 795, 796, 797, 798, 799, 800, 801, 838, 839, 840, 829, 830, 831, 832, 833, 834, 835, 841, 842, 843, 844, 845, 836, 837, 846, 847, 848, 849] (by decide +kernel) (by decide +kernel)
set_option maxRecDepth 20000 in
theorem gL_law_X5_tells : GoodIn wsL_law (wsV RL 98 RX5 yX5_tells wsX5_tells) := goodIn_app (goodIn_of _ (by decide +kernel)) ggL_law_X5_tells
set_option maxRecDepth 20000 in
theorem ggL_law_X6_tells : GoodIn wsL_law wsX6_tells := goodIn_r _ [665, 190, 96, 97, 423, 85, 666, 667, 5, 668, 191, 192, 193, 187, 188, 189, 194, 195, 196, 197, 669, 670, 671, 672, 98, 313, 314, 315, 316, 80, 317, 318, 319, 320, 75, 82, 79, 77, 214, 165, 166, 167, 78, 321, 322, 323, 324, 325, 326, 327, 328, 329, 330, 331, 332, 673, 674, 675, 676, 425, 426, 427, 428, 81, 424, 412, 413, 414, 219, 220, 221, 222, 802, 803, 804, 805, 806, 807, 808, 809, 810, 811, 812, 813, 814, 815, 816, 817, 818, 819, 820, 821, 822, 823, 824, 825, 826, 827, 828] (by decide +kernel) (by decide +kernel)
set_option maxRecDepth 20000 in
theorem gL_law_X6_tells : GoodIn wsL_law (wsV RL 101 RX6 yX6_tells wsX6_tells) := goodIn_app (goodIn_of _ (by decide +kernel)) ggL_law_X6_tells
set_option maxRecDepth 20000 in
theorem ggL_law_X5_film : GoodIn wsL_law wsX5_film := goodIn_r _ [680, 19, 648, 16, 106, 633, 634, 2, 635, 107, 108, 109, 113, 114, 115, 681, 682, 683, 28, 684, 69, 685, 70, 116, 117, 118, 282, 283, 284, 15, 285, 36, 38, 286, 287, 288, 35, 289, 137, 138, 139, 140, 50, 141, 53, 54, 142, 143, 290, 291, 292, 293, 51, 294, 295, 296, 297, 52, 298, 299, 300, 301, 153, 164, 165, 166, 167, 302, 303, 304, 305, 306, 307, 128, 308, 794, 795, 796, 797, 798, 799, 800, 801, 838, 839, 840, 829, 830, 831, 832, 833, 834, 835, 841, 842, 843, 844, 845, 836, 837] (by decide +kernel) (by decide +kernel)
set_option maxRecDepth 20000 in
theorem gL_law_X5_film : GoodIn wsL_law (wsV RL 102 RX5 yX5_film wsX5_film) := goodIn_app (goodIn_of _ (by decide +kernel)) ggL_law_X5_film
set_option maxRecDepth 20000 in
theorem ggL_law_X6_film : GoodIn wsL_law wsX6_film := goodIn_r _ [689, 690, 96, 97, 98, 666, 667, 5, 668, 190, 191, 192, 193, 187, 188, 189, 194, 195, 196, 197, 313, 314, 315, 316, 80, 317, 318, 319, 320, 75, 82, 79, 77, 214, 165, 166, 167, 78, 321, 322, 323, 324, 325, 326, 327, 328, 329, 330, 331, 332, 802, 803, 804, 805, 806, 807, 808, 809, 810, 811, 812, 813, 814, 815, 816, 817, 818, 819, 820, 821, 822, 823, 824, 825, 826, 827, 828] (by decide +kernel) (by decide +kernel)
set_option maxRecDepth 20000 in
theorem gL_law_X6_film : GoodIn wsL_law (wsV RL 105 RX6 yX6_film wsX6_film) := goodIn_app (goodIn_of _ (by decide +kernel)) ggL_law_X6_film
set_option maxRecDepth 20000 in
theorem ggL_law_X5_image : GoodIn wsL_law wsX5_image := goodIn_r _ [694, 17, 16, 695, 397, 696, 697, 698, 15, 699, 36, 38, 700, 412, 413, 414, 42, 40, 41, 44, 404, 701, 702, 703, 35, 704, 50, 705, 51, 52, 53, 706, 416, 417, 22, 418, 58, 59, 707, 486, 487, 46, 488, 409, 410, 64, 65, 489, 406, 407, 408, 411, 415, 794, 795, 796, 797, 798, 799, 800, 801, 829, 830, 831, 832, 833, 834, 835, 841, 842, 843, 844, 845, 836, 837, 846, 847, 848, 849] (by decide +kernel) (by decide +kernel)
set_option maxRecDepth 20000 in
theorem gL_law_X5_image : GoodIn wsL_law (wsV RL 106 RX5 yX5_image wsX5_image) := goodIn_app (goodIn_of _ (by decide +kernel)) ggL_law_X5_image
set_option maxRecDepth 20000 in
theorem ggL_law_X6_image : GoodIn wsL_law wsX6_image := goodIn_r _ [711, 712, 423, 713, 75, 87, 424, 412, 413, 414, 80, 88, 84, 89, 85, 90, 77, 91, 78, 79, 81, 92, 82, 93, 83, 94, 86, 95, 714, 715, 5, 716, 802, 803, 804, 805, 806, 807, 808, 809, 810, 811, 812, 813, 814, 815, 816, 817, 818, 819, 820, 821, 822, 823, 824, 825, 826, 827, 828] (by decide +kernel) (by decide +kernel)
set_option maxRecDepth 20000 in
theorem gL_law_X6_image : GoodIn wsL_law (wsV RL 110 RX6 yX6_image wsX6_image) := goodIn_app (goodIn_of _ (by decide +kernel)) ggL_law_X6_image
set_option maxRecDepth 20000 in
theorem ggL_law_X5_back : GoodIn wsL_law wsX5_back := goodIn_r _ [720, 695, 16, 17, 397, 696, 697, 698, 15, 699, 36, 38, 700, 412, 413, 414, 42, 40, 41, 44, 404, 701, 702, 703, 35, 704, 50, 705, 51, 52, 53, 706, 416, 417, 22, 418, 58, 59, 707, 486, 487, 46, 488, 409, 410, 64, 65, 489, 406, 407, 408, 411, 415, 794, 795, 796, 797, 798, 799, 800, 801, 829, 830, 831, 832, 833, 834, 835, 841, 842, 843, 844, 845, 836, 837, 846, 847, 848, 849] (by decide +kernel) (by decide +kernel)
set_option maxRecDepth 20000 in
theorem gL_law_X5_back : GoodIn wsL_law (wsV RL 111 RX5 yX5_back wsX5_back) := goodIn_app (goodIn_of _ (by decide +kernel)) ggL_law_X5_back
set_option maxRecDepth 20000 in
theorem ggL_law_X6_back : GoodIn wsL_law wsX6_back := goodIn_r _ [724, 712, 713, 423, 87, 75, 424, 412, 413, 414, 88, 80, 89, 84, 90, 85, 91, 77, 78, 79, 92, 81, 93, 82, 94, 83, 95, 86, 714, 715, 5, 716, 802, 803, 804, 805, 806, 807, 808, 809, 810, 811, 812, 813, 814, 815, 816, 817, 818, 819, 820, 821, 822, 823, 824, 825, 826, 827, 828] (by decide +kernel) (by decide +kernel)
set_option maxRecDepth 20000 in
theorem gL_law_X6_back : GoodIn wsL_law (wsV RL 114 RX6 yX6_back wsX6_back) := goodIn_app (goodIn_of _ (by decide +kernel)) ggL_law_X6_back
set_option maxRecDepth 20000 in
theorem ggL_law_X5_count : GoodIn wsL_law wsX5_count := goodIn_r _ [728, 16, 104, 397, 106, 24, 729, 730, 731, 35, 732, 50, 595, 596, 597, 2, 598, 511, 512, 513, 514, 119, 120, 121, 22, 122, 58, 59, 440, 178, 179, 180, 532, 533, 534, 535, 536, 537, 538, 235, 236, 237, 238, 239, 240, 499, 500, 501, 502, 231, 232, 233, 234, 733, 734, 735, 15, 736, 737, 353, 354, 355, 40, 347, 356, 357, 344, 345, 346, 348, 349, 350, 351, 42, 181, 182, 738, 794, 795, 796, 797, 798, 799, 800, 801, 829, 830, 831, 832, 833, 834, 835, 841, 842, 843, 844, 845, 836, 837] (by decide +kernel) (by decide +kernel)
set_option maxRecDepth 20000 in
theorem gL_law_X5_count : GoodIn wsL_law (wsV RL 115 RX5 yX5_count wsX5_count) := goodIn_app (goodIn_of _ (by decide +kernel)) ggL_law_X5_count
set_option maxRecDepth 20000 in
theorem ggL_law_X6_count : GoodIn wsL_law wsX6_count := goodIn_r _ [742, 75, 423, 82, 519, 520, 521, 5, 522, 425, 426, 427, 428, 81, 424, 412, 413, 414, 219, 220, 221, 222, 609, 610, 611, 612, 548, 549, 550, 551, 460, 461, 462, 463, 464, 235, 236, 237, 238, 239, 240, 369, 370, 371, 372, 365, 366, 367, 368, 83, 802, 803, 804, 805, 806, 807, 808, 809, 810, 811, 812, 813, 814, 815, 816, 817, 818, 819, 820, 821, 822, 823, 824, 825, 826, 827, 828] (by decide +kernel) (by decide +kernel)
set_option maxRecDepth 20000 in
theorem gL_law_X6_count : GoodIn wsL_law (wsV RL 118 RX6 yX6_count wsX6_count) := goodIn_app (goodIn_of _ (by decide +kernel)) ggL_law_X6_count
set_option maxRecDepth 20000 in
theorem ggL_law_X5_sheet : GoodIn wsL_law wsX5_sheet := goodIn_r _ [746, 19, 633, 634, 2, 635, 681, 682, 683, 28, 684, 69, 685, 70, 794, 795, 796, 797, 798, 799, 800, 801, 838, 839, 840] (by decide +kernel) (by decide +kernel)
set_option maxRecDepth 20000 in
theorem gL_law_X5_sheet : GoodIn wsL_law (wsV RL 119 RX5 yX5_sheet wsX5_sheet) := goodIn_app (goodIn_of _ (by decide +kernel)) ggL_law_X5_sheet
set_option maxRecDepth 20000 in
theorem ggL_law_X6_sheet : GoodIn wsL_law wsX6_sheet := goodIn_r _ [750, 751, 96, 97, 98, 666, 667, 5, 668, 190, 191, 192, 193, 802, 803, 804, 805, 806, 807, 808, 809, 810, 811, 812, 813, 814, 815, 816, 817, 818, 819, 820, 821, 822, 823, 824, 825, 826, 827, 828] (by decide +kernel) (by decide +kernel)
set_option maxRecDepth 20000 in
theorem gL_law_X6_sheet : GoodIn wsL_law (wsV RL 122 RX6 yX6_sheet wsX6_sheet) := goodIn_app (goodIn_of _ (by decide +kernel)) ggL_law_X6_sheet
set_option maxRecDepth 20000 in
theorem ggL_law_X5_put : GoodIn wsL_law wsX5_put := goodIn_r _ [755, 19, 648, 756, 757, 758, 759, 760, 2, 761, 632, 633, 634, 635, 636, 637, 638, 28, 639, 69, 762, 306, 307, 128, 308, 794, 795, 796, 797, 798, 799, 800, 801, 838, 839, 840] (by decide +kernel) (by decide +kernel)
set_option maxRecDepth 20000 in
theorem gL_law_X5_put : GoodIn wsL_law (wsV RL 123 RX5 yX5_put wsX5_put) := goodIn_app (goodIn_of _ (by decide +kernel)) ggL_law_X5_put
set_option maxRecDepth 20000 in
theorem ggL_law_X6_put : GoodIn wsL_law wsX6_put := goodIn_r _ [766, 98, 96, 767, 768, 769, 770, 5, 771, 97, 666, 667, 668, 190, 191, 192, 193, 321, 322, 323, 324, 325, 326, 327, 328, 329, 330, 331, 332, 802, 803, 804, 805, 806, 807, 808, 809, 810, 811, 812, 813, 814, 815, 816, 817, 818, 819, 820, 821, 822, 823, 824, 825, 826, 827, 828] (by decide +kernel) (by decide +kernel)
set_option maxRecDepth 20000 in
theorem gL_law_X6_put : GoodIn wsL_law (wsV RL 126 RX6 yX6_put wsX6_put) := goodIn_app (goodIn_of _ (by decide +kernel)) ggL_law_X6_put
set_option maxRecDepth 20000 in
theorem ggL_law_X5_item : GoodIn wsL_law wsX5_item := goodIn_r _ [775, 776, 19, 648, 758, 759, 760, 2, 761, 632, 633, 634, 635, 636, 637, 638, 28, 639, 69, 794, 795, 796, 797, 798, 799, 800, 801, 838, 839, 840] (by decide +kernel) (by decide +kernel)
set_option maxRecDepth 20000 in
theorem gL_law_X5_item : GoodIn wsL_law (wsV RL 127 RX5 yX5_item wsX5_item) := goodIn_app (goodIn_of _ (by decide +kernel)) ggL_law_X5_item
set_option maxRecDepth 20000 in
theorem ggL_law_X6_item : GoodIn wsL_law wsX6_item := goodIn_r _ [780, 98, 768, 769, 770, 5, 771, 96, 97, 666, 667, 668, 190, 191, 192, 193, 333, 334, 335, 336, 802, 803, 804, 805, 806, 807, 808, 809, 810, 811, 812, 813, 814, 815, 816, 817, 818, 819, 820, 821, 822, 823, 824, 825, 826, 827, 828] (by decide +kernel) (by decide +kernel)
set_option maxRecDepth 20000 in
theorem gL_law_X6_item : GoodIn wsL_law (wsV RL 130 RX6 yX6_item wsX6_item) := goodIn_app (goodIn_of _ (by decide +kernel)) ggL_law_X6_item
set_option maxRecDepth 20000 in
theorem ggL_law_X5_copy : GoodIn wsL_law wsX5_copy := goodIn_r _ [784, 19, 756, 648, 785, 412, 413, 414, 633, 634, 2, 635, 636, 637, 638, 28, 639, 69, 786, 787, 788, 789, 685, 794, 795, 796, 797, 798, 799, 800, 801, 838, 839, 840] (by decide +kernel) (by decide +kernel)
set_option maxRecDepth 20000 in
theorem gL_law_X5_copy : GoodIn wsL_law (wsV RL 131 RX5 yX5_copy wsX5_copy) := goodIn_app (goodIn_of _ (by decide +kernel)) ggL_law_X5_copy
set_option maxRecDepth 20000 in
theorem ggL_law_X6_copy : GoodIn wsL_law wsX6_copy := goodIn_r _ [793, 96, 97, 98, 99, 424, 412, 413, 414, 666, 667, 5, 668, 190, 191, 192, 193, 802, 803, 804, 805, 806, 807, 808, 809, 810, 811, 812, 813, 814, 815, 816, 817, 818, 819, 820, 821, 822, 823, 824, 825, 826, 827, 828] (by decide +kernel) (by decide +kernel)
set_option maxRecDepth 20000 in
theorem gL_law_X6_copy : GoodIn wsL_law (wsV RL 135 RX6 yX6_copy wsX6_copy) := goodIn_app (goodIn_of _ (by decide +kernel)) ggL_law_X6_copy