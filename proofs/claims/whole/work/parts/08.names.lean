set_option maxRecDepth 20000 in
theorem ggL_law_X7_init : GoodIn wsL_law wsX7_init := goodIn_r _ [8, 9, 10, 11, 12, 13, 14, 15, 16, 17, 18, 19, 20, 21, 22, 23, 24, 25, 26, 27, 28, 29, 30, 31, 32, 33, 34, 35, 36, 37, 38, 39, 40, 41, 42, 43, 44, 45, 46, 47, 48, 49, 50, 51, 52, 53, 54, 55, 56, 57, 58, 59, 60, 61, 62, 63, 64, 65, 66, 67, 68, 69, 70, 71, 72, 73, 74, 75, 76, 77, 846, 847, 848, 849, 850, 851, 852, 853, 854, 855, 886, 887, 888, 889, 890, 891, 892, 893, 894, 895, 896, 897, 898, 899, 900, 901, 902, 903, 904, 905, 906] (by decide +kernel) (by decide +kernel)
set_option maxRecDepth 20000 in
theorem gL_law_X7_init : GoodIn wsL_law (wsX7_init) := ggL_law_X7_init
set_option maxRecDepth 20000 in
theorem ggL_law_X8_init : GoodIn wsL_law wsX8_init := goodIn_r _ [80, 81, 10, 11, 44, 82, 83, 84, 85, 86, 87, 88, 89, 67, 90, 47, 91, 92, 93, 94, 95, 96, 97, 98, 856, 857, 858, 859, 860, 861, 862, 863, 864, 865, 866, 867, 868, 869, 870, 871, 872, 873, 874, 875, 876, 877, 878, 879, 880, 881, 882, 883, 884, 885] (by decide +kernel) (by decide +kernel)
set_option maxRecDepth 20000 in
theorem gL_law_X8_init : GoodIn wsL_law (wsX8_init) := ggL_law_X8_init
set_option maxRecDepth 20000 in
theorem ggL_law_X7_river : GoodIn wsL_law wsX7_river := goodIn_r _ [102, 103, 22, 18, 17, 104, 105, 106, 2, 107, 13, 108, 109, 110, 111, 112, 113, 40, 114, 77, 115, 116, 117, 118, 119, 120, 121, 122, 123, 124, 125, 126, 127, 128, 129, 130, 21, 131, 132, 133, 134, 135, 16, 136, 137, 138, 139, 140, 141, 142, 76, 143, 144, 145, 146, 147, 148, 149, 150, 151, 152, 153, 154, 155, 156, 157, 158, 159, 160, 161, 162, 46, 163, 164, 165, 166, 167, 168, 169, 170, 171, 172, 173, 174, 49, 175, 176, 177, 178, 179, 180, 181, 182, 183, 184, 185, 186, 45, 48, 187, 188, 189, 190, 30, 34, 191, 192, 193, 33, 194, 195, 846, 847, 848, 849, 850, 851, 852, 853, 854, 855, 886, 887, 888, 889, 890, 891, 904, 905, 906, 892, 898, 899, 900, 901, 902] (by decide +kernel) (by decide +kernel)
set_option maxRecDepth 20000 in
theorem gL_law_X7_river : GoodIn wsL_law (wsV RL 13 RX7 yX7_river wsX7_river) := goodIn_app (goodIn_of _ (by decide +kernel)) ggL_law_X7_river
set_option maxRecDepth 20000 in
theorem ggL_law_X8_river : GoodIn wsL_law wsX8_river := goodIn_r _ [199, 200, 201, 202, 203, 204, 205, 82, 86, 83, 87, 84, 88, 85, 89, 206, 207, 208, 5, 209, 210, 211, 212, 213, 214, 215, 216, 217, 218, 219, 220, 221, 222, 95, 96, 223, 224, 225, 226, 227, 228, 229, 230, 231, 232, 233, 234, 235, 236, 237, 97, 238, 239, 240, 241, 242, 243, 244, 245, 856, 857, 858, 859, 860, 861, 862, 863, 864, 865, 866, 867, 868, 869, 870, 871, 872, 873, 874, 875, 876, 877, 878, 879, 880, 881, 882, 883, 884, 885] (by decide +kernel) (by decide +kernel)
set_option maxRecDepth 20000 in
theorem gL_law_X8_river : GoodIn wsL_law (wsV RL 17 RX8 yX8_river wsX8_river) := goodIn_app (goodIn_of _ (by decide +kernel)) ggL_law_X8_river
set_option maxRecDepth 20000 in
theorem ggL_law_X7_ofCell : GoodIn wsL_law wsX7_ofCell := goodIn_r _ [249, 17, 250, 164, 165, 16, 166, 137, 251, 252, 253, 254, 45, 163, 255, 256, 257, 258, 46, 259, 260, 261, 262, 263, 264, 265, 266, 267, 268, 48, 269, 270, 271, 272, 273, 274, 275, 276, 277, 278, 2, 279, 280, 281, 282, 283, 49, 846, 847, 848, 849, 850, 851, 852, 853, 854, 855, 886, 887, 888, 889, 890, 891] (by decide +kernel) (by decide +kernel)
set_option maxRecDepth 20000 in
theorem gL_law_X7_ofCell : GoodIn wsL_law (wsV RL 18 RX7 yX7_ofCell wsX7_ofCell) := goodIn_app (goodIn_of _ (by decide +kernel)) ggL_law_X7_ofCell
set_option maxRecDepth 20000 in
theorem ggL_law_X8_ofCell : GoodIn wsL_law wsX8_ofCell := goodIn_r _ [287, 82, 83, 84, 85, 288, 289, 290, 5, 291, 205, 211, 212, 213, 292, 293, 294, 295, 856, 857, 858, 859, 860, 861, 862, 863, 864, 865, 866, 867, 868, 869, 870, 871, 872, 873, 874, 875, 876, 877, 878, 879, 880, 881, 882, 883, 884, 885] (by decide +kernel) (by decide +kernel)
set_option maxRecDepth 20000 in
theorem gL_law_X8_ofCell : GoodIn wsL_law (wsV RL 22 RX8 yX8_ofCell wsX8_ofCell) := goodIn_app (goodIn_of _ (by decide +kernel)) ggL_law_X8_ofCell
set_option maxRecDepth 20000 in
theorem ggL_law_X7_pace : GoodIn wsL_law wsX7_pace := goodIn_r _ [299, 17, 300, 301, 302, 16, 303, 137, 846, 847, 848, 849, 850, 851, 852, 853, 854, 855, 886, 887, 888, 889, 890, 891] (by decide +kernel) (by decide +kernel)
set_option maxRecDepth 20000 in
theorem gL_law_X7_pace : GoodIn wsL_law (wsV RL 23 RX7 yX7_pace wsX7_pace) := goodIn_app (goodIn_of _ (by decide +kernel)) ggL_law_X7_pace
set_option maxRecDepth 20000 in
theorem ggL_law_X8_pace : GoodIn wsL_law wsX8_pace := goodIn_r _ [307, 210, 205, 203, 211, 212, 5, 213, 856, 857, 858, 859, 860, 861, 862, 863, 864, 865, 866, 867, 868, 869, 870, 871, 872, 873, 874, 875, 876, 877, 878, 879, 880, 881, 882, 883, 884, 885] (by decide +kernel) (by decide +kernel)
set_option maxRecDepth 20000 in
theorem gL_law_X8_pace : GoodIn wsL_law (wsV RL 27 RX8 yX8_pace wsX8_pace) := goodIn_app (goodIn_of _ (by decide +kernel)) ggL_law_X8_pace
set_option maxRecDepth 20000 in
theorem ggL_law_X7_bridge : GoodIn wsL_law wsX7_bridge := goodIn_r _ [311, 17, 34, 250, 164, 165, 16, 166, 137, 280, 281, 282, 283, 49, 163, 312, 172, 173, 174, 191, 192, 193, 33, 194, 195, 846, 847, 848, 849, 850, 851, 852, 853, 854, 855, 886, 887, 888, 889, 890, 891, 901, 902] (by decide +kernel) (by decide +kernel)
set_option maxRecDepth 20000 in
theorem gL_law_X7_bridge : GoodIn wsL_law (wsV RL 28 RX7 yX7_bridge wsX7_bridge) := goodIn_app (goodIn_of _ (by decide +kernel)) ggL_law_X7_bridge
set_option maxRecDepth 20000 in
theorem ggL_law_X8_bridge : GoodIn wsL_law wsX8_bridge := goodIn_r _ [316, 85, 288, 289, 290, 5, 291, 205, 211, 212, 213, 856, 857, 858, 859, 860, 861, 862, 863, 864, 865, 866, 867, 868, 869, 870, 871, 872, 873, 874, 875, 876, 877, 878, 879, 880, 881, 882, 883, 884, 885] (by decide +kernel) (by decide +kernel)
set_option maxRecDepth 20000 in
theorem gL_law_X8_bridge : GoodIn wsL_law (wsV RL 32 RX8 yX8_bridge wsX8_bridge) := goodIn_app (goodIn_of _ (by decide +kernel)) ggL_law_X8_bridge
set_option maxRecDepth 20000 in
theorem ggL_law_X7_plan : GoodIn wsL_law wsX7_plan := goodIn_r _ [320, 26, 321, 322, 323, 2, 324, 103, 17, 104, 105, 106, 107, 13, 108, 109, 110, 300, 301, 302, 16, 303, 137, 325, 326, 327, 328, 111, 112, 113, 40, 114, 77, 115, 116, 117, 118, 119, 120, 121, 122, 123, 124, 125, 126, 127, 329, 330, 331, 25, 332, 333, 270, 271, 272, 334, 335, 336, 337, 56, 338, 140, 141, 142, 76, 143, 144, 145, 146, 339, 340, 341, 342, 343, 58, 57, 344, 345, 346, 347, 138, 348, 349, 350, 351, 269, 352, 353, 354, 355, 356, 357, 358, 274, 275, 276, 48, 163, 164, 165, 166, 359, 360, 361, 362, 363, 364, 365, 366, 367, 368, 49, 369, 370, 846, 847, 848, 849, 850, 851, 852, 853, 854, 855, 893, 894, 895, 896, 897, 886, 887, 888, 889, 890, 891, 904, 905, 906] (by decide +kernel) (by decide +kernel)
set_option maxRecDepth 20000 in
theorem gL_law_X7_plan : GoodIn wsL_law (wsV RL 33 RX7 yX7_plan wsX7_plan) := goodIn_app (goodIn_of _ (by decide +kernel)) ggL_law_X7_plan
set_option maxRecDepth 20000 in
theorem ggL_law_X8_plan : GoodIn wsL_law wsX8_plan := goodIn_r _ [374, 200, 375, 376, 377, 211, 212, 5, 213, 378, 379, 380, 381, 382, 205, 207, 208, 209, 210, 214, 215, 216, 217, 218, 383, 384, 385, 386, 97, 219, 220, 221, 222, 95, 96, 223, 224, 225, 226, 227, 228, 229, 387, 388, 389, 390, 391, 392, 393, 394, 203, 395, 396, 397, 398, 399, 400, 84, 85, 401, 402, 403, 404, 405, 406, 407, 408, 409, 410, 411, 412, 413, 414, 415, 416, 292, 293, 294, 295, 83, 82, 856, 857, 858, 859, 860, 861, 862, 863, 864, 865, 866, 867, 868, 869, 870, 871, 872, 873, 874, 875, 876, 877, 878, 879, 880, 881, 882, 883, 884, 885] (by decide +kernel) (by decide +kernel)
set_option maxRecDepth 20000 in
theorem gL_law_X8_plan : GoodIn wsL_law (wsV RL 37 RX8 yX8_plan wsX8_plan) := goodIn_app (goodIn_of _ (by decide +kernel)) ggL_law_X8_plan
set_option maxRecDepth 20000 in
theorem ggL_law_X7_dry : GoodIn wsL_law wsX7_dry := goodIn_r _ [420, 26, 421, 17, 422, 423, 2, 424, 321, 322, 323, 324, 103, 104, 105, 106, 107, 13, 108, 109, 110, 300, 301, 302, 16, 303, 137, 325, 326, 327, 328, 111, 112, 113, 40, 114, 77, 115, 116, 117, 118, 119, 120, 121, 122, 123, 124, 125, 126, 127, 329, 330, 331, 25, 332, 333, 270, 271, 272, 334, 335, 336, 337, 56, 338, 140, 141, 142, 76, 143, 144, 145, 146, 339, 340, 341, 342, 343, 58, 57, 344, 345, 346, 347, 138, 348, 349, 350, 351, 269, 352, 353, 354, 355, 356, 357, 358, 274, 275, 276, 48, 163, 164, 165, 166, 359, 360, 361, 362, 363, 364, 365, 366, 367, 368, 49, 425, 426, 427, 428, 429, 260, 261, 262, 263, 252, 253, 254, 45, 264, 256, 257, 258, 46, 265, 266, 267, 268, 430, 431, 432, 433, 434, 435, 436, 437, 438, 846, 847, 848, 849, 850, 851, 852, 853, 854, 855, 893, 894, 895, 896, 897, 886, 887, 888, 889, 890, 891, 904, 905, 906] (by decide +kernel) (by decide +kernel)
set_option maxRecDepth 20000 in
theorem gL_law_X7_dry : GoodIn wsL_law (wsV RL 38 RX7 yX7_dry wsX7_dry) := goodIn_app (goodIn_of _ (by decide +kernel)) ggL_law_X7_dry
set_option maxRecDepth 20000 in
theorem ggL_law_X8_dry : GoodIn wsL_law wsX8_dry := goodIn_r _ [442, 375, 395, 211, 212, 5, 213, 378, 379, 380, 381, 200, 382, 205, 207, 208, 209, 210, 214, 215, 216, 217, 218, 383, 384, 385, 386, 97, 219, 220, 221, 222, 95, 96, 223, 224, 225, 226, 227, 228, 229, 443, 444, 445, 446, 387, 388, 389, 390, 376, 377, 391, 392, 393, 394, 203, 396, 397, 398, 399, 400, 84, 85, 401, 402, 403, 404, 405, 406, 407, 408, 409, 410, 411, 412, 413, 414, 415, 416, 292, 293, 294, 295, 83, 82, 447, 448, 449, 450, 451, 452, 856, 857, 858, 859, 860, 861, 862, 863, 864, 865, 866, 867, 868, 869, 870, 871, 872, 873, 874, 875, 876, 877, 878, 879, 880, 881, 882, 883, 884, 885] (by decide +kernel) (by decide +kernel)
set_option maxRecDepth 20000 in
theorem gL_law_X8_dry : GoodIn wsL_law (wsV RL 42 RX8 yX8_dry wsX8_dry) := goodIn_app (goodIn_of _ (by decide +kernel)) ggL_law_X8_dry
set_option maxRecDepth 20000 in
theorem ggL_law_X7_soonest : GoodIn wsL_law wsX7_soonest := goodIn_r _ [456, 17, 300, 301, 302, 16, 303, 137, 457, 458, 459, 460, 461, 462, 345, 346, 347, 138, 354, 355, 356, 357, 463, 464, 465, 466, 467, 468, 469, 470, 471, 472, 473, 474, 475, 349, 350, 351, 269, 270, 271, 272, 352, 2, 353, 358, 274, 275, 276, 48, 163, 164, 165, 166, 359, 360, 361, 362, 363, 364, 335, 336, 365, 366, 367, 368, 49, 846, 847, 848, 849, 850, 851, 852, 853, 854, 855, 886, 887, 888, 889, 890, 891] (by decide +kernel) (by decide +kernel)
set_option maxRecDepth 20000 in
theorem gL_law_X7_soonest : GoodIn wsL_law (wsV RL 43 RX7 yX7_soonest wsX7_soonest) := goodIn_app (goodIn_of _ (by decide +kernel)) ggL_law_X7_soonest
set_option maxRecDepth 20000 in
theorem ggL_law_X8_soonest : GoodIn wsL_law wsX8_soonest := goodIn_r _ [479, 205, 480, 481, 482, 5, 483, 91, 203, 484, 485, 486, 487, 488, 489, 490, 491, 92, 397, 398, 399, 400, 84, 85, 401, 402, 403, 404, 405, 406, 407, 856, 857, 858, 859, 860, 861, 862, 863, 864, 865, 866, 867, 868, 869, 870, 871, 872, 873, 874, 875, 876, 877, 878, 879, 880, 881, 882, 883, 884, 885] (by decide +kernel) (by decide +kernel)
set_option maxRecDepth 20000 in
theorem gL_law_X8_soonest : GoodIn wsL_law (wsV RL 47 RX8 yX8_soonest wsX8_soonest) := goodIn_app (goodIn_of _ (by decide +kernel)) ggL_law_X8_soonest
set_option maxRecDepth 20000 in
theorem ggL_law_X7_surest : GoodIn wsL_law wsX7_surest := goodIn_r _ [495, 17, 34, 300, 301, 302, 16, 303, 137, 496, 497, 498, 33, 499, 195, 68, 500, 501, 502, 503, 504, 468, 469, 470, 505, 506, 507, 508, 352, 2, 353, 354, 355, 356, 357, 509, 510, 511, 512, 513, 514, 271, 515, 516, 517, 518, 519, 520, 349, 350, 351, 269, 270, 272, 358, 274, 275, 276, 48, 163, 164, 165, 166, 359, 360, 361, 362, 363, 364, 335, 336, 365, 366, 367, 368, 49, 521, 260, 261, 262, 263, 252, 253, 254, 45, 264, 256, 257, 258, 46, 265, 266, 267, 268, 430, 431, 522, 523, 524, 525, 526, 527, 528, 529, 530, 345, 346, 347, 138, 433, 434, 435, 531, 532, 533, 534, 535, 536, 537, 538, 846, 847, 848, 849, 850, 851, 852, 853, 854, 855, 886, 887, 888, 889, 890, 891, 901, 902] (by decide +kernel) (by decide +kernel)
set_option maxRecDepth 20000 in
theorem gL_law_X7_surest : GoodIn wsL_law (wsV RL 48 RX7 yX7_surest wsX7_surest) := goodIn_app (goodIn_of _ (by decide +kernel)) ggL_law_X7_surest
set_option maxRecDepth 20000 in
theorem ggL_law_X8_surest : GoodIn wsL_law wsX8_surest := goodIn_r _ [542, 543, 544, 545, 205, 203, 90, 211, 212, 5, 213, 546, 547, 548, 549, 550, 551, 552, 553, 554, 555, 556, 557, 558, 559, 560, 412, 397, 398, 399, 400, 84, 85, 401, 402, 403, 404, 405, 406, 407, 413, 414, 415, 416, 292, 293, 294, 295, 83, 82, 447, 448, 449, 856, 857, 858, 859, 860, 861, 862, 863, 864, 865, 866, 867, 868, 869, 870, 871, 872, 873, 874, 875, 876, 877, 878, 879, 880, 881, 882, 883, 884, 885] (by decide +kernel) (by decide +kernel)
set_option maxRecDepth 20000 in
theorem gL_law_X8_surest : GoodIn wsL_law (wsV RL 51 RX8 yX8_surest wsX8_surest) := goodIn_app (goodIn_of _ (by decide +kernel)) ggL_law_X8_surest
set_option maxRecDepth 20000 in
theorem ggL_law_X7_sure : GoodIn wsL_law wsX7_sure := goodIn_r _ [564, 17, 421, 34, 422, 423, 2, 424, 300, 301, 302, 16, 303, 137, 496, 497, 498, 33, 499, 195, 68, 500, 501, 502, 503, 504, 468, 469, 470, 505, 506, 507, 508, 352, 353, 354, 355, 356, 357, 509, 510, 511, 512, 513, 514, 271, 515, 516, 517, 518, 519, 520, 349, 350, 351, 269, 270, 272, 358, 274, 275, 276, 48, 163, 164, 165, 166, 359, 360, 361, 362, 363, 364, 335, 336, 365, 366, 367, 368, 49, 521, 260, 261, 262, 263, 252, 253, 254, 45, 264, 256, 257, 258, 46, 265, 266, 267, 268, 430, 431, 522, 523, 524, 525, 526, 527, 528, 529, 530, 345, 346, 347, 138, 433, 434, 435, 436, 437, 438, 565, 566, 432, 846, 847, 848, 849, 850, 851, 852, 853, 854, 855, 886, 887, 888, 889, 890, 891, 901, 902] (by decide +kernel) (by decide +kernel)
set_option maxRecDepth 20000 in
theorem gL_law_X7_sure : GoodIn wsL_law (wsV RL 52 RX7 yX7_sure wsX7_sure) := goodIn_app (goodIn_of _ (by decide +kernel)) ggL_law_X7_sure
set_option maxRecDepth 20000 in
theorem ggL_law_X8_sure : GoodIn wsL_law wsX8_sure := goodIn_r _ [570, 543, 205, 90, 203, 211, 212, 5, 213, 443, 444, 445, 446, 546, 547, 548, 549, 550, 551, 552, 553, 554, 555, 556, 557, 558, 559, 560, 412, 397, 398, 399, 400, 84, 85, 401, 402, 403, 404, 405, 406, 407, 413, 414, 415, 416, 292, 293, 294, 295, 83, 82, 447, 448, 449, 450, 451, 452, 856, 857, 858, 859, 860, 861, 862, 863, 864, 865, 866, 867, 868, 869, 870, 871, 872, 873, 874, 875, 876, 877, 878, 879, 880, 881, 882, 883, 884, 885] (by decide +kernel) (by decide +kernel)
set_option maxRecDepth 20000 in
theorem gL_law_X8_sure : GoodIn wsL_law (wsV RL 56 RX8 yX8_sure wsX8_sure) := goodIn_app (goodIn_of _ (by decide +kernel)) ggL_law_X8_sure
set_option maxRecDepth 20000 in
theorem ggL_law_X7_cost : GoodIn wsL_law wsX7_cost := goodIn_r _ [574, 17, 250, 164, 165, 16, 166, 137, 280, 281, 282, 283, 49, 163, 457, 458, 459, 460, 461, 462, 345, 346, 347, 138, 354, 355, 356, 357, 463, 464, 465, 466, 467, 468, 469, 470, 471, 472, 473, 474, 475, 349, 350, 351, 269, 270, 271, 272, 352, 2, 353, 358, 274, 275, 276, 48, 359, 360, 361, 362, 363, 364, 335, 336, 365, 366, 367, 368, 312, 172, 173, 174, 846, 847, 848, 849, 850, 851, 852, 853, 854, 855, 886, 887, 888, 889, 890, 891] (by decide +kernel) (by decide +kernel)
set_option maxRecDepth 20000 in
theorem gL_law_X7_cost : GoodIn wsL_law (wsV RL 57 RX7 yX7_cost wsX7_cost) := goodIn_app (goodIn_of _ (by decide +kernel)) ggL_law_X7_cost
set_option maxRecDepth 20000 in
theorem ggL_law_X8_cost : GoodIn wsL_law wsX8_cost := goodIn_r _ [578, 85, 288, 289, 290, 5, 291, 205, 211, 212, 213, 480, 481, 482, 483, 91, 203, 484, 485, 486, 487, 488, 489, 490, 491, 92, 397, 398, 399, 400, 84, 401, 402, 403, 404, 405, 406, 407, 856, 857, 858, 859, 860, 861, 862, 863, 864, 865, 866, 867, 868, 869, 870, 871, 872, 873, 874, 875, 876, 877, 878, 879, 880, 881, 882, 883, 884, 885] (by decide +kernel) (by decide +kernel)
set_option maxRecDepth 20000 in
theorem gL_law_X8_cost : GoodIn wsL_law (wsV RL 60 RX8 yX8_cost wsX8_cost) := goodIn_app (goodIn_of _ (by decide +kernel)) ggL_law_X8_cost
set_option maxRecDepth 20000 in
theorem ggL_law_X7_reading : GoodIn wsL_law wsX7_reading := goodIn_r _ [582, 17, 30, 250, 164, 165, 16, 166, 137, 583, 584, 585, 29, 586, 587, 62, 63, 846, 847, 848, 849, 850, 851, 852, 853, 854, 855, 898, 899, 900, 886, 887, 888, 889, 890, 891] (by decide +kernel) (by decide +kernel)
set_option maxRecDepth 20000 in
theorem gL_law_X7_reading : GoodIn wsL_law (wsV RL 61 RX7 yX7_reading wsX7_reading) := goodIn_app (goodIn_of _ (by decide +kernel)) ggL_law_X7_reading
set_option maxRecDepth 20000 in
theorem ggL_law_X8_reading : GoodIn wsL_law wsX8_reading := goodIn_r _ [591, 543, 206, 93, 94, 288, 289, 290, 5, 291, 205, 211, 212, 213, 856, 857, 858, 859, 860, 861, 862, 863, 864, 865, 866, 867, 868, 869, 870, 871, 872, 873, 874, 875, 876, 877, 878, 879, 880, 881, 882, 883, 884, 885] (by decide +kernel) (by decide +kernel)
set_option maxRecDepth 20000 in
theorem gL_law_X8_reading : GoodIn wsL_law (wsV RL 64 RX8 yX8_reading wsX8_reading) := goodIn_app (goodIn_of _ (by decide +kernel)) ggL_law_X8_reading
set_option maxRecDepth 20000 in
theorem ggL_law_X7_back : GoodIn wsL_law wsX7_back := goodIn_r _ [595, 30, 846, 847, 848, 849, 850, 851, 852, 853, 854, 855, 898, 899, 900] (by decide +kernel) (by decide +kernel)
set_option maxRecDepth 20000 in
theorem gL_law_X7_back : GoodIn wsL_law (wsV RL 65 RX7 yX7_back wsX7_back) := goodIn_app (goodIn_of _ (by decide +kernel)) ggL_law_X7_back
set_option maxRecDepth 20000 in
theorem ggL_law_X8_back : GoodIn wsL_law wsX8_back := goodIn_r _ [599, 206, 211, 212, 5, 213, 856, 857, 858, 859, 860, 861, 862, 863, 864, 865, 866, 867, 868, 869, 870, 871, 872, 873, 874, 875, 876, 877, 878, 879, 880, 881, 882, 883, 884, 885] (by decide +kernel) (by decide +kernel)
set_option maxRecDepth 20000 in
theorem gL_law_X8_back : GoodIn wsL_law (wsV RL 68 RX8 yX8_back wsX8_back) := goodIn_app (goodIn_of _ (by decide +kernel)) ggL_law_X8_back
set_option maxRecDepth 20000 in
theorem ggL_law_X7_ways : GoodIn wsL_law wsX7_ways := goodIn_r _ [603, 17, 38, 30, 300, 301, 302, 16, 303, 137, 604, 605, 606, 37, 607, 72, 608, 270, 271, 272, 609, 610, 502, 611, 612, 468, 469, 470, 352, 2, 353, 613, 614, 615, 29, 616, 587, 62, 63, 617, 618, 619, 620, 621, 349, 350, 351, 269, 354, 355, 356, 357, 358, 274, 275, 276, 48, 163, 164, 165, 166, 359, 360, 361, 362, 363, 364, 335, 336, 365, 366, 367, 368, 49, 622, 623, 624, 625, 565, 345, 346, 347, 138, 626, 627, 628, 629, 630, 631, 632, 633, 634, 635, 846, 847, 848, 849, 850, 851, 852, 853, 854, 855, 886, 887, 888, 889, 890, 891, 903, 898, 899, 900] (by decide +kernel) (by decide +kernel)
set_option maxRecDepth 20000 in
theorem gL_law_X7_ways : GoodIn wsL_law (wsV RL 69 RX7 yX7_ways wsX7_ways) := goodIn_app (goodIn_of _ (by decide +kernel)) ggL_law_X7_ways
set_option maxRecDepth 20000 in
theorem ggL_law_X8_ways : GoodIn wsL_law wsX8_ways := goodIn_r _ [639, 640, 544, 641, 205, 211, 212, 5, 213, 642, 643, 644, 645, 376, 377, 391, 392, 393, 394, 203, 375, 395, 396, 397, 398, 399, 400, 84, 85, 401, 402, 403, 404, 405, 406, 407, 408, 409, 410, 411, 412, 413, 414, 415, 416, 292, 293, 294, 295, 83, 82, 646, 647, 648, 649, 206, 93, 94, 856, 857, 858, 859, 860, 861, 862, 863, 864, 865, 866, 867, 868, 869, 870, 871, 872, 873, 874, 875, 876, 877, 878, 879, 880, 881, 882, 883, 884, 885] (by decide +kernel) (by decide +kernel)
set_option maxRecDepth 20000 in
theorem gL_law_X8_ways : GoodIn wsL_law (wsV RL 72 RX8 yX8_ways wsX8_ways) := goodIn_app (goodIn_of _ (by decide +kernel)) ggL_law_X8_ways
set_option maxRecDepth 20000 in
theorem ggL_law_X7_kinds : GoodIn wsL_law wsX7_kinds := goodIn_r _ [653, 17, 26, 654, 655, 656, 2, 657, 103, 658, 104, 105, 106, 107, 13, 250, 164, 165, 16, 166, 137, 108, 109, 110, 325, 326, 327, 328, 111, 112, 113, 40, 114, 77, 115, 116, 117, 118, 119, 120, 121, 122, 123, 124, 125, 126, 127, 329, 330, 331, 25, 332, 333, 270, 271, 272, 334, 335, 336, 337, 56, 338, 140, 141, 142, 76, 143, 144, 145, 146, 339, 340, 341, 342, 343, 58, 57, 344, 345, 346, 347, 138, 348, 349, 350, 351, 269, 352, 353, 354, 355, 356, 357, 358, 274, 275, 276, 48, 163, 359, 360, 361, 362, 363, 364, 365, 366, 367, 368, 49, 255, 256, 257, 258, 46, 659, 266, 267, 268, 425, 426, 427, 428, 429, 260, 261, 262, 263, 252, 253, 254, 45, 264, 265, 430, 431, 846, 847, 848, 849, 850, 851, 852, 853, 854, 855, 893, 894, 895, 896, 897, 886, 887, 888, 889, 890, 891, 904, 905, 906] (by decide +kernel) (by decide +kernel)
set_option maxRecDepth 20000 in
theorem gL_law_X7_kinds : GoodIn wsL_law (wsV RL 73 RX7 yX7_kinds wsX7_kinds) := goodIn_app (goodIn_of _ (by decide +kernel)) ggL_law_X7_kinds
set_option maxRecDepth 20000 in
theorem ggL_law_X8_kinds : GoodIn wsL_law wsX8_kinds := goodIn_r _ [663, 82, 395, 664, 665, 666, 5, 667, 200, 668, 669, 375, 288, 289, 290, 291, 205, 211, 212, 213, 207, 208, 209, 210, 214, 215, 216, 217, 218, 383, 384, 385, 386, 97, 219, 220, 221, 222, 95, 96, 223, 224, 225, 226, 227, 228, 229, 387, 388, 389, 390, 376, 377, 391, 392, 393, 394, 203, 396, 397, 398, 399, 400, 84, 85, 401, 402, 403, 404, 405, 406, 407, 408, 409, 410, 411, 412, 413, 414, 415, 416, 292, 293, 294, 295, 83, 856, 857, 858, 859, 860, 861, 862, 863, 864, 865, 866, 867, 868, 869, 870, 871, 872, 873, 874, 875, 876, 877, 878, 879, 880, 881, 882, 883, 884, 885] (by decide +kernel) (by decide +kernel)
set_option maxRecDepth 20000 in
theorem gL_law_X8_kinds : GoodIn wsL_law (wsV RL 77 RX8 yX8_kinds wsX8_kinds) := goodIn_app (goodIn_of _ (by decide +kernel)) ggL_law_X8_kinds
set_option maxRecDepth 20000 in
theorem ggL_law_X7_muds : GoodIn wsL_law wsX7_muds := goodIn_r _ [673, 17, 26, 654, 655, 656, 2, 657, 103, 658, 104, 105, 106, 107, 13, 250, 164, 165, 16, 166, 137, 108, 109, 110, 325, 326, 327, 328, 111, 112, 113, 40, 114, 77, 115, 116, 117, 118, 119, 120, 121, 122, 123, 124, 125, 126, 127, 329, 330, 331, 25, 332, 333, 270, 271, 272, 334, 335, 336, 337, 56, 338, 140, 141, 142, 76, 143, 144, 145, 146, 339, 340, 341, 342, 343, 58, 57, 344, 345, 346, 347, 138, 348, 349, 350, 351, 269, 352, 353, 354, 355, 356, 357, 358, 274, 275, 276, 48, 163, 359, 360, 361, 362, 363, 364, 365, 366, 367, 368, 49, 251, 252, 253, 254, 45, 659, 266, 267, 268, 425, 426, 427, 428, 429, 260, 261, 262, 263, 264, 256, 257, 258, 46, 265, 430, 431, 846, 847, 848, 849, 850, 851, 852, 853, 854, 855, 893, 894, 895, 896, 897, 886, 887, 888, 889, 890, 891, 904, 905, 906] (by decide +kernel) (by decide +kernel)
set_option maxRecDepth 20000 in
theorem gL_law_X7_muds : GoodIn wsL_law (wsV RL 78 RX7 yX7_muds wsX7_muds) := goodIn_app (goodIn_of _ (by decide +kernel)) ggL_law_X7_muds
set_option maxRecDepth 20000 in
theorem ggL_law_X8_muds : GoodIn wsL_law wsX8_muds := goodIn_r _ [677, 83, 395, 664, 665, 666, 5, 667, 200, 668, 669, 375, 288, 289, 290, 291, 205, 211, 212, 213, 207, 208, 209, 210, 214, 215, 216, 217, 218, 383, 384, 385, 386, 97, 219, 220, 221, 222, 95, 96, 223, 224, 225, 226, 227, 228, 229, 387, 388, 389, 390, 376, 377, 391, 392, 393, 394, 203, 396, 397, 398, 399, 400, 84, 85, 401, 402, 403, 404, 405, 406, 407, 408, 409, 410, 411, 412, 413, 414, 415, 416, 292, 293, 294, 295, 82, 856, 857, 858, 859, 860, 861, 862, 863, 864, 865, 866, 867, 868, 869, 870, 871, 872, 873, 874, 875, 876, 877, 878, 879, 880, 881, 882, 883, 884, 885] (by decide +kernel) (by decide +kernel)
set_option maxRecDepth 20000 in
theorem gL_law_X8_muds : GoodIn wsL_law (wsV RL 81 RX8 yX8_muds wsX8_muds) := goodIn_app (goodIn_of _ (by decide +kernel)) ggL_law_X8_muds
set_option maxRecDepth 20000 in
theorem ggL_law_X7_odds : GoodIn wsL_law wsX7_odds := goodIn_r _ [681, 26, 421, 422, 423, 2, 424, 321, 322, 323, 324, 103, 17, 104, 105, 106, 107, 13, 108, 109, 110, 300, 301, 302, 16, 303, 137, 325, 326, 327, 328, 111, 112, 113, 40, 114, 77, 115, 116, 117, 118, 119, 120, 121, 122, 123, 124, 125, 126, 127, 329, 330, 331, 25, 332, 333, 270, 271, 272, 334, 335, 336, 337, 56, 338, 140, 141, 142, 76, 143, 144, 145, 146, 339, 340, 341, 342, 343, 58, 57, 344, 345, 346, 347, 138, 348, 349, 350, 351, 269, 352, 353, 354, 355, 356, 357, 358, 274, 275, 276, 48, 163, 164, 165, 166, 359, 360, 361, 362, 363, 364, 365, 366, 367, 368, 49, 682, 683, 684, 685, 686, 687, 688, 689, 690, 691, 692, 436, 437, 438, 846, 847, 848, 849, 850, 851, 852, 853, 854, 855, 893, 894, 895, 896, 897, 886, 887, 888, 889, 890, 891, 904, 905, 906] (by decide +kernel) (by decide +kernel)
set_option maxRecDepth 20000 in
theorem gL_law_X7_odds : GoodIn wsL_law (wsV RL 82 RX7 yX7_odds wsX7_odds) := goodIn_app (goodIn_of _ (by decide +kernel)) ggL_law_X7_odds
set_option maxRecDepth 20000 in
theorem ggL_law_X8_odds : GoodIn wsL_law wsX8_odds := goodIn_r _ [696, 375, 205, 396, 211, 212, 5, 213, 378, 379, 380, 381, 200, 382, 207, 208, 209, 210, 214, 215, 216, 217, 218, 383, 384, 385, 386, 97, 219, 220, 221, 222, 95, 96, 223, 224, 225, 226, 227, 228, 229, 443, 444, 445, 446, 387, 388, 389, 390, 376, 377, 391, 392, 393, 394, 203, 395, 397, 398, 399, 400, 84, 85, 401, 402, 403, 404, 405, 406, 407, 408, 409, 410, 411, 412, 413, 414, 415, 416, 292, 293, 294, 295, 83, 82, 450, 451, 452, 856, 857, 858, 859, 860, 861, 862, 863, 864, 865, 866, 867, 868, 869, 870, 871, 872, 873, 874, 875, 876, 877, 878, 879, 880, 881, 882, 883, 884, 885] (by decide +kernel) (by decide +kernel)
set_option maxRecDepth 20000 in
theorem gL_law_X8_odds : GoodIn wsL_law (wsV RL 85 RX8 yX8_odds wsX8_odds) := goodIn_app (goodIn_of _ (by decide +kernel)) ggL_law_X8_odds
set_option maxRecDepth 20000 in
theorem ggL_law_X7_sheet : GoodIn wsL_law wsX7_sheet := goodIn_r _ [700, 103, 104, 105, 106, 2, 107, 13, 108, 109, 110, 119, 120, 121, 122, 701, 702, 703, 40, 704, 76, 77, 705, 270, 271, 272, 706, 335, 336, 127, 707, 610, 502, 611, 846, 847, 848, 849, 850, 851, 852, 853, 854, 855, 904, 905, 906] (by decide +kernel) (by decide +kernel)
set_option maxRecDepth 20000 in
theorem gL_law_X7_sheet : GoodIn wsL_law (wsV RL 86 RX7 yX7_sheet wsX7_sheet) := goodIn_app (goodIn_of _ (by decide +kernel)) ggL_law_X7_sheet
set_option maxRecDepth 20000 in
theorem ggL_law_X8_sheet : GoodIn wsL_law wsX8_sheet := goodIn_r _ [711, 200, 95, 96, 97, 207, 208, 5, 209, 210, 211, 212, 213, 214, 215, 216, 217, 218, 223, 224, 225, 226, 856, 857, 858, 859, 860, 861, 862, 863, 864, 865, 866, 867, 868, 869, 870, 871, 872, 873, 874, 875, 876, 877, 878, 879, 880, 881, 882, 883, 884, 885] (by decide +kernel) (by decide +kernel)
set_option maxRecDepth 20000 in
theorem gL_law_X8_sheet : GoodIn wsL_law (wsV RL 90 RX8 yX8_sheet wsX8_sheet) := goodIn_app (goodIn_of _ (by decide +kernel)) ggL_law_X8_sheet
set_option maxRecDepth 20000 in
theorem ggL_law_X7_lose : GoodIn wsL_law wsX7_lose := goodIn_r _ [715, 104, 105, 106, 2, 107, 13, 716, 116, 117, 40, 118, 77, 277, 278, 279, 701, 702, 703, 704, 76, 705, 270, 271, 272, 706, 335, 336, 127, 707, 610, 502, 611, 846, 847, 848, 849, 850, 851, 852, 853, 854, 855, 904, 905, 906] (by decide +kernel) (by decide +kernel)
set_option maxRecDepth 20000 in
theorem gL_law_X7_lose : GoodIn wsL_law (wsV RL 91 RX7 yX7_lose wsX7_lose) := goodIn_app (goodIn_of _ (by decide +kernel)) ggL_law_X7_lose
set_option maxRecDepth 20000 in
theorem ggL_law_X8_lose : GoodIn wsL_law wsX8_lose := goodIn_r _ [720, 95, 207, 208, 5, 209, 210, 211, 212, 213, 856, 857, 858, 859, 860, 861, 862, 863, 864, 865, 866, 867, 868, 869, 870, 871, 872, 873, 874, 875, 876, 877, 878, 879, 880, 881, 882, 883, 884, 885] (by decide +kernel) (by decide +kernel)
set_option maxRecDepth 20000 in
theorem gL_law_X8_lose : GoodIn wsL_law (wsV RL 94 RX8 yX8_lose wsX8_lose) := goodIn_app (goodIn_of _ (by decide +kernel)) ggL_law_X8_lose
set_option maxRecDepth 20000 in
theorem ggL_law_X7_put : GoodIn wsL_law wsX7_put := goodIn_r _ [724, 103, 104, 105, 106, 2, 107, 13, 716, 116, 117, 40, 118, 77, 119, 120, 121, 122, 725, 144, 145, 146, 127, 726, 727, 728, 729, 76, 143, 730, 731, 732, 733, 846, 847, 848, 849, 850, 851, 852, 853, 854, 855, 904, 905, 906] (by decide +kernel) (by decide +kernel)
set_option maxRecDepth 20000 in
theorem gL_law_X7_put : GoodIn wsL_law (wsV RL 95 RX7 yX7_put wsX7_put) := goodIn_app (goodIn_of _ (by decide +kernel)) ggL_law_X7_put
set_option maxRecDepth 20000 in
theorem ggL_law_X8_put : GoodIn wsL_law wsX8_put := goodIn_r _ [737, 97, 96, 207, 208, 5, 209, 210, 211, 212, 213, 214, 215, 216, 217, 218, 738, 739, 740, 741, 95, 223, 224, 225, 226, 856, 857, 858, 859, 860, 861, 862, 863, 864, 865, 866, 867, 868, 869, 870, 871, 872, 873, 874, 875, 876, 877, 878, 879, 880, 881, 882, 883, 884, 885] (by decide +kernel) (by decide +kernel)
set_option maxRecDepth 20000 in
theorem gL_law_X8_put : GoodIn wsL_law (wsV RL 98 RX8 yX8_put wsX8_put) := goodIn_app (goodIn_of _ (by decide +kernel)) ggL_law_X8_put
set_option maxRecDepth 20000 in
theorem ggL_law_X7_cell : GoodIn wsL_law wsX7_cell := goodIn_r _ [745, 103, 421, 104, 105, 106, 2, 107, 13, 108, 109, 110, 111, 112, 113, 40, 114, 77, 115, 116, 117, 118, 725, 144, 145, 146, 127, 746, 140, 141, 142, 76, 143, 846, 847, 848, 849, 850, 851, 852, 853, 854, 855, 904, 905, 906] (by decide +kernel) (by decide +kernel)
set_option maxRecDepth 20000 in
theorem gL_law_X7_cell : GoodIn wsL_law (wsV RL 99 RX7 yX7_cell wsX7_cell) := goodIn_app (goodIn_of _ (by decide +kernel)) ggL_law_X7_cell
set_option maxRecDepth 20000 in
theorem ggL_law_X8_cell : GoodIn wsL_law wsX8_cell := goodIn_r _ [750, 218, 200, 95, 96, 97, 207, 208, 5, 209, 210, 211, 212, 213, 443, 444, 445, 446, 751, 752, 753, 754, 738, 739, 740, 741, 856, 857, 858, 859, 860, 861, 862, 863, 864, 865, 866, 867, 868, 869, 870, 871, 872, 873, 874, 875, 876, 877, 878, 879, 880, 881, 882, 883, 884, 885] (by decide +kernel) (by decide +kernel)
set_option maxRecDepth 20000 in
theorem gL_law_X8_cell : GoodIn wsL_law (wsV RL 103 RX8 yX8_cell wsX8_cell) := goodIn_app (goodIn_of _ (by decide +kernel)) ggL_law_X8_cell
set_option maxRecDepth 20000 in
theorem ggL_law_X7_copy : GoodIn wsL_law wsX7_copy := goodIn_r _ [758, 103, 759, 760, 761, 762, 104, 105, 106, 2, 107, 13, 716, 116, 117, 40, 118, 77, 119, 120, 121, 122, 123, 124, 125, 126, 127, 846, 847, 848, 849, 850, 851, 852, 853, 854, 855, 904, 905, 906] (by decide +kernel) (by decide +kernel)
set_option maxRecDepth 20000 in
theorem gL_law_X7_copy : GoodIn wsL_law (wsV RL 104 RX7 yX7_copy wsX7_copy) := goodIn_app (goodIn_of _ (by decide +kernel)) ggL_law_X7_copy
set_option maxRecDepth 20000 in
theorem ggL_law_X8_copy : GoodIn wsL_law wsX8_copy := goodIn_r _ [766, 95, 96, 98, 97, 207, 208, 5, 209, 210, 211, 212, 213, 214, 215, 216, 217, 218, 223, 224, 225, 226, 227, 228, 229, 856, 857, 858, 859, 860, 861, 862, 863, 864, 865, 866, 867, 868, 869, 870, 871, 872, 873, 874, 875, 876, 877, 878, 879, 880, 881, 882, 883, 884, 885] (by decide +kernel) (by decide +kernel)
set_option maxRecDepth 20000 in
theorem gL_law_X8_copy : GoodIn wsL_law (wsV RL 107 RX8 yX8_copy wsX8_copy) := goodIn_app (goodIn_of _ (by decide +kernel)) ggL_law_X8_copy
set_option maxRecDepth 20000 in
theorem ggL_law_X7_tell : GoodIn wsL_law wsX7_tell := goodIn_r _ [770, 17, 250, 164, 165, 16, 166, 137, 251, 252, 253, 254, 45, 163, 771, 772, 773, 2, 774, 775, 776, 777, 778, 779, 780, 781, 782, 783, 784, 785, 786, 787, 255, 256, 257, 258, 46, 846, 847, 848, 849, 850, 851, 852, 853, 854, 855, 886, 887, 888, 889, 890, 891] (by decide +kernel) (by decide +kernel)
set_option maxRecDepth 20000 in
theorem gL_law_X7_tell : GoodIn wsL_law (wsV RL 108 RX7 yX7_tell wsX7_tell) := goodIn_app (goodIn_of _ (by decide +kernel)) ggL_law_X7_tell
set_option maxRecDepth 20000 in
theorem ggL_law_X8_tell : GoodIn wsL_law wsX8_tell := goodIn_r _ [791, 82, 83, 288, 289, 290, 5, 291, 205, 211, 212, 213, 792, 793, 794, 795, 796, 856, 857, 858, 859, 860, 861, 862, 863, 864, 865, 866, 867, 868, 869, 870, 871, 872, 873, 874, 875, 876, 877, 878, 879, 880, 881, 882, 883, 884, 885] (by decide +kernel) (by decide +kernel)
set_option maxRecDepth 20000 in
theorem gL_law_X8_tell : GoodIn wsL_law (wsV RL 111 RX8 yX8_tell wsX8_tell) := goodIn_app (goodIn_of _ (by decide +kernel)) ggL_law_X8_tell
set_option maxRecDepth 20000 in
theorem ggL_law_X7_sound : GoodIn wsL_law wsX7_sound := goodIn_r _ [800, 17, 250, 164, 165, 16, 166, 137, 251, 252, 253, 254, 45, 163, 775, 776, 777, 2, 778, 779, 846, 847, 848, 849, 850, 851, 852, 853, 854, 855, 886, 887, 888, 889, 890, 891] (by decide +kernel) (by decide +kernel)
set_option maxRecDepth 20000 in
theorem gL_law_X7_sound : GoodIn wsL_law (wsV RL 112 RX7 yX7_sound wsX7_sound) := goodIn_app (goodIn_of _ (by decide +kernel)) ggL_law_X7_sound
set_option maxRecDepth 20000 in
theorem ggL_law_X8_sound : GoodIn wsL_law wsX8_sound := goodIn_r _ [804, 82, 288, 289, 290, 5, 291, 205, 211, 212, 213, 792, 793, 794, 795, 796, 856, 857, 858, 859, 860, 861, 862, 863, 864, 865, 866, 867, 868, 869, 870, 871, 872, 873, 874, 875, 876, 877, 878, 879, 880, 881, 882, 883, 884, 885] (by decide +kernel) (by decide +kernel)
set_option maxRecDepth 20000 in
theorem gL_law_X8_sound : GoodIn wsL_law (wsV RL 115 RX8 yX8_sound wsX8_sound) := goodIn_app (goodIn_of _ (by decide +kernel)) ggL_law_X8_sound
set_option maxRecDepth 20000 in
theorem ggL_law_X7_as : GoodIn wsL_law wsX7_as := goodIn_r _ [808, 103, 17, 250, 164, 165, 16, 166, 137, 251, 252, 253, 254, 45, 163, 119, 120, 121, 2, 122, 846, 847, 848, 849, 850, 851, 852, 853, 854, 855, 886, 887, 888, 889, 890, 891] (by decide +kernel) (by decide +kernel)
set_option maxRecDepth 20000 in
theorem gL_law_X7_as : GoodIn wsL_law (wsV RL 116 RX7 yX7_as wsX7_as) := goodIn_app (goodIn_of _ (by decide +kernel)) ggL_law_X7_as
set_option maxRecDepth 20000 in
theorem ggL_law_X8_as : GoodIn wsL_law wsX8_as := goodIn_r _ [812, 200, 82, 288, 289, 290, 5, 291, 205, 211, 212, 213, 214, 215, 216, 217, 218, 223, 224, 225, 226, 856, 857, 858, 859, 860, 861, 862, 863, 864, 865, 866, 867, 868, 869, 870, 871, 872, 873, 874, 875, 876, 877, 878, 879, 880, 881, 882, 883, 884, 885] (by decide +kernel) (by decide +kernel)
set_option maxRecDepth 20000 in
theorem gL_law_X8_as : GoodIn wsL_law (wsV RL 119 RX8 yX8_as wsX8_as) := goodIn_app (goodIn_of _ (by decide +kernel)) ggL_law_X8_as
set_option maxRecDepth 20000 in
theorem ggL_law_X7_trace : GoodIn wsL_law wsX7_trace := goodIn_r _ [816, 779, 846, 847, 848, 849, 850, 851, 852, 853, 854, 855] (by decide +kernel) (by decide +kernel)
set_option maxRecDepth 20000 in
theorem gL_law_X7_trace : GoodIn wsL_law (wsV RL 120 RX7 yX7_trace wsX7_trace) := goodIn_app (goodIn_of _ (by decide +kernel)) ggL_law_X7_trace
set_option maxRecDepth 20000 in
theorem ggL_law_X8_trace : GoodIn wsL_law wsX8_trace := goodIn_r _ [820, 796, 856, 857, 858, 859, 860, 861, 862, 863, 864, 865, 866, 867, 868, 869, 870, 871, 872, 873, 874, 875, 876, 877, 878, 879, 880, 881, 882, 883, 884, 885] (by decide +kernel) (by decide +kernel)
set_option maxRecDepth 20000 in
theorem gL_law_X8_trace : GoodIn wsL_law (wsV RL 123 RX8 yX8_trace wsX8_trace) := goodIn_app (goodIn_of _ (by decide +kernel)) ggL_law_X8_trace
set_option maxRecDepth 20000 in
theorem ggL_law_X7_fault : GoodIn wsL_law wsX7_fault := goodIn_r _ [824, 103, 846, 847, 848, 849, 850, 851, 852, 853, 854, 855] (by decide +kernel) (by decide +kernel)
set_option maxRecDepth 20000 in
theorem gL_law_X7_fault : GoodIn wsL_law (wsV RL 124 RX7 yX7_fault wsX7_fault) := goodIn_app (goodIn_of _ (by decide +kernel)) ggL_law_X7_fault
set_option maxRecDepth 20000 in
theorem ggL_law_X8_fault : GoodIn wsL_law wsX8_fault := goodIn_r _ [828, 218, 856, 857, 858, 859, 860, 861, 862, 863, 864, 865, 866, 867, 868, 869, 870, 871, 872, 873, 874, 875, 876, 877, 878, 879, 880, 881, 882, 883, 884, 885] (by decide +kernel) (by decide +kernel)
set_option maxRecDepth 20000 in
theorem gL_law_X8_fault : GoodIn wsL_law (wsV RL 127 RX8 yX8_fault wsX8_fault) := goodIn_app (goodIn_of _ (by decide +kernel)) ggL_law_X8_fault
set_option maxRecDepth 20000 in
theorem ggL_law_X7_many : GoodIn wsL_law wsX7_many := goodIn_r _ [832, 17, 30, 833, 834, 835, 16, 836, 137, 837, 281, 282, 283, 49, 163, 164, 165, 166, 278, 2, 279, 846, 847, 848, 849, 850, 851, 852, 853, 854, 855, 886, 887, 888, 889, 890, 891, 898, 899, 900] (by decide +kernel) (by decide +kernel)
set_option maxRecDepth 20000 in
theorem gL_law_X7_many : GoodIn wsL_law (wsV RL 128 RX7 yX7_many wsX7_many) := goodIn_app (goodIn_of _ (by decide +kernel)) ggL_law_X7_many
set_option maxRecDepth 20000 in
theorem ggL_law_X8_many : GoodIn wsL_law wsX8_many := goodIn_r _ [841, 205, 203, 206, 842, 843, 844, 5, 845, 85, 856, 857, 858, 859, 860, 861, 862, 863, 864, 865, 866, 867, 868, 869, 870, 871, 872, 873, 874, 875, 876, 877, 878, 879, 880, 881, 882, 883, 884, 885] (by decide +kernel) (by decide +kernel)
set_option maxRecDepth 20000 in
theorem gL_law_X8_many : GoodIn wsL_law (wsV RL 131 RX8 yX8_many wsX8_many) := goodIn_app (goodIn_of _ (by decide +kernel)) ggL_law_X8_many
