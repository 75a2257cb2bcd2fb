set_option maxRecDepth 20000 in
theorem ggL_law_X8_init : GoodIn wsL_law wsX8_init := goodIn_r _ [8, 9, 10, 11, 12, 13, 14, 15, 16, 17, 18, 19, 20, 21, 22, 23, 24, 25, 26, 27, 28, 29, 30, 31, 32, 33, 34, 35, 36, 37, 38, 39, 40, 41, 42, 43, 44, 45, 46, 47, 48, 49, 50, 51, 52, 53, 54, 55, 56, 57, 58, 59, 60, 61, 62, 63, 64, 65, 66, 67, 68, 69, 70, 71, 72, 73, 74, 75, 76, 77, 78, 79, 80, 81, 82, 83, 84, 85, 86, 87, 88, 89, 90, 91, 92, 93, 94, 95, 96, 97, 98, 99, 100, 101, 102, 103, 104, 105, 106, 107, 108, 109, 110, 111, 112, 113, 114, 115, 116, 117, 118, 119, 120, 121, 122, 123, 124, 125, 126, 127, 128, 129, 130, 131, 132, 133, 134, 135, 136, 137, 138, 139, 140, 141, 142, 143, 144, 145, 146, 147, 148, 149, 150, 151, 152, 153, 154, 155, 156, 157, 2, 158, 159, 160, 161, 162, 163, 164, 165, 166, 167, 168, 169, 170, 171, 172, 173, 174, 175, 176, 177, 178, 179, 180, 181, 182, 183, 184, 185, 186, 187, 188, 189, 190, 191, 192, 193, 194, 195, 196, 197, 198, 199, 200, 201, 202, 203, 204, 205, 206, 207, 208, 209, 210, 211, 212, 213, 214, 215, 216, 217, 218, 219, 220, 221, 222, 223, 224, 225, 226, 227, 228, 869, 870, 820, 821, 822, 823, 824, 825, 826, 827, 828, 829, 830, 831, 832, 871, 872, 873, 874, 875, 876, 877, 878, 879, 880, 881, 882, 883, 884, 885, 886, 887, 888, 889, 890, 891, 892, 893, 894, 895, 896, 897, 898, 899, 900, 901, 902, 903, 904, 905, 906, 907, 908, 909, 910] (by decide +kernel) (by decide +kernel)
set_option maxRecDepth 20000 in
theorem gL_law_X8_init : GoodIn wsL_law (wsX8_init) := ggL_law_X8_init
set_option maxRecDepth 20000 in
theorem ggL_law_X9_init : GoodIn wsL_law wsX9_init := goodIn_r _ [231, 232, 10, 11, 44, 233, 234, 235, 236, 237, 238, 239, 240, 241, 242, 243, 244, 245, 246, 247, 248, 249, 250, 251, 252, 253, 254, 255, 256, 257, 5, 258, 259, 260, 261, 262, 263, 264, 265, 266, 267, 268, 269, 270, 271, 272, 273, 274, 275, 276, 277, 278, 833, 834, 835, 836, 837, 838, 839, 840, 841, 842, 843, 844, 845, 846, 847, 848, 849, 850, 851, 852, 853, 854, 855, 856, 857, 858, 859, 860, 861, 862, 863, 864, 865, 866, 867, 868] (by decide +kernel) (by decide +kernel)
set_option maxRecDepth 20000 in
theorem gL_law_X9_init : GoodIn wsL_law (wsX9_init) := ggL_law_X9_init
set_option maxRecDepth 20000 in
theorem ggL_law_X8_write : GoodIn wsL_law wsX8_write := goodIn_r _ [282, 15, 283, 14, 284, 285, 154, 50, 151, 152, 153, 820, 821, 822, 823, 824, 825, 826, 827, 828, 829, 830, 831, 832, 869, 870] (by decide +kernel) (by decide +kernel)
set_option maxRecDepth 20000 in
theorem gL_law_X8_write : GoodIn wsL_law (wsV RL 13 RX8 yX8_write wsX8_write) := goodIn_app (goodIn_r _ [279, 280, 281, 2] (by decide +kernel) (by decide +kernel)) ggL_law_X8_write
set_option maxRecDepth 20000 in
theorem ggL_law_X9_write : GoodIn wsL_law wsX9_write := goodIn_r _ [289, 290, 241, 291, 292, 5, 293, 833, 834, 835, 836, 837, 838, 839, 840, 841, 842, 843, 844, 845, 846, 847, 848, 849, 850, 851, 852, 853, 854, 855, 856, 857, 858, 859, 860, 861, 862, 863, 864, 865, 866, 867, 868] (by decide +kernel) (by decide +kernel)
set_option maxRecDepth 20000 in
theorem gL_law_X9_write : GoodIn wsL_law (wsV RL 17 RX9 yX9_write wsX9_write) := goodIn_app (goodIn_r _ [286, 287, 288, 5] (by decide +kernel) (by decide +kernel)) ggL_law_X9_write
set_option maxRecDepth 20000 in
theorem ggL_law_X8_wipe : GoodIn wsL_law wsX8_wipe := goodIn_r _ [297, 15, 226, 14, 227, 228, 154, 820, 821, 822, 823, 824, 825, 826, 827, 828, 829, 830, 831, 832, 869, 870] (by decide +kernel) (by decide +kernel)
set_option maxRecDepth 20000 in
theorem gL_law_X8_wipe : GoodIn wsL_law (wsV RL 18 RX8 yX8_wipe wsX8_wipe) := goodIn_app (goodIn_r _ [294, 295, 296, 2] (by decide +kernel) (by decide +kernel)) ggL_law_X8_wipe
set_option maxRecDepth 20000 in
theorem ggL_law_X9_wipe : GoodIn wsL_law wsX9_wipe := goodIn_r _ [301, 290, 833, 834, 835, 836, 837, 838, 839, 840, 841, 842, 843, 844, 845, 846, 847, 848, 849, 850, 851, 852, 853, 854, 855, 856, 857, 858, 859, 860, 861, 862, 863, 864, 865, 866, 867, 868] (by decide +kernel) (by decide +kernel)
set_option maxRecDepth 20000 in
theorem gL_law_X9_wipe : GoodIn wsL_law (wsV RL 22 RX9 yX9_wipe wsX9_wipe) := goodIn_app (goodIn_r _ [298, 299, 300, 5] (by decide +kernel) (by decide +kernel)) ggL_law_X9_wipe
set_option maxRecDepth 20000 in
theorem ggL_law_X8_fault : GoodIn wsL_law wsX8_fault := goodIn_r _ [305, 23, 160, 22, 161, 162, 64, 163, 63, 164, 18, 165, 166, 167, 168, 169, 170, 171, 172, 173, 174, 14, 175, 176, 154, 50, 177, 178, 179, 180, 181, 182, 183, 184, 185, 186, 187, 188, 189, 190, 191, 192, 193, 194, 195, 54, 55, 196, 2, 197, 198, 199, 200, 59, 56, 57, 58, 201, 202, 203, 204, 205, 206, 207, 820, 821, 822, 823, 824, 825, 826, 827, 828, 829, 830, 831, 832, 880, 881, 882, 869, 870, 871, 872, 873, 874, 875, 876, 877, 878, 879] (by decide +kernel) (by decide +kernel)
set_option maxRecDepth 20000 in
theorem gL_law_X8_fault : GoodIn wsL_law (wsV RL 23 RX8 yX8_fault wsX8_fault) := goodIn_app (goodIn_r _ [302, 303, 304, 2] (by decide +kernel) (by decide +kernel)) ggL_law_X8_fault
set_option maxRecDepth 20000 in
theorem ggL_law_X9_fault : GoodIn wsL_law wsX9_fault := goodIn_r _ [309, 310, 290, 255, 256, 257, 5, 258, 259, 260, 254, 311, 312, 313, 314, 315, 316, 317, 318, 241, 319, 320, 321, 322, 242, 323, 324, 325, 326, 327, 328, 329, 291, 292, 293, 330, 331, 332, 333, 261, 262, 263, 264, 243, 244, 334, 335, 336, 337, 265, 266, 267, 268, 245, 246, 247, 338, 339, 340, 341, 833, 834, 835, 836, 837, 838, 839, 840, 841, 842, 843, 844, 845, 846, 847, 848, 849, 850, 851, 852, 853, 854, 855, 856, 857, 858, 859, 860, 861, 862, 863, 864, 865, 866, 867, 868] (by decide +kernel) (by decide +kernel)
set_option maxRecDepth 20000 in
theorem gL_law_X9_fault : GoodIn wsL_law (wsV RL 26 RX9 yX9_fault wsX9_fault) := goodIn_app (goodIn_r _ [306, 307, 308, 5] (by decide +kernel) (by decide +kernel)) ggL_law_X9_fault
set_option maxRecDepth 20000 in
theorem ggL_law_X8_lay : GoodIn wsL_law wsX8_lay := goodIn_r _ [345, 24, 155, 156, 157, 2, 158, 23, 19, 28, 33, 34, 38, 159, 160, 22, 161, 162, 64, 163, 63, 164, 18, 165, 166, 167, 168, 169, 170, 171, 172, 173, 174, 14, 175, 176, 154, 50, 177, 178, 179, 180, 181, 182, 183, 184, 185, 186, 187, 188, 189, 190, 191, 192, 193, 194, 195, 54, 55, 196, 197, 198, 199, 200, 59, 56, 57, 58, 201, 202, 203, 204, 205, 206, 207, 208, 209, 210, 211, 212, 213, 27, 214, 215, 69, 68, 216, 217, 218, 32, 219, 220, 221, 222, 37, 223, 224, 225, 820, 821, 822, 823, 824, 825, 826, 827, 828, 829, 830, 831, 832, 871, 872, 873, 874, 875, 876, 877, 878, 879, 880, 881, 882, 869, 870, 883, 884, 885, 886, 887, 888, 889, 890, 891] (by decide +kernel) (by decide +kernel)
set_option maxRecDepth 20000 in
theorem gL_law_X8_lay : GoodIn wsL_law (wsV RL 27 RX8 yX8_lay wsX8_lay) := goodIn_app (goodIn_r _ [342, 343, 344, 2] (by decide +kernel) (by decide +kernel)) ggL_law_X8_lay
set_option maxRecDepth 20000 in
theorem ggL_law_X9_lay : GoodIn wsL_law wsX9_lay := goodIn_r _ [349, 259, 273, 350, 307, 308, 5, 309, 310, 290, 255, 256, 257, 258, 260, 254, 311, 312, 313, 314, 315, 316, 317, 318, 241, 319, 320, 321, 322, 242, 323, 324, 325, 326, 327, 328, 329, 291, 292, 293, 330, 331, 332, 333, 261, 262, 263, 264, 243, 244, 334, 335, 336, 337, 265, 266, 267, 268, 245, 246, 247, 338, 339, 340, 341, 269, 270, 271, 272, 274, 275, 233, 237, 234, 235, 236, 276, 277, 278, 833, 834, 835, 836, 837, 838, 839, 840, 841, 842, 843, 844, 845, 846, 847, 848, 849, 850, 851, 852, 853, 854, 855, 856, 857, 858, 859, 860, 861, 862, 863, 864, 865, 866, 867, 868] (by decide +kernel) (by decide +kernel)
set_option maxRecDepth 20000 in
theorem gL_law_X9_lay : GoodIn wsL_law (wsV RL 30 RX9 yX9_lay wsX9_lay) := goodIn_app (goodIn_r _ [346, 347, 348, 5] (by decide +kernel) (by decide +kernel)) ggL_law_X9_lay
set_option maxRecDepth 20000 in
theorem ggL_law_X8_guest : GoodIn wsL_law wsX8_guest := goodIn_r _ [354, 24, 28, 205, 18, 206, 207, 167, 355, 356, 2, 357, 358, 359, 360, 361, 27, 362, 363, 69, 68, 820, 821, 822, 823, 824, 825, 826, 827, 828, 829, 830, 831, 832, 871, 872, 873, 874, 875, 876, 877, 878, 879, 883, 884, 885, 886] (by decide +kernel) (by decide +kernel)
set_option maxRecDepth 20000 in
theorem gL_law_X8_guest : GoodIn wsL_law (wsV RL 31 RX8 yX8_guest wsX8_guest) := goodIn_app (goodIn_r _ [351, 352, 353, 2] (by decide +kernel) (by decide +kernel)) ggL_law_X8_guest
set_option maxRecDepth 20000 in
theorem ggL_law_X9_guest : GoodIn wsL_law wsX9_guest := goodIn_r _ [367, 233, 237, 368, 369, 370, 5, 371, 273, 291, 292, 293, 372, 373, 374, 375, 833, 834, 835, 836, 837, 838, 839, 840, 841, 842, 843, 844, 845, 846, 847, 848, 849, 850, 851, 852, 853, 854, 855, 856, 857, 858, 859, 860, 861, 862, 863, 864, 865, 866, 867, 868] (by decide +kernel) (by decide +kernel)
set_option maxRecDepth 20000 in
theorem gL_law_X9_guest : GoodIn wsL_law (wsV RL 35 RX9 yX9_guest wsX9_guest) := goodIn_app (goodIn_r _ [364, 365, 366, 5] (by decide +kernel) (by decide +kernel)) ggL_law_X9_guest
set_option maxRecDepth 20000 in
theorem ggL_law_X8_wish : GoodIn wsL_law wsX8_wish := goodIn_r _ [379, 24, 28, 380, 18, 381, 382, 168, 355, 356, 2, 357, 383, 27, 384, 385, 69, 216, 217, 359, 360, 820, 821, 822, 823, 824, 825, 826, 827, 828, 829, 830, 831, 832, 871, 872, 873, 874, 875, 876, 877, 878, 879, 883, 884, 885, 886] (by decide +kernel) (by decide +kernel)
set_option maxRecDepth 20000 in
theorem gL_law_X8_wish : GoodIn wsL_law (wsV RL 36 RX8 yX8_wish wsX8_wish) := goodIn_app (goodIn_r _ [376, 377, 378, 2] (by decide +kernel) (by decide +kernel)) ggL_law_X8_wish
set_option maxRecDepth 20000 in
theorem ggL_law_X9_wish : GoodIn wsL_law wsX9_wish := goodIn_r _ [389, 274, 234, 235, 236, 237, 291, 292, 5, 293, 390, 391, 392, 393, 394, 395, 396, 397, 398, 399, 400, 833, 834, 835, 836, 837, 838, 839, 840, 841, 842, 843, 844, 845, 846, 847, 848, 849, 850, 851, 852, 853, 854, 855, 856, 857, 858, 859, 860, 861, 862, 863, 864, 865, 866, 867, 868] (by decide +kernel) (by decide +kernel)
set_option maxRecDepth 20000 in
theorem gL_law_X9_wish : GoodIn wsL_law (wsV RL 39 RX9 yX9_wish wsX9_wish) := goodIn_app (goodIn_r _ [386, 387, 388, 5] (by decide +kernel) (by decide +kernel)) ggL_law_X9_wish
set_option maxRecDepth 20000 in
theorem ggL_law_X8_leave : GoodIn wsL_law wsX8_leave := goodIn_r _ [404, 24, 28, 205, 18, 206, 207, 167, 405, 406, 407, 2, 408, 33, 159, 409, 27, 410, 411, 68, 217, 216, 412, 32, 413, 414, 221, 74, 415, 416, 417, 418, 419, 420, 421, 422, 358, 359, 360, 820, 821, 822, 823, 824, 825, 826, 827, 828, 829, 830, 831, 832, 883, 884, 885, 886, 871, 872, 873, 874, 875, 876, 877, 878, 879, 887, 888] (by decide +kernel) (by decide +kernel)
set_option maxRecDepth 20000 in
theorem gL_law_X8_leave : GoodIn wsL_law (wsV RL 40 RX8 yX8_leave wsX8_leave) := goodIn_app (goodIn_r _ [401, 402, 403, 2] (by decide +kernel) (by decide +kernel)) ggL_law_X8_leave
set_option maxRecDepth 20000 in
theorem ggL_law_X9_leave : GoodIn wsL_law wsX9_leave := goodIn_r _ [426, 237, 368, 369, 370, 5, 371, 273, 291, 292, 293, 427, 428, 429, 430, 276, 238, 431, 432, 433, 833, 834, 835, 836, 837, 838, 839, 840, 841, 842, 843, 844, 845, 846, 847, 848, 849, 850, 851, 852, 853, 854, 855, 856, 857, 858, 859, 860, 861, 862, 863, 864, 865, 866, 867, 868] (by decide +kernel) (by decide +kernel)
set_option maxRecDepth 20000 in
theorem gL_law_X9_leave : GoodIn wsL_law (wsV RL 43 RX9 yX9_leave wsX9_leave) := goodIn_app (goodIn_r _ [423, 424, 425, 5] (by decide +kernel) (by decide +kernel)) ggL_law_X9_leave
set_option maxRecDepth 20000 in
theorem ggL_law_X8_move : GoodIn wsL_law wsX8_move := goodIn_r _ [437, 24, 28, 205, 18, 206, 207, 167, 355, 356, 2, 357, 405, 406, 407, 408, 33, 159, 409, 27, 410, 411, 68, 217, 216, 412, 32, 413, 414, 221, 74, 415, 416, 417, 418, 419, 420, 421, 422, 438, 196, 197, 820, 821, 822, 823, 824, 825, 826, 827, 828, 829, 830, 831, 832, 883, 884, 885, 886, 871, 872, 873, 874, 875, 876, 877, 878, 879, 887, 888] (by decide +kernel) (by decide +kernel)
set_option maxRecDepth 20000 in
theorem gL_law_X8_move : GoodIn wsL_law (wsV RL 44 RX8 yX8_move wsX8_move) := goodIn_app (goodIn_r _ [434, 435, 436, 2] (by decide +kernel) (by decide +kernel)) ggL_law_X8_move
set_option maxRecDepth 20000 in
theorem ggL_law_X9_move : GoodIn wsL_law wsX9_move := goodIn_r _ [442, 237, 368, 369, 370, 5, 371, 273, 291, 292, 293, 427, 428, 429, 430, 276, 238, 431, 432, 433, 833, 834, 835, 836, 837, 838, 839, 840, 841, 842, 843, 844, 845, 846, 847, 848, 849, 850, 851, 852, 853, 854, 855, 856, 857, 858, 859, 860, 861, 862, 863, 864, 865, 866, 867, 868] (by decide +kernel) (by decide +kernel)
set_option maxRecDepth 20000 in
theorem gL_law_X9_move : GoodIn wsL_law (wsV RL 47 RX9 yX9_move wsX9_move) := goodIn_app (goodIn_r _ [439, 440, 441, 5] (by decide +kernel) (by decide +kernel)) ggL_law_X9_move
set_option maxRecDepth 20000 in
theorem ggL_law_X8_strike : GoodIn wsL_law wsX8_strike := goodIn_r _ [446, 24, 28, 380, 18, 381, 382, 168, 358, 359, 2, 360, 405, 406, 407, 408, 33, 159, 409, 27, 410, 411, 68, 217, 216, 412, 32, 413, 414, 221, 74, 415, 416, 417, 418, 419, 420, 421, 422, 447, 448, 449, 450, 451, 452, 453, 820, 821, 822, 823, 824, 825, 826, 827, 828, 829, 830, 831, 832, 883, 884, 885, 886, 871, 872, 873, 874, 875, 876, 877, 878, 879, 887, 888] (by decide +kernel) (by decide +kernel)
set_option maxRecDepth 20000 in
theorem gL_law_X8_strike : GoodIn wsL_law (wsV RL 48 RX8 yX8_strike wsX8_strike) := goodIn_app (goodIn_r _ [443, 444, 445, 2] (by decide +kernel) (by decide +kernel)) ggL_law_X8_strike
set_option maxRecDepth 20000 in
theorem ggL_law_X9_strike : GoodIn wsL_law wsX9_strike := goodIn_r _ [457, 274, 237, 291, 292, 5, 293, 394, 395, 396, 427, 428, 429, 430, 276, 238, 431, 432, 433, 458, 459, 460, 833, 834, 835, 836, 837, 838, 839, 840, 841, 842, 843, 844, 845, 846, 847, 848, 849, 850, 851, 852, 853, 854, 855, 856, 857, 858, 859, 860, 861, 862, 863, 864, 865, 866, 867, 868] (by decide +kernel) (by decide +kernel)
set_option maxRecDepth 20000 in
theorem gL_law_X9_strike : GoodIn wsL_law (wsV RL 52 RX9 yX9_strike wsX9_strike) := goodIn_app (goodIn_r _ [454, 455, 456, 5] (by decide +kernel) (by decide +kernel)) ggL_law_X9_strike
set_option maxRecDepth 20000 in
theorem ggL_law_X8_undo : GoodIn wsL_law wsX8_undo := goodIn_r _ [464, 33, 465, 32, 466, 467, 221, 74, 468, 469, 470, 2, 471, 28, 159, 472, 27, 473, 474, 216, 217, 68, 475, 476, 477, 820, 821, 822, 823, 824, 825, 826, 827, 828, 829, 830, 831, 832, 887, 888, 883, 884, 885, 886] (by decide +kernel) (by decide +kernel)
set_option maxRecDepth 20000 in
theorem gL_law_X8_undo : GoodIn wsL_law (wsV RL 53 RX8 yX8_undo wsX8_undo) := goodIn_app (goodIn_r _ [461, 462, 463, 2] (by decide +kernel) (by decide +kernel)) ggL_law_X8_undo
set_option maxRecDepth 20000 in
theorem ggL_law_X9_undo : GoodIn wsL_law wsX9_undo := goodIn_r _ [481, 276, 237, 238, 431, 432, 5, 433, 833, 834, 835, 836, 837, 838, 839, 840, 841, 842, 843, 844, 845, 846, 847, 848, 849, 850, 851, 852, 853, 854, 855, 856, 857, 858, 859, 860, 861, 862, 863, 864, 865, 866, 867, 868] (by decide +kernel) (by decide +kernel)
set_option maxRecDepth 20000 in
theorem gL_law_X9_undo : GoodIn wsL_law (wsV RL 56 RX9 yX9_undo wsX9_undo) := goodIn_app (goodIn_r _ [478, 479, 480, 5] (by decide +kernel) (by decide +kernel)) ggL_law_X9_undo
set_option maxRecDepth 20000 in
theorem ggL_law_X8_good : GoodIn wsL_law wsX8_good := goodIn_r _ [485, 42, 486, 487, 488, 2, 489, 159, 28, 38, 490, 41, 491, 492, 493, 86, 494, 495, 496, 497, 87, 92, 93, 498, 499, 500, 501, 502, 503, 504, 27, 505, 506, 69, 507, 383, 384, 385, 216, 217, 356, 357, 359, 360, 508, 85, 509, 510, 511, 97, 100, 101, 196, 197, 512, 513, 514, 515, 516, 517, 518, 361, 362, 363, 68, 519, 520, 521, 522, 523, 524, 525, 98, 99, 526, 527, 528, 529, 530, 531, 532, 533, 534, 535, 536, 537, 538, 37, 539, 540, 225, 78, 79, 541, 542, 543, 544, 545, 546, 547, 88, 548, 89, 90, 549, 550, 551, 91, 552, 211, 212, 553, 554, 555, 556, 557, 558, 559, 560, 561, 562, 563, 447, 448, 449, 450, 451, 452, 453, 355, 820, 821, 822, 823, 824, 825, 826, 827, 828, 829, 830, 831, 832, 892, 893, 894, 895, 896, 897, 898, 899, 900, 901, 902, 903, 883, 884, 885, 886, 871, 872, 873, 874, 875, 876, 877, 878, 879, 904, 905, 906, 907, 908, 909, 910, 889, 890, 891] (by decide +kernel) (by decide +kernel)
set_option maxRecDepth 20000 in
theorem gL_law_X8_good : GoodIn wsL_law (wsV RL 57 RX8 yX8_good wsX8_good) := goodIn_app (goodIn_r _ [482, 483, 484, 2] (by decide +kernel) (by decide +kernel)) ggL_law_X8_good
set_option maxRecDepth 20000 in
theorem ggL_law_X9_good : GoodIn wsL_law wsX9_good := goodIn_r _ [567, 237, 568, 569, 248, 291, 292, 5, 293, 570, 571, 572, 573, 574, 575, 273, 251, 250, 249, 274, 390, 391, 392, 393, 235, 236, 394, 395, 396, 397, 398, 399, 400, 234, 576, 577, 578, 579, 275, 252, 253, 580, 581, 582, 583, 372, 373, 374, 375, 233, 584, 585, 586, 587, 588, 589, 590, 591, 592, 593, 594, 595, 596, 597, 598, 599, 833, 834, 835, 836, 837, 838, 839, 840, 841, 842, 843, 844, 845, 846, 847, 848, 849, 850, 851, 852, 853, 854, 855, 856, 857, 858, 859, 860, 861, 862, 863, 864, 865, 866, 867, 868] (by decide +kernel) (by decide +kernel)
set_option maxRecDepth 20000 in
theorem gL_law_X9_good : GoodIn wsL_law (wsV RL 60 RX9 yX9_good wsX9_good) := goodIn_app (goodIn_r _ [564, 565, 566, 5] (by decide +kernel) (by decide +kernel)) ggL_law_X9_good
set_option maxRecDepth 20000 in
theorem ggL_law_X8_soonest : GoodIn wsL_law wsX8_soonest := goodIn_r _ [603, 42, 486, 487, 488, 2, 489, 159, 28, 38, 490, 41, 491, 492, 493, 86, 494, 495, 496, 497, 87, 92, 93, 498, 499, 500, 501, 502, 503, 504, 27, 505, 506, 69, 507, 383, 384, 385, 216, 217, 356, 357, 359, 360, 508, 85, 509, 510, 511, 97, 100, 101, 196, 197, 512, 513, 514, 515, 516, 517, 518, 361, 362, 363, 68, 519, 520, 521, 522, 523, 524, 525, 98, 99, 526, 527, 528, 529, 530, 531, 532, 533, 534, 535, 536, 537, 538, 37, 539, 540, 225, 78, 79, 541, 542, 543, 544, 545, 546, 547, 88, 548, 89, 90, 549, 550, 551, 91, 552, 211, 212, 553, 554, 555, 556, 557, 558, 559, 604, 605, 606, 560, 561, 562, 563, 447, 448, 449, 450, 451, 452, 453, 355, 820, 821, 822, 823, 824, 825, 826, 827, 828, 829, 830, 831, 832, 892, 893, 894, 895, 896, 897, 898, 899, 900, 901, 902, 903, 883, 884, 885, 886, 871, 872, 873, 874, 875, 876, 877, 878, 879, 904, 905, 906, 907, 908, 909, 910, 889, 890, 891] (by decide +kernel) (by decide +kernel)
set_option maxRecDepth 20000 in
theorem gL_law_X8_soonest : GoodIn wsL_law (wsV RL 61 RX8 yX8_soonest wsX8_soonest) := goodIn_app (goodIn_r _ [600, 601, 602, 2] (by decide +kernel) (by decide +kernel)) ggL_law_X8_soonest
set_option maxRecDepth 20000 in
theorem ggL_law_X9_soonest : GoodIn wsL_law wsX9_soonest := goodIn_r _ [610, 237, 569, 250, 248, 291, 292, 5, 293, 570, 571, 572, 573, 574, 575, 273, 251, 568, 249, 274, 390, 391, 392, 393, 235, 236, 394, 395, 396, 397, 398, 399, 400, 234, 576, 577, 578, 579, 275, 252, 253, 580, 581, 582, 583, 372, 373, 374, 375, 233, 584, 585, 586, 587, 588, 589, 590, 591, 592, 593, 594, 595, 611, 612, 613, 614, 596, 597, 598, 599, 833, 834, 835, 836, 837, 838, 839, 840, 841, 842, 843, 844, 845, 846, 847, 848, 849, 850, 851, 852, 853, 854, 855, 856, 857, 858, 859, 860, 861, 862, 863, 864, 865, 866, 867, 868] (by decide +kernel) (by decide +kernel)
set_option maxRecDepth 20000 in
theorem gL_law_X9_soonest : GoodIn wsL_law (wsV RL 64 RX9 yX9_soonest wsX9_soonest) := goodIn_app (goodIn_r _ [607, 608, 609, 5] (by decide +kernel) (by decide +kernel)) ggL_law_X9_soonest
set_option maxRecDepth 20000 in
theorem ggL_law_X8_most : GoodIn wsL_law wsX8_most := goodIn_r _ [618, 42, 486, 487, 488, 2, 489, 159, 28, 38, 490, 41, 491, 492, 493, 86, 494, 495, 496, 497, 87, 92, 93, 498, 499, 500, 501, 502, 503, 504, 27, 505, 506, 69, 507, 383, 384, 385, 216, 217, 356, 357, 359, 360, 508, 85, 509, 510, 511, 97, 100, 101, 196, 197, 512, 513, 514, 515, 516, 517, 518, 361, 362, 363, 68, 519, 520, 521, 522, 523, 524, 525, 98, 99, 526, 527, 528, 529, 530, 531, 532, 533, 534, 535, 536, 537, 538, 37, 539, 540, 225, 78, 79, 541, 542, 543, 544, 545, 546, 547, 88, 548, 89, 90, 549, 550, 551, 91, 552, 211, 212, 553, 554, 555, 556, 557, 558, 559, 619, 620, 621, 622, 448, 449, 450, 451, 452, 453, 447, 820, 821, 822, 823, 824, 825, 826, 827, 828, 829, 830, 831, 832, 892, 893, 894, 895, 896, 897, 898, 899, 900, 901, 902, 903, 883, 884, 885, 886, 871, 872, 873, 874, 875, 876, 877, 878, 879, 904, 905, 906, 907, 908, 909, 910, 889, 890, 891] (by decide +kernel) (by decide +kernel)
set_option maxRecDepth 20000 in
theorem gL_law_X8_most : GoodIn wsL_law (wsV RL 65 RX8 yX8_most wsX8_most) := goodIn_app (goodIn_r _ [615, 616, 617, 2] (by decide +kernel) (by decide +kernel)) ggL_law_X8_most
set_option maxRecDepth 20000 in
theorem ggL_law_X9_most : GoodIn wsL_law wsX9_most := goodIn_r _ [626, 237, 568, 249, 291, 292, 5, 293, 570, 571, 572, 573, 574, 575, 569, 273, 251, 250, 274, 248, 390, 391, 392, 393, 235, 236, 394, 395, 396, 397, 398, 399, 400, 234, 576, 577, 578, 579, 275, 252, 253, 580, 581, 582, 583, 372, 373, 374, 375, 233, 584, 585, 586, 587, 588, 589, 590, 591, 592, 593, 594, 595, 458, 459, 460, 833, 834, 835, 836, 837, 838, 839, 840, 841, 842, 843, 844, 845, 846, 847, 848, 849, 850, 851, 852, 853, 854, 855, 856, 857, 858, 859, 860, 861, 862, 863, 864, 865, 866, 867, 868] (by decide +kernel) (by decide +kernel)
set_option maxRecDepth 20000 in
theorem gL_law_X9_most : GoodIn wsL_law (wsV RL 68 RX9 yX9_most wsX9_most) := goodIn_app (goodIn_r _ [623, 624, 625, 5] (by decide +kernel) (by decide +kernel)) ggL_law_X9_most
set_option maxRecDepth 20000 in
theorem ggL_law_X8_core : GoodIn wsL_law wsX8_core := goodIn_r _ [630, 42, 486, 487, 488, 2, 489, 159, 28, 38, 490, 41, 491, 492, 493, 86, 494, 495, 496, 497, 87, 92, 93, 498, 499, 500, 501, 502, 503, 504, 27, 505, 506, 69, 507, 383, 384, 385, 216, 217, 356, 357, 359, 360, 508, 85, 509, 510, 511, 97, 100, 101, 196, 197, 512, 513, 514, 515, 516, 517, 518, 361, 362, 363, 68, 519, 520, 521, 522, 523, 524, 525, 98, 99, 526, 527, 528, 529, 530, 531, 532, 533, 534, 535, 536, 537, 538, 37, 539, 540, 225, 78, 79, 541, 542, 543, 544, 545, 546, 547, 88, 548, 89, 90, 549, 550, 551, 91, 552, 211, 212, 553, 554, 555, 556, 557, 558, 559, 631, 632, 633, 622, 448, 449, 450, 451, 452, 453, 634, 635, 636, 637, 820, 821, 822, 823, 824, 825, 826, 827, 828, 829, 830, 831, 832, 892, 893, 894, 895, 896, 897, 898, 899, 900, 901, 902, 903, 883, 884, 885, 886, 871, 872, 873, 874, 875, 876, 877, 878, 879, 904, 905, 906, 907, 908, 909, 910, 889, 890, 891] (by decide +kernel) (by decide +kernel)
set_option maxRecDepth 20000 in
theorem gL_law_X8_core : GoodIn wsL_law (wsV RL 69 RX8 yX8_core wsX8_core) := goodIn_app (goodIn_r _ [627, 628, 629, 2] (by decide +kernel) (by decide +kernel)) ggL_law_X8_core
set_option maxRecDepth 20000 in
theorem ggL_law_X9_core : GoodIn wsL_law wsX9_core := goodIn_r _ [641, 237, 274, 575, 570, 571, 572, 5, 573, 574, 569, 273, 251, 568, 250, 249, 248, 390, 391, 392, 393, 235, 236, 394, 395, 396, 397, 398, 399, 400, 234, 576, 577, 578, 579, 275, 252, 253, 580, 581, 582, 583, 372, 373, 374, 375, 233, 584, 585, 586, 587, 588, 589, 590, 591, 592, 593, 594, 595, 458, 459, 460, 642, 643, 644, 645, 833, 834, 835, 836, 837, 838, 839, 840, 841, 842, 843, 844, 845, 846, 847, 848, 849, 850, 851, 852, 853, 854, 855, 856, 857, 858, 859, 860, 861, 862, 863, 864, 865, 866, 867, 868] (by decide +kernel) (by decide +kernel)
set_option maxRecDepth 20000 in
theorem gL_law_X9_core : GoodIn wsL_law (wsV RL 72 RX9 yX9_core wsX9_core) := goodIn_app (goodIn_r _ [638, 639, 640, 5] (by decide +kernel) (by decide +kernel)) ggL_law_X9_core
set_option maxRecDepth 20000 in
theorem ggL_law_X8_place : GoodIn wsL_law wsX8_place := goodIn_r _ [649, 24, 28, 42, 205, 18, 206, 207, 167, 486, 487, 488, 2, 489, 159, 38, 490, 41, 491, 492, 493, 86, 494, 495, 496, 497, 87, 92, 93, 498, 499, 500, 501, 502, 503, 504, 27, 505, 506, 69, 507, 383, 384, 385, 216, 217, 356, 357, 359, 360, 508, 85, 509, 510, 511, 97, 100, 101, 196, 197, 512, 513, 514, 515, 516, 517, 518, 361, 362, 363, 68, 519, 520, 521, 522, 523, 524, 525, 98, 99, 526, 527, 528, 529, 530, 531, 532, 533, 534, 535, 536, 537, 538, 37, 539, 540, 225, 78, 79, 541, 542, 543, 544, 545, 546, 547, 88, 548, 89, 90, 549, 550, 551, 91, 552, 211, 212, 553, 554, 555, 556, 557, 558, 559, 358, 355, 820, 821, 822, 823, 824, 825, 826, 827, 828, 829, 830, 831, 832, 883, 884, 885, 886, 892, 893, 894, 895, 896, 897, 898, 899, 900, 901, 902, 903, 871, 872, 873, 874, 875, 876, 877, 878, 879, 904, 905, 906, 907, 908, 909, 910, 889, 890, 891] (by decide +kernel) (by decide +kernel)
set_option maxRecDepth 20000 in
theorem gL_law_X8_place : GoodIn wsL_law (wsV RL 73 RX8 yX8_place wsX8_place) := goodIn_app (goodIn_r _ [646, 647, 648, 2] (by decide +kernel) (by decide +kernel)) ggL_law_X8_place
set_option maxRecDepth 20000 in
theorem ggL_law_X9_place : GoodIn wsL_law wsX9_place := goodIn_r _ [653, 237, 568, 368, 369, 370, 5, 371, 273, 291, 292, 293, 654, 655, 656, 657, 394, 395, 396, 570, 571, 572, 573, 574, 575, 569, 251, 250, 249, 274, 248, 390, 391, 392, 393, 235, 236, 397, 398, 399, 400, 234, 576, 577, 578, 579, 275, 252, 253, 580, 581, 582, 583, 372, 373, 374, 375, 233, 584, 585, 586, 587, 588, 589, 590, 591, 592, 593, 594, 595, 596, 597, 598, 599, 658, 659, 660, 661, 833, 834, 835, 836, 837, 838, 839, 840, 841, 842, 843, 844, 845, 846, 847, 848, 849, 850, 851, 852, 853, 854, 855, 856, 857, 858, 859, 860, 861, 862, 863, 864, 865, 866, 867, 868] (by decide +kernel) (by decide +kernel)
set_option maxRecDepth 20000 in
theorem gL_law_X9_place : GoodIn wsL_law (wsV RL 76 RX9 yX9_place wsX9_place) := goodIn_app (goodIn_r _ [650, 651, 652, 5] (by decide +kernel) (by decide +kernel)) ggL_law_X9_place
set_option maxRecDepth 20000 in
theorem ggL_law_X8_ahead : GoodIn wsL_law wsX8_ahead := goodIn_r _ [665, 24, 28, 42, 205, 18, 206, 207, 167, 486, 487, 488, 2, 489, 159, 38, 490, 41, 491, 492, 493, 86, 494, 495, 496, 497, 87, 92, 93, 498, 499, 500, 501, 502, 503, 504, 27, 505, 506, 69, 507, 383, 384, 385, 216, 217, 356, 357, 359, 360, 508, 85, 509, 510, 511, 97, 100, 101, 196, 197, 512, 513, 514, 515, 516, 517, 518, 361, 362, 363, 68, 519, 520, 521, 522, 523, 524, 525, 98, 99, 526, 527, 528, 529, 530, 531, 532, 533, 534, 535, 536, 537, 538, 37, 539, 540, 225, 78, 79, 541, 542, 543, 544, 545, 546, 547, 88, 548, 89, 90, 549, 550, 551, 91, 552, 211, 212, 553, 554, 555, 556, 557, 558, 559, 358, 355, 820, 821, 822, 823, 824, 825, 826, 827, 828, 829, 830, 831, 832, 883, 884, 885, 886, 892, 893, 894, 895, 896, 897, 898, 899, 900, 901, 902, 903, 871, 872, 873, 874, 875, 876, 877, 878, 879, 904, 905, 906, 907, 908, 909, 910, 889, 890, 891] (by decide +kernel) (by decide +kernel)
set_option maxRecDepth 20000 in
theorem gL_law_X8_ahead : GoodIn wsL_law (wsV RL 77 RX8 yX8_ahead wsX8_ahead) := goodIn_app (goodIn_r _ [662, 663, 664, 2] (by decide +kernel) (by decide +kernel)) ggL_law_X8_ahead
set_option maxRecDepth 20000 in
theorem ggL_law_X9_ahead : GoodIn wsL_law wsX9_ahead := goodIn_r _ [669, 237, 568, 368, 369, 370, 5, 371, 273, 291, 292, 293, 654, 655, 656, 657, 394, 395, 396, 570, 571, 572, 573, 574, 575, 569, 251, 250, 249, 274, 248, 390, 391, 392, 393, 235, 236, 397, 398, 399, 400, 234, 576, 577, 578, 579, 275, 252, 253, 580, 581, 582, 583, 372, 373, 374, 375, 233, 584, 585, 586, 587, 588, 589, 590, 591, 592, 593, 594, 595, 596, 597, 598, 599, 658, 659, 660, 661, 833, 834, 835, 836, 837, 838, 839, 840, 841, 842, 843, 844, 845, 846, 847, 848, 849, 850, 851, 852, 853, 854, 855, 856, 857, 858, 859, 860, 861, 862, 863, 864, 865, 866, 867, 868] (by decide +kernel) (by decide +kernel)
set_option maxRecDepth 20000 in
theorem gL_law_X9_ahead : GoodIn wsL_law (wsV RL 80 RX9 yX9_ahead wsX9_ahead) := goodIn_app (goodIn_r _ [666, 667, 668, 5] (by decide +kernel) (by decide +kernel)) ggL_law_X9_ahead
set_option maxRecDepth 20000 in
theorem ggL_law_X8_hangs : GoodIn wsL_law wsX8_hangs := goodIn_r _ [673, 24, 28, 205, 18, 206, 207, 167, 358, 359, 2, 360, 674, 27, 675, 676, 69, 677, 678, 679, 680, 356, 357, 202, 203, 507, 383, 384, 385, 216, 217, 820, 821, 822, 823, 824, 825, 826, 827, 828, 829, 830, 831, 832, 883, 884, 885, 886, 871, 872, 873, 874, 875, 876, 877, 878, 879] (by decide +kernel) (by decide +kernel)
set_option maxRecDepth 20000 in
theorem gL_law_X8_hangs : GoodIn wsL_law (wsV RL 81 RX8 yX8_hangs wsX8_hangs) := goodIn_app (goodIn_r _ [670, 671, 672, 2] (by decide +kernel) (by decide +kernel)) ggL_law_X8_hangs
set_option maxRecDepth 20000 in
theorem ggL_law_X9_hangs : GoodIn wsL_law wsX9_hangs := goodIn_r _ [684, 368, 369, 370, 5, 371, 273, 291, 292, 293, 654, 655, 656, 657, 237, 394, 395, 396, 685, 686, 687, 688, 274, 234, 235, 236, 390, 391, 392, 393, 397, 398, 399, 400, 833, 834, 835, 836, 837, 838, 839, 840, 841, 842, 843, 844, 845, 846, 847, 848, 849, 850, 851, 852, 853, 854, 855, 856, 857, 858, 859, 860, 861, 862, 863, 864, 865, 866, 867, 868] (by decide +kernel) (by decide +kernel)
set_option maxRecDepth 20000 in
theorem gL_law_X9_hangs : GoodIn wsL_law (wsV RL 84 RX9 yX9_hangs wsX9_hangs) := goodIn_app (goodIn_r _ [681, 682, 683, 5] (by decide +kernel) (by decide +kernel)) ggL_law_X9_hangs
set_option maxRecDepth 20000 in
theorem ggL_law_X8_woken : GoodIn wsL_law wsX8_woken := goodIn_r _ [692, 24, 38, 159, 205, 18, 206, 207, 167, 693, 37, 694, 695, 225, 696, 697, 698, 78, 79, 196, 2, 197, 820, 821, 822, 823, 824, 825, 826, 827, 828, 829, 830, 831, 832, 889, 890, 891, 871, 872, 873, 874, 875, 876, 877, 878, 879] (by decide +kernel) (by decide +kernel)
set_option maxRecDepth 20000 in
theorem gL_law_X8_woken : GoodIn wsL_law (wsV RL 85 RX8 yX8_woken wsX8_woken) := goodIn_app (goodIn_r _ [689, 690, 691, 2] (by decide +kernel) (by decide +kernel)) ggL_law_X8_woken
set_option maxRecDepth 20000 in
theorem ggL_law_X9_woken : GoodIn wsL_law wsX9_woken := goodIn_r _ [702, 278, 240, 368, 369, 370, 5, 371, 273, 291, 292, 293, 833, 834, 835, 836, 837, 838, 839, 840, 841, 842, 843, 844, 845, 846, 847, 848, 849, 850, 851, 852, 853, 854, 855, 856, 857, 858, 859, 860, 861, 862, 863, 864, 865, 866, 867, 868] (by decide +kernel) (by decide +kernel)
set_option maxRecDepth 20000 in
theorem gL_law_X9_woken : GoodIn wsL_law (wsV RL 88 RX9 yX9_woken wsX9_woken) := goodIn_app (goodIn_r _ [699, 700, 701, 5] (by decide +kernel) (by decide +kernel)) ggL_law_X9_woken
set_option maxRecDepth 20000 in
theorem ggL_law_X8_forget : GoodIn wsL_law wsX8_forget := goodIn_r _ [706, 38, 159, 222, 37, 223, 224, 225, 820, 821, 822, 823, 824, 825, 826, 827, 828, 829, 830, 831, 832, 889, 890, 891] (by decide +kernel) (by decide +kernel)
set_option maxRecDepth 20000 in
theorem gL_law_X8_forget : GoodIn wsL_law (wsV RL 89 RX8 yX8_forget wsX8_forget) := goodIn_app (goodIn_r _ [703, 704, 705, 2] (by decide +kernel) (by decide +kernel)) ggL_law_X8_forget
set_option maxRecDepth 20000 in
theorem ggL_law_X9_forget : GoodIn wsL_law wsX9_forget := goodIn_r _ [710, 278, 833, 834, 835, 836, 837, 838, 839, 840, 841, 842, 843, 844, 845, 846, 847, 848, 849, 850, 851, 852, 853, 854, 855, 856, 857, 858, 859, 860, 861, 862, 863, 864, 865, 866, 867, 868] (by decide +kernel) (by decide +kernel)
set_option maxRecDepth 20000 in
theorem gL_law_X9_forget : GoodIn wsL_law (wsV RL 92 RX9 yX9_forget wsX9_forget) := goodIn_app (goodIn_r _ [707, 708, 709, 5] (by decide +kernel) (by decide +kernel)) ggL_law_X9_forget
set_option maxRecDepth 20000 in
theorem ggL_law_X8_slates : GoodIn wsL_law wsX8_slates := goodIn_r _ [714, 42, 486, 487, 488, 2, 489, 159, 28, 38, 490, 41, 491, 492, 493, 86, 494, 495, 496, 497, 87, 92, 93, 498, 499, 500, 501, 502, 503, 504, 27, 505, 506, 69, 507, 383, 384, 385, 216, 217, 356, 357, 359, 360, 508, 85, 509, 510, 511, 97, 100, 101, 196, 197, 512, 513, 514, 515, 516, 517, 518, 361, 362, 363, 68, 519, 520, 521, 522, 523, 524, 525, 98, 99, 526, 527, 528, 529, 530, 531, 532, 533, 534, 535, 536, 537, 538, 37, 539, 540, 225, 78, 79, 541, 542, 543, 544, 545, 546, 547, 88, 548, 89, 90, 549, 550, 551, 91, 552, 211, 212, 553, 554, 555, 556, 557, 558, 559, 715, 716, 717, 622, 448, 449, 450, 451, 452, 453, 718, 719, 720, 820, 821, 822, 823, 824, 825, 826, 827, 828, 829, 830, 831, 832, 892, 893, 894, 895, 896, 897, 898, 899, 900, 901, 902, 903, 883, 884, 885, 886, 871, 872, 873, 874, 875, 876, 877, 878, 879, 904, 905, 906, 907, 908, 909, 910, 889, 890, 891] (by decide +kernel) (by decide +kernel)
set_option maxRecDepth 20000 in
theorem gL_law_X8_slates : GoodIn wsL_law (wsV RL 93 RX8 yX8_slates wsX8_slates) := goodIn_app (goodIn_r _ [711, 712, 713, 2] (by decide +kernel) (by decide +kernel)) ggL_law_X8_slates
set_option maxRecDepth 20000 in
theorem ggL_law_X9_slates : GoodIn wsL_law wsX9_slates := goodIn_r _ [724, 237, 568, 291, 292, 5, 293, 570, 571, 572, 573, 574, 575, 569, 273, 251, 250, 249, 274, 248, 390, 391, 392, 393, 235, 236, 394, 395, 396, 397, 398, 399, 400, 234, 576, 577, 578, 579, 275, 252, 253, 580, 581, 582, 583, 372, 373, 374, 375, 233, 584, 585, 586, 587, 588, 589, 590, 591, 592, 593, 594, 595, 368, 369, 370, 371, 654, 655, 656, 657, 596, 597, 598, 599, 658, 659, 660, 661, 725, 726, 727, 728, 278, 240, 833, 834, 835, 836, 837, 838, 839, 840, 841, 842, 843, 844, 845, 846, 847, 848, 849, 850, 851, 852, 853, 854, 855, 856, 857, 858, 859, 860, 861, 862, 863, 864, 865, 866, 867, 868] (by decide +kernel) (by decide +kernel)
set_option maxRecDepth 20000 in
theorem gL_law_X9_slates : GoodIn wsL_law (wsV RL 96 RX9 yX9_slates wsX9_slates) := goodIn_app (goodIn_r _ [721, 722, 723, 5] (by decide +kernel) (by decide +kernel)) ggL_law_X9_slates
set_option maxRecDepth 20000 in
theorem ggL_law_X8_washed : GoodIn wsL_law wsX8_washed := goodIn_r _ [732, 42, 486, 487, 488, 2, 489, 159, 28, 38, 490, 41, 491, 492, 493, 86, 494, 495, 496, 497, 87, 92, 93, 498, 499, 500, 501, 502, 503, 504, 27, 505, 506, 69, 507, 383, 384, 385, 216, 217, 356, 357, 359, 360, 508, 85, 509, 510, 511, 97, 100, 101, 196, 197, 512, 513, 514, 515, 516, 517, 518, 361, 362, 363, 68, 519, 520, 521, 522, 523, 524, 525, 98, 99, 526, 527, 528, 529, 530, 531, 532, 533, 534, 535, 536, 537, 538, 37, 539, 540, 225, 78, 79, 541, 542, 543, 544, 545, 546, 547, 88, 548, 89, 90, 549, 550, 551, 91, 552, 211, 212, 553, 554, 555, 556, 557, 558, 559, 820, 821, 822, 823, 824, 825, 826, 827, 828, 829, 830, 831, 832, 892, 893, 894, 895, 896, 897, 898, 899, 900, 901, 902, 903, 883, 884, 885, 886, 871, 872, 873, 874, 875, 876, 877, 878, 879, 904, 905, 906, 907, 908, 909, 910, 889, 890, 891] (by decide +kernel) (by decide +kernel)
set_option maxRecDepth 20000 in
theorem gL_law_X8_washed : GoodIn wsL_law (wsV RL 97 RX8 yX8_washed wsX8_washed) := goodIn_app (goodIn_r _ [729, 730, 731, 2] (by decide +kernel) (by decide +kernel)) ggL_law_X8_washed
set_option maxRecDepth 20000 in
theorem ggL_law_X9_washed : GoodIn wsL_law wsX9_washed := goodIn_r _ [736, 237, 568, 570, 571, 572, 5, 573, 574, 575, 569, 273, 251, 250, 249, 274, 248, 390, 391, 392, 393, 235, 236, 394, 395, 396, 397, 398, 399, 400, 234, 576, 577, 578, 579, 275, 252, 253, 580, 581, 582, 583, 372, 373, 374, 375, 233, 584, 585, 586, 587, 588, 589, 590, 591, 592, 593, 594, 595, 725, 726, 727, 728, 278, 240, 654, 655, 656, 657, 658, 659, 660, 661, 833, 834, 835, 836, 837, 838, 839, 840, 841, 842, 843, 844, 845, 846, 847, 848, 849, 850, 851, 852, 853, 854, 855, 856, 857, 858, 859, 860, 861, 862, 863, 864, 865, 866, 867, 868] (by decide +kernel) (by decide +kernel)
set_option maxRecDepth 20000 in
theorem gL_law_X9_washed : GoodIn wsL_law (wsV RL 100 RX9 yX9_washed wsX9_washed) := goodIn_app (goodIn_r _ [733, 734, 735, 5] (by decide +kernel) (by decide +kernel)) ggL_law_X9_washed
set_option maxRecDepth 20000 in
theorem ggL_law_X8_two : GoodIn wsL_law wsX8_two := goodIn_r _ [740, 28, 741, 27, 742, 743, 216, 515, 516, 517, 518, 744, 745, 746, 747, 68, 69, 359, 2, 360, 748, 361, 362, 363, 356, 357, 820, 821, 822, 823, 824, 825, 826, 827, 828, 829, 830, 831, 832, 883, 884, 885, 886, 871, 872, 873, 874, 875, 876, 877, 878, 879] (by decide +kernel) (by decide +kernel)
set_option maxRecDepth 20000 in
theorem gL_law_X8_two : GoodIn wsL_law (wsV RL 101 RX8 yX8_two wsX8_two) := goodIn_app (goodIn_r _ [737, 738, 739, 2] (by decide +kernel) (by decide +kernel)) ggL_law_X8_two
set_option maxRecDepth 20000 in
theorem ggL_law_X9_two : GoodIn wsL_law wsX9_two := goodIn_r _ [752, 273, 237, 291, 292, 5, 293, 753, 754, 755, 756, 275, 394, 395, 396, 372, 373, 374, 375, 233, 833, 834, 835, 836, 837, 838, 839, 840, 841, 842, 843, 844, 845, 846, 847, 848, 849, 850, 851, 852, 853, 854, 855, 856, 857, 858, 859, 860, 861, 862, 863, 864, 865, 866, 867, 868] (by decide +kernel) (by decide +kernel)
set_option maxRecDepth 20000 in
theorem gL_law_X9_two : GoodIn wsL_law (wsV RL 104 RX9 yX9_two wsX9_two) := goodIn_app (goodIn_r _ [749, 750, 751, 5] (by decide +kernel) (by decide +kernel)) ggL_law_X9_two
set_option maxRecDepth 20000 in
theorem ggL_law_X8_overslept : GoodIn wsL_law wsX8_overslept := goodIn_r _ [760, 24, 28, 205, 18, 206, 207, 167, 358, 359, 2, 360, 761, 762, 763, 764, 674, 27, 675, 676, 69, 677, 678, 679, 680, 356, 357, 202, 203, 507, 383, 384, 385, 216, 217, 765, 766, 767, 820, 821, 822, 823, 824, 825, 826, 827, 828, 829, 830, 831, 832, 883, 884, 885, 886, 871, 872, 873, 874, 875, 876, 877, 878, 879] (by decide +kernel) (by decide +kernel)
set_option maxRecDepth 20000 in
theorem gL_law_X8_overslept : GoodIn wsL_law (wsV RL 105 RX8 yX8_overslept wsX8_overslept) := goodIn_app (goodIn_r _ [757, 758, 759, 2] (by decide +kernel) (by decide +kernel)) ggL_law_X8_overslept
set_option maxRecDepth 20000 in
theorem ggL_law_X9_overslept : GoodIn wsL_law wsX9_overslept := goodIn_r _ [771, 273, 368, 369, 370, 5, 371, 291, 292, 293, 654, 655, 656, 657, 237, 394, 395, 396, 685, 686, 687, 688, 274, 234, 235, 236, 390, 391, 392, 393, 397, 398, 399, 400, 833, 834, 835, 836, 837, 838, 839, 840, 841, 842, 843, 844, 845, 846, 847, 848, 849, 850, 851, 852, 853, 854, 855, 856, 857, 858, 859, 860, 861, 862, 863, 864, 865, 866, 867, 868] (by decide +kernel) (by decide +kernel)
set_option maxRecDepth 20000 in
theorem gL_law_X9_overslept : GoodIn wsL_law (wsV RL 109 RX9 yX9_overslept wsX9_overslept) := goodIn_app (goodIn_r _ [768, 769, 770, 5] (by decide +kernel) (by decide +kernel)) ggL_law_X9_overslept
set_option maxRecDepth 20000 in
theorem ggL_law_X8_dawn : GoodIn wsL_law wsX8_dawn := goodIn_r _ [775, 45, 776, 777, 778, 2, 779, 29, 28, 24, 43, 38, 409, 27, 410, 411, 68, 217, 216, 472, 473, 474, 475, 476, 477, 205, 18, 206, 207, 167, 490, 41, 491, 492, 493, 86, 494, 495, 496, 497, 87, 92, 93, 498, 499, 500, 501, 502, 503, 504, 505, 506, 69, 507, 383, 384, 385, 356, 357, 359, 360, 508, 85, 509, 510, 511, 97, 100, 101, 196, 197, 512, 513, 514, 515, 516, 517, 518, 361, 362, 363, 519, 520, 521, 522, 523, 524, 525, 98, 99, 526, 527, 528, 529, 530, 531, 532, 533, 534, 535, 536, 537, 538, 37, 539, 540, 225, 78, 79, 541, 542, 543, 544, 545, 546, 547, 88, 548, 89, 90, 549, 550, 551, 91, 552, 211, 212, 553, 554, 555, 556, 557, 558, 559, 604, 605, 606, 780, 781, 782, 783, 784, 785, 786, 787, 355, 820, 821, 822, 823, 824, 825, 826, 827, 828, 829, 830, 831, 832, 883, 884, 885, 886, 871, 872, 873, 874, 875, 876, 877, 878, 879, 892, 893, 894, 895, 896, 897, 898, 899, 900, 901, 902, 903, 904, 905, 906, 907, 908, 909, 910, 889, 890, 891] (by decide +kernel) (by decide +kernel)
set_option maxRecDepth 20000 in
theorem gL_law_X8_dawn : GoodIn wsL_law (wsV RL 110 RX8 yX8_dawn wsX8_dawn) := goodIn_app (goodIn_r _ [772, 773, 774, 2] (by decide +kernel) (by decide +kernel)) ggL_law_X8_dawn
set_option maxRecDepth 20000 in
theorem ggL_law_X9_dawn : GoodIn wsL_law wsX9_dawn := goodIn_r _ [791, 792, 793, 794, 795, 237, 273, 250, 291, 292, 5, 293, 570, 571, 572, 573, 574, 575, 569, 251, 568, 249, 274, 248, 390, 391, 392, 393, 235, 236, 394, 395, 396, 397, 398, 399, 400, 234, 576, 577, 578, 579, 275, 252, 253, 580, 581, 582, 583, 372, 373, 374, 375, 233, 584, 585, 586, 587, 588, 589, 590, 591, 592, 593, 594, 595, 611, 612, 613, 614, 596, 597, 598, 599, 833, 834, 835, 836, 837, 838, 839, 840, 841, 842, 843, 844, 845, 846, 847, 848, 849, 850, 851, 852, 853, 854, 855, 856, 857, 858, 859, 860, 861, 862, 863, 864, 865, 866, 867, 868] (by decide +kernel) (by decide +kernel)
set_option maxRecDepth 20000 in
theorem gL_law_X9_dawn : GoodIn wsL_law (wsV RL 113 RX9 yX9_dawn wsX9_dawn) := goodIn_app (goodIn_r _ [788, 789, 790, 5] (by decide +kernel) (by decide +kernel)) ggL_law_X9_dawn
set_option maxRecDepth 20000 in
theorem ggL_law_X8_keep : GoodIn wsL_law wsX8_keep := goodIn_r _ [799, 34, 28, 416, 32, 417, 418, 221, 74, 409, 27, 410, 411, 68, 217, 216, 412, 413, 414, 415, 419, 420, 421, 422, 820, 821, 822, 823, 824, 825, 826, 827, 828, 829, 830, 831, 832, 887, 888, 883, 884, 885, 886] (by decide +kernel) (by decide +kernel)
set_option maxRecDepth 20000 in
theorem gL_law_X8_keep : GoodIn wsL_law (wsV RL 114 RX8 yX8_keep wsX8_keep) := goodIn_app (goodIn_r _ [796, 797, 798, 2] (by decide +kernel) (by decide +kernel)) ggL_law_X8_keep
set_option maxRecDepth 20000 in
theorem ggL_law_X9_keep : GoodIn wsL_law wsX9_keep := goodIn_r _ [803, 277, 239, 237, 431, 432, 5, 433, 833, 834, 835, 836, 837, 838, 839, 840, 841, 842, 843, 844, 845, 846, 847, 848, 849, 850, 851, 852, 853, 854, 855, 856, 857, 858, 859, 860, 861, 862, 863, 864, 865, 866, 867, 868] (by decide +kernel) (by decide +kernel)
set_option maxRecDepth 20000 in
theorem gL_law_X9_keep : GoodIn wsL_law (wsV RL 117 RX9 yX9_keep wsX9_keep) := goodIn_app (goodIn_r _ [800, 801, 802, 5] (by decide +kernel) (by decide +kernel)) ggL_law_X9_keep
set_option maxRecDepth 20000 in
theorem ggL_law_X8_back : GoodIn wsL_law wsX8_back := goodIn_r _ [807, 34, 33, 465, 32, 466, 467, 221, 74, 468, 469, 470, 2, 471, 28, 159, 472, 27, 473, 474, 216, 217, 68, 475, 476, 477, 218, 219, 220, 820, 821, 822, 823, 824, 825, 826, 827, 828, 829, 830, 831, 832, 887, 888, 883, 884, 885, 886] (by decide +kernel) (by decide +kernel)
set_option maxRecDepth 20000 in
theorem gL_law_X8_back : GoodIn wsL_law (wsV RL 118 RX8 yX8_back wsX8_back) := goodIn_app (goodIn_r _ [804, 805, 806, 2] (by decide +kernel) (by decide +kernel)) ggL_law_X8_back
set_option maxRecDepth 20000 in
theorem ggL_law_X9_back : GoodIn wsL_law wsX9_back := goodIn_r _ [811, 277, 237, 239, 276, 431, 432, 5, 433, 833, 834, 835, 836, 837, 838, 839, 840, 841, 842, 843, 844, 845, 846, 847, 848, 849, 850, 851, 852, 853, 854, 855, 856, 857, 858, 859, 860, 861, 862, 863, 864, 865, 866, 867, 868] (by decide +kernel) (by decide +kernel)
set_option maxRecDepth 20000 in
theorem gL_law_X9_back : GoodIn wsL_law (wsV RL 121 RX9 yX9_back wsX9_back) := goodIn_app (goodIn_r _ [808, 809, 810, 5] (by decide +kernel) (by decide +kernel)) ggL_law_X9_back
set_option maxRecDepth 20000 in
theorem ggL_law_X8_count : GoodIn wsL_law wsX8_count := goodIn_r _ [815, 24, 28, 38, 33, 34, 15, 447, 448, 449, 450, 451, 452, 453, 504, 27, 505, 506, 69, 507, 383, 384, 385, 216, 217, 356, 2, 357, 359, 360, 820, 821, 822, 823, 824, 825, 826, 827, 828, 829, 830, 831, 832, 871, 872, 873, 874, 875, 876, 877, 878, 879, 883, 884, 885, 886, 889, 890, 891, 887, 888, 869, 870] (by decide +kernel) (by decide +kernel)
set_option maxRecDepth 20000 in
theorem gL_law_X8_count : GoodIn wsL_law (wsV RL 122 RX8 yX8_count wsX8_count) := goodIn_app (goodIn_r _ [812, 813, 814, 2] (by decide +kernel) (by decide +kernel)) ggL_law_X8_count
set_option maxRecDepth 20000 in
theorem ggL_law_X9_count : GoodIn wsL_law wsX9_count := goodIn_r _ [819, 273, 237, 274, 275, 278, 276, 277, 290, 458, 459, 5, 460, 390, 391, 392, 393, 235, 236, 394, 395, 396, 397, 398, 399, 400, 234, 833, 834, 835, 836, 837, 838, 839, 840, 841, 842, 843, 844, 845, 846, 847, 848, 849, 850, 851, 852, 853, 854, 855, 856, 857, 858, 859, 860, 861, 862, 863, 864, 865, 866, 867, 868] (by decide +kernel) (by decide +kernel)
set_option maxRecDepth 20000 in
theorem gL_law_X9_count : GoodIn wsL_law (wsV RL 125 RX9 yX9_count wsX9_count) := goodIn_app (goodIn_r _ [816, 817, 818, 5] (by decide +kernel) (by decide +kernel)) ggL_law_X9_count
