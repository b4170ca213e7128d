set_option maxRecDepth 20000 in
theorem ggL_law_X8_init : GoodIn wsL_law wsX8_init := goodIn_r _ [9, 10, 11, 12, 13, 14, 15, 16, 17, 18, 19, 20, 21, 22, 23, 24, 25, 26, 27, 28, 29, 30, 31, 32, 33, 34, 35, 36, 37, 38, 39, 40, 41, 42, 43, 44, 45, 46, 47, 48, 49, 50, 51, 52, 53, 54, 55, 56, 57, 58, 59, 60, 61, 62, 63, 64, 65, 66, 67, 68, 69, 70, 71, 72, 73, 74, 75, 76, 77, 78, 79, 80, 81, 82, 83, 84, 85, 86, 87, 88, 89, 90, 91, 92, 93, 94, 95, 96, 97, 98, 99, 100, 101, 102, 103, 104, 105, 884, 885, 841, 842, 843, 844, 845, 846, 847, 848, 849, 886, 887, 888, 889, 890, 891, 892, 893, 894, 895, 896, 897, 898, 899, 900, 901, 902, 903, 904, 905, 906, 907, 908, 909, 910, 911, 912, 913, 914] (by decide +kernel) (by decide +kernel)
set_option maxRecDepth 20000 in
theorem gL_law_X8_init : GoodIn wsL_law (wsX8_init) := ggL_law_X8_init
set_option maxRecDepth 20000 in
theorem ggL_law_X9_init : GoodIn wsL_law wsX9_init := goodIn_r _ [108, 109, 11, 12, 49, 110, 111, 112, 113, 114, 115, 116, 117, 118, 119, 120, 103, 121, 122, 123, 124, 125, 126, 850, 851, 852, 853, 854, 855, 856, 857, 858, 859, 860, 861, 862, 863, 864, 865, 866, 867, 868, 869, 870, 871, 872, 873, 874, 875, 876, 877, 878, 879, 880, 881, 882, 883] (by decide +kernel) (by decide +kernel)
set_option maxRecDepth 20000 in
theorem gL_law_X9_init : GoodIn wsL_law (wsX9_init) := ggL_law_X9_init
set_option maxRecDepth 20000 in
theorem ggL_law_X8_write : GoodIn wsL_law wsX8_write := goodIn_r _ [130, 16, 131, 132, 133, 15, 134, 135, 50, 841, 842, 843, 844, 845, 846, 847, 848, 849, 884, 885] (by decide +kernel) (by decide +kernel)
set_option maxRecDepth 20000 in
theorem gL_law_X8_write : GoodIn wsL_law (wsV RL 13 RX8 yX8_write wsX8_write) := goodIn_app (goodIn_of _ (by decide +kernel)) ggL_law_X8_write
set_option maxRecDepth 20000 in
theorem ggL_law_X9_write : GoodIn wsL_law wsX9_write := goodIn_r _ [139, 140, 141, 142, 110, 143, 144, 5, 145, 850, 851, 852, 853, 854, 855, 856, 857, 858, 859, 860, 861, 862, 863, 864, 865, 866, 867, 868, 869, 870, 871, 872, 873, 874, 875, 876, 877, 878, 879, 880, 881, 882, 883] (by decide +kernel) (by decide +kernel)
set_option maxRecDepth 20000 in
theorem gL_law_X9_write : GoodIn wsL_law (wsV RL 17 RX9 yX9_write wsX9_write) := goodIn_app (goodIn_of _ (by decide +kernel)) ggL_law_X9_write
set_option maxRecDepth 20000 in
theorem ggL_law_X8_wipe : GoodIn wsL_law wsX8_wipe := goodIn_r _ [149, 16, 150, 151, 152, 15, 153, 135, 841, 842, 843, 844, 845, 846, 847, 848, 849, 884, 885] (by decide +kernel) (by decide +kernel)
set_option maxRecDepth 20000 in
theorem gL_law_X8_wipe : GoodIn wsL_law (wsV RL 18 RX8 yX8_wipe wsX8_wipe) := goodIn_app (goodIn_of _ (by decide +kernel)) ggL_law_X8_wipe
set_option maxRecDepth 20000 in
theorem ggL_law_X9_wipe : GoodIn wsL_law wsX9_wipe := goodIn_r _ [157, 140, 142, 850, 851, 852, 853, 854, 855, 856, 857, 858, 859, 860, 861, 862, 863, 864, 865, 866, 867, 868, 869, 870, 871, 872, 873, 874, 875, 876, 877, 878, 879, 880, 881, 882, 883] (by decide +kernel) (by decide +kernel)
set_option maxRecDepth 20000 in
theorem gL_law_X9_wipe : GoodIn wsL_law (wsV RL 22 RX9 yX9_wipe wsX9_wipe) := goodIn_app (goodIn_of _ (by decide +kernel)) ggL_law_X9_wipe
set_option maxRecDepth 20000 in
theorem ggL_law_X8_fault : GoodIn wsL_law wsX8_fault := goodIn_r _ [161, 16, 21, 162, 163, 164, 15, 165, 135, 50, 166, 167, 168, 19, 169, 170, 171, 172, 173, 174, 175, 176, 177, 178, 179, 180, 181, 54, 182, 183, 184, 185, 186, 187, 188, 189, 190, 191, 2, 192, 193, 194, 195, 196, 197, 198, 199, 200, 55, 56, 57, 58, 841, 842, 843, 844, 845, 846, 847, 848, 849, 884, 885, 886, 887, 888, 889, 890, 891, 892, 893] (by decide +kernel) (by decide +kernel)
set_option maxRecDepth 20000 in
theorem gL_law_X8_fault : GoodIn wsL_law (wsV RL 23 RX8 yX8_fault wsX8_fault) := goodIn_app (goodIn_of _ (by decide +kernel)) ggL_law_X8_fault
set_option maxRecDepth 20000 in
theorem ggL_law_X9_fault : GoodIn wsL_law wsX9_fault := goodIn_r _ [204, 140, 205, 206, 207, 5, 208, 209, 210, 211, 212, 142, 110, 213, 214, 215, 216, 217, 218, 219, 220, 115, 221, 222, 223, 224, 143, 144, 145, 225, 226, 227, 228, 229, 116, 230, 231, 232, 850, 851, 852, 853, 854, 855, 856, 857, 858, 859, 860, 861, 862, 863, 864, 865, 866, 867, 868, 869, 870, 871, 872, 873, 874, 875, 876, 877, 878, 879, 880, 881, 882, 883] (by decide +kernel) (by decide +kernel)
set_option maxRecDepth 20000 in
theorem gL_law_X9_fault : GoodIn wsL_law (wsV RL 26 RX9 yX9_fault wsX9_fault) := goodIn_app (goodIn_of _ (by decide +kernel)) ggL_law_X9_fault
set_option maxRecDepth 20000 in
theorem ggL_law_X8_house : GoodIn wsL_law wsX8_house := goodIn_r _ [236, 16, 21, 20, 25, 29, 45, 237, 238, 162, 163, 164, 15, 165, 135, 50, 166, 167, 168, 19, 169, 170, 171, 172, 173, 174, 175, 176, 177, 178, 179, 180, 181, 54, 182, 183, 184, 185, 186, 187, 188, 189, 190, 191, 2, 192, 193, 194, 195, 196, 197, 198, 199, 200, 55, 56, 57, 58, 239, 240, 241, 24, 242, 66, 243, 63, 244, 245, 246, 247, 248, 64, 65, 249, 250, 251, 252, 253, 28, 254, 255, 256, 257, 258, 259, 44, 260, 104, 841, 842, 843, 844, 845, 846, 847, 848, 849, 886, 887, 888, 889, 890, 891, 892, 893, 884, 885, 894, 895, 896, 897, 898, 899, 900, 901, 902, 913, 914] (by decide +kernel) (by decide +kernel)
set_option maxRecDepth 20000 in
theorem gL_law_X8_house : GoodIn wsL_law (wsV RL 27 RX8 yX8_house wsX8_house) := goodIn_app (goodIn_of _ (by decide +kernel)) ggL_law_X8_house
set_option maxRecDepth 20000 in
theorem ggL_law_X9_house : GoodIn wsL_law wsX9_house := goodIn_r _ [264, 140, 210, 265, 212, 266, 117, 111, 115, 116, 112, 113, 114, 267, 121, 205, 206, 207, 5, 208, 209, 211, 142, 110, 213, 214, 215, 216, 217, 218, 219, 220, 221, 222, 223, 224, 143, 144, 145, 225, 226, 227, 228, 229, 230, 231, 232, 850, 851, 852, 853, 854, 855, 856, 857, 858, 859, 860, 861, 862, 863, 864, 865, 866, 867, 868, 869, 870, 871, 872, 873, 874, 875, 876, 877, 878, 879, 880, 881, 882, 883] (by decide +kernel) (by decide +kernel)
set_option maxRecDepth 20000 in
theorem gL_law_X9_house : GoodIn wsL_law (wsV RL 30 RX9 yX9_house wsX9_house) := goodIn_app (goodIn_of _ (by decide +kernel)) ggL_law_X9_house
set_option maxRecDepth 20000 in
theorem ggL_law_X8_about : GoodIn wsL_law wsX8_about := goodIn_r _ [271, 20, 237, 238, 25, 272, 273, 29, 274, 41, 275, 16, 276, 277, 278, 279, 24, 280, 66, 281, 282, 283, 19, 284, 171, 285, 286, 287, 288, 289, 63, 290, 291, 292, 293, 64, 294, 295, 296, 297, 298, 299, 300, 301, 302, 303, 304, 305, 306, 307, 308, 309, 310, 841, 842, 843, 844, 845, 846, 847, 848, 849, 886, 887, 888, 889, 890, 891, 892, 893, 894, 895, 896, 897, 898, 899, 900, 901, 902, 909, 910, 911, 912, 884, 885] (by decide +kernel) (by decide +kernel)
set_option maxRecDepth 20000 in
theorem gL_law_X8_about : GoodIn wsL_law (wsV RL 31 RX8 yX8_about wsX8_about) := goodIn_app (goodIn_of _ (by decide +kernel)) ggL_law_X8_about
set_option maxRecDepth 20000 in
theorem ggL_law_X9_about : GoodIn wsL_law wsX9_about := goodIn_r _ [314, 140, 265, 266, 117, 267, 315, 142, 316, 317, 318, 5, 319, 320, 321, 322, 323, 324, 325, 326, 114, 230, 231, 232, 327, 328, 329, 850, 851, 852, 853, 854, 855, 856, 857, 858, 859, 860, 861, 862, 863, 864, 865, 866, 867, 868, 869, 870, 871, 872, 873, 874, 875, 876, 877, 878, 879, 880, 881, 882, 883] (by decide +kernel) (by decide +kernel)
set_option maxRecDepth 20000 in
theorem gL_law_X9_about : GoodIn wsL_law (wsV RL 34 RX9 yX9_about wsX9_about) := goodIn_app (goodIn_of _ (by decide +kernel)) ggL_law_X9_about
set_option maxRecDepth 20000 in
theorem ggL_law_X8_player : GoodIn wsL_law wsX8_player := goodIn_r _ [333, 20, 334, 25, 335, 336, 194, 195, 19, 196, 170, 294, 282, 283, 284, 171, 337, 338, 339, 24, 340, 66, 289, 341, 296, 297, 298, 299, 300, 301, 302, 303, 64, 285, 286, 287, 288, 63, 304, 305, 306, 307, 308, 309, 310, 342, 343, 344, 345, 346, 347, 348, 349, 350, 351, 352, 353, 354, 355, 356, 357, 358, 359, 360, 361, 362, 249, 841, 842, 843, 844, 845, 846, 847, 848, 849, 886, 887, 888, 889, 890, 891, 892, 893, 894, 895, 896, 897, 898, 899] (by decide +kernel) (by decide +kernel)
set_option maxRecDepth 20000 in
theorem gL_law_X8_player : GoodIn wsL_law (wsV RL 35 RX8 yX8_player wsX8_player) := goodIn_app (goodIn_of _ (by decide +kernel)) ggL_law_X8_player
set_option maxRecDepth 20000 in
theorem ggL_law_X9_player : GoodIn wsL_law wsX9_player := goodIn_r _ [366, 140, 111, 117, 367, 368, 369, 5, 370, 265, 143, 144, 145, 371, 372, 373, 374, 266, 112, 114, 323, 324, 325, 326, 230, 231, 232, 327, 328, 329, 375, 376, 377, 378, 379, 380, 381, 382, 383, 384, 385, 850, 851, 852, 853, 854, 855, 856, 857, 858, 859, 860, 861, 862, 863, 864, 865, 866, 867, 868, 869, 870, 871, 872, 873, 874, 875, 876, 877, 878, 879, 880, 881, 882, 883] (by decide +kernel) (by decide +kernel)
set_option maxRecDepth 20000 in
theorem gL_law_X9_player : GoodIn wsL_law (wsV RL 39 RX9 yX9_player wsX9_player) := goodIn_app (goodIn_of _ (by decide +kernel)) ggL_law_X9_player
set_option maxRecDepth 20000 in
theorem ggL_law_X8_hand : GoodIn wsL_law wsX8_hand := goodIn_r _ [389, 20, 25, 390, 391, 392, 393, 394, 395, 396, 397, 19, 398, 171, 294, 282, 283, 284, 295, 296, 297, 24, 298, 299, 300, 301, 302, 66, 289, 303, 64, 285, 286, 287, 288, 63, 304, 305, 306, 307, 308, 309, 310, 841, 842, 843, 844, 845, 846, 847, 848, 849, 894, 895, 896, 897, 898, 899, 886, 887, 888, 889, 890, 891, 892, 893] (by decide +kernel) (by decide +kernel)
set_option maxRecDepth 20000 in
theorem gL_law_X8_hand : GoodIn wsL_law (wsV RL 40 RX8 yX8_hand wsX8_hand) := goodIn_app (goodIn_of _ (by decide +kernel)) ggL_law_X8_hand
set_option maxRecDepth 20000 in
theorem ggL_law_X9_hand : GoodIn wsL_law wsX9_hand := goodIn_r _ [402, 140, 117, 112, 113, 114, 403, 404, 405, 5, 406, 266, 143, 144, 145, 323, 324, 325, 326, 230, 231, 232, 327, 328, 329, 850, 851, 852, 853, 854, 855, 856, 857, 858, 859, 860, 861, 862, 863, 864, 865, 866, 867, 868, 869, 870, 871, 872, 873, 874, 875, 876, 877, 878, 879, 880, 881, 882, 883] (by decide +kernel) (by decide +kernel)
set_option maxRecDepth 20000 in
theorem gL_law_X9_hand : GoodIn wsL_law (wsV RL 43 RX9 yX9_hand wsX9_hand) := goodIn_app (goodIn_of _ (by decide +kernel)) ggL_law_X9_hand
set_option maxRecDepth 20000 in
theorem ggL_law_X8_call : GoodIn wsL_law wsX8_call := goodIn_r _ [410, 20, 25, 29, 336, 194, 195, 19, 196, 170, 359, 360, 361, 24, 362, 249, 411, 412, 413, 28, 414, 72, 255, 256, 415, 416, 417, 418, 63, 244, 245, 246, 247, 64, 65, 250, 294, 282, 283, 284, 171, 347, 348, 349, 350, 351, 338, 339, 340, 66, 289, 341, 296, 297, 298, 299, 300, 301, 302, 303, 285, 286, 287, 288, 304, 305, 306, 307, 308, 309, 310, 342, 343, 344, 345, 346, 352, 353, 354, 355, 356, 357, 358, 419, 420, 421, 422, 423, 424, 281, 841, 842, 843, 844, 845, 846, 847, 848, 849, 886, 887, 888, 889, 890, 891, 892, 893, 894, 895, 896, 897, 898, 899, 900, 901, 902] (by decide +kernel) (by decide +kernel)
set_option maxRecDepth 20000 in
theorem gL_law_X8_call : GoodIn wsL_law (wsV RL 44 RX8 yX8_call wsX8_call) := goodIn_app (goodIn_of _ (by decide +kernel)) ggL_law_X8_call
set_option maxRecDepth 20000 in
theorem ggL_law_X9_call : GoodIn wsL_law wsX9_call := goodIn_r _ [428, 140, 117, 367, 368, 369, 5, 370, 265, 143, 144, 145, 230, 231, 232, 429, 430, 431, 432, 267, 119, 379, 380, 381, 382, 371, 372, 373, 374, 266, 112, 114, 323, 324, 325, 326, 327, 328, 329, 375, 376, 377, 378, 383, 384, 385, 433, 434, 435, 436, 111, 850, 851, 852, 853, 854, 855, 856, 857, 858, 859, 860, 861, 862, 863, 864, 865, 866, 867, 868, 869, 870, 871, 872, 873, 874, 875, 876, 877, 878, 879, 880, 881, 882, 883] (by decide +kernel) (by decide +kernel)
set_option maxRecDepth 20000 in
theorem gL_law_X9_call : GoodIn wsL_law (wsV RL 47 RX9 yX9_call wsX9_call) := goodIn_app (goodIn_of _ (by decide +kernel)) ggL_law_X9_call
set_option maxRecDepth 20000 in
theorem ggL_law_X8_flowers : GoodIn wsL_law wsX8_flowers := goodIn_r _ [440, 20, 29, 25, 336, 194, 195, 19, 196, 170, 411, 412, 413, 28, 414, 72, 255, 256, 415, 416, 417, 24, 418, 63, 244, 245, 246, 247, 64, 65, 249, 250, 441, 442, 443, 444, 66, 289, 346, 445, 446, 447, 448, 294, 282, 283, 284, 171, 347, 348, 349, 350, 351, 338, 339, 340, 341, 296, 297, 298, 299, 300, 301, 302, 303, 285, 286, 287, 288, 304, 305, 306, 307, 308, 309, 310, 342, 343, 344, 345, 352, 353, 354, 355, 356, 357, 358, 841, 842, 843, 844, 845, 846, 847, 848, 849, 886, 887, 888, 889, 890, 891, 892, 893, 900, 901, 902, 894, 895, 896, 897, 898, 899] (by decide +kernel) (by decide +kernel)
set_option maxRecDepth 20000 in
theorem gL_law_X8_flowers : GoodIn wsL_law (wsV RL 48 RX8 yX8_flowers wsX8_flowers) := goodIn_app (goodIn_of _ (by decide +kernel)) ggL_law_X8_flowers
set_option maxRecDepth 20000 in
theorem ggL_law_X9_flowers : GoodIn wsL_law wsX9_flowers := goodIn_r _ [452, 140, 117, 367, 368, 369, 5, 370, 265, 143, 144, 145, 429, 430, 431, 432, 267, 119, 453, 454, 455, 456, 266, 112, 379, 380, 381, 382, 371, 372, 373, 374, 114, 323, 324, 325, 326, 230, 231, 232, 327, 328, 329, 375, 376, 377, 378, 383, 384, 385, 850, 851, 852, 853, 854, 855, 856, 857, 858, 859, 860, 861, 862, 863, 864, 865, 866, 867, 868, 869, 870, 871, 872, 873, 874, 875, 876, 877, 878, 879, 880, 881, 882, 883] (by decide +kernel) (by decide +kernel)
set_option maxRecDepth 20000 in
theorem gL_law_X9_flowers : GoodIn wsL_law (wsV RL 51 RX9 yX9_flowers wsX9_flowers) := goodIn_app (goodIn_of _ (by decide +kernel)) ggL_law_X9_flowers
set_option maxRecDepth 20000 in
theorem ggL_law_X8_seat : GoodIn wsL_law wsX8_seat := goodIn_r _ [460, 20, 25, 29, 390, 395, 396, 397, 19, 398, 171, 461, 191, 2, 192, 462, 463, 464, 24, 465, 466, 278, 279, 280, 66, 281, 282, 283, 284, 285, 286, 287, 288, 289, 63, 411, 412, 413, 28, 414, 72, 255, 256, 415, 416, 417, 418, 244, 245, 246, 247, 64, 65, 249, 250, 841, 842, 843, 844, 845, 846, 847, 848, 849, 894, 895, 896, 897, 898, 899, 886, 887, 888, 889, 890, 891, 892, 893, 900, 901, 902] (by decide +kernel) (by decide +kernel)
set_option maxRecDepth 20000 in
theorem gL_law_X8_seat : GoodIn wsL_law (wsV RL 52 RX8 yX8_seat wsX8_seat) := goodIn_app (goodIn_of _ (by decide +kernel)) ggL_law_X8_seat
set_option maxRecDepth 20000 in
theorem ggL_law_X9_seat : GoodIn wsL_law wsX9_seat := goodIn_r _ [470, 140, 229, 117, 403, 404, 405, 5, 406, 266, 143, 144, 145, 471, 472, 473, 474, 429, 430, 431, 432, 267, 119, 850, 851, 852, 853, 854, 855, 856, 857, 858, 859, 860, 861, 862, 863, 864, 865, 866, 867, 868, 869, 870, 871, 872, 873, 874, 875, 876, 877, 878, 879, 880, 881, 882, 883] (by decide +kernel) (by decide +kernel)
set_option maxRecDepth 20000 in
theorem gL_law_X9_seat : GoodIn wsL_law (wsV RL 55 RX9 yX9_seat wsX9_seat) := goodIn_app (goodIn_of _ (by decide +kernel)) ggL_law_X9_seat
set_option maxRecDepth 20000 in
theorem ggL_law_X8_night : GoodIn wsL_law wsX8_night := goodIn_r _ [478, 29, 25, 411, 412, 413, 28, 414, 72, 255, 256, 415, 416, 417, 24, 418, 63, 244, 245, 246, 247, 64, 65, 249, 250, 479, 480, 481, 482, 66, 289, 248, 290, 291, 292, 293, 841, 842, 843, 844, 845, 846, 847, 848, 849, 900, 901, 902, 894, 895, 896, 897, 898, 899, 886, 887, 888, 889, 890, 891, 892, 893] (by decide +kernel) (by decide +kernel)
set_option maxRecDepth 20000 in
theorem gL_law_X8_night : GoodIn wsL_law (wsV RL 56 RX8 yX8_night wsX8_night) := goodIn_app (goodIn_of _ (by decide +kernel)) ggL_law_X8_night
set_option maxRecDepth 20000 in
theorem ggL_law_X9_night : GoodIn wsL_law wsX9_night := goodIn_r _ [486, 140, 117, 429, 430, 431, 5, 432, 267, 119, 487, 488, 489, 490, 266, 113, 320, 321, 322, 850, 851, 852, 853, 854, 855, 856, 857, 858, 859, 860, 861, 862, 863, 864, 865, 866, 867, 868, 869, 870, 871, 872, 873, 874, 875, 876, 877, 878, 879, 880, 881, 882, 883] (by decide +kernel) (by decide +kernel)
set_option maxRecDepth 20000 in
theorem gL_law_X9_night : GoodIn wsL_law (wsV RL 59 RX9 yX9_night wsX9_night) := goodIn_app (goodIn_of _ (by decide +kernel)) ggL_law_X9_night
set_option maxRecDepth 20000 in
theorem ggL_law_X8_undo : GoodIn wsL_law wsX8_undo := goodIn_r _ [494, 29, 274, 25, 495, 496, 497, 28, 498, 256, 72, 255, 415, 416, 417, 24, 418, 63, 244, 245, 246, 247, 64, 65, 249, 250, 841, 842, 843, 844, 845, 846, 847, 848, 849, 900, 901, 902, 894, 895, 896, 897, 898, 899] (by decide +kernel) (by decide +kernel)
set_option maxRecDepth 20000 in
theorem gL_law_X8_undo : GoodIn wsL_law (wsV RL 60 RX8 yX8_undo wsX8_undo) := goodIn_app (goodIn_of _ (by decide +kernel)) ggL_law_X8_undo
set_option maxRecDepth 20000 in
theorem ggL_law_X9_undo : GoodIn wsL_law wsX9_undo := goodIn_r _ [502, 140, 267, 117, 119, 850, 851, 852, 853, 854, 855, 856, 857, 858, 859, 860, 861, 862, 863, 864, 865, 866, 867, 868, 869, 870, 871, 872, 873, 874, 875, 876, 877, 878, 879, 880, 881, 882, 883] (by decide +kernel) (by decide +kernel)
set_option maxRecDepth 20000 in
theorem gL_law_X9_undo : GoodIn wsL_law (wsV RL 63 RX9 yX9_undo wsX9_undo) := goodIn_app (goodIn_of _ (by decide +kernel)) ggL_law_X9_undo
set_option maxRecDepth 20000 in
theorem ggL_law_X8_yet : GoodIn wsL_law wsX8_yet := goodIn_r _ [506, 20, 25, 33, 336, 194, 195, 19, 196, 170, 359, 360, 361, 24, 362, 249, 507, 508, 509, 32, 510, 81, 511, 416, 417, 418, 63, 244, 245, 246, 247, 64, 65, 250, 512, 420, 421, 422, 66, 423, 289, 424, 281, 282, 283, 284, 171, 351, 338, 339, 340, 341, 296, 297, 298, 299, 300, 301, 302, 303, 285, 286, 287, 288, 304, 305, 306, 307, 308, 309, 310, 342, 343, 344, 345, 346, 352, 353, 354, 355, 356, 357, 358, 841, 842, 843, 844, 845, 846, 847, 848, 849, 886, 887, 888, 889, 890, 891, 892, 893, 894, 895, 896, 897, 898, 899, 903, 904, 905] (by decide +kernel) (by decide +kernel)
set_option maxRecDepth 20000 in
theorem gL_law_X8_yet : GoodIn wsL_law (wsV RL 64 RX8 yX8_yet wsX8_yet) := goodIn_app (goodIn_of _ (by decide +kernel)) ggL_law_X8_yet
set_option maxRecDepth 20000 in
theorem ggL_law_X9_yet : GoodIn wsL_law wsX9_yet := goodIn_r _ [516, 140, 117, 367, 368, 369, 5, 370, 265, 143, 144, 145, 230, 231, 232, 517, 518, 519, 520, 118, 521, 522, 523, 524, 433, 434, 435, 436, 111, 266, 371, 372, 373, 374, 112, 114, 323, 324, 325, 326, 327, 328, 329, 375, 376, 377, 378, 383, 384, 385, 850, 851, 852, 853, 854, 855, 856, 857, 858, 859, 860, 861, 862, 863, 864, 865, 866, 867, 868, 869, 870, 871, 872, 873, 874, 875, 876, 877, 878, 879, 880, 881, 882, 883] (by decide +kernel) (by decide +kernel)
set_option maxRecDepth 20000 in
theorem gL_law_X9_yet : GoodIn wsL_law (wsV RL 67 RX9 yX9_yet wsX9_yet) := goodIn_app (goodIn_of _ (by decide +kernel)) ggL_law_X9_yet
set_option maxRecDepth 20000 in
theorem ggL_law_X8_best : GoodIn wsL_law wsX8_best := goodIn_r _ [528, 20, 25, 391, 33, 395, 396, 397, 19, 398, 171, 529, 530, 2, 531, 359, 360, 361, 24, 362, 249, 532, 533, 534, 32, 535, 536, 80, 78, 537, 538, 463, 464, 465, 466, 278, 279, 280, 66, 281, 282, 283, 284, 285, 286, 287, 288, 289, 63, 511, 416, 417, 418, 244, 245, 246, 247, 64, 65, 250, 539, 508, 509, 510, 81, 512, 420, 421, 422, 423, 424, 351, 338, 339, 340, 341, 296, 297, 298, 299, 300, 301, 302, 303, 304, 305, 306, 307, 308, 309, 310, 342, 343, 344, 345, 346, 352, 353, 354, 355, 356, 357, 358, 841, 842, 843, 844, 845, 846, 847, 848, 849, 886, 887, 888, 889, 890, 891, 892, 893, 894, 895, 896, 897, 898, 899, 903, 904, 905] (by decide +kernel) (by decide +kernel)
set_option maxRecDepth 20000 in
theorem gL_law_X8_best : GoodIn wsL_law (wsV RL 68 RX8 yX8_best wsX8_best) := goodIn_app (goodIn_of _ (by decide +kernel)) ggL_law_X8_best
set_option maxRecDepth 20000 in
theorem ggL_law_X9_best : GoodIn wsL_law wsX9_best := goodIn_r _ [543, 140, 117, 112, 544, 545, 118, 403, 404, 405, 5, 406, 266, 143, 144, 145, 230, 231, 232, 471, 472, 473, 474, 229, 517, 518, 519, 520, 521, 522, 523, 524, 433, 434, 435, 436, 111, 371, 372, 373, 374, 114, 323, 324, 325, 326, 327, 328, 329, 375, 376, 377, 378, 383, 384, 385, 850, 851, 852, 853, 854, 855, 856, 857, 858, 859, 860, 861, 862, 863, 864, 865, 866, 867, 868, 869, 870, 871, 872, 873, 874, 875, 876, 877, 878, 879, 880, 881, 882, 883] (by decide +kernel) (by decide +kernel)
set_option maxRecDepth 20000 in
theorem gL_law_X9_best : GoodIn wsL_law (wsV RL 71 RX9 yX9_best wsX9_best) := goodIn_app (goodIn_of _ (by decide +kernel)) ggL_law_X9_best
set_option maxRecDepth 20000 in
theorem ggL_law_X8_wants : GoodIn wsL_law wsX8_wants := goodIn_r _ [549, 20, 25, 33, 336, 194, 195, 19, 196, 170, 359, 360, 361, 24, 362, 249, 550, 551, 552, 32, 553, 80, 511, 416, 417, 418, 63, 244, 245, 246, 247, 64, 65, 250, 554, 442, 443, 444, 66, 289, 346, 445, 446, 447, 448, 539, 508, 509, 510, 81, 512, 420, 421, 422, 423, 424, 281, 282, 283, 284, 171, 351, 338, 339, 340, 341, 296, 297, 298, 299, 300, 301, 302, 303, 285, 286, 287, 288, 304, 305, 306, 307, 308, 309, 310, 342, 343, 344, 345, 352, 353, 354, 355, 356, 357, 358, 841, 842, 843, 844, 845, 846, 847, 848, 849, 886, 887, 888, 889, 890, 891, 892, 893, 894, 895, 896, 897, 898, 899, 903, 904, 905] (by decide +kernel) (by decide +kernel)
set_option maxRecDepth 20000 in
theorem gL_law_X8_wants : GoodIn wsL_law (wsV RL 72 RX8 yX8_wants wsX8_wants) := goodIn_app (goodIn_of _ (by decide +kernel)) ggL_law_X8_wants
set_option maxRecDepth 20000 in
theorem ggL_law_X9_wants : GoodIn wsL_law wsX9_wants := goodIn_r _ [558, 140, 229, 117, 118, 367, 368, 369, 5, 370, 265, 143, 144, 145, 230, 231, 232, 517, 518, 519, 520, 453, 454, 455, 456, 266, 112, 521, 522, 523, 524, 433, 434, 435, 436, 111, 371, 372, 373, 374, 114, 323, 324, 325, 326, 327, 328, 329, 375, 376, 377, 378, 383, 384, 385, 850, 851, 852, 853, 854, 855, 856, 857, 858, 859, 860, 861, 862, 863, 864, 865, 866, 867, 868, 869, 870, 871, 872, 873, 874, 875, 876, 877, 878, 879, 880, 881, 882, 883] (by decide +kernel) (by decide +kernel)
set_option maxRecDepth 20000 in
theorem gL_law_X9_wants : GoodIn wsL_law (wsV RL 75 RX9 yX9_wants wsX9_wants) := goodIn_app (goodIn_of _ (by decide +kernel)) ggL_law_X9_wants
set_option maxRecDepth 20000 in
theorem ggL_law_X8_still : GoodIn wsL_law wsX8_still := goodIn_r _ [562, 20, 25, 33, 336, 194, 195, 19, 196, 170, 359, 360, 361, 24, 362, 249, 563, 564, 565, 32, 566, 78, 567, 282, 283, 284, 171, 568, 353, 354, 355, 356, 357, 358, 569, 570, 571, 572, 66, 423, 573, 348, 349, 350, 351, 338, 339, 340, 289, 341, 296, 297, 298, 299, 300, 301, 302, 303, 64, 285, 286, 287, 288, 63, 304, 305, 306, 307, 308, 309, 310, 342, 343, 344, 345, 346, 352, 841, 842, 843, 844, 845, 846, 847, 848, 849, 886, 887, 888, 889, 890, 891, 892, 893, 894, 895, 896, 897, 898, 899, 903, 904, 905] (by decide +kernel) (by decide +kernel)
set_option maxRecDepth 20000 in
theorem gL_law_X8_still : GoodIn wsL_law (wsV RL 76 RX8 yX8_still wsX8_still) := goodIn_app (goodIn_of _ (by decide +kernel)) ggL_law_X8_still
set_option maxRecDepth 20000 in
theorem ggL_law_X9_still : GoodIn wsL_law wsX9_still := goodIn_r _ [577, 140, 117, 266, 111, 367, 368, 369, 5, 370, 265, 143, 144, 145, 230, 231, 232, 383, 384, 385, 379, 380, 381, 382, 371, 372, 373, 374, 112, 114, 323, 324, 325, 326, 327, 328, 329, 375, 376, 377, 378, 850, 851, 852, 853, 854, 855, 856, 857, 858, 859, 860, 861, 862, 863, 864, 865, 866, 867, 868, 869, 870, 871, 872, 873, 874, 875, 876, 877, 878, 879, 880, 881, 882, 883] (by decide +kernel) (by decide +kernel)
set_option maxRecDepth 20000 in
theorem gL_law_X9_still : GoodIn wsL_law (wsV RL 79 RX9 yX9_still wsX9_still) := goodIn_app (goodIn_of _ (by decide +kernel)) ggL_law_X9_still
set_option maxRecDepth 20000 in
theorem ggL_law_X8_judge : GoodIn wsL_law wsX8_judge := goodIn_r _ [581, 582, 33, 25, 583, 584, 585, 32, 586, 80, 587, 511, 416, 417, 24, 418, 63, 244, 245, 246, 247, 64, 65, 249, 250, 588, 589, 590, 591, 78, 592, 194, 195, 19, 196, 170, 512, 420, 421, 422, 66, 423, 289, 424, 360, 361, 362, 281, 282, 283, 284, 171, 351, 338, 339, 340, 341, 296, 297, 298, 299, 300, 301, 302, 303, 285, 286, 287, 288, 304, 305, 306, 307, 308, 309, 310, 342, 343, 344, 345, 346, 352, 353, 354, 355, 356, 357, 358, 593, 594, 595, 596, 554, 442, 443, 444, 445, 446, 447, 448, 597, 396, 397, 398, 191, 2, 192, 598, 599, 600, 601, 536, 538, 463, 464, 465, 466, 278, 279, 280, 602, 603, 604, 605, 606, 480, 481, 482, 248, 607, 567, 608, 348, 349, 350, 841, 842, 843, 844, 845, 846, 847, 848, 849, 903, 904, 905, 894, 895, 896, 897, 898, 899, 886, 887, 888, 889, 890, 891, 892, 893] (by decide +kernel) (by decide +kernel)
set_option maxRecDepth 20000 in
theorem gL_law_X8_judge : GoodIn wsL_law (wsV RL 82 RX8 yX8_judge wsX8_judge) := goodIn_app (goodIn_of _ (by decide +kernel)) ggL_law_X8_judge
set_option maxRecDepth 20000 in
theorem ggL_law_X9_judge : GoodIn wsL_law wsX9_judge := goodIn_r _ [612, 140, 613, 614, 143, 144, 5, 145, 615, 616, 617, 517, 518, 519, 520, 118, 117, 618, 619, 620, 621, 487, 488, 489, 490, 266, 113, 403, 404, 405, 406, 471, 472, 473, 474, 229, 367, 368, 369, 370, 265, 379, 380, 381, 382, 371, 372, 373, 374, 112, 114, 323, 324, 325, 326, 230, 231, 232, 327, 328, 329, 375, 376, 377, 378, 383, 384, 385, 622, 623, 624, 625, 433, 434, 435, 436, 111, 453, 454, 455, 456, 850, 851, 852, 853, 854, 855, 856, 857, 858, 859, 860, 861, 862, 863, 864, 865, 866, 867, 868, 869, 870, 871, 872, 873, 874, 875, 876, 877, 878, 879, 880, 881, 882, 883] (by decide +kernel) (by decide +kernel)
set_option maxRecDepth 20000 in
theorem gL_law_X9_judge : GoodIn wsL_law (wsV RL 86 RX9 yX9_judge wsX9_judge) := goodIn_app (goodIn_of _ (by decide +kernel)) ggL_law_X9_judge
set_option maxRecDepth 20000 in
theorem ggL_law_X8_share : GoodIn wsL_law wsX8_share := goodIn_r _ [629, 20, 37, 25, 395, 396, 397, 19, 398, 171, 336, 194, 195, 196, 170, 630, 631, 632, 36, 633, 87, 634, 635, 282, 283, 284, 636, 353, 354, 355, 356, 357, 358, 637, 638, 639, 640, 348, 349, 24, 350, 351, 338, 339, 340, 66, 289, 341, 296, 297, 298, 299, 300, 301, 302, 303, 64, 285, 286, 287, 288, 63, 304, 305, 306, 307, 308, 309, 310, 342, 343, 344, 345, 346, 352, 641, 642, 643, 644, 645, 447, 646, 841, 842, 843, 844, 845, 846, 847, 848, 849, 886, 887, 888, 889, 890, 891, 892, 893, 906, 907, 908, 894, 895, 896, 897, 898, 899] (by decide +kernel) (by decide +kernel)
set_option maxRecDepth 20000 in
theorem gL_law_X8_share : GoodIn wsL_law (wsV RL 87 RX8 yX8_share wsX8_share) := goodIn_app (goodIn_of _ (by decide +kernel)) ggL_law_X8_share
set_option maxRecDepth 20000 in
theorem ggL_law_X9_share : GoodIn wsL_law wsX9_share := goodIn_r _ [650, 140, 266, 126, 117, 403, 404, 405, 5, 406, 143, 144, 145, 367, 368, 369, 370, 265, 379, 380, 381, 382, 371, 372, 373, 374, 112, 114, 323, 324, 325, 326, 230, 231, 232, 327, 328, 329, 375, 376, 377, 378, 383, 384, 385, 651, 652, 653, 654, 655, 656, 657, 658, 659, 850, 851, 852, 853, 854, 855, 856, 857, 858, 859, 860, 861, 862, 863, 864, 865, 866, 867, 868, 869, 870, 871, 872, 873, 874, 875, 876, 877, 878, 879, 880, 881, 882, 883] (by decide +kernel) (by decide +kernel)
set_option maxRecDepth 20000 in
theorem gL_law_X9_share : GoodIn wsL_law (wsV RL 91 RX9 yX9_share wsX9_share) := goodIn_app (goodIn_of _ (by decide +kernel)) ggL_law_X9_share
set_option maxRecDepth 20000 in
theorem ggL_law_X8_hear : GoodIn wsL_law wsX8_hear := goodIn_r _ [663, 41, 529, 530, 2, 531, 664, 665, 666, 40, 667, 668, 94, 95, 96, 841, 842, 843, 844, 845, 846, 847, 848, 849, 909, 910, 911, 912] (by decide +kernel) (by decide +kernel)
set_option maxRecDepth 20000 in
theorem gL_law_X8_hear : GoodIn wsL_law (wsV RL 92 RX8 yX8_hear wsX8_hear) := goodIn_app (goodIn_of _ (by decide +kernel)) ggL_law_X8_hear
set_option maxRecDepth 20000 in
theorem ggL_law_X9_hear : GoodIn wsL_law wsX9_hear := goodIn_r _ [672, 140, 229, 315, 122, 123, 124, 143, 144, 5, 145, 850, 851, 852, 853, 854, 855, 856, 857, 858, 859, 860, 861, 862, 863, 864, 865, 866, 867, 868, 869, 870, 871, 872, 873, 874, 875, 876, 877, 878, 879, 880, 881, 882, 883] (by decide +kernel) (by decide +kernel)
set_option maxRecDepth 20000 in
theorem gL_law_X9_hear : GoodIn wsL_law (wsV RL 96 RX9 yX9_hear wsX9_hear) := goodIn_app (goodIn_of _ (by decide +kernel)) ggL_law_X9_hear
set_option maxRecDepth 20000 in
theorem ggL_law_X8_unhear : GoodIn wsL_law wsX8_unhear := goodIn_r _ [676, 41, 677, 678, 679, 40, 680, 668, 841, 842, 843, 844, 845, 846, 847, 848, 849, 909, 910, 911, 912] (by decide +kernel) (by decide +kernel)
set_option maxRecDepth 20000 in
theorem gL_law_X8_unhear : GoodIn wsL_law (wsV RL 97 RX8 yX8_unhear wsX8_unhear) := goodIn_app (goodIn_of _ (by decide +kernel)) ggL_law_X8_unhear
set_option maxRecDepth 20000 in
theorem ggL_law_X9_unhear : GoodIn wsL_law wsX9_unhear := goodIn_r _ [684, 140, 315, 850, 851, 852, 853, 854, 855, 856, 857, 858, 859, 860, 861, 862, 863, 864, 865, 866, 867, 868, 869, 870, 871, 872, 873, 874, 875, 876, 877, 878, 879, 880, 881, 882, 883] (by decide +kernel) (by decide +kernel)
set_option maxRecDepth 20000 in
theorem gL_law_X9_unhear : GoodIn wsL_law (wsV RL 100 RX9 yX9_unhear wsX9_unhear) := goodIn_app (goodIn_of _ (by decide +kernel)) ggL_law_X9_unhear
set_option maxRecDepth 20000 in
theorem ggL_law_X8_whose : GoodIn wsL_law wsX8_whose := goodIn_r _ [688, 41, 529, 530, 2, 531, 689, 690, 691, 40, 692, 693, 694, 695, 696, 668, 94, 95, 96, 697, 698, 699, 700, 701, 702, 703, 841, 842, 843, 844, 845, 846, 847, 848, 849, 909, 910, 911, 912] (by decide +kernel) (by decide +kernel)
set_option maxRecDepth 20000 in
theorem gL_law_X8_whose : GoodIn wsL_law (wsV RL 101 RX8 yX8_whose wsX8_whose) := goodIn_app (goodIn_of _ (by decide +kernel)) ggL_law_X8_whose
set_option maxRecDepth 20000 in
theorem ggL_law_X9_whose : GoodIn wsL_law wsX9_whose := goodIn_r _ [707, 140, 708, 709, 315, 122, 123, 124, 143, 144, 5, 145, 710, 711, 712, 850, 851, 852, 853, 854, 855, 856, 857, 858, 859, 860, 861, 862, 863, 864, 865, 866, 867, 868, 869, 870, 871, 872, 873, 874, 875, 876, 877, 878, 879, 880, 881, 882, 883] (by decide +kernel) (by decide +kernel)
set_option maxRecDepth 20000 in
theorem gL_law_X9_whose : GoodIn wsL_law (wsV RL 104 RX9 yX9_whose wsX9_whose) := goodIn_app (goodIn_of _ (by decide +kernel)) ggL_law_X9_whose
set_option maxRecDepth 20000 in
theorem ggL_law_X8_rests : GoodIn wsL_law wsX8_rests := goodIn_r _ [716, 20, 391, 37, 25, 395, 396, 397, 19, 398, 171, 529, 530, 2, 531, 717, 718, 719, 36, 720, 721, 722, 723, 724, 87, 635, 282, 283, 284, 725, 726, 727, 728, 729, 730, 731, 338, 339, 24, 340, 66, 289, 341, 296, 297, 298, 299, 300, 301, 302, 303, 64, 285, 286, 287, 288, 63, 304, 305, 306, 307, 308, 309, 310, 342, 343, 344, 345, 346, 636, 353, 354, 355, 356, 357, 358, 732, 733, 734, 735, 841, 842, 843, 844, 845, 846, 847, 848, 849, 886, 887, 888, 889, 890, 891, 892, 893, 906, 907, 908, 894, 895, 896, 897, 898, 899] (by decide +kernel) (by decide +kernel)
set_option maxRecDepth 20000 in
theorem gL_law_X8_rests : GoodIn wsL_law (wsV RL 105 RX8 yX8_rests wsX8_rests) := goodIn_app (goodIn_of _ (by decide +kernel)) ggL_law_X8_rests
set_option maxRecDepth 20000 in
theorem ggL_law_X9_rests : GoodIn wsL_law wsX9_rests := goodIn_r _ [739, 140, 112, 117, 111, 125, 740, 741, 403, 404, 405, 5, 406, 266, 143, 144, 145, 371, 372, 373, 374, 114, 323, 324, 325, 326, 230, 231, 232, 327, 328, 329, 375, 376, 377, 378, 383, 384, 385, 850, 851, 852, 853, 854, 855, 856, 857, 858, 859, 860, 861, 862, 863, 864, 865, 866, 867, 868, 869, 870, 871, 872, 873, 874, 875, 876, 877, 878, 879, 880, 881, 882, 883] (by decide +kernel) (by decide +kernel)
set_option maxRecDepth 20000 in
theorem gL_law_X9_rests : GoodIn wsL_law (wsV RL 108 RX9 yX9_rests wsX9_rests) := goodIn_app (goodIn_of _ (by decide +kernel)) ggL_law_X9_rests
set_option maxRecDepth 20000 in
theorem ggL_law_X8_away : GoodIn wsL_law wsX8_away := goodIn_r _ [745, 20, 37, 25, 336, 194, 195, 19, 196, 170, 746, 747, 748, 36, 749, 87, 634, 750, 635, 282, 283, 284, 171, 751, 570, 571, 24, 572, 66, 423, 573, 348, 349, 350, 351, 338, 339, 340, 289, 341, 296, 297, 298, 299, 300, 301, 302, 303, 64, 285, 286, 287, 288, 63, 304, 305, 306, 307, 308, 309, 310, 342, 343, 344, 345, 346, 352, 353, 354, 355, 356, 357, 358, 636, 752, 753, 754, 641, 642, 643, 644, 645, 447, 646, 841, 842, 843, 844, 845, 846, 847, 848, 849, 886, 887, 888, 889, 890, 891, 892, 893, 906, 907, 908, 894, 895, 896, 897, 898, 899] (by decide +kernel) (by decide +kernel)
set_option maxRecDepth 20000 in
theorem gL_law_X8_away : GoodIn wsL_law (wsV RL 109 RX8 yX8_away wsX8_away) := goodIn_app (goodIn_of _ (by decide +kernel)) ggL_law_X8_away
set_option maxRecDepth 20000 in
theorem ggL_law_X9_away : GoodIn wsL_law wsX9_away := goodIn_r _ [758, 140, 759, 266, 117, 111, 367, 368, 369, 5, 370, 265, 143, 144, 145, 383, 384, 385, 379, 380, 381, 382, 371, 372, 373, 374, 112, 114, 323, 324, 325, 326, 230, 231, 232, 327, 328, 329, 375, 376, 377, 378, 760, 761, 762, 654, 655, 656, 657, 658, 659, 850, 851, 852, 853, 854, 855, 856, 857, 858, 859, 860, 861, 862, 863, 864, 865, 866, 867, 868, 869, 870, 871, 872, 873, 874, 875, 876, 877, 878, 879, 880, 881, 882, 883] (by decide +kernel) (by decide +kernel)
set_option maxRecDepth 20000 in
theorem gL_law_X9_away : GoodIn wsL_law (wsV RL 112 RX9 yX9_away wsX9_away) := goodIn_app (goodIn_of _ (by decide +kernel)) ggL_law_X9_away
set_option maxRecDepth 20000 in
theorem ggL_law_X8_seed : GoodIn wsL_law wsX8_seed := goodIn_r _ [766, 37, 767, 841, 842, 843, 844, 845, 846, 847, 848, 849, 906, 907, 908] (by decide +kernel) (by decide +kernel)
set_option maxRecDepth 20000 in
theorem gL_law_X8_seed : GoodIn wsL_law (wsV RL 113 RX8 yX8_seed wsX8_seed) := goodIn_app (goodIn_of _ (by decide +kernel)) ggL_law_X8_seed
set_option maxRecDepth 20000 in
theorem ggL_law_X9_seed : GoodIn wsL_law wsX9_seed := goodIn_r _ [771, 140, 772, 850, 851, 852, 853, 854, 855, 856, 857, 858, 859, 860, 861, 862, 863, 864, 865, 866, 867, 868, 869, 870, 871, 872, 873, 874, 875, 876, 877, 878, 879, 880, 881, 882, 883] (by decide +kernel) (by decide +kernel)
set_option maxRecDepth 20000 in
theorem gL_law_X9_seed : GoodIn wsL_law (wsV RL 117 RX9 yX9_seed wsX9_seed) := goodIn_app (goodIn_of _ (by decide +kernel)) ggL_law_X9_seed
set_option maxRecDepth 20000 in
theorem ggL_law_X8_seasons : GoodIn wsL_law wsX8_seasons := goodIn_r _ [776, 37, 25, 777, 778, 779, 36, 780, 89, 781, 782, 783, 784, 785, 416, 417, 24, 418, 63, 244, 245, 246, 247, 64, 65, 249, 250, 786, 787, 788, 789, 87, 790, 791, 194, 195, 19, 196, 170, 792, 420, 421, 422, 66, 423, 289, 424, 360, 361, 362, 281, 282, 283, 284, 171, 351, 338, 339, 340, 341, 296, 297, 298, 299, 300, 301, 302, 303, 285, 286, 287, 288, 304, 305, 306, 307, 308, 309, 310, 342, 343, 344, 345, 346, 352, 353, 354, 355, 356, 357, 358, 793, 442, 443, 444, 445, 446, 447, 448, 794, 396, 397, 398, 795, 463, 464, 465, 466, 278, 279, 280, 796, 480, 481, 482, 248, 797, 798, 799, 800, 801, 841, 842, 843, 844, 845, 846, 847, 848, 849, 906, 907, 908, 894, 895, 896, 897, 898, 899, 886, 887, 888, 889, 890, 891, 892, 893] (by decide +kernel) (by decide +kernel)
set_option maxRecDepth 20000 in
theorem gL_law_X8_seasons : GoodIn wsL_law (wsV RL 118 RX8 yX8_seasons wsX8_seasons) := goodIn_app (goodIn_of _ (by decide +kernel)) ggL_law_X8_seasons
set_option maxRecDepth 20000 in
theorem ggL_law_X9_seasons : GoodIn wsL_law wsX9_seasons := goodIn_r _ [805, 140, 806, 772, 807, 808, 809, 118, 143, 144, 5, 145, 517, 518, 519, 520, 117, 810, 811, 812, 813, 487, 488, 489, 490, 266, 113, 618, 619, 620, 621, 403, 404, 405, 406, 471, 472, 473, 474, 229, 367, 368, 369, 370, 265, 379, 380, 381, 382, 371, 372, 373, 374, 112, 114, 323, 324, 325, 326, 230, 231, 232, 327, 328, 329, 375, 376, 377, 378, 383, 384, 385, 622, 623, 624, 625, 433, 434, 435, 436, 111, 453, 454, 455, 456, 850, 851, 852, 853, 854, 855, 856, 857, 858, 859, 860, 861, 862, 863, 864, 865, 866, 867, 868, 869, 870, 871, 872, 873, 874, 875, 876, 877, 878, 879, 880, 881, 882, 883] (by decide +kernel) (by decide +kernel)
set_option maxRecDepth 20000 in
theorem gL_law_X9_seasons : GoodIn wsL_law (wsV RL 121 RX9 yX9_seasons wsX9_seasons) := goodIn_app (goodIn_of _ (by decide +kernel)) ggL_law_X9_seasons
set_option maxRecDepth 20000 in
theorem ggL_law_X8_keep : GoodIn wsL_law wsX8_keep := goodIn_r _ [817, 45, 25, 272, 818, 819, 2, 820, 821, 822, 823, 44, 824, 102, 104, 825, 416, 417, 24, 418, 63, 244, 245, 246, 247, 64, 65, 249, 250, 841, 842, 843, 844, 845, 846, 847, 848, 849, 894, 895, 896, 897, 898, 899, 913, 914] (by decide +kernel) (by decide +kernel)
set_option maxRecDepth 20000 in
theorem gL_law_X8_keep : GoodIn wsL_law (wsV RL 122 RX8 yX8_keep wsX8_keep) := goodIn_app (goodIn_of _ (by decide +kernel)) ggL_law_X8_keep
set_option maxRecDepth 20000 in
theorem ggL_law_X9_keep : GoodIn wsL_law wsX9_keep := goodIn_r _ [829, 140, 121, 120, 117, 143, 144, 5, 145, 850, 851, 852, 853, 854, 855, 856, 857, 858, 859, 860, 861, 862, 863, 864, 865, 866, 867, 868, 869, 870, 871, 872, 873, 874, 875, 876, 877, 878, 879, 880, 881, 882, 883] (by decide +kernel) (by decide +kernel)
set_option maxRecDepth 20000 in
theorem gL_law_X9_keep : GoodIn wsL_law (wsV RL 125 RX9 yX9_keep wsX9_keep) := goodIn_app (goodIn_of _ (by decide +kernel)) ggL_law_X9_keep
set_option maxRecDepth 20000 in
theorem ggL_law_X8_again : GoodIn wsL_law wsX8_again := goodIn_r _ [833, 45, 834, 25, 835, 29, 272, 818, 819, 2, 820, 836, 416, 417, 24, 418, 63, 244, 245, 246, 247, 64, 65, 249, 250, 251, 252, 253, 28, 254, 255, 256, 841, 842, 843, 844, 845, 846, 847, 848, 849, 913, 914, 894, 895, 896, 897, 898, 899, 900, 901, 902] (by decide +kernel) (by decide +kernel)
set_option maxRecDepth 20000 in
theorem gL_law_X8_again : GoodIn wsL_law (wsV RL 126 RX8 yX8_again wsX8_again) := goodIn_app (goodIn_of _ (by decide +kernel)) ggL_law_X8_again
set_option maxRecDepth 20000 in
theorem ggL_law_X9_again : GoodIn wsL_law wsX9_again := goodIn_r _ [840, 140, 121, 117, 120, 267, 143, 144, 5, 145, 850, 851, 852, 853, 854, 855, 856, 857, 858, 859, 860, 861, 862, 863, 864, 865, 866, 867, 868, 869, 870, 871, 872, 873, 874, 875, 876, 877, 878, 879, 880, 881, 882, 883] (by decide +kernel) (by decide +kernel)
set_option maxRecDepth 20000 in
theorem gL_law_X9_again : GoodIn wsL_law (wsV RL 129 RX9 yX9_again wsX9_again) := goodIn_app (goodIn_of _ (by decide +kernel)) ggL_law_X9_again
