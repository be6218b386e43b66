set_option maxRecDepth 20000 in
theorem ggL_law_X5_init : GoodIn wsL_law wsX5_init := goodIn_r _ [8, 9, 10, 11, 12, 13, 14, 15, 16, 17, 18, 19, 20, 21, 22, 23, 24, 25, 26, 27, 28, 29, 30, 31, 32, 33, 34, 35, 36, 37, 38, 39, 40, 41, 42, 43, 44, 45, 46, 47, 48, 49, 50, 51, 52, 53, 54, 55, 56, 57, 58, 59, 60, 61, 62, 63, 64, 920, 921, 922, 887, 888, 889, 890, 891, 892, 893, 894, 895, 896, 897, 923, 924, 925, 926, 927, 928, 929, 930] (by decide +kernel) (by decide +kernel)
set_option maxRecDepth 20000 in
theorem gL_law_X5_init : GoodIn wsL_law (wsX5_init) := ggL_law_X5_init
set_option maxRecDepth 20000 in
theorem ggL_law_X6_init : GoodIn wsL_law wsX6_init := goodIn_r _ [67, 68, 10, 11, 29, 69, 70, 71, 72, 73, 74, 75, 76, 77, 78, 79, 80, 81, 82, 83, 84, 85, 898, 899, 900, 901, 902, 903, 904, 905, 906, 907, 908, 909, 910, 911, 912, 913, 914, 915, 916, 917, 918, 919] (by decide +kernel) (by decide +kernel)
set_option maxRecDepth 20000 in
theorem gL_law_X6_init : GoodIn wsL_law (wsX6_init) := ggL_law_X6_init
set_option maxRecDepth 20000 in
theorem ggL_law_X5_letter : GoodIn wsL_law wsX5_letter := goodIn_r _ [89, 22, 90, 91, 92, 93, 2, 94, 30, 95, 96, 97, 98, 99, 100, 21, 101, 48, 49, 102, 103, 104, 105, 887, 888, 889, 890, 891, 892, 893, 894, 895, 896, 897, 923, 924] (by decide +kernel) (by decide +kernel)
set_option maxRecDepth 20000 in
theorem gL_law_X5_letter : GoodIn wsL_law (wsV RL 13 RX5 yX5_letter wsX5_letter) := goodIn_app (goodIn_of _ (by decide +kernel)) ggL_law_X5_letter
set_option maxRecDepth 20000 in
theorem ggL_law_X6_letter : GoodIn wsL_law wsX6_letter := goodIn_r _ [109, 110, 73, 111, 112, 5, 113, 114, 115, 116, 117, 69, 898, 899, 900, 901, 902, 903, 904, 905, 906, 907, 908, 909, 910, 911, 912, 913, 914, 915, 916, 917, 918, 919] (by decide +kernel) (by decide +kernel)
set_option maxRecDepth 20000 in
theorem gL_law_X6_letter : GoodIn wsL_law (wsV RL 17 RX6 yX6_letter wsX6_letter) := goodIn_app (goodIn_of _ (by decide +kernel)) ggL_law_X6_letter
set_option maxRecDepth 20000 in
theorem ggL_law_X5_walk : GoodIn wsL_law wsX5_walk := goodIn_r _ [121, 22, 122, 123, 124, 2, 125, 16, 15, 90, 26, 126, 127, 128, 21, 129, 48, 130, 131, 132, 133, 134, 135, 136, 137, 49, 96, 97, 138, 139, 140, 141, 142, 143, 144, 145, 146, 147, 14, 148, 42, 43, 44, 149, 150, 151, 152, 153, 154, 155, 156, 157, 158, 159, 160, 161, 162, 163, 164, 165, 166, 167, 168, 169, 170, 171, 172, 173, 174, 175, 176, 177, 178, 179, 180, 181, 182, 183, 184, 185, 186, 187, 188, 189, 190, 191, 192, 193, 194, 195, 196, 197, 198, 199, 200, 201, 202, 203, 204, 205, 206, 207, 208, 209, 210, 211, 212, 25, 213, 53, 214, 215, 216, 217, 887, 888, 889, 890, 891, 892, 893, 894, 895, 896, 897, 923, 924, 920, 921, 922, 925, 926] (by decide +kernel) (by decide +kernel)
set_option maxRecDepth 20000 in
theorem gL_law_X5_walk : GoodIn wsL_law (wsV RL 18 RX5 yX5_walk wsX5_walk) := goodIn_app (goodIn_of _ (by decide +kernel)) ggL_law_X5_walk
set_option maxRecDepth 20000 in
theorem ggL_law_X6_walk : GoodIn wsL_law wsX6_walk := goodIn_r _ [221, 110, 70, 222, 74, 71, 73, 223, 224, 225, 226, 5, 227, 228, 229, 230, 231, 232, 233, 234, 235, 236, 237, 238, 239, 240, 241, 242, 243, 244, 245, 246, 247, 248, 249, 250, 251, 252, 253, 254, 255, 256, 257, 898, 899, 900, 901, 902, 903, 904, 905, 906, 907, 908, 909, 910, 911, 912, 913, 914, 915, 916, 917, 918, 919] (by decide +kernel) (by decide +kernel)
set_option maxRecDepth 20000 in
theorem gL_law_X6_walk : GoodIn wsL_law (wsV RL 22 RX6 yX6_walk wsX6_walk) := goodIn_app (goodIn_of _ (by decide +kernel)) ggL_law_X6_walk
set_option maxRecDepth 20000 in
theorem ggL_law_X5_circle : GoodIn wsL_law wsX5_circle := goodIn_r _ [261, 15, 162, 26, 91, 92, 93, 2, 94, 30, 95, 96, 97, 163, 164, 165, 14, 166, 43, 167, 168, 169, 170, 44, 210, 211, 212, 25, 213, 53, 887, 888, 889, 890, 891, 892, 893, 894, 895, 896, 897, 920, 921, 922, 925, 926] (by decide +kernel) (by decide +kernel)
set_option maxRecDepth 20000 in
theorem gL_law_X5_circle : GoodIn wsL_law (wsV RL 23 RX5 yX5_circle wsX5_circle) := goodIn_app (goodIn_of _ (by decide +kernel)) ggL_law_X5_circle
set_option maxRecDepth 20000 in
theorem ggL_law_X6_circle : GoodIn wsL_law wsX6_circle := goodIn_r _ [265, 222, 70, 223, 111, 112, 5, 113, 114, 115, 116, 117, 69, 246, 247, 248, 249, 71, 898, 899, 900, 901, 902, 903, 904, 905, 906, 907, 908, 909, 910, 911, 912, 913, 914, 915, 916, 917, 918, 919] (by decide +kernel) (by decide +kernel)
set_option maxRecDepth 20000 in
theorem gL_law_X6_circle : GoodIn wsL_law (wsV RL 26 RX6 yX6_circle wsX6_circle) := goodIn_app (goodIn_of _ (by decide +kernel)) ggL_law_X6_circle
set_option maxRecDepth 20000 in
theorem ggL_law_X5_walker : GoodIn wsL_law wsX5_walker := goodIn_r _ [269, 15, 26, 270, 271, 272, 2, 273, 95, 96, 97, 91, 92, 93, 94, 30, 175, 176, 177, 14, 178, 43, 179, 180, 181, 182, 42, 183, 184, 185, 186, 187, 188, 189, 190, 44, 210, 211, 212, 25, 213, 53, 887, 888, 889, 890, 891, 892, 893, 894, 895, 896, 897, 920, 921, 922, 925, 926] (by decide +kernel) (by decide +kernel)
set_option maxRecDepth 20000 in
theorem gL_law_X5_walker : GoodIn wsL_law (wsV RL 27 RX5 yX5_walker wsX5_walker) := goodIn_app (goodIn_of _ (by decide +kernel)) ggL_law_X5_walker
set_option maxRecDepth 20000 in
theorem ggL_law_X6_walker : GoodIn wsL_law wsX6_walker := goodIn_r _ [277, 278, 70, 222, 223, 233, 234, 5, 235, 114, 115, 116, 117, 69, 250, 251, 252, 253, 71, 898, 899, 900, 901, 902, 903, 904, 905, 906, 907, 908, 909, 910, 911, 912, 913, 914, 915, 916, 917, 918, 919] (by decide +kernel) (by decide +kernel)
set_option maxRecDepth 20000 in
theorem gL_law_X6_walker : GoodIn wsL_law (wsV RL 31 RX6 yX6_walker wsX6_walker) := goodIn_app (goodIn_of _ (by decide +kernel)) ggL_law_X6_walker
set_option maxRecDepth 20000 in
theorem ggL_law_X5_change : GoodIn wsL_law wsX5_change := goodIn_r _ [282, 15, 26, 195, 196, 197, 14, 198, 43, 96, 2, 97, 91, 92, 93, 94, 30, 95, 199, 180, 181, 182, 42, 283, 168, 169, 170, 44, 284, 285, 286, 25, 287, 53, 54, 288, 289, 290, 291, 292, 293, 294, 295, 200, 188, 189, 190, 887, 888, 889, 890, 891, 892, 893, 894, 895, 896, 897, 920, 921, 922, 925, 926] (by decide +kernel) (by decide +kernel)
set_option maxRecDepth 20000 in
theorem gL_law_X5_change : GoodIn wsL_law (wsV RL 32 RX5 yX5_change wsX5_change) := goodIn_app (goodIn_of _ (by decide +kernel)) ggL_law_X5_change
set_option maxRecDepth 20000 in
theorem ggL_law_X6_change : GoodIn wsL_law wsX6_change := goodIn_r _ [299, 300, 70, 223, 72, 71, 254, 255, 256, 5, 257, 222, 233, 234, 235, 114, 115, 116, 117, 69, 301, 302, 303, 111, 112, 113, 246, 247, 248, 249, 898, 899, 900, 901, 902, 903, 904, 905, 906, 907, 908, 909, 910, 911, 912, 913, 914, 915, 916, 917, 918, 919] (by decide +kernel) (by decide +kernel)
set_option maxRecDepth 20000 in
theorem gL_law_X6_change : GoodIn wsL_law (wsV RL 36 RX6 yX6_change wsX6_change) := goodIn_app (goodIn_of _ (by decide +kernel)) ggL_law_X6_change
set_option maxRecDepth 20000 in
theorem ggL_law_X5_drop : GoodIn wsL_law wsX5_drop := goodIn_r _ [307, 15, 270, 26, 91, 92, 93, 2, 94, 30, 95, 96, 97, 205, 206, 207, 14, 208, 43, 167, 168, 169, 170, 44, 187, 188, 189, 190, 210, 211, 212, 25, 213, 53, 887, 888, 889, 890, 891, 892, 893, 894, 895, 896, 897, 920, 921, 922, 925, 926] (by decide +kernel) (by decide +kernel)
set_option maxRecDepth 20000 in
theorem gL_law_X5_drop : GoodIn wsL_law (wsV RL 37 RX5 yX5_drop wsX5_drop) := goodIn_app (goodIn_of _ (by decide +kernel)) ggL_law_X5_drop
set_option maxRecDepth 20000 in
theorem ggL_law_X6_drop : GoodIn wsL_law wsX6_drop := goodIn_r _ [311, 222, 223, 114, 115, 116, 5, 117, 69, 898, 899, 900, 901, 902, 903, 904, 905, 906, 907, 908, 909, 910, 911, 912, 913, 914, 915, 916, 917, 918, 919] (by decide +kernel) (by decide +kernel)
set_option maxRecDepth 20000 in
theorem gL_law_X6_drop : GoodIn wsL_law (wsV RL 40 RX6 yX6_drop wsX6_drop) := goodIn_app (goodIn_of _ (by decide +kernel)) ggL_law_X6_drop
set_option maxRecDepth 20000 in
theorem ggL_law_X5_of : GoodIn wsL_law wsX5_of := goodIn_r _ [315, 15, 195, 196, 197, 14, 198, 43, 96, 2, 97, 91, 92, 93, 94, 30, 95, 316, 317, 318, 319, 283, 168, 169, 170, 44, 320, 321, 322, 323, 167, 324, 325, 326, 327, 328, 329, 330, 331, 332, 42, 333, 334, 335, 336, 887, 888, 889, 890, 891, 892, 893, 894, 895, 896, 897, 920, 921, 922] (by decide +kernel) (by decide +kernel)
set_option maxRecDepth 20000 in
theorem gL_law_X5_of : GoodIn wsL_law (wsV RL 41 RX5 yX5_of wsX5_of) := goodIn_app (goodIn_of _ (by decide +kernel)) ggL_law_X5_of
set_option maxRecDepth 20000 in
theorem ggL_law_X6_of : GoodIn wsL_law wsX6_of := goodIn_r _ [340, 341, 254, 255, 256, 5, 257, 222, 233, 234, 235, 114, 115, 116, 117, 69, 246, 247, 248, 249, 71, 342, 343, 344, 345, 346, 347, 348, 349, 350, 351, 352, 353, 70, 354, 355, 356, 898, 899, 900, 901, 902, 903, 904, 905, 906, 907, 908, 909, 910, 911, 912, 913, 914, 915, 916, 917, 918, 919] (by decide +kernel) (by decide +kernel)
set_option maxRecDepth 20000 in
theorem gL_law_X6_of : GoodIn wsL_law (wsV RL 45 RX6 yX6_of wsX6_of) := goodIn_app (goodIn_of _ (by decide +kernel)) ggL_law_X6_of
set_option maxRecDepth 20000 in
theorem ggL_law_X5_taken : GoodIn wsL_law wsX5_taken := goodIn_r _ [360, 15, 195, 196, 197, 14, 198, 43, 96, 2, 97, 91, 92, 93, 94, 30, 95, 271, 272, 273, 283, 168, 169, 170, 44, 361, 362, 363, 364, 887, 888, 889, 890, 891, 892, 893, 894, 895, 896, 897, 920, 921, 922] (by decide +kernel) (by decide +kernel)
set_option maxRecDepth 20000 in
theorem gL_law_X5_taken : GoodIn wsL_law (wsV RL 46 RX5 yX5_taken wsX5_taken) := goodIn_app (goodIn_of _ (by decide +kernel)) ggL_law_X5_taken
set_option maxRecDepth 20000 in
theorem ggL_law_X6_taken : GoodIn wsL_law wsX6_taken := goodIn_r _ [368, 278, 254, 255, 256, 5, 257, 222, 233, 234, 235, 114, 115, 116, 117, 69, 246, 247, 248, 249, 71, 369, 370, 371, 898, 899, 900, 901, 902, 903, 904, 905, 906, 907, 908, 909, 910, 911, 912, 913, 914, 915, 916, 917, 918, 919] (by decide +kernel) (by decide +kernel)
set_option maxRecDepth 20000 in
theorem gL_law_X6_taken : GoodIn wsL_law (wsV RL 49 RX6 yX6_taken wsX6_taken) := goodIn_app (goodIn_of _ (by decide +kernel)) ggL_law_X6_taken
set_option maxRecDepth 20000 in
theorem ggL_law_X5_place : GoodIn wsL_law wsX5_place := goodIn_r _ [375, 15, 376, 377, 378, 2, 379, 195, 196, 197, 14, 198, 43, 96, 97, 91, 92, 93, 94, 30, 95, 320, 321, 322, 323, 167, 168, 169, 170, 44, 324, 325, 326, 327, 328, 329, 330, 331, 332, 42, 333, 334, 335, 336, 887, 888, 889, 890, 891, 892, 893, 894, 895, 896, 897, 920, 921, 922] (by decide +kernel) (by decide +kernel)
set_option maxRecDepth 20000 in
theorem gL_law_X5_place : GoodIn wsL_law (wsV RL 50 RX5 yX5_place wsX5_place) := goodIn_app (goodIn_of _ (by decide +kernel)) ggL_law_X5_place
set_option maxRecDepth 20000 in
theorem ggL_law_X6_place : GoodIn wsL_law wsX6_place := goodIn_r _ [383, 254, 255, 256, 5, 257, 222, 233, 234, 235, 114, 115, 116, 117, 69, 111, 112, 113, 346, 347, 348, 349, 246, 247, 248, 249, 71, 350, 351, 352, 353, 70, 354, 355, 356, 898, 899, 900, 901, 902, 903, 904, 905, 906, 907, 908, 909, 910, 911, 912, 913, 914, 915, 916, 917, 918, 919] (by decide +kernel) (by decide +kernel)
set_option maxRecDepth 20000 in
theorem gL_law_X6_place : GoodIn wsL_law (wsV RL 53 RX6 yX6_place wsX6_place) := goodIn_app (goodIn_of _ (by decide +kernel)) ggL_law_X6_place
set_option maxRecDepth 20000 in
theorem ggL_law_X5_marks : GoodIn wsL_law wsX5_marks := goodIn_r _ [387, 34, 388, 389, 390, 391, 2, 392, 376, 377, 378, 379, 15, 195, 196, 197, 14, 198, 43, 96, 97, 95, 91, 92, 93, 94, 30, 393, 394, 395, 396, 397, 398, 399, 33, 400, 58, 320, 321, 322, 323, 167, 168, 169, 170, 44, 324, 325, 326, 327, 328, 329, 330, 331, 332, 42, 333, 334, 335, 336, 401, 402, 403, 404, 405, 406, 407, 408, 409, 410, 411, 412, 413, 414, 415, 416, 59, 417, 418, 419, 420, 421, 289, 290, 291, 422, 887, 888, 889, 890, 891, 892, 893, 894, 895, 896, 897, 927, 928, 920, 921, 922] (by decide +kernel) (by decide +kernel)
set_option maxRecDepth 20000 in
theorem gL_law_X5_marks : GoodIn wsL_law (wsV RL 54 RX5 yX5_marks wsX5_marks) := goodIn_app (goodIn_of _ (by decide +kernel)) ggL_law_X5_marks
set_option maxRecDepth 20000 in
theorem ggL_law_X6_marks : GoodIn wsL_law wsX6_marks := goodIn_r _ [426, 240, 427, 76, 428, 429, 430, 5, 431, 254, 255, 256, 257, 222, 233, 234, 235, 111, 112, 113, 114, 115, 116, 117, 69, 432, 433, 434, 435, 75, 346, 347, 348, 349, 246, 247, 248, 249, 71, 350, 351, 352, 353, 70, 354, 355, 356, 898, 899, 900, 901, 902, 903, 904, 905, 906, 907, 908, 909, 910, 911, 912, 913, 914, 915, 916, 917, 918, 919] (by decide +kernel) (by decide +kernel)
set_option maxRecDepth 20000 in
theorem gL_law_X6_marks : GoodIn wsL_law (wsV RL 57 RX6 yX6_marks wsX6_marks) := goodIn_app (goodIn_of _ (by decide +kernel)) ggL_law_X6_marks
set_option maxRecDepth 20000 in
theorem ggL_law_X5_lengths : GoodIn wsL_law wsX5_lengths := goodIn_r _ [439, 35, 388, 440, 441, 442, 2, 443, 15, 195, 196, 197, 14, 198, 43, 96, 97, 91, 92, 93, 94, 30, 95, 444, 445, 446, 447, 34, 393, 394, 395, 396, 397, 398, 399, 33, 400, 58, 320, 321, 322, 323, 167, 168, 169, 170, 44, 324, 325, 326, 327, 328, 329, 330, 331, 332, 42, 333, 334, 335, 336, 401, 402, 403, 404, 405, 406, 407, 408, 409, 410, 411, 412, 413, 414, 415, 416, 59, 417, 418, 419, 420, 421, 289, 290, 291, 448, 449, 450, 451, 162, 422, 887, 888, 889, 890, 891, 892, 893, 894, 895, 896, 897, 927, 928, 920, 921, 922] (by decide +kernel) (by decide +kernel)
set_option maxRecDepth 20000 in
theorem gL_law_X5_lengths : GoodIn wsL_law (wsV RL 58 RX5 yX5_lengths wsX5_lengths) := goodIn_app (goodIn_of _ (by decide +kernel)) ggL_law_X5_lengths
set_option maxRecDepth 20000 in
theorem ggL_law_X6_lengths : GoodIn wsL_law wsX6_lengths := goodIn_r _ [455, 427, 456, 457, 458, 5, 459, 254, 255, 256, 257, 222, 233, 234, 235, 114, 115, 116, 117, 69, 432, 433, 434, 435, 75, 76, 346, 347, 348, 349, 246, 247, 248, 249, 71, 350, 351, 352, 353, 70, 354, 355, 356, 460, 461, 462, 463, 464, 465, 466, 467, 468, 469, 470, 471, 472, 473, 474, 475, 898, 899, 900, 901, 902, 903, 904, 905, 906, 907, 908, 909, 910, 911, 912, 913, 914, 915, 916, 917, 918, 919] (by decide +kernel) (by decide +kernel)
set_option maxRecDepth 20000 in
theorem gL_law_X6_lengths : GoodIn wsL_law (wsV RL 61 RX6 yX6_lengths wsX6_lengths) := goodIn_app (goodIn_of _ (by decide +kernel)) ggL_law_X6_lengths
set_option maxRecDepth 20000 in
theorem ggL_law_X5_many : GoodIn wsL_law wsX5_many := goodIn_r _ [479, 35, 388, 440, 441, 442, 2, 443, 15, 195, 196, 197, 14, 198, 43, 96, 97, 91, 92, 93, 94, 30, 95, 444, 445, 446, 447, 34, 393, 394, 395, 396, 397, 398, 399, 33, 400, 58, 320, 321, 322, 323, 167, 168, 169, 170, 44, 324, 325, 326, 327, 328, 329, 330, 331, 332, 42, 333, 334, 335, 336, 401, 402, 403, 404, 405, 406, 407, 408, 409, 410, 411, 412, 413, 414, 415, 416, 59, 417, 418, 419, 420, 421, 289, 290, 291, 448, 449, 450, 451, 162, 422, 480, 481, 482, 483, 887, 888, 889, 890, 891, 892, 893, 894, 895, 896, 897, 927, 928, 920, 921, 922] (by decide +kernel) (by decide +kernel)
set_option maxRecDepth 20000 in
theorem gL_law_X5_many : GoodIn wsL_law (wsV RL 62 RX5 yX5_many wsX5_many) := goodIn_app (goodIn_of _ (by decide +kernel)) ggL_law_X5_many
set_option maxRecDepth 20000 in
theorem ggL_law_X6_many : GoodIn wsL_law wsX6_many := goodIn_r _ [487, 427, 456, 457, 458, 5, 459, 254, 255, 256, 257, 222, 233, 234, 235, 114, 115, 116, 117, 69, 432, 433, 434, 435, 75, 76, 346, 347, 348, 349, 246, 247, 248, 249, 71, 350, 351, 352, 353, 70, 354, 355, 356, 472, 473, 474, 475, 468, 469, 470, 471, 898, 899, 900, 901, 902, 903, 904, 905, 906, 907, 908, 909, 910, 911, 912, 913, 914, 915, 916, 917, 918, 919] (by decide +kernel) (by decide +kernel)
set_option maxRecDepth 20000 in
theorem gL_law_X6_many : GoodIn wsL_law (wsV RL 65 RX6 yX6_many wsX6_many) := goodIn_app (goodIn_of _ (by decide +kernel)) ggL_law_X6_many
set_option maxRecDepth 20000 in
theorem ggL_law_X5_seen : GoodIn wsL_law wsX5_seen := goodIn_r _ [491, 34, 35, 388, 440, 441, 442, 2, 443, 15, 195, 196, 197, 14, 198, 43, 96, 97, 91, 92, 93, 94, 30, 95, 393, 394, 395, 396, 397, 398, 399, 33, 400, 58, 320, 321, 322, 323, 167, 168, 169, 170, 44, 324, 325, 326, 327, 328, 329, 330, 331, 332, 42, 333, 334, 335, 336, 401, 402, 403, 404, 405, 406, 407, 408, 409, 410, 411, 412, 413, 414, 415, 416, 59, 417, 418, 419, 420, 421, 289, 290, 291, 448, 449, 450, 451, 162, 422, 492, 887, 888, 889, 890, 891, 892, 893, 894, 895, 896, 897, 927, 928, 920, 921, 922] (by decide +kernel) (by decide +kernel)
set_option maxRecDepth 20000 in
theorem gL_law_X5_seen : GoodIn wsL_law (wsV RL 66 RX5 yX5_seen wsX5_seen) := goodIn_app (goodIn_of _ (by decide +kernel)) ggL_law_X5_seen
set_option maxRecDepth 20000 in
theorem ggL_law_X6_seen : GoodIn wsL_law wsX6_seen := goodIn_r _ [496, 427, 456, 457, 458, 5, 459, 254, 255, 256, 257, 222, 233, 234, 235, 114, 115, 116, 117, 69, 432, 433, 434, 435, 75, 76, 346, 347, 348, 349, 246, 247, 248, 249, 71, 350, 351, 352, 353, 70, 354, 355, 356, 464, 465, 466, 467, 468, 469, 470, 471, 898, 899, 900, 901, 902, 903, 904, 905, 906, 907, 908, 909, 910, 911, 912, 913, 914, 915, 916, 917, 918, 919] (by decide +kernel) (by decide +kernel)
set_option maxRecDepth 20000 in
theorem gL_law_X6_seen : GoodIn wsL_law (wsV RL 69 RX6 yX6_seen wsX6_seen) := goodIn_app (goodIn_of _ (by decide +kernel)) ggL_law_X6_seen
set_option maxRecDepth 20000 in
theorem ggL_law_X5_split : GoodIn wsL_law wsX5_split := goodIn_r _ [500, 34, 15, 388, 389, 390, 391, 2, 392, 376, 377, 378, 379, 195, 196, 197, 14, 198, 43, 96, 97, 95, 91, 92, 93, 94, 30, 393, 394, 395, 396, 397, 398, 399, 33, 400, 58, 320, 321, 322, 323, 167, 168, 169, 170, 44, 324, 325, 326, 327, 328, 329, 330, 331, 332, 42, 333, 334, 335, 336, 401, 402, 403, 404, 405, 406, 407, 408, 409, 410, 411, 412, 413, 414, 415, 416, 59, 417, 418, 419, 420, 421, 289, 290, 291, 492, 501, 422, 502, 887, 888, 889, 890, 891, 892, 893, 894, 895, 896, 897, 927, 928, 920, 921, 922] (by decide +kernel) (by decide +kernel)
set_option maxRecDepth 20000 in
theorem gL_law_X5_split : GoodIn wsL_law (wsV RL 70 RX5 yX5_split wsX5_split) := goodIn_app (goodIn_of _ (by decide +kernel)) ggL_law_X5_split
set_option maxRecDepth 20000 in
theorem ggL_law_X6_split : GoodIn wsL_law wsX6_split := goodIn_r _ [506, 76, 427, 70, 428, 429, 430, 5, 431, 254, 255, 256, 257, 222, 233, 234, 235, 111, 112, 113, 114, 115, 116, 117, 69, 432, 433, 434, 435, 75, 346, 347, 348, 349, 246, 247, 248, 249, 71, 350, 351, 352, 353, 354, 355, 356, 898, 899, 900, 901, 902, 903, 904, 905, 906, 907, 908, 909, 910, 911, 912, 913, 914, 915, 916, 917, 918, 919] (by decide +kernel) (by decide +kernel)
set_option maxRecDepth 20000 in
theorem gL_law_X6_split : GoodIn wsL_law (wsV RL 73 RX6 yX6_split wsX6_split) := goodIn_app (goodIn_of _ (by decide +kernel)) ggL_law_X6_split
set_option maxRecDepth 20000 in
theorem ggL_law_X5_closest : GoodIn wsL_law wsX5_closest := goodIn_r _ [510, 34, 388, 389, 390, 391, 2, 392, 376, 377, 378, 379, 15, 195, 196, 197, 14, 198, 43, 96, 97, 95, 91, 92, 93, 94, 30, 393, 394, 395, 396, 397, 398, 399, 33, 400, 58, 320, 321, 322, 323, 167, 168, 169, 170, 44, 324, 325, 326, 327, 328, 329, 330, 331, 332, 42, 333, 334, 335, 336, 401, 402, 403, 404, 405, 406, 407, 408, 409, 410, 411, 412, 413, 414, 415, 416, 59, 417, 418, 419, 420, 421, 289, 290, 291, 448, 449, 450, 451, 162, 422, 887, 888, 889, 890, 891, 892, 893, 894, 895, 896, 897, 927, 928, 920, 921, 922] (by decide +kernel) (by decide +kernel)
set_option maxRecDepth 20000 in
theorem gL_law_X5_closest : GoodIn wsL_law (wsV RL 74 RX5 yX5_closest wsX5_closest) := goodIn_app (goodIn_of _ (by decide +kernel)) ggL_law_X5_closest
set_option maxRecDepth 20000 in
theorem ggL_law_X6_closest : GoodIn wsL_law wsX6_closest := goodIn_r _ [514, 427, 76, 428, 429, 430, 5, 431, 254, 255, 256, 257, 222, 233, 234, 235, 111, 112, 113, 114, 115, 116, 117, 69, 432, 433, 434, 435, 75, 346, 347, 348, 349, 246, 247, 248, 249, 71, 350, 351, 352, 353, 70, 354, 355, 356, 468, 469, 470, 471, 898, 899, 900, 901, 902, 903, 904, 905, 906, 907, 908, 909, 910, 911, 912, 913, 914, 915, 916, 917, 918, 919] (by decide +kernel) (by decide +kernel)
set_option maxRecDepth 20000 in
theorem gL_law_X6_closest : GoodIn wsL_law (wsV RL 77 RX6 yX6_closest wsX6_closest) := goodIn_app (goodIn_of _ (by decide +kernel)) ggL_law_X6_closest
set_option maxRecDepth 20000 in
theorem ggL_law_X5_off : GoodIn wsL_law wsX5_off := goodIn_r _ [518, 34, 388, 15, 162, 519, 520, 521, 522, 389, 390, 391, 2, 392, 376, 377, 378, 379, 195, 196, 197, 14, 198, 43, 96, 97, 95, 523, 524, 525, 526, 527, 91, 92, 93, 94, 30, 528, 529, 530, 531, 397, 398, 399, 33, 400, 58, 320, 321, 322, 323, 167, 168, 169, 170, 44, 324, 325, 326, 327, 328, 329, 330, 331, 332, 42, 333, 334, 335, 336, 532, 418, 419, 420, 59, 421, 289, 290, 291, 409, 410, 411, 412, 413, 414, 415, 416, 422, 533, 534, 535, 536, 537, 538, 539, 887, 888, 889, 890, 891, 892, 893, 894, 895, 896, 897, 927, 928, 920, 921, 922] (by decide +kernel) (by decide +kernel)
set_option maxRecDepth 20000 in
theorem gL_law_X5_off : GoodIn wsL_law (wsV RL 78 RX5 yX5_off wsX5_off) := goodIn_app (goodIn_of _ (by decide +kernel)) ggL_law_X5_off
set_option maxRecDepth 20000 in
theorem ggL_law_X6_off : GoodIn wsL_law wsX6_off := goodIn_r _ [543, 70, 75, 428, 429, 430, 5, 431, 254, 255, 256, 257, 222, 233, 234, 235, 111, 112, 113, 544, 545, 546, 547, 548, 114, 115, 116, 117, 69, 432, 433, 434, 435, 427, 76, 346, 347, 348, 349, 246, 247, 248, 249, 71, 350, 351, 352, 353, 354, 355, 356, 549, 550, 551, 552, 553, 554, 898, 899, 900, 901, 902, 903, 904, 905, 906, 907, 908, 909, 910, 911, 912, 913, 914, 915, 916, 917, 918, 919] (by decide +kernel) (by decide +kernel)
set_option maxRecDepth 20000 in
theorem gL_law_X6_off : GoodIn wsL_law (wsV RL 82 RX6 yX6_off wsX6_off) := goodIn_app (goodIn_of _ (by decide +kernel)) ggL_law_X6_off
set_option maxRecDepth 20000 in
theorem ggL_law_X5_nearer : GoodIn wsL_law wsX5_nearer := goodIn_r _ [558, 15, 162, 440, 441, 442, 2, 443, 195, 196, 197, 14, 198, 43, 96, 97, 91, 92, 93, 94, 30, 95, 559, 560, 561, 562, 563, 564, 521, 565, 320, 321, 322, 323, 167, 168, 169, 170, 44, 324, 325, 326, 327, 328, 329, 330, 331, 332, 42, 333, 334, 335, 336, 283, 502, 887, 888, 889, 890, 891, 892, 893, 894, 895, 896, 897, 920, 921, 922] (by decide +kernel) (by decide +kernel)
set_option maxRecDepth 20000 in
theorem gL_law_X5_nearer : GoodIn wsL_law (wsV RL 83 RX5 yX5_nearer wsX5_nearer) := goodIn_app (goodIn_of _ (by decide +kernel)) ggL_law_X5_nearer
set_option maxRecDepth 20000 in
theorem ggL_law_X6_nearer : GoodIn wsL_law wsX6_nearer := goodIn_r _ [569, 70, 456, 457, 458, 5, 459, 254, 255, 256, 257, 222, 233, 234, 235, 114, 115, 116, 117, 69, 570, 571, 572, 573, 346, 347, 348, 349, 246, 247, 248, 249, 71, 350, 351, 352, 353, 354, 355, 356, 898, 899, 900, 901, 902, 903, 904, 905, 906, 907, 908, 909, 910, 911, 912, 913, 914, 915, 916, 917, 918, 919] (by decide +kernel) (by decide +kernel)
set_option maxRecDepth 20000 in
theorem gL_law_X6_nearer : GoodIn wsL_law (wsV RL 86 RX6 yX6_nearer wsX6_nearer) := goodIn_app (goodIn_of _ (by decide +kernel)) ggL_law_X6_nearer
set_option maxRecDepth 20000 in
theorem ggL_law_X5_crowded : GoodIn wsL_law wsX5_crowded := goodIn_r _ [577, 36, 15, 578, 579, 580, 2, 581, 195, 196, 197, 14, 198, 43, 96, 97, 95, 91, 92, 93, 94, 30, 582, 583, 584, 585, 320, 321, 322, 323, 167, 168, 169, 170, 44, 324, 325, 326, 327, 328, 329, 330, 331, 332, 42, 333, 334, 335, 336, 586, 887, 888, 889, 890, 891, 892, 893, 894, 895, 896, 897, 920, 921, 922] (by decide +kernel) (by decide +kernel)
set_option maxRecDepth 20000 in
theorem gL_law_X5_crowded : GoodIn wsL_law (wsV RL 87 RX5 yX5_crowded wsX5_crowded) := goodIn_app (goodIn_of _ (by decide +kernel)) ggL_law_X5_crowded
set_option maxRecDepth 20000 in
theorem ggL_law_X6_crowded : GoodIn wsL_law wsX6_crowded := goodIn_r _ [590, 78, 254, 255, 256, 5, 257, 222, 233, 234, 235, 114, 115, 116, 117, 69, 346, 347, 348, 349, 246, 247, 248, 249, 71, 350, 351, 352, 353, 70, 354, 355, 356, 898, 899, 900, 901, 902, 903, 904, 905, 906, 907, 908, 909, 910, 911, 912, 913, 914, 915, 916, 917, 918, 919] (by decide +kernel) (by decide +kernel)
set_option maxRecDepth 20000 in
theorem gL_law_X6_crowded : GoodIn wsL_law (wsV RL 90 RX6 yX6_crowded wsX6_crowded) := goodIn_app (goodIn_of _ (by decide +kernel)) ggL_law_X6_crowded
set_option maxRecDepth 20000 in
theorem ggL_law_X5_meeting : GoodIn wsL_law wsX5_meeting := goodIn_r _ [594, 15, 595, 596, 597, 2, 598, 195, 196, 197, 14, 198, 43, 96, 97, 91, 92, 93, 94, 30, 95, 320, 321, 322, 323, 167, 168, 169, 170, 44, 324, 325, 326, 327, 328, 329, 330, 331, 332, 42, 333, 334, 335, 336, 887, 888, 889, 890, 891, 892, 893, 894, 895, 896, 897, 920, 921, 922] (by decide +kernel) (by decide +kernel)
set_option maxRecDepth 20000 in
theorem gL_law_X5_meeting : GoodIn wsL_law (wsV RL 91 RX5 yX5_meeting wsX5_meeting) := goodIn_app (goodIn_of _ (by decide +kernel)) ggL_law_X5_meeting
set_option maxRecDepth 20000 in
theorem ggL_law_X6_meeting : GoodIn wsL_law wsX6_meeting := goodIn_r _ [602, 603, 604, 605, 5, 606, 254, 255, 256, 257, 222, 233, 234, 235, 114, 115, 116, 117, 69, 346, 347, 348, 349, 246, 247, 248, 249, 71, 350, 351, 352, 353, 70, 354, 355, 356, 898, 899, 900, 901, 902, 903, 904, 905, 906, 907, 908, 909, 910, 911, 912, 913, 914, 915, 916, 917, 918, 919] (by decide +kernel) (by decide +kernel)
set_option maxRecDepth 20000 in
theorem gL_law_X6_meeting : GoodIn wsL_law (wsV RL 94 RX6 yX6_meeting wsX6_meeting) := goodIn_app (goodIn_of _ (by decide +kernel)) ggL_law_X6_meeting
set_option maxRecDepth 20000 in
theorem ggL_law_X5_shared : GoodIn wsL_law wsX5_shared := goodIn_r _ [610, 34, 35, 388, 595, 596, 597, 2, 598, 15, 195, 196, 197, 14, 198, 43, 96, 97, 91, 92, 93, 94, 30, 95, 389, 390, 391, 392, 376, 377, 378, 379, 393, 394, 395, 396, 397, 398, 399, 33, 400, 58, 320, 321, 322, 323, 167, 168, 169, 170, 44, 324, 325, 326, 327, 328, 329, 330, 331, 332, 42, 333, 334, 335, 336, 401, 402, 403, 404, 405, 406, 407, 408, 409, 410, 411, 412, 413, 414, 415, 416, 59, 417, 418, 419, 420, 421, 289, 290, 291, 422, 492, 887, 888, 889, 890, 891, 892, 893, 894, 895, 896, 897, 927, 928, 920, 921, 922] (by decide +kernel) (by decide +kernel)
set_option maxRecDepth 20000 in
theorem gL_law_X5_shared : GoodIn wsL_law (wsV RL 95 RX5 yX5_shared wsX5_shared) := goodIn_app (goodIn_of _ (by decide +kernel)) ggL_law_X5_shared
set_option maxRecDepth 20000 in
theorem ggL_law_X6_shared : GoodIn wsL_law wsX6_shared := goodIn_r _ [614, 427, 77, 76, 603, 604, 605, 5, 606, 254, 255, 256, 257, 222, 233, 234, 235, 114, 115, 116, 117, 69, 111, 112, 113, 432, 433, 434, 435, 75, 346, 347, 348, 349, 246, 247, 248, 249, 71, 350, 351, 352, 353, 70, 354, 355, 356, 898, 899, 900, 901, 902, 903, 904, 905, 906, 907, 908, 909, 910, 911, 912, 913, 914, 915, 916, 917, 918, 919] (by decide +kernel) (by decide +kernel)
set_option maxRecDepth 20000 in
theorem gL_law_X6_shared : GoodIn wsL_law (wsV RL 98 RX6 yX6_shared wsX6_shared) := goodIn_app (goodIn_of _ (by decide +kernel)) ggL_law_X6_shared
set_option maxRecDepth 20000 in
theorem ggL_law_X5_odds : GoodIn wsL_law wsX5_odds := goodIn_r _ [618, 34, 388, 15, 162, 389, 390, 391, 2, 392, 376, 377, 378, 379, 195, 196, 197, 14, 198, 43, 96, 97, 95, 523, 524, 525, 526, 527, 91, 92, 93, 94, 30, 393, 394, 395, 396, 397, 398, 399, 33, 400, 58, 320, 321, 322, 323, 167, 168, 169, 170, 44, 324, 325, 326, 327, 328, 329, 330, 331, 332, 42, 333, 334, 335, 336, 401, 402, 403, 404, 405, 406, 407, 408, 409, 410, 411, 412, 413, 414, 415, 416, 59, 417, 418, 419, 420, 421, 289, 290, 291, 533, 534, 535, 536, 537, 538, 539, 887, 888, 889, 890, 891, 892, 893, 894, 895, 896, 897, 927, 928, 920, 921, 922] (by decide +kernel) (by decide +kernel)
set_option maxRecDepth 20000 in
theorem gL_law_X5_odds : GoodIn wsL_law (wsV RL 99 RX5 yX5_odds wsX5_odds) := goodIn_app (goodIn_of _ (by decide +kernel)) ggL_law_X5_odds
set_option maxRecDepth 20000 in
theorem ggL_law_X6_odds : GoodIn wsL_law wsX6_odds := goodIn_r _ [622, 427, 70, 428, 429, 430, 5, 431, 254, 255, 256, 257, 222, 233, 234, 235, 111, 112, 113, 544, 545, 546, 547, 548, 114, 115, 116, 117, 69, 432, 433, 434, 435, 75, 76, 346, 347, 348, 349, 246, 247, 248, 249, 71, 350, 351, 352, 353, 354, 355, 356, 549, 550, 551, 552, 553, 554, 898, 899, 900, 901, 902, 903, 904, 905, 906, 907, 908, 909, 910, 911, 912, 913, 914, 915, 916, 917, 918, 919] (by decide +kernel) (by decide +kernel)
set_option maxRecDepth 20000 in
theorem gL_law_X6_odds : GoodIn wsL_law (wsV RL 102 RX6 yX6_odds wsX6_odds) := goodIn_app (goodIn_of _ (by decide +kernel)) ggL_law_X6_odds
set_option maxRecDepth 20000 in
theorem ggL_law_X5_terms : GoodIn wsL_law wsX5_terms := goodIn_r _ [626, 15, 162, 195, 196, 197, 14, 198, 43, 96, 2, 97, 91, 92, 93, 94, 30, 95, 283, 168, 169, 170, 44, 627, 628, 629, 630, 631, 632, 887, 888, 889, 890, 891, 892, 893, 894, 895, 896, 897, 920, 921, 922] (by decide +kernel) (by decide +kernel)
set_option maxRecDepth 20000 in
theorem gL_law_X5_terms : GoodIn wsL_law (wsV RL 103 RX5 yX5_terms wsX5_terms) := goodIn_app (goodIn_of _ (by decide +kernel)) ggL_law_X5_terms
set_option maxRecDepth 20000 in
theorem ggL_law_X6_terms : GoodIn wsL_law wsX6_terms := goodIn_r _ [636, 79, 254, 255, 256, 5, 257, 222, 233, 234, 235, 114, 115, 116, 117, 69, 637, 638, 639, 640, 70, 246, 247, 248, 249, 71, 898, 899, 900, 901, 902, 903, 904, 905, 906, 907, 908, 909, 910, 911, 912, 913, 914, 915, 916, 917, 918, 919] (by decide +kernel) (by decide +kernel)
set_option maxRecDepth 20000 in
theorem gL_law_X6_terms : GoodIn wsL_law (wsV RL 106 RX6 yX6_terms wsX6_terms) := goodIn_app (goodIn_of _ (by decide +kernel)) ggL_law_X6_terms
set_option maxRecDepth 20000 in
theorem ggL_law_X5_convergent : GoodIn wsL_law wsX5_convergent := goodIn_r _ [644, 15, 162, 195, 196, 197, 14, 198, 43, 96, 2, 97, 523, 524, 525, 526, 527, 91, 92, 93, 94, 30, 95, 283, 168, 169, 170, 44, 627, 628, 629, 630, 631, 632, 645, 646, 647, 648, 887, 888, 889, 890, 891, 892, 893, 894, 895, 896, 897, 920, 921, 922] (by decide +kernel) (by decide +kernel)
set_option maxRecDepth 20000 in
theorem gL_law_X5_convergent : GoodIn wsL_law (wsV RL 107 RX5 yX5_convergent wsX5_convergent) := goodIn_app (goodIn_of _ (by decide +kernel)) ggL_law_X5_convergent
set_option maxRecDepth 20000 in
theorem ggL_law_X6_convergent : GoodIn wsL_law wsX6_convergent := goodIn_r _ [652, 79, 254, 255, 256, 5, 257, 222, 233, 234, 235, 544, 545, 546, 547, 548, 114, 115, 116, 117, 69, 637, 638, 639, 640, 70, 246, 247, 248, 249, 71, 549, 550, 551, 552, 553, 554, 898, 899, 900, 901, 902, 903, 904, 905, 906, 907, 908, 909, 910, 911, 912, 913, 914, 915, 916, 917, 918, 919] (by decide +kernel) (by decide +kernel)
set_option maxRecDepth 20000 in
theorem gL_law_X6_convergent : GoodIn wsL_law (wsV RL 110 RX6 yX6_convergent wsX6_convergent) := goodIn_app (goodIn_of _ (by decide +kernel)) ggL_law_X6_convergent
set_option maxRecDepth 20000 in
theorem ggL_law_X5_nearest : GoodIn wsL_law wsX5_nearest := goodIn_r _ [656, 15, 162, 376, 377, 378, 2, 379, 195, 196, 197, 14, 198, 43, 96, 97, 91, 92, 93, 94, 30, 95, 283, 168, 169, 170, 44, 539, 335, 336, 657, 658, 659, 660, 661, 662, 521, 663, 887, 888, 889, 890, 891, 892, 893, 894, 895, 896, 897, 920, 921, 922] (by decide +kernel) (by decide +kernel)
set_option maxRecDepth 20000 in
theorem gL_law_X5_nearest : GoodIn wsL_law (wsV RL 111 RX5 yX5_nearest wsX5_nearest) := goodIn_app (goodIn_of _ (by decide +kernel)) ggL_law_X5_nearest
set_option maxRecDepth 20000 in
theorem ggL_law_X6_nearest : GoodIn wsL_law wsX6_nearest := goodIn_r _ [667, 668, 70, 254, 255, 256, 5, 257, 222, 233, 234, 235, 114, 115, 116, 117, 69, 111, 112, 113, 246, 247, 248, 249, 71, 552, 553, 554, 898, 899, 900, 901, 902, 903, 904, 905, 906, 907, 908, 909, 910, 911, 912, 913, 914, 915, 916, 917, 918, 919] (by decide +kernel) (by decide +kernel)
set_option maxRecDepth 20000 in
theorem gL_law_X6_nearest : GoodIn wsL_law (wsV RL 114 RX6 yX6_nearest wsX6_nearest) := goodIn_app (goodIn_of _ (by decide +kernel)) ggL_law_X6_nearest
set_option maxRecDepth 20000 in
theorem ggL_law_X5_floors : GoodIn wsL_law wsX5_floors := goodIn_r _ [672, 15, 162, 376, 377, 378, 2, 379, 195, 196, 197, 14, 198, 43, 96, 97, 523, 524, 525, 526, 527, 91, 92, 93, 94, 30, 95, 283, 168, 169, 170, 44, 673, 674, 675, 539, 335, 336, 887, 888, 889, 890, 891, 892, 893, 894, 895, 896, 897, 920, 921, 922] (by decide +kernel) (by decide +kernel)
set_option maxRecDepth 20000 in
theorem gL_law_X5_floors : GoodIn wsL_law (wsV RL 115 RX5 yX5_floors wsX5_floors) := goodIn_app (goodIn_of _ (by decide +kernel)) ggL_law_X5_floors
set_option maxRecDepth 20000 in
theorem ggL_law_X6_floors : GoodIn wsL_law wsX6_floors := goodIn_r _ [679, 70, 254, 255, 256, 5, 257, 222, 233, 234, 235, 544, 545, 546, 547, 548, 114, 115, 116, 117, 69, 111, 112, 113, 246, 247, 248, 249, 71, 680, 681, 682, 898, 899, 900, 901, 902, 903, 904, 905, 906, 907, 908, 909, 910, 911, 912, 913, 914, 915, 916, 917, 918, 919] (by decide +kernel) (by decide +kernel)
set_option maxRecDepth 20000 in
theorem gL_law_X6_floors : GoodIn wsL_law (wsV RL 119 RX6 yX6_floors wsX6_floors) := goodIn_app (goodIn_of _ (by decide +kernel)) ggL_law_X6_floors
set_option maxRecDepth 20000 in
theorem ggL_law_X5_rests : GoodIn wsL_law wsX5_rests := goodIn_r _ [686, 15, 162, 376, 377, 378, 2, 379, 195, 196, 197, 14, 198, 43, 96, 97, 523, 524, 525, 526, 527, 91, 92, 93, 94, 30, 95, 283, 168, 169, 170, 44, 586, 333, 334, 887, 888, 889, 890, 891, 892, 893, 894, 895, 896, 897, 920, 921, 922] (by decide +kernel) (by decide +kernel)
set_option maxRecDepth 20000 in
theorem gL_law_X5_rests : GoodIn wsL_law (wsV RL 120 RX5 yX5_rests wsX5_rests) := goodIn_app (goodIn_of _ (by decide +kernel)) ggL_law_X5_rests
set_option maxRecDepth 20000 in
theorem ggL_law_X6_rests : GoodIn wsL_law wsX6_rests := goodIn_r _ [690, 70, 254, 255, 256, 5, 257, 222, 233, 234, 235, 544, 545, 546, 547, 548, 114, 115, 116, 117, 69, 111, 112, 113, 246, 247, 248, 249, 71, 898, 899, 900, 901, 902, 903, 904, 905, 906, 907, 908, 909, 910, 911, 912, 913, 914, 915, 916, 917, 918, 919] (by decide +kernel) (by decide +kernel)
set_option maxRecDepth 20000 in
theorem gL_law_X6_rests : GoodIn wsL_law (wsV RL 123 RX6 yX6_rests wsX6_rests) := goodIn_app (goodIn_of _ (by decide +kernel)) ggL_law_X6_rests
set_option maxRecDepth 20000 in
theorem ggL_law_X5_reciprocal : GoodIn wsL_law wsX5_reciprocal := goodIn_r _ [694, 15, 162, 195, 196, 197, 14, 198, 43, 96, 2, 97, 523, 524, 525, 526, 527, 91, 92, 93, 94, 30, 95, 283, 168, 169, 170, 44, 673, 674, 675, 539, 335, 336, 887, 888, 889, 890, 891, 892, 893, 894, 895, 896, 897, 920, 921, 922] (by decide +kernel) (by decide +kernel)
set_option maxRecDepth 20000 in
theorem gL_law_X5_reciprocal : GoodIn wsL_law (wsV RL 124 RX5 yX5_reciprocal wsX5_reciprocal) := goodIn_app (goodIn_of _ (by decide +kernel)) ggL_law_X5_reciprocal
set_option maxRecDepth 20000 in
theorem ggL_law_X6_reciprocal : GoodIn wsL_law wsX6_reciprocal := goodIn_r _ [698, 70, 254, 255, 256, 5, 257, 222, 233, 234, 235, 544, 545, 546, 547, 548, 114, 115, 116, 117, 69, 246, 247, 248, 249, 71, 680, 681, 682, 898, 899, 900, 901, 902, 903, 904, 905, 906, 907, 908, 909, 910, 911, 912, 913, 914, 915, 916, 917, 918, 919] (by decide +kernel) (by decide +kernel)
set_option maxRecDepth 20000 in
theorem gL_law_X6_reciprocal : GoodIn wsL_law (wsV RL 128 RX6 yX6_reciprocal wsX6_reciprocal) := goodIn_app (goodIn_of _ (by decide +kernel)) ggL_law_X6_reciprocal
set_option maxRecDepth 20000 in
theorem ggL_law_X5_lots : GoodIn wsL_law wsX5_lots := goodIn_r _ [702, 15, 270, 35, 388, 91, 92, 93, 2, 94, 30, 95, 96, 97, 397, 398, 399, 33, 400, 58, 703, 704, 705, 706, 707, 708, 709, 710, 711, 586, 333, 334, 320, 321, 322, 14, 323, 167, 168, 169, 170, 44, 324, 325, 326, 327, 328, 329, 330, 331, 332, 42, 335, 336, 401, 402, 403, 404, 405, 406, 407, 408, 409, 410, 411, 412, 413, 414, 415, 416, 59, 417, 418, 419, 420, 421, 289, 290, 291, 887, 888, 889, 890, 891, 892, 893, 894, 895, 896, 897, 920, 921, 922, 927, 928] (by decide +kernel) (by decide +kernel)
set_option maxRecDepth 20000 in
theorem gL_law_X5_lots : GoodIn wsL_law (wsV RL 129 RX5 yX5_lots wsX5_lots) := goodIn_app (goodIn_of _ (by decide +kernel)) ggL_law_X5_lots
set_option maxRecDepth 20000 in
theorem ggL_law_X6_lots : GoodIn wsL_law wsX6_lots := goodIn_r _ [715, 222, 716, 77, 111, 112, 5, 113, 114, 115, 116, 117, 69, 233, 234, 235, 717, 718, 719, 720, 721, 722, 723, 346, 347, 348, 349, 246, 247, 248, 249, 71, 350, 351, 352, 353, 70, 354, 355, 356, 898, 899, 900, 901, 902, 903, 904, 905, 906, 907, 908, 909, 910, 911, 912, 913, 914, 915, 916, 917, 918, 919] (by decide +kernel) (by decide +kernel)
set_option maxRecDepth 20000 in
theorem gL_law_X6_lots : GoodIn wsL_law (wsV RL 132 RX6 yX6_lots wsX6_lots) := goodIn_app (goodIn_of _ (by decide +kernel)) ggL_law_X6_lots
set_option maxRecDepth 20000 in
theorem ggL_law_X5_list : GoodIn wsL_law wsX5_list := goodIn_r _ [727, 728, 729, 730, 2, 731, 28, 95, 96, 97, 91, 92, 93, 94, 30, 732, 733, 734, 38, 735, 64, 63, 736, 583, 584, 585, 887, 888, 889, 890, 891, 892, 893, 894, 895, 896, 897, 929, 930] (by decide +kernel) (by decide +kernel)
set_option maxRecDepth 20000 in
theorem gL_law_X5_list : GoodIn wsL_law (wsV RL 133 RX5 yX5_list wsX5_list) := goodIn_app (goodIn_of _ (by decide +kernel)) ggL_law_X5_list
set_option maxRecDepth 20000 in
theorem ggL_law_X6_list : GoodIn wsL_law wsX6_list := goodIn_r _ [740, 81, 82, 83, 741, 742, 5, 743, 240, 233, 234, 235, 114, 115, 116, 117, 69, 898, 899, 900, 901, 902, 903, 904, 905, 906, 907, 908, 909, 910, 911, 912, 913, 914, 915, 916, 917, 918, 919] (by decide +kernel) (by decide +kernel)
set_option maxRecDepth 20000 in
theorem gL_law_X6_list : GoodIn wsL_law (wsV RL 136 RX6 yX6_list wsX6_list) := goodIn_app (goodIn_of _ (by decide +kernel)) ggL_law_X6_list
set_option maxRecDepth 20000 in
theorem ggL_law_X5_put : GoodIn wsL_law wsX5_put := goodIn_r _ [747, 728, 729, 730, 2, 731, 28, 95, 96, 97, 91, 92, 93, 94, 30, 748, 749, 750, 38, 751, 63, 752, 753, 754, 755, 64, 756, 757, 758, 759, 760, 887, 888, 889, 890, 891, 892, 893, 894, 895, 896, 897, 929, 930] (by decide +kernel) (by decide +kernel)
set_option maxRecDepth 20000 in
theorem gL_law_X5_put : GoodIn wsL_law (wsV RL 137 RX5 yX5_put wsX5_put) := goodIn_app (goodIn_of _ (by decide +kernel)) ggL_law_X5_put
set_option maxRecDepth 20000 in
theorem ggL_law_X6_put : GoodIn wsL_law wsX6_put := goodIn_r _ [764, 81, 82, 83, 741, 742, 5, 743, 240, 233, 234, 235, 114, 115, 116, 117, 69, 898, 899, 900, 901, 902, 903, 904, 905, 906, 907, 908, 909, 910, 911, 912, 913, 914, 915, 916, 917, 918, 919] (by decide +kernel) (by decide +kernel)
set_option maxRecDepth 20000 in
theorem gL_law_X6_put : GoodIn wsL_law (wsV RL 140 RX6 yX6_put wsX6_put) := goodIn_app (goodIn_of _ (by decide +kernel)) ggL_law_X6_put
set_option maxRecDepth 20000 in
theorem ggL_law_X5_look : GoodIn wsL_law wsX5_look := goodIn_r _ [768, 769, 770, 728, 729, 730, 2, 731, 28, 95, 96, 97, 523, 524, 525, 526, 527, 91, 92, 93, 94, 30, 748, 749, 750, 38, 751, 63, 752, 753, 754, 755, 64, 771, 772, 773, 774, 760, 887, 888, 889, 890, 891, 892, 893, 894, 895, 896, 897, 929, 930] (by decide +kernel) (by decide +kernel)
set_option maxRecDepth 20000 in
theorem gL_law_X5_look : GoodIn wsL_law (wsV RL 141 RX5 yX5_look wsX5_look) := goodIn_app (goodIn_of _ (by decide +kernel)) ggL_law_X5_look
set_option maxRecDepth 20000 in
theorem ggL_law_X6_look : GoodIn wsL_law wsX6_look := goodIn_r _ [778, 81, 82, 83, 741, 742, 5, 743, 240, 233, 234, 235, 544, 545, 546, 547, 548, 114, 115, 116, 117, 69, 898, 899, 900, 901, 902, 903, 904, 905, 906, 907, 908, 909, 910, 911, 912, 913, 914, 915, 916, 917, 918, 919] (by decide +kernel) (by decide +kernel)
set_option maxRecDepth 20000 in
theorem gL_law_X6_look : GoodIn wsL_law (wsV RL 144 RX6 yX6_look wsX6_look) := goodIn_app (goodIn_of _ (by decide +kernel)) ggL_law_X6_look
set_option maxRecDepth 20000 in
theorem ggL_law_X5_lays : GoodIn wsL_law wsX5_lays := goodIn_r _ [782, 15, 783, 728, 729, 730, 2, 731, 28, 95, 96, 97, 195, 196, 197, 14, 198, 43, 91, 92, 93, 94, 30, 748, 749, 750, 38, 751, 63, 752, 753, 754, 755, 64, 320, 321, 322, 323, 167, 168, 169, 170, 44, 324, 325, 326, 327, 328, 329, 330, 331, 332, 42, 333, 334, 335, 336, 756, 757, 758, 759, 760, 887, 888, 889, 890, 891, 892, 893, 894, 895, 896, 897, 929, 930, 920, 921, 922] (by decide +kernel) (by decide +kernel)
set_option maxRecDepth 20000 in
theorem gL_law_X5_lays : GoodIn wsL_law (wsV RL 145 RX5 yX5_lays wsX5_lays) := goodIn_app (goodIn_of _ (by decide +kernel)) ggL_law_X5_lays
set_option maxRecDepth 20000 in
theorem ggL_law_X6_lays : GoodIn wsL_law wsX6_lays := goodIn_r _ [787, 81, 82, 83, 741, 742, 5, 743, 240, 233, 234, 235, 254, 255, 256, 257, 222, 114, 115, 116, 117, 69, 346, 347, 348, 349, 246, 247, 248, 249, 71, 350, 351, 352, 353, 70, 354, 355, 356, 898, 899, 900, 901, 902, 903, 904, 905, 906, 907, 908, 909, 910, 911, 912, 913, 914, 915, 916, 917, 918, 919] (by decide +kernel) (by decide +kernel)
set_option maxRecDepth 20000 in
theorem gL_law_X6_lays : GoodIn wsL_law (wsV RL 148 RX6 yX6_lays wsX6_lays) := goodIn_app (goodIn_of _ (by decide +kernel)) ggL_law_X6_lays
set_option maxRecDepth 20000 in
theorem ggL_law_X5_judge : GoodIn wsL_law wsX5_judge := goodIn_r _ [791, 15, 728, 729, 730, 2, 731, 28, 95, 96, 97, 195, 196, 197, 14, 198, 43, 91, 92, 93, 94, 30, 748, 749, 750, 38, 751, 63, 283, 168, 169, 170, 44, 792, 793, 794, 795, 783, 771, 772, 773, 774, 64, 760, 753, 754, 755, 796, 325, 326, 327, 328, 167, 329, 330, 331, 332, 42, 333, 334, 335, 336, 887, 888, 889, 890, 891, 892, 893, 894, 895, 896, 897, 920, 921, 922, 929, 930] (by decide +kernel) (by decide +kernel)
set_option maxRecDepth 20000 in
theorem gL_law_X5_judge : GoodIn wsL_law (wsV RL 149 RX5 yX5_judge wsX5_judge) := goodIn_app (goodIn_of _ (by decide +kernel)) ggL_law_X5_judge
set_option maxRecDepth 20000 in
theorem ggL_law_X6_judge : GoodIn wsL_law wsX6_judge := goodIn_r _ [800, 81, 82, 83, 741, 742, 5, 743, 240, 233, 234, 235, 254, 255, 256, 257, 222, 114, 115, 116, 117, 69, 346, 347, 348, 349, 246, 247, 248, 249, 71, 350, 351, 352, 353, 70, 354, 355, 356, 898, 899, 900, 901, 902, 903, 904, 905, 906, 907, 908, 909, 910, 911, 912, 913, 914, 915, 916, 917, 918, 919] (by decide +kernel) (by decide +kernel)
set_option maxRecDepth 20000 in
theorem gL_law_X6_judge : GoodIn wsL_law (wsV RL 152 RX6 yX6_judge wsX6_judge) := goodIn_app (goodIn_of _ (by decide +kernel)) ggL_law_X6_judge
set_option maxRecDepth 20000 in
theorem ggL_law_X5_steps : GoodIn wsL_law wsX5_steps := goodIn_r _ [804, 728, 729, 730, 2, 731, 28, 95, 96, 97, 91, 92, 93, 94, 30, 748, 749, 750, 38, 751, 63, 805, 806, 807, 808, 783, 15, 162, 771, 772, 773, 774, 64, 760, 753, 754, 755, 809, 810, 811, 812, 502, 330, 331, 14, 332, 42, 333, 334, 887, 888, 889, 890, 891, 892, 893, 894, 895, 896, 897, 929, 930, 920, 921, 922] (by decide +kernel) (by decide +kernel)
set_option maxRecDepth 20000 in
theorem gL_law_X5_steps : GoodIn wsL_law (wsV RL 153 RX5 yX5_steps wsX5_steps) := goodIn_app (goodIn_of _ (by decide +kernel)) ggL_law_X5_steps
set_option maxRecDepth 20000 in
theorem ggL_law_X6_steps : GoodIn wsL_law wsX6_steps := goodIn_r _ [816, 81, 70, 83, 741, 742, 5, 743, 240, 233, 234, 235, 114, 115, 116, 117, 69, 817, 818, 819, 820, 82, 821, 822, 823, 824, 350, 351, 352, 353, 354, 355, 356, 898, 899, 900, 901, 902, 903, 904, 905, 906, 907, 908, 909, 910, 911, 912, 913, 914, 915, 916, 917, 918, 919] (by decide +kernel) (by decide +kernel)
set_option maxRecDepth 20000 in
theorem gL_law_X6_steps : GoodIn wsL_law (wsV RL 156 RX6 yX6_steps wsX6_steps) := goodIn_app (goodIn_of _ (by decide +kernel)) ggL_law_X6_steps
set_option maxRecDepth 20000 in
theorem ggL_law_X5_kinds : GoodIn wsL_law wsX5_kinds := goodIn_r _ [828, 15, 728, 729, 730, 2, 731, 28, 95, 96, 97, 195, 196, 197, 14, 198, 43, 91, 92, 93, 94, 30, 748, 749, 750, 38, 751, 63, 805, 806, 807, 808, 783, 162, 771, 772, 773, 774, 64, 760, 753, 754, 755, 792, 793, 794, 795, 796, 325, 326, 327, 328, 167, 168, 169, 170, 44, 329, 330, 331, 332, 42, 333, 334, 335, 336, 887, 888, 889, 890, 891, 892, 893, 894, 895, 896, 897, 920, 921, 922, 929, 930] (by decide +kernel) (by decide +kernel)
set_option maxRecDepth 20000 in
theorem gL_law_X5_kinds : GoodIn wsL_law (wsV RL 157 RX5 yX5_kinds wsX5_kinds) := goodIn_app (goodIn_of _ (by decide +kernel)) ggL_law_X5_kinds
set_option maxRecDepth 20000 in
theorem ggL_law_X6_kinds : GoodIn wsL_law wsX6_kinds := goodIn_r _ [832, 81, 741, 742, 5, 743, 240, 233, 234, 235, 254, 255, 256, 257, 222, 114, 115, 116, 117, 69, 817, 818, 819, 820, 82, 83, 70, 246, 247, 248, 249, 71, 821, 822, 823, 824, 350, 351, 352, 353, 354, 355, 356, 898, 899, 900, 901, 902, 903, 904, 905, 906, 907, 908, 909, 910, 911, 912, 913, 914, 915, 916, 917, 918, 919] (by decide +kernel) (by decide +kernel)
set_option maxRecDepth 20000 in
theorem gL_law_X6_kinds : GoodIn wsL_law (wsV RL 160 RX6 yX6_kinds wsX6_kinds) := goodIn_app (goodIn_of _ (by decide +kernel)) ggL_law_X6_kinds
set_option maxRecDepth 20000 in
theorem ggL_law_X5_undo : GoodIn wsL_law wsX5_undo := goodIn_r _ [836, 26, 837, 15, 91, 92, 93, 2, 94, 30, 95, 96, 97, 838, 839, 840, 25, 841, 842, 843, 844, 845, 54, 846, 847, 848, 849, 850, 851, 852, 853, 200, 188, 189, 14, 190, 44, 854, 855, 856, 857, 53, 887, 888, 889, 890, 891, 892, 893, 894, 895, 896, 897, 925, 926, 920, 921, 922] (by decide +kernel) (by decide +kernel)
set_option maxRecDepth 20000 in
theorem gL_law_X5_undo : GoodIn wsL_law (wsV RL 161 RX5 yX5_undo wsX5_undo) := goodIn_app (goodIn_of _ (by decide +kernel)) ggL_law_X5_undo
set_option maxRecDepth 20000 in
theorem ggL_law_X6_undo : GoodIn wsL_law wsX6_undo := goodIn_r _ [861, 223, 71, 72, 114, 115, 116, 5, 117, 69, 898, 899, 900, 901, 902, 903, 904, 905, 906, 907, 908, 909, 910, 911, 912, 913, 914, 915, 916, 917, 918, 919] (by decide +kernel) (by decide +kernel)
set_option maxRecDepth 20000 in
theorem gL_law_X6_undo : GoodIn wsL_law (wsV RL 164 RX6 yX6_undo wsX6_undo) := goodIn_app (goodIn_of _ (by decide +kernel)) ggL_law_X6_undo
set_option maxRecDepth 20000 in
theorem ggL_law_X5_image : GoodIn wsL_law wsX5_image := goodIn_r _ [865, 17, 15, 18, 270, 145, 146, 147, 14, 148, 42, 43, 44, 887, 888, 889, 890, 891, 892, 893, 894, 895, 896, 897, 920, 921, 922] (by decide +kernel) (by decide +kernel)
set_option maxRecDepth 20000 in
theorem gL_law_X5_image : GoodIn wsL_law (wsV RL 165 RX5 yX5_image wsX5_image) := goodIn_app (goodIn_of _ (by decide +kernel)) ggL_law_X5_image
set_option maxRecDepth 20000 in
theorem ggL_law_X6_image : GoodIn wsL_law wsX6_image := goodIn_r _ [869, 84, 71, 222, 85, 70, 870, 898, 899, 900, 901, 902, 903, 904, 905, 906, 907, 908, 909, 910, 911, 912, 913, 914, 915, 916, 917, 918, 919] (by decide +kernel) (by decide +kernel)
set_option maxRecDepth 20000 in
theorem gL_law_X6_image : GoodIn wsL_law (wsV RL 168 RX6 yX6_image wsX6_image) := goodIn_app (goodIn_of _ (by decide +kernel)) ggL_law_X6_image
set_option maxRecDepth 20000 in
theorem ggL_law_X5_on : GoodIn wsL_law wsX5_on := goodIn_r _ [874, 18, 15, 17, 26, 270, 91, 92, 93, 2, 94, 30, 95, 96, 97, 145, 146, 147, 14, 148, 42, 43, 44, 210, 211, 212, 25, 213, 53, 887, 888, 889, 890, 891, 892, 893, 894, 895, 896, 897, 920, 921, 922, 925, 926] (by decide +kernel) (by decide +kernel)
set_option maxRecDepth 20000 in
theorem gL_law_X5_on : GoodIn wsL_law (wsV RL 169 RX5 yX5_on wsX5_on) := goodIn_app (goodIn_of _ (by decide +kernel)) ggL_law_X5_on
set_option maxRecDepth 20000 in
theorem ggL_law_X6_on : GoodIn wsL_law wsX6_on := goodIn_r _ [878, 85, 71, 84, 222, 870, 70, 223, 114, 115, 116, 5, 117, 69, 898, 899, 900, 901, 902, 903, 904, 905, 906, 907, 908, 909, 910, 911, 912, 913, 914, 915, 916, 917, 918, 919] (by decide +kernel) (by decide +kernel)
set_option maxRecDepth 20000 in
theorem gL_law_X6_on : GoodIn wsL_law (wsV RL 172 RX6 yX6_on wsX6_on) := goodIn_app (goodIn_of _ (by decide +kernel)) ggL_law_X6_on
set_option maxRecDepth 20000 in
theorem ggL_law_X5_count : GoodIn wsL_law wsX5_count := goodIn_r _ [882, 15, 270, 162, 22, 90, 26, 837, 30, 95, 96, 2, 97, 887, 888, 889, 890, 891, 892, 893, 894, 895, 896, 897, 920, 921, 922, 923, 924, 925, 926] (by decide +kernel) (by decide +kernel)
set_option maxRecDepth 20000 in
theorem gL_law_X5_count : GoodIn wsL_law (wsV RL 173 RX5 yX5_count wsX5_count) := goodIn_app (goodIn_of _ (by decide +kernel)) ggL_law_X5_count
set_option maxRecDepth 20000 in
theorem ggL_law_X6_count : GoodIn wsL_law wsX6_count := goodIn_r _ [886, 222, 70, 110, 223, 69, 898, 899, 900, 901, 902, 903, 904, 905, 906, 907, 908, 909, 910, 911, 912, 913, 914, 915, 916, 917, 918, 919] (by decide +kernel) (by decide +kernel)
set_option maxRecDepth 20000 in
theorem gL_law_X6_count : GoodIn wsL_law (wsV RL 176 RX6 yX6_count wsX6_count) := goodIn_app (goodIn_of _ (by decide +kernel)) ggL_law_X6_count
theorem dL_law_0 : decode cL_law 0 = .ok (.new 7, 3) := by decide +kernel
theorem dL_law_3 : decode cL_law 3 = .ok (.dup, 1) := by decide +kernel
theorem dL_law_4 : decode cL_law 4 = .ok (.invokespecial 9, 3) := by decide +kernel
theorem dL_law_7 : decode cL_law 7 = .ok (.astore_n 1, 1) := by decide +kernel
theorem dL_law_8 : decode cL_law 8 = .ok (.new 10, 3) := by decide +kernel
theorem dL_law_11 : decode cL_law 11 = .ok (.dup, 1) := by decide +kernel
theorem dL_law_12 : decode cL_law 12 = .ok (.invokespecial 12, 3) := by decide +kernel
theorem dL_law_15 : decode cL_law 15 = .ok (.astore_n 2, 1) := by decide +kernel
theorem dL_law_16 : decode cL_law 16 = .ok (.iconst 0, 1) := by decide +kernel
theorem dL_law_17 : decode cL_law 17 = .ok (.istore_n 3, 1) := by decide +kernel
theorem dL_law_18 : decode cL_law 18 = .ok (.iload_n 3, 1) := by decide +kernel
theorem dL_law_19 : decode cL_law 19 = .ok (.aload_n 0, 1) := by decide +kernel
theorem dL_law_20 : decode cL_law 20 = .ok (.arraylength, 1) := by decide +kernel
theorem dL_law_21 : decode cL_law 21 = .ok (.iconst 5, 1) := by decide +kernel
theorem dL_law_22 : decode cL_law 22 = .ok (.isub, 1) := by decide +kernel
theorem dL_law_23 : decode cL_law 23 = .ok (.if_icmp .gt 1561, 3) := by decide +kernel
theorem dL_law_26 : decode cL_law 26 = .ok (.aload_n 0, 1) := by decide +kernel
theorem dL_law_27 : decode cL_law 27 = .ok (.iload_n 3, 1) := by decide +kernel
theorem dL_law_28 : decode cL_law 28 = .ok (.iaload, 1) := by decide +kernel
theorem dL_law_29 : decode cL_law 29 = .ok (.bipush 63, 2) := by decide +kernel
theorem dL_law_31 : decode cL_law 31 = .ok (.iand, 1) := by decide +kernel
theorem dL_law_32 : decode cL_law 32 = .ok (.tableswitch 1546 0 38 #[172, 195, 208, 231, 284, 327, 340, 373, 406, 439, 482, 525, 568, 611, 654, 697, 741, 784, 837, 880, 933, 977, 1010, 1054, 1097, 1131, 1165, 1189, 1232, 1265, 1308, 1342, 1385, 1418, 1451, 1484, 1497, 1510, 1523], 172) := by decide +kernel
theorem dL_law_204 : decode cL_law 204 = .ok (.aload_n 1, 1) := by decide +kernel
theorem dL_law_205 : decode cL_law 205 = .ok (.aload_n 0, 1) := by decide +kernel
theorem dL_law_206 : decode cL_law 206 = .ok (.iload_n 3, 1) := by decide +kernel
theorem dL_law_207 : decode cL_law 207 = .ok (.iconst 1, 1) := by decide +kernel
theorem dL_law_208 : decode cL_law 208 = .ok (.iadd, 1) := by decide +kernel
theorem dL_law_209 : decode cL_law 209 = .ok (.iaload, 1) := by decide +kernel
theorem dL_law_210 : decode cL_law 210 = .ok (.invokevirtual 13, 3) := by decide +kernel
theorem dL_law_213 : decode cL_law 213 = .ok (.aload_n 2, 1) := by decide +kernel
theorem dL_law_214 : decode cL_law 214 = .ok (.aload_n 0, 1) := by decide +kernel
theorem dL_law_215 : decode cL_law 215 = .ok (.iload_n 3, 1) := by decide +kernel
theorem dL_law_216 : decode cL_law 216 = .ok (.iconst 1, 1) := by decide +kernel
theorem dL_law_217 : decode cL_law 217 = .ok (.iadd, 1) := by decide +kernel
theorem dL_law_218 : decode cL_law 218 = .ok (.iaload, 1) := by decide +kernel
theorem dL_law_219 : decode cL_law 219 = .ok (.invokevirtual 17, 3) := by decide +kernel
theorem dL_law_222 : decode cL_law 222 = .ok (.if_icmp .eq 1356, 3) := by decide +kernel
theorem dL_law_225 : decode cL_law 225 = .ok (.iconst 0, 1) := by decide +kernel
theorem dL_law_226 : decode cL_law 226 = .ok (.ireturn, 1) := by decide +kernel
theorem dL_law_227 : decode cL_law 227 = .ok (.aload_n 1, 1) := by decide +kernel
theorem dL_law_228 : decode cL_law 228 = .ok (.invokevirtual 18, 3) := by decide +kernel
theorem dL_law_231 : decode cL_law 231 = .ok (.aload_n 2, 1) := by decide +kernel
theorem dL_law_232 : decode cL_law 232 = .ok (.invokevirtual 22, 3) := by decide +kernel
theorem dL_law_235 : decode cL_law 235 = .ok (.if_icmp .eq 1343, 3) := by decide +kernel
theorem dL_law_238 : decode cL_law 238 = .ok (.iconst 0, 1) := by decide +kernel
theorem dL_law_239 : decode cL_law 239 = .ok (.ireturn, 1) := by decide +kernel
theorem dL_law_240 : decode cL_law 240 = .ok (.aload_n 1, 1) := by decide +kernel
theorem dL_law_241 : decode cL_law 241 = .ok (.aload_n 0, 1) := by decide +kernel
theorem dL_law_242 : decode cL_law 242 = .ok (.iload_n 3, 1) := by decide +kernel
theorem dL_law_243 : decode cL_law 243 = .ok (.iconst 1, 1) := by decide +kernel
theorem dL_law_244 : decode cL_law 244 = .ok (.iadd, 1) := by decide +kernel
theorem dL_law_245 : decode cL_law 245 = .ok (.iaload, 1) := by decide +kernel
theorem dL_law_246 : decode cL_law 246 = .ok (.invokevirtual 23, 3) := by decide +kernel
theorem dL_law_249 : decode cL_law 249 = .ok (.aload_n 2, 1) := by decide +kernel
theorem dL_law_250 : decode cL_law 250 = .ok (.aload_n 0, 1) := by decide +kernel
theorem dL_law_251 : decode cL_law 251 = .ok (.iload_n 3, 1) := by decide +kernel
theorem dL_law_252 : decode cL_law 252 = .ok (.iconst 1, 1) := by decide +kernel
theorem dL_law_253 : decode cL_law 253 = .ok (.iadd, 1) := by decide +kernel
theorem dL_law_254 : decode cL_law 254 = .ok (.iaload, 1) := by decide +kernel
theorem dL_law_255 : decode cL_law 255 = .ok (.invokevirtual 26, 3) := by decide +kernel
theorem dL_law_258 : decode cL_law 258 = .ok (.if_icmp .eq 1320, 3) := by decide +kernel
theorem dL_law_261 : decode cL_law 261 = .ok (.iconst 0, 1) := by decide +kernel
theorem dL_law_262 : decode cL_law 262 = .ok (.ireturn, 1) := by decide +kernel
theorem dL_law_263 : decode cL_law 263 = .ok (.aload_n 1, 1) := by decide +kernel
theorem dL_law_264 : decode cL_law 264 = .ok (.aload_n 0, 1) := by decide +kernel
theorem dL_law_265 : decode cL_law 265 = .ok (.iload_n 3, 1) := by decide +kernel
theorem dL_law_266 : decode cL_law 266 = .ok (.iconst 1, 1) := by decide +kernel
theorem dL_law_267 : decode cL_law 267 = .ok (.iadd, 1) := by decide +kernel
theorem dL_law_268 : decode cL_law 268 = .ok (.iaload, 1) := by decide +kernel
theorem dL_law_269 : decode cL_law 269 = .ok (.aload_n 0, 1) := by decide +kernel
theorem dL_law_270 : decode cL_law 270 = .ok (.iload_n 3, 1) := by decide +kernel
theorem dL_law_271 : decode cL_law 271 = .ok (.iconst 2, 1) := by decide +kernel
theorem dL_law_272 : decode cL_law 272 = .ok (.iadd, 1) := by decide +kernel
theorem dL_law_273 : decode cL_law 273 = .ok (.iaload, 1) := by decide +kernel
theorem dL_law_274 : decode cL_law 274 = .ok (.aload_n 0, 1) := by decide +kernel
theorem dL_law_275 : decode cL_law 275 = .ok (.iload_n 3, 1) := by decide +kernel
theorem dL_law_276 : decode cL_law 276 = .ok (.iconst 3, 1) := by decide +kernel
theorem dL_law_277 : decode cL_law 277 = .ok (.iadd, 1) := by decide +kernel
theorem dL_law_278 : decode cL_law 278 = .ok (.iaload, 1) := by decide +kernel
theorem dL_law_279 : decode cL_law 279 = .ok (.aload_n 0, 1) := by decide +kernel
theorem dL_law_280 : decode cL_law 280 = .ok (.iload_n 3, 1) := by decide +kernel
theorem dL_law_281 : decode cL_law 281 = .ok (.iconst 4, 1) := by decide +kernel
theorem dL_law_282 : decode cL_law 282 = .ok (.iadd, 1) := by decide +kernel
theorem dL_law_283 : decode cL_law 283 = .ok (.iaload, 1) := by decide +kernel
theorem dL_law_284 : decode cL_law 284 = .ok (.invokevirtual 27, 3) := by decide +kernel
theorem dL_law_287 : decode cL_law 287 = .ok (.aload_n 2, 1) := by decide +kernel
theorem dL_law_288 : decode cL_law 288 = .ok (.aload_n 0, 1) := by decide +kernel
theorem dL_law_289 : decode cL_law 289 = .ok (.iload_n 3, 1) := by decide +kernel
theorem dL_law_290 : decode cL_law 290 = .ok (.iconst 1, 1) := by decide +kernel
theorem dL_law_291 : decode cL_law 291 = .ok (.iadd, 1) := by decide +kernel
theorem dL_law_292 : decode cL_law 292 = .ok (.iaload, 1) := by decide +kernel
theorem dL_law_293 : decode cL_law 293 = .ok (.aload_n 0, 1) := by decide +kernel
theorem dL_law_294 : decode cL_law 294 = .ok (.iload_n 3, 1) := by decide +kernel
theorem dL_law_295 : decode cL_law 295 = .ok (.iconst 2, 1) := by decide +kernel
theorem dL_law_296 : decode cL_law 296 = .ok (.iadd, 1) := by decide +kernel
theorem dL_law_297 : decode cL_law 297 = .ok (.iaload, 1) := by decide +kernel
theorem dL_law_298 : decode cL_law 298 = .ok (.aload_n 0, 1) := by decide +kernel
theorem dL_law_299 : decode cL_law 299 = .ok (.iload_n 3, 1) := by decide +kernel
theorem dL_law_300 : decode cL_law 300 = .ok (.iconst 3, 1) := by decide +kernel
theorem dL_law_301 : decode cL_law 301 = .ok (.iadd, 1) := by decide +kernel
theorem dL_law_302 : decode cL_law 302 = .ok (.iaload, 1) := by decide +kernel
theorem dL_law_303 : decode cL_law 303 = .ok (.aload_n 0, 1) := by decide +kernel
theorem dL_law_304 : decode cL_law 304 = .ok (.iload_n 3, 1) := by decide +kernel
theorem dL_law_305 : decode cL_law 305 = .ok (.iconst 4, 1) := by decide +kernel
theorem dL_law_306 : decode cL_law 306 = .ok (.iadd, 1) := by decide +kernel
theorem dL_law_307 : decode cL_law 307 = .ok (.iaload, 1) := by decide +kernel
theorem dL_law_308 : decode cL_law 308 = .ok (.invokevirtual 31, 3) := by decide +kernel
theorem dL_law_311 : decode cL_law 311 = .ok (.if_icmp .eq 1267, 3) := by decide +kernel
theorem dL_law_314 : decode cL_law 314 = .ok (.iconst 0, 1) := by decide +kernel
theorem dL_law_315 : decode cL_law 315 = .ok (.ireturn, 1) := by decide +kernel
theorem dL_law_316 : decode cL_law 316 = .ok (.aload_n 1, 1) := by decide +kernel
theorem dL_law_317 : decode cL_law 317 = .ok (.aload_n 0, 1) := by decide +kernel
theorem dL_law_318 : decode cL_law 318 = .ok (.iload_n 3, 1) := by decide +kernel
theorem dL_law_319 : decode cL_law 319 = .ok (.iconst 1, 1) := by decide +kernel
theorem dL_law_320 : decode cL_law 320 = .ok (.iadd, 1) := by decide +kernel
theorem dL_law_321 : decode cL_law 321 = .ok (.iaload, 1) := by decide +kernel
theorem dL_law_322 : decode cL_law 322 = .ok (.aload_n 0, 1) := by decide +kernel
theorem dL_law_323 : decode cL_law 323 = .ok (.iload_n 3, 1) := by decide +kernel
theorem dL_law_324 : decode cL_law 324 = .ok (.iconst 2, 1) := by decide +kernel
theorem dL_law_325 : decode cL_law 325 = .ok (.iadd, 1) := by decide +kernel
theorem dL_law_326 : decode cL_law 326 = .ok (.iaload, 1) := by decide +kernel
theorem dL_law_327 : decode cL_law 327 = .ok (.aload_n 0, 1) := by decide +kernel
theorem dL_law_328 : decode cL_law 328 = .ok (.iload_n 3, 1) := by decide +kernel
theorem dL_law_329 : decode cL_law 329 = .ok (.iconst 3, 1) := by decide +kernel
theorem dL_law_330 : decode cL_law 330 = .ok (.iadd, 1) := by decide +kernel
theorem dL_law_331 : decode cL_law 331 = .ok (.iaload, 1) := by decide +kernel
theorem dL_law_332 : decode cL_law 332 = .ok (.invokevirtual 32, 3) := by decide +kernel
theorem dL_law_335 : decode cL_law 335 = .ok (.aload_n 2, 1) := by decide +kernel
theorem dL_law_336 : decode cL_law 336 = .ok (.aload_n 0, 1) := by decide +kernel
theorem dL_law_337 : decode cL_law 337 = .ok (.iload_n 3, 1) := by decide +kernel
theorem dL_law_338 : decode cL_law 338 = .ok (.iconst 1, 1) := by decide +kernel
theorem dL_law_339 : decode cL_law 339 = .ok (.iadd, 1) := by decide +kernel
theorem dL_law_340 : decode cL_law 340 = .ok (.iaload, 1) := by decide +kernel
theorem dL_law_341 : decode cL_law 341 = .ok (.aload_n 0, 1) := by decide +kernel
theorem dL_law_342 : decode cL_law 342 = .ok (.iload_n 3, 1) := by decide +kernel
theorem dL_law_343 : decode cL_law 343 = .ok (.iconst 2, 1) := by decide +kernel
theorem dL_law_344 : decode cL_law 344 = .ok (.iadd, 1) := by decide +kernel
theorem dL_law_345 : decode cL_law 345 = .ok (.iaload, 1) := by decide +kernel
theorem dL_law_346 : decode cL_law 346 = .ok (.aload_n 0, 1) := by decide +kernel
theorem dL_law_347 : decode cL_law 347 = .ok (.iload_n 3, 1) := by decide +kernel
theorem dL_law_348 : decode cL_law 348 = .ok (.iconst 3, 1) := by decide +kernel
theorem dL_law_349 : decode cL_law 349 = .ok (.iadd, 1) := by decide +kernel
theorem dL_law_350 : decode cL_law 350 = .ok (.iaload, 1) := by decide +kernel
theorem dL_law_351 : decode cL_law 351 = .ok (.invokevirtual 36, 3) := by decide +kernel
theorem dL_law_354 : decode cL_law 354 = .ok (.if_icmp .eq 1224, 3) := by decide +kernel
theorem dL_law_357 : decode cL_law 357 = .ok (.iconst 0, 1) := by decide +kernel
theorem dL_law_358 : decode cL_law 358 = .ok (.ireturn, 1) := by decide +kernel
theorem dL_law_359 : decode cL_law 359 = .ok (.aload_n 1, 1) := by decide +kernel
theorem dL_law_360 : decode cL_law 360 = .ok (.invokevirtual 37, 3) := by decide +kernel
theorem dL_law_363 : decode cL_law 363 = .ok (.aload_n 2, 1) := by decide +kernel
theorem dL_law_364 : decode cL_law 364 = .ok (.invokevirtual 40, 3) := by decide +kernel
theorem dL_law_367 : decode cL_law 367 = .ok (.if_icmp .eq 1211, 3) := by decide +kernel
theorem dL_law_370 : decode cL_law 370 = .ok (.iconst 0, 1) := by decide +kernel
theorem dL_law_371 : decode cL_law 371 = .ok (.ireturn, 1) := by decide +kernel
theorem dL_law_372 : decode cL_law 372 = .ok (.aload_n 1, 1) := by decide +kernel
theorem dL_law_373 : decode cL_law 373 = .ok (.aload_n 0, 1) := by decide +kernel
theorem dL_law_374 : decode cL_law 374 = .ok (.iload_n 3, 1) := by decide +kernel
theorem dL_law_375 : decode cL_law 375 = .ok (.iconst 1, 1) := by decide +kernel
theorem dL_law_376 : decode cL_law 376 = .ok (.iadd, 1) := by decide +kernel
theorem dL_law_377 : decode cL_law 377 = .ok (.iaload, 1) := by decide +kernel
theorem dL_law_378 : decode cL_law 378 = .ok (.aload_n 0, 1) := by decide +kernel
theorem dL_law_379 : decode cL_law 379 = .ok (.iload_n 3, 1) := by decide +kernel
theorem dL_law_380 : decode cL_law 380 = .ok (.iconst 2, 1) := by decide +kernel
theorem dL_law_381 : decode cL_law 381 = .ok (.iadd, 1) := by decide +kernel
theorem dL_law_382 : decode cL_law 382 = .ok (.iaload, 1) := by decide +kernel
theorem dL_law_383 : decode cL_law 383 = .ok (.invokevirtual 41, 3) := by decide +kernel
theorem dL_law_386 : decode cL_law 386 = .ok (.aload_n 2, 1) := by decide +kernel
theorem dL_law_387 : decode cL_law 387 = .ok (.aload_n 0, 1) := by decide +kernel
theorem dL_law_388 : decode cL_law 388 = .ok (.iload_n 3, 1) := by decide +kernel
theorem dL_law_389 : decode cL_law 389 = .ok (.iconst 1, 1) := by decide +kernel
theorem dL_law_390 : decode cL_law 390 = .ok (.iadd, 1) := by decide +kernel
theorem dL_law_391 : decode cL_law 391 = .ok (.iaload, 1) := by decide +kernel
theorem dL_law_392 : decode cL_law 392 = .ok (.aload_n 0, 1) := by decide +kernel
theorem dL_law_393 : decode cL_law 393 = .ok (.iload_n 3, 1) := by decide +kernel
theorem dL_law_394 : decode cL_law 394 = .ok (.iconst 2, 1) := by decide +kernel
theorem dL_law_395 : decode cL_law 395 = .ok (.iadd, 1) := by decide +kernel
theorem dL_law_396 : decode cL_law 396 = .ok (.iaload, 1) := by decide +kernel
theorem dL_law_397 : decode cL_law 397 = .ok (.invokevirtual 45, 3) := by decide +kernel
theorem dL_law_400 : decode cL_law 400 = .ok (.if_icmp .eq 1178, 3) := by decide +kernel
theorem dL_law_403 : decode cL_law 403 = .ok (.iconst 0, 1) := by decide +kernel
theorem dL_law_404 : decode cL_law 404 = .ok (.ireturn, 1) := by decide +kernel
theorem dL_law_405 : decode cL_law 405 = .ok (.aload_n 1, 1) := by decide +kernel
theorem dL_law_406 : decode cL_law 406 = .ok (.aload_n 0, 1) := by decide +kernel
theorem dL_law_407 : decode cL_law 407 = .ok (.iload_n 3, 1) := by decide +kernel
theorem dL_law_408 : decode cL_law 408 = .ok (.iconst 1, 1) := by decide +kernel
theorem dL_law_409 : decode cL_law 409 = .ok (.iadd, 1) := by decide +kernel
theorem dL_law_410 : decode cL_law 410 = .ok (.iaload, 1) := by decide +kernel
theorem dL_law_411 : decode cL_law 411 = .ok (.aload_n 0, 1) := by decide +kernel
theorem dL_law_412 : decode cL_law 412 = .ok (.iload_n 3, 1) := by decide +kernel
theorem dL_law_413 : decode cL_law 413 = .ok (.iconst 2, 1) := by decide +kernel
theorem dL_law_414 : decode cL_law 414 = .ok (.iadd, 1) := by decide +kernel
theorem dL_law_415 : decode cL_law 415 = .ok (.iaload, 1) := by decide +kernel
theorem dL_law_416 : decode cL_law 416 = .ok (.invokevirtual 46, 3) := by decide +kernel
theorem dL_law_419 : decode cL_law 419 = .ok (.aload_n 2, 1) := by decide +kernel
theorem dL_law_420 : decode cL_law 420 = .ok (.aload_n 0, 1) := by decide +kernel
theorem dL_law_421 : decode cL_law 421 = .ok (.iload_n 3, 1) := by decide +kernel
theorem dL_law_422 : decode cL_law 422 = .ok (.iconst 1, 1) := by decide +kernel
theorem dL_law_423 : decode cL_law 423 = .ok (.iadd, 1) := by decide +kernel
theorem dL_law_424 : decode cL_law 424 = .ok (.iaload, 1) := by decide +kernel
theorem dL_law_425 : decode cL_law 425 = .ok (.aload_n 0, 1) := by decide +kernel
theorem dL_law_426 : decode cL_law 426 = .ok (.iload_n 3, 1) := by decide +kernel
theorem dL_law_427 : decode cL_law 427 = .ok (.iconst 2, 1) := by decide +kernel
theorem dL_law_428 : decode cL_law 428 = .ok (.iadd, 1) := by decide +kernel
theorem dL_law_429 : decode cL_law 429 = .ok (.iaload, 1) := by decide +kernel
theorem dL_law_430 : decode cL_law 430 = .ok (.invokevirtual 49, 3) := by decide +kernel
theorem dL_law_433 : decode cL_law 433 = .ok (.if_icmp .eq 1145, 3) := by decide +kernel
theorem dL_law_436 : decode cL_law 436 = .ok (.iconst 0, 1) := by decide +kernel
theorem dL_law_437 : decode cL_law 437 = .ok (.ireturn, 1) := by decide +kernel
theorem dL_law_438 : decode cL_law 438 = .ok (.aload_n 1, 1) := by decide +kernel
theorem dL_law_439 : decode cL_law 439 = .ok (.aload_n 0, 1) := by decide +kernel
theorem dL_law_440 : decode cL_law 440 = .ok (.iload_n 3, 1) := by decide +kernel
theorem dL_law_441 : decode cL_law 441 = .ok (.iconst 1, 1) := by decide +kernel
theorem dL_law_442 : decode cL_law 442 = .ok (.iadd, 1) := by decide +kernel
theorem dL_law_443 : decode cL_law 443 = .ok (.iaload, 1) := by decide +kernel
theorem dL_law_444 : decode cL_law 444 = .ok (.aload_n 0, 1) := by decide +kernel
theorem dL_law_445 : decode cL_law 445 = .ok (.iload_n 3, 1) := by decide +kernel
theorem dL_law_446 : decode cL_law 446 = .ok (.iconst 2, 1) := by decide +kernel
theorem dL_law_447 : decode cL_law 447 = .ok (.iadd, 1) := by decide +kernel
theorem dL_law_448 : decode cL_law 448 = .ok (.iaload, 1) := by decide +kernel
theorem dL_law_449 : decode cL_law 449 = .ok (.invokevirtual 50, 3) := by decide +kernel
theorem dL_law_452 : decode cL_law 452 = .ok (.aload_n 2, 1) := by decide +kernel
theorem dL_law_453 : decode cL_law 453 = .ok (.aload_n 0, 1) := by decide +kernel
theorem dL_law_454 : decode cL_law 454 = .ok (.iload_n 3, 1) := by decide +kernel
theorem dL_law_455 : decode cL_law 455 = .ok (.iconst 1, 1) := by decide +kernel
theorem dL_law_456 : decode cL_law 456 = .ok (.iadd, 1) := by decide +kernel
theorem dL_law_457 : decode cL_law 457 = .ok (.iaload, 1) := by decide +kernel
theorem dL_law_458 : decode cL_law 458 = .ok (.aload_n 0, 1) := by decide +kernel
theorem dL_law_459 : decode cL_law 459 = .ok (.iload_n 3, 1) := by decide +kernel
theorem dL_law_460 : decode cL_law 460 = .ok (.iconst 2, 1) := by decide +kernel
theorem dL_law_461 : decode cL_law 461 = .ok (.iadd, 1) := by decide +kernel
theorem dL_law_462 : decode cL_law 462 = .ok (.iaload, 1) := by decide +kernel
theorem dL_law_463 : decode cL_law 463 = .ok (.invokevirtual 53, 3) := by decide +kernel
theorem dL_law_466 : decode cL_law 466 = .ok (.if_icmp .eq 1112, 3) := by decide +kernel
theorem dL_law_469 : decode cL_law 469 = .ok (.iconst 0, 1) := by decide +kernel
theorem dL_law_470 : decode cL_law 470 = .ok (.ireturn, 1) := by decide +kernel
theorem dL_law_471 : decode cL_law 471 = .ok (.aload_n 1, 1) := by decide +kernel
theorem dL_law_472 : decode cL_law 472 = .ok (.aload_n 0, 1) := by decide +kernel
theorem dL_law_473 : decode cL_law 473 = .ok (.iload_n 3, 1) := by decide +kernel
theorem dL_law_474 : decode cL_law 474 = .ok (.iconst 1, 1) := by decide +kernel
theorem dL_law_475 : decode cL_law 475 = .ok (.iadd, 1) := by decide +kernel
theorem dL_law_476 : decode cL_law 476 = .ok (.iaload, 1) := by decide +kernel
theorem dL_law_477 : decode cL_law 477 = .ok (.aload_n 0, 1) := by decide +kernel
theorem dL_law_478 : decode cL_law 478 = .ok (.iload_n 3, 1) := by decide +kernel
theorem dL_law_479 : decode cL_law 479 = .ok (.iconst 2, 1) := by decide +kernel
theorem dL_law_480 : decode cL_law 480 = .ok (.iadd, 1) := by decide +kernel
theorem dL_law_481 : decode cL_law 481 = .ok (.iaload, 1) := by decide +kernel
theorem dL_law_482 : decode cL_law 482 = .ok (.aload_n 0, 1) := by decide +kernel
theorem dL_law_483 : decode cL_law 483 = .ok (.iload_n 3, 1) := by decide +kernel
theorem dL_law_484 : decode cL_law 484 = .ok (.iconst 3, 1) := by decide +kernel
theorem dL_law_485 : decode cL_law 485 = .ok (.iadd, 1) := by decide +kernel
theorem dL_law_486 : decode cL_law 486 = .ok (.iaload, 1) := by decide +kernel
theorem dL_law_487 : decode cL_law 487 = .ok (.invokevirtual 54, 3) := by decide +kernel
theorem dL_law_490 : decode cL_law 490 = .ok (.aload_n 2, 1) := by decide +kernel
theorem dL_law_491 : decode cL_law 491 = .ok (.aload_n 0, 1) := by decide +kernel
theorem dL_law_492 : decode cL_law 492 = .ok (.iload_n 3, 1) := by decide +kernel
theorem dL_law_493 : decode cL_law 493 = .ok (.iconst 1, 1) := by decide +kernel
theorem dL_law_494 : decode cL_law 494 = .ok (.iadd, 1) := by decide +kernel
theorem dL_law_495 : decode cL_law 495 = .ok (.iaload, 1) := by decide +kernel
theorem dL_law_496 : decode cL_law 496 = .ok (.aload_n 0, 1) := by decide +kernel
theorem dL_law_497 : decode cL_law 497 = .ok (.iload_n 3, 1) := by decide +kernel
theorem dL_law_498 : decode cL_law 498 = .ok (.iconst 2, 1) := by decide +kernel
theorem dL_law_499 : decode cL_law 499 = .ok (.iadd, 1) := by decide +kernel
theorem dL_law_500 : decode cL_law 500 = .ok (.iaload, 1) := by decide +kernel
theorem dL_law_501 : decode cL_law 501 = .ok (.aload_n 0, 1) := by decide +kernel
theorem dL_law_502 : decode cL_law 502 = .ok (.iload_n 3, 1) := by decide +kernel
theorem dL_law_503 : decode cL_law 503 = .ok (.iconst 3, 1) := by decide +kernel
theorem dL_law_504 : decode cL_law 504 = .ok (.iadd, 1) := by decide +kernel
theorem dL_law_505 : decode cL_law 505 = .ok (.iaload, 1) := by decide +kernel
theorem dL_law_506 : decode cL_law 506 = .ok (.invokevirtual 57, 3) := by decide +kernel
theorem dL_law_509 : decode cL_law 509 = .ok (.if_icmp .eq 1069, 3) := by decide +kernel
theorem dL_law_512 : decode cL_law 512 = .ok (.iconst 0, 1) := by decide +kernel
theorem dL_law_513 : decode cL_law 513 = .ok (.ireturn, 1) := by decide +kernel
theorem dL_law_514 : decode cL_law 514 = .ok (.aload_n 1, 1) := by decide +kernel
theorem dL_law_515 : decode cL_law 515 = .ok (.aload_n 0, 1) := by decide +kernel
theorem dL_law_516 : decode cL_law 516 = .ok (.iload_n 3, 1) := by decide +kernel
theorem dL_law_517 : decode cL_law 517 = .ok (.iconst 1, 1) := by decide +kernel
theorem dL_law_518 : decode cL_law 518 = .ok (.iadd, 1) := by decide +kernel
theorem dL_law_519 : decode cL_law 519 = .ok (.iaload, 1) := by decide +kernel
theorem dL_law_520 : decode cL_law 520 = .ok (.aload_n 0, 1) := by decide +kernel
theorem dL_law_521 : decode cL_law 521 = .ok (.iload_n 3, 1) := by decide +kernel
theorem dL_law_522 : decode cL_law 522 = .ok (.iconst 2, 1) := by decide +kernel
theorem dL_law_523 : decode cL_law 523 = .ok (.iadd, 1) := by decide +kernel
theorem dL_law_524 : decode cL_law 524 = .ok (.iaload, 1) := by decide +kernel
theorem dL_law_525 : decode cL_law 525 = .ok (.aload_n 0, 1) := by decide +kernel
theorem dL_law_526 : decode cL_law 526 = .ok (.iload_n 3, 1) := by decide +kernel
theorem dL_law_527 : decode cL_law 527 = .ok (.iconst 3, 1) := by decide +kernel
theorem dL_law_528 : decode cL_law 528 = .ok (.iadd, 1) := by decide +kernel
theorem dL_law_529 : decode cL_law 529 = .ok (.iaload, 1) := by decide +kernel
theorem dL_law_530 : decode cL_law 530 = .ok (.invokevirtual 58, 3) := by decide +kernel
theorem dL_law_533 : decode cL_law 533 = .ok (.aload_n 2, 1) := by decide +kernel
