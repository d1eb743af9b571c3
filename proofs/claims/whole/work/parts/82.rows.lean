set_option maxRecDepth 100000 in
theorem ggL_law_X8_init : GoodIn wsL_law wsX8_init := goodIn_r _ [8, 9, 10, 11, 12, 13, 14, 15, 16, 17, 18, 19, 20, 21, 22, 23, 24, 25, 26, 27, 28, 29, 30, 31, 32, 33, 34, 35, 36, 37, 38, 39, 40, 41, 42, 43, 44, 45, 46, 47, 48, 49, 50, 51, 52, 53, 54, 55, 56, 57, 58, 59, 60, 61, 62, 63, 64, 65, 66, 67, 68, 69, 70, 71, 72, 73, 74, 75, 76, 77, 78, 79, 80, 81, 890, 891, 892, 893, 894, 895, 896, 897, 875, 876, 877, 878, 879, 898, 899, 900, 901, 902, 903, 904, 905, 906, 907, 908, 909, 910, 911, 912, 913] rfl rfl
set_option maxRecDepth 100000 in
theorem gL_law_X8_init : GoodIn wsL_law (wsX8_init) := ggL_law_X8_init
set_option maxRecDepth 100000 in
theorem ggL_law_X9_init : GoodIn wsL_law wsX9_init := goodIn_r _ [84, 85, 10, 11, 48, 86, 87, 88, 89, 90, 880, 881, 882, 883, 884, 885, 886, 887, 888, 889] rfl rfl
set_option maxRecDepth 100000 in
theorem gL_law_X9_init : GoodIn wsL_law (wsX9_init) := ggL_law_X9_init
set_option maxRecDepth 100000 in
theorem ggL_law_X8_address : GoodIn wsL_law wsX8_address := goodIn_r _ [94, 23, 15, 95, 96, 97, 22, 98, 99, 100, 101, 102, 103, 104, 65, 105, 106, 107, 14, 108, 39, 40, 41, 109, 110, 111, 42, 43, 112, 113, 114, 38, 115, 49, 116, 117, 118, 119, 120, 2, 121, 51, 52, 53, 54, 50, 122, 123, 124, 125, 875, 876, 877, 878, 879, 899, 900, 901, 890, 891, 892, 893, 894, 895, 896, 897, 912, 913] rfl rfl
set_option maxRecDepth 100000 in
theorem gL_law_X8_address : GoodIn wsL_law (wsV RL 13 RX8 yX8_address wsX8_address) := goodIn_app (goodIn_r _ [91, 92, 93, 2] rfl rfl) ggL_law_X8_address
set_option maxRecDepth 100000 in
theorem ggL_law_X9_address : GoodIn wsL_law wsX9_address := goodIn_r _ [129, 130, 131, 132, 5, 133, 87, 86, 134, 135, 136, 137, 138, 139, 140, 141, 142, 143, 144, 145, 88, 880, 881, 882, 883, 884, 885, 886, 887, 888, 889] rfl rfl
set_option maxRecDepth 100000 in
theorem gL_law_X9_address : GoodIn wsL_law (wsV RL 17 RX9 yX9_address wsX9_address) := goodIn_app (goodIn_r _ [126, 127, 128, 5] rfl rfl) ggL_law_X9_address
set_option maxRecDepth 100000 in
theorem ggL_law_X8_interviewer : GoodIn wsL_law wsX8_interviewer := goodIn_r _ [149, 23, 15, 95, 96, 97, 22, 98, 99, 100, 101, 102, 103, 104, 65, 105, 106, 107, 14, 108, 39, 40, 41, 109, 110, 111, 42, 43, 112, 113, 114, 38, 115, 49, 150, 151, 152, 153, 120, 2, 121, 51, 52, 53, 54, 50, 122, 123, 124, 125, 875, 876, 877, 878, 879, 899, 900, 901, 890, 891, 892, 893, 894, 895, 896, 897, 912, 913] rfl rfl
set_option maxRecDepth 100000 in
theorem gL_law_X8_interviewer : GoodIn wsL_law (wsV RL 18 RX8 yX8_interviewer wsX8_interviewer) := goodIn_app (goodIn_r _ [146, 147, 148, 2] rfl rfl) ggL_law_X8_interviewer
set_option maxRecDepth 100000 in
theorem ggL_law_X9_interviewer : GoodIn wsL_law wsX9_interviewer := goodIn_r _ [157, 130, 131, 132, 5, 133, 87, 86, 158, 159, 160, 161, 138, 139, 140, 141, 142, 143, 144, 145, 88, 880, 881, 882, 883, 884, 885, 886, 887, 888, 889] rfl rfl
set_option maxRecDepth 100000 in
theorem gL_law_X9_interviewer : GoodIn wsL_law (wsV RL 22 RX9 yX9_interviewer wsX9_interviewer) := goodIn_app (goodIn_r _ [154, 155, 156, 5] rfl rfl) ggL_law_X9_interviewer
set_option maxRecDepth 100000 in
theorem ggL_law_X8_quota : GoodIn wsL_law wsX8_quota := goodIn_r _ [165, 23, 15, 95, 96, 97, 22, 98, 99, 100, 101, 102, 103, 104, 65, 105, 106, 107, 14, 108, 39, 40, 41, 109, 110, 111, 42, 43, 112, 113, 114, 38, 115, 49, 166, 167, 168, 169, 170, 2, 171, 172, 120, 121, 173, 174, 175, 176, 177, 178, 179, 180, 50, 51, 52, 53, 54, 122, 123, 124, 125, 875, 876, 877, 878, 879, 899, 900, 901, 890, 891, 892, 893, 894, 895, 896, 897, 912, 913] rfl rfl
set_option maxRecDepth 100000 in
theorem gL_law_X8_quota : GoodIn wsL_law (wsV RL 23 RX8 yX8_quota wsX8_quota) := goodIn_app (goodIn_r _ [162, 163, 164, 2] rfl rfl) ggL_law_X8_quota
set_option maxRecDepth 100000 in
theorem ggL_law_X9_quota : GoodIn wsL_law wsX9_quota := goodIn_r _ [184, 130, 131, 132, 5, 133, 87, 86, 185, 186, 187, 188, 189, 190, 191, 138, 139, 140, 192, 193, 194, 195, 141, 142, 143, 144, 145, 88, 880, 881, 882, 883, 884, 885, 886, 887, 888, 889] rfl rfl
set_option maxRecDepth 100000 in
theorem gL_law_X9_quota : GoodIn wsL_law (wsV RL 27 RX9 yX9_quota wsX9_quota) := goodIn_app (goodIn_r _ [181, 182, 183, 5] rfl rfl) ggL_law_X9_quota
set_option maxRecDepth 100000 in
theorem ggL_law_X8_population : GoodIn wsL_law wsX8_population := goodIn_r _ [199, 23, 15, 95, 96, 97, 22, 98, 99, 100, 101, 102, 103, 104, 65, 105, 106, 107, 14, 108, 39, 40, 41, 109, 110, 111, 42, 43, 112, 113, 114, 38, 115, 49, 200, 201, 202, 203, 170, 2, 171, 172, 120, 121, 173, 174, 175, 176, 177, 178, 179, 180, 50, 51, 52, 53, 54, 122, 123, 124, 125, 875, 876, 877, 878, 879, 899, 900, 901, 890, 891, 892, 893, 894, 895, 896, 897, 912, 913] rfl rfl
set_option maxRecDepth 100000 in
theorem gL_law_X8_population : GoodIn wsL_law (wsV RL 28 RX8 yX8_population wsX8_population) := goodIn_app (goodIn_r _ [196, 197, 198, 2] rfl rfl) ggL_law_X8_population
set_option maxRecDepth 100000 in
theorem ggL_law_X9_population : GoodIn wsL_law wsX9_population := goodIn_r _ [207, 130, 131, 132, 5, 133, 87, 86, 189, 190, 191, 138, 139, 140, 192, 193, 194, 195, 141, 142, 143, 144, 145, 88, 880, 881, 882, 883, 884, 885, 886, 887, 888, 889] rfl rfl
set_option maxRecDepth 100000 in
theorem gL_law_X9_population : GoodIn wsL_law (wsV RL 31 RX9 yX9_population wsX9_population) := goodIn_app (goodIn_r _ [204, 205, 206, 5] rfl rfl) ggL_law_X9_population
set_option maxRecDepth 100000 in
theorem ggL_law_X8_call : GoodIn wsL_law wsX8_call := goodIn_r _ [211, 23, 15, 95, 96, 97, 22, 98, 99, 100, 101, 102, 103, 104, 65, 105, 106, 107, 14, 108, 39, 40, 41, 109, 110, 111, 42, 43, 112, 113, 114, 38, 115, 49, 212, 213, 214, 215, 216, 217, 218, 219, 220, 221, 222, 223, 120, 2, 121, 224, 225, 226, 227, 228, 229, 172, 230, 231, 232, 233, 177, 178, 179, 180, 50, 234, 235, 236, 237, 238, 239, 240, 241, 242, 243, 244, 245, 246, 247, 248, 249, 250, 251, 52, 53, 54, 51, 252, 253, 254, 255, 256, 257, 258, 259, 260, 261, 262, 263, 122, 123, 124, 125, 875, 876, 877, 878, 879, 899, 900, 901, 890, 891, 892, 893, 894, 895, 896, 897, 912, 913] rfl rfl
set_option maxRecDepth 100000 in
theorem gL_law_X8_call : GoodIn wsL_law (wsV RL 32 RX8 yX8_call wsX8_call) := goodIn_app (goodIn_r _ [208, 209, 210, 2] rfl rfl) ggL_law_X8_call
set_option maxRecDepth 100000 in
theorem ggL_law_X9_call : GoodIn wsL_law wsX9_call := goodIn_r _ [267, 130, 131, 132, 5, 133, 87, 86, 268, 269, 270, 271, 272, 273, 274, 275, 276, 277, 278, 279, 138, 139, 140, 280, 281, 282, 283, 284, 285, 286, 287, 288, 289, 290, 291, 292, 293, 294, 295, 296, 297, 298, 299, 300, 301, 302, 303, 304, 305, 306, 307, 308, 309, 310, 311, 312, 313, 314, 315, 316, 317, 318, 319, 320, 321, 322, 323, 141, 142, 143, 144, 145, 88, 880, 881, 882, 883, 884, 885, 886, 887, 888, 889] rfl rfl
set_option maxRecDepth 100000 in
theorem gL_law_X9_call : GoodIn wsL_law (wsV RL 36 RX9 yX9_call wsX9_call) := goodIn_app (goodIn_r _ [264, 265, 266, 5] rfl rfl) ggL_law_X9_call
set_option maxRecDepth 100000 in
theorem ggL_law_X8_later : GoodIn wsL_law wsX8_later := goodIn_r _ [327, 23, 15, 95, 96, 97, 22, 98, 99, 100, 101, 102, 103, 104, 65, 105, 106, 107, 14, 108, 39, 40, 41, 109, 110, 111, 42, 43, 112, 113, 114, 38, 115, 49, 328, 329, 330, 331, 216, 217, 218, 219, 220, 221, 222, 223, 120, 2, 121, 224, 225, 226, 227, 228, 229, 172, 230, 231, 232, 233, 177, 178, 179, 180, 50, 234, 235, 236, 237, 238, 239, 240, 241, 242, 243, 244, 245, 246, 247, 248, 249, 250, 251, 52, 53, 54, 51, 332, 333, 334, 335, 336, 337, 338, 339, 122, 123, 124, 125, 875, 876, 877, 878, 879, 899, 900, 901, 890, 891, 892, 893, 894, 895, 896, 897, 912, 913] rfl rfl
set_option maxRecDepth 100000 in
theorem gL_law_X8_later : GoodIn wsL_law (wsV RL 37 RX8 yX8_later wsX8_later) := goodIn_app (goodIn_r _ [324, 325, 326, 2] rfl rfl) ggL_law_X8_later
set_option maxRecDepth 100000 in
theorem ggL_law_X9_later : GoodIn wsL_law wsX9_later := goodIn_r _ [343, 130, 131, 132, 5, 133, 87, 86, 344, 345, 346, 347, 272, 273, 274, 275, 276, 277, 278, 279, 138, 139, 140, 280, 281, 282, 283, 284, 285, 286, 287, 288, 289, 290, 291, 292, 293, 294, 295, 296, 297, 298, 299, 300, 301, 302, 303, 304, 305, 306, 307, 308, 309, 310, 311, 348, 349, 350, 351, 141, 142, 143, 144, 145, 88, 880, 881, 882, 883, 884, 885, 886, 887, 888, 889] rfl rfl
set_option maxRecDepth 100000 in
theorem gL_law_X9_later : GoodIn wsL_law (wsV RL 41 RX9 yX9_later wsX9_later) := goodIn_app (goodIn_r _ [340, 341, 342, 5] rfl rfl) ggL_law_X9_later
set_option maxRecDepth 100000 in
theorem ggL_law_X8_pass : GoodIn wsL_law wsX8_pass := goodIn_r _ [355, 23, 15, 95, 96, 97, 22, 98, 99, 100, 101, 102, 103, 104, 65, 105, 106, 107, 14, 108, 39, 40, 41, 109, 110, 111, 42, 43, 112, 113, 114, 38, 115, 49, 356, 357, 358, 359, 120, 2, 121, 51, 52, 53, 54, 50, 122, 123, 124, 125, 875, 876, 877, 878, 879, 899, 900, 901, 890, 891, 892, 893, 894, 895, 896, 897, 912, 913] rfl rfl
set_option maxRecDepth 100000 in
theorem gL_law_X8_pass : GoodIn wsL_law (wsV RL 42 RX8 yX8_pass wsX8_pass) := goodIn_app (goodIn_r _ [352, 353, 354, 2] rfl rfl) ggL_law_X8_pass
set_option maxRecDepth 100000 in
theorem ggL_law_X9_pass : GoodIn wsL_law wsX9_pass := goodIn_r _ [363, 130, 131, 132, 5, 133, 87, 86, 364, 365, 366, 367, 138, 139, 140, 141, 142, 143, 144, 145, 88, 880, 881, 882, 883, 884, 885, 886, 887, 888, 889] rfl rfl
set_option maxRecDepth 100000 in
theorem gL_law_X9_pass : GoodIn wsL_law (wsV RL 45 RX9 yX9_pass wsX9_pass) := goodIn_app (goodIn_r _ [360, 361, 362, 5] rfl rfl) ggL_law_X9_pass
set_option maxRecDepth 100000 in
theorem ggL_law_X8_set : GoodIn wsL_law wsX8_set := goodIn_r _ [371, 23, 15, 95, 96, 97, 22, 98, 99, 100, 101, 102, 103, 104, 65, 105, 106, 107, 14, 108, 39, 40, 41, 109, 110, 111, 42, 43, 112, 113, 114, 38, 115, 49, 372, 373, 374, 375, 120, 2, 121, 122, 123, 124, 125, 875, 876, 877, 878, 879, 899, 900, 901, 890, 891, 892, 893, 894, 895, 896, 897, 912, 913] rfl rfl
set_option maxRecDepth 100000 in
theorem gL_law_X8_set : GoodIn wsL_law (wsV RL 46 RX8 yX8_set wsX8_set) := goodIn_app (goodIn_r _ [368, 369, 370, 2] rfl rfl) ggL_law_X8_set
set_option maxRecDepth 100000 in
theorem ggL_law_X9_set : GoodIn wsL_law wsX9_set := goodIn_r _ [379, 130, 131, 132, 5, 133, 87, 86, 380, 381, 382, 383, 138, 139, 140, 141, 142, 143, 144, 145, 88, 880, 881, 882, 883, 884, 885, 886, 887, 888, 889] rfl rfl
set_option maxRecDepth 100000 in
theorem gL_law_X9_set : GoodIn wsL_law (wsV RL 49 RX9 yX9_set wsX9_set) := goodIn_app (goodIn_r _ [376, 377, 378, 5] rfl rfl) ggL_law_X9_set
set_option maxRecDepth 100000 in
theorem ggL_law_X8_addressOf : GoodIn wsL_law wsX8_addressOf := goodIn_r _ [387, 15, 388, 225, 226, 14, 227, 109, 120, 2, 121, 172, 389, 390, 391, 392, 39, 177, 178, 179, 38, 180, 50, 49, 875, 876, 877, 878, 879, 890, 891, 892, 893, 894, 895, 896, 897, 912, 913] rfl rfl
set_option maxRecDepth 100000 in
theorem gL_law_X8_addressOf : GoodIn wsL_law (wsV RL 50 RX8 yX8_addressOf wsX8_addressOf) := goodIn_app (goodIn_r _ [384, 385, 386, 2] rfl rfl) ggL_law_X8_addressOf
set_option maxRecDepth 100000 in
theorem ggL_law_X9_addressOf : GoodIn wsL_law wsX9_addressOf := goodIn_r _ [396, 280, 281, 282, 5, 283, 86, 138, 139, 140, 292, 293, 294, 295, 300, 301, 302, 303, 288, 289, 290, 291, 880, 881, 882, 883, 884, 885, 886, 887, 888, 889] rfl rfl
set_option maxRecDepth 100000 in
theorem gL_law_X9_addressOf : GoodIn wsL_law (wsV RL 53 RX9 yX9_addressOf wsX9_addressOf) := goodIn_app (goodIn_r _ [393, 394, 395, 5] rfl rfl) ggL_law_X9_addressOf
set_option maxRecDepth 100000 in
theorem ggL_law_X8_interviewerOf : GoodIn wsL_law wsX8_interviewerOf := goodIn_r _ [400, 15, 401, 221, 222, 14, 223, 110, 120, 2, 121, 172, 402, 403, 404, 405, 40, 177, 178, 179, 38, 180, 50, 49, 875, 876, 877, 878, 879, 890, 891, 892, 893, 894, 895, 896, 897, 912, 913] rfl rfl
set_option maxRecDepth 100000 in
theorem gL_law_X8_interviewerOf : GoodIn wsL_law (wsV RL 54 RX8 yX8_interviewerOf wsX8_interviewerOf) := goodIn_app (goodIn_r _ [397, 398, 399, 2] rfl rfl) ggL_law_X8_interviewerOf
set_option maxRecDepth 100000 in
theorem ggL_law_X9_interviewerOf : GoodIn wsL_law wsX9_interviewerOf := goodIn_r _ [409, 276, 277, 278, 5, 279, 86, 138, 139, 140, 296, 297, 298, 299, 880, 881, 882, 883, 884, 885, 886, 887, 888, 889] rfl rfl
set_option maxRecDepth 100000 in
theorem gL_law_X9_interviewerOf : GoodIn wsL_law (wsV RL 57 RX9 yX9_interviewerOf wsX9_interviewerOf) := goodIn_app (goodIn_r _ [406, 407, 408, 5] rfl rfl) ggL_law_X9_interviewerOf
set_option maxRecDepth 100000 in
theorem ggL_law_X8_cellOf : GoodIn wsL_law wsX8_cellOf := goodIn_r _ [413, 15, 19, 414, 170, 2, 171, 172, 120, 121, 415, 416, 417, 14, 418, 41, 177, 178, 179, 38, 180, 50, 49, 419, 261, 262, 263, 420, 421, 422, 18, 423, 59, 424, 425, 426, 427, 428, 429, 430, 431, 432, 433, 875, 876, 877, 878, 879, 890, 891, 892, 893, 894, 895, 896, 897, 912, 913, 898] rfl rfl
set_option maxRecDepth 100000 in
theorem gL_law_X8_cellOf : GoodIn wsL_law (wsV RL 58 RX8 yX8_cellOf wsX8_cellOf) := goodIn_app (goodIn_r _ [410, 411, 412, 2] rfl rfl) ggL_law_X8_cellOf
set_option maxRecDepth 100000 in
theorem ggL_law_X9_cellOf : GoodIn wsL_law wsX9_cellOf := goodIn_r _ [437, 189, 190, 5, 191, 138, 139, 140, 320, 321, 322, 323, 86, 316, 317, 318, 319, 438, 439, 440, 441, 442, 443, 444, 445, 446, 447, 448, 449, 450, 451, 452, 453, 880, 881, 882, 883, 884, 885, 886, 887, 888, 889] rfl rfl
set_option maxRecDepth 100000 in
theorem gL_law_X9_cellOf : GoodIn wsL_law (wsV RL 61 RX9 yX9_cellOf wsX9_cellOf) := goodIn_app (goodIn_r _ [434, 435, 436, 5] rfl rfl) ggL_law_X9_cellOf
set_option maxRecDepth 100000 in
theorem ggL_law_X8_addresses : GoodIn wsL_law wsX8_addresses := goodIn_r _ [457, 19, 172, 120, 2, 121, 458, 459, 460, 18, 461, 59, 462, 463, 464, 14, 465, 109, 466, 467, 468, 469, 470, 235, 236, 237, 39, 177, 178, 179, 38, 180, 50, 49, 471, 337, 338, 339, 472, 473, 474, 475, 111, 476, 390, 391, 392, 875, 876, 877, 878, 879, 898, 890, 891, 892, 893, 894, 895, 896, 897, 912, 913] rfl rfl
set_option maxRecDepth 100000 in
theorem gL_law_X8_addresses : GoodIn wsL_law (wsV RL 62 RX8 yX8_addresses wsX8_addresses) := goodIn_app (goodIn_r _ [454, 455, 456, 2] rfl rfl) ggL_law_X8_addresses
set_option maxRecDepth 100000 in
theorem ggL_law_X9_addresses : GoodIn wsL_law wsX9_addresses := goodIn_r _ [480, 86, 138, 139, 5, 140, 481, 482, 483, 484, 288, 289, 290, 291, 292, 293, 294, 295, 300, 301, 302, 303, 304, 305, 306, 307, 880, 881, 882, 883, 884, 885, 886, 887, 888, 889] rfl rfl
set_option maxRecDepth 100000 in
theorem gL_law_X9_addresses : GoodIn wsL_law (wsV RL 65 RX9 yX9_addresses wsX9_addresses) := goodIn_app (goodIn_r _ [477, 478, 479, 5] rfl rfl) ggL_law_X9_addresses
set_option maxRecDepth 100000 in
theorem ggL_law_X8_count : GoodIn wsL_law wsX8_count := goodIn_r _ [488, 23, 27, 19, 489, 490, 491, 22, 492, 99, 493, 494, 495, 26, 496, 497, 498, 499, 500, 18, 501, 59, 462, 463, 464, 14, 465, 109, 502, 503, 504, 505, 110, 506, 507, 508, 509, 111, 510, 511, 512, 513, 476, 390, 391, 392, 39, 177, 178, 179, 38, 180, 50, 49, 514, 515, 516, 517, 518, 519, 520, 521, 522, 523, 524, 525, 526, 261, 262, 263, 41, 527, 333, 334, 335, 234, 235, 236, 237, 336, 337, 338, 339, 528, 529, 530, 531, 42, 532, 533, 534, 535, 43, 875, 876, 877, 878, 879, 899, 900, 901, 902, 903, 904, 905, 906, 898, 890, 891, 892, 893, 894, 895, 896, 897, 912, 913] rfl rfl
set_option maxRecDepth 100000 in
theorem gL_law_X8_count : GoodIn wsL_law (wsV RL 66 RX8 yX8_count wsX8_count) := goodIn_app (goodIn_r _ [485, 486, 487, 2] rfl rfl) ggL_law_X8_count
set_option maxRecDepth 100000 in
theorem ggL_law_X9_count : GoodIn wsL_law wsX9_count := goodIn_r _ [539, 86, 145, 540, 541, 542, 543, 5, 544, 316, 317, 318, 319, 320, 321, 322, 323, 348, 349, 350, 351, 300, 301, 302, 303, 288, 289, 290, 291, 292, 293, 294, 295, 880, 881, 882, 883, 884, 885, 886, 887, 888, 889] rfl rfl
set_option maxRecDepth 100000 in
theorem gL_law_X9_count : GoodIn wsL_law (wsV RL 69 RX9 yX9_count wsX9_count) := goodIn_app (goodIn_r _ [536, 537, 538, 5] rfl rfl) ggL_law_X9_count
set_option maxRecDepth 100000 in
theorem ggL_law_X8_next : GoodIn wsL_law wsX8_next := goodIn_r _ [548, 15, 19, 401, 221, 222, 14, 223, 110, 120, 2, 121, 549, 228, 229, 172, 550, 551, 552, 18, 553, 59, 462, 463, 464, 465, 109, 554, 231, 232, 233, 40, 177, 178, 179, 38, 180, 50, 49, 234, 235, 236, 237, 39, 238, 239, 240, 241, 111, 43, 555, 556, 557, 558, 559, 560, 561, 562, 563, 564, 476, 390, 391, 392, 471, 337, 338, 339, 472, 473, 474, 475, 565, 403, 404, 405, 522, 523, 524, 525, 526, 261, 262, 263, 41, 875, 876, 877, 878, 879, 890, 891, 892, 893, 894, 895, 896, 897, 898, 912, 913] rfl rfl
set_option maxRecDepth 100000 in
theorem gL_law_X8_next : GoodIn wsL_law (wsV RL 70 RX8 yX8_next wsX8_next) := goodIn_app (goodIn_r _ [545, 546, 547, 2] rfl rfl) ggL_law_X8_next
set_option maxRecDepth 100000 in
theorem ggL_law_X9_next : GoodIn wsL_law wsX9_next := goodIn_r _ [569, 86, 276, 277, 278, 5, 279, 138, 139, 140, 284, 285, 286, 287, 288, 289, 290, 291, 292, 293, 294, 295, 296, 297, 298, 299, 300, 301, 302, 303, 304, 305, 306, 307, 570, 571, 572, 573, 574, 575, 576, 577, 541, 542, 543, 544, 316, 317, 318, 319, 320, 321, 322, 323, 880, 881, 882, 883, 884, 885, 886, 887, 888, 889] rfl rfl
set_option maxRecDepth 100000 in
theorem gL_law_X9_next : GoodIn wsL_law (wsV RL 73 RX9 yX9_next wsX9_next) := goodIn_app (goodIn_r _ [566, 567, 568, 5] rfl rfl) ggL_law_X9_next
set_option maxRecDepth 100000 in
theorem ggL_law_X8_possible : GoodIn wsL_law wsX8_possible := goodIn_r _ [581, 15, 19, 401, 221, 222, 14, 223, 110, 120, 2, 121, 549, 228, 229, 172, 582, 583, 584, 18, 585, 59, 462, 463, 464, 465, 109, 554, 231, 232, 233, 40, 177, 178, 179, 38, 180, 50, 49, 234, 235, 236, 237, 39, 238, 239, 240, 241, 111, 43, 875, 876, 877, 878, 879, 890, 891, 892, 893, 894, 895, 896, 897, 898, 912, 913] rfl rfl
set_option maxRecDepth 100000 in
theorem gL_law_X8_possible : GoodIn wsL_law (wsV RL 74 RX8 yX8_possible wsX8_possible) := goodIn_app (goodIn_r _ [578, 579, 580, 2] rfl rfl) ggL_law_X8_possible
set_option maxRecDepth 100000 in
theorem ggL_law_X9_possible : GoodIn wsL_law wsX9_possible := goodIn_r _ [589, 86, 276, 277, 278, 5, 279, 138, 139, 140, 284, 285, 286, 287, 288, 289, 290, 291, 292, 293, 294, 295, 296, 297, 298, 299, 300, 301, 302, 303, 304, 305, 306, 307, 880, 881, 882, 883, 884, 885, 886, 887, 888, 889] rfl rfl
set_option maxRecDepth 100000 in
theorem gL_law_X9_possible : GoodIn wsL_law (wsV RL 77 RX9 yX9_possible wsX9_possible) := goodIn_app (goodIn_r _ [586, 587, 588, 5] rfl rfl) ggL_law_X9_possible
set_option maxRecDepth 100000 in
theorem ggL_law_X8_daysLeft : GoodIn wsL_law wsX8_daysLeft := goodIn_r _ [593, 19, 594, 595, 596, 18, 597, 598, 599, 600, 601, 59, 602, 603, 563, 604, 462, 463, 464, 14, 465, 109, 470, 235, 236, 237, 39, 177, 178, 179, 38, 180, 50, 49, 528, 529, 530, 531, 42, 476, 390, 391, 392, 605, 606, 607, 608, 502, 503, 504, 505, 110, 565, 403, 404, 405, 40, 875, 876, 877, 878, 879, 898, 890, 891, 892, 893, 894, 895, 896, 897, 912, 913] rfl rfl
set_option maxRecDepth 100000 in
theorem gL_law_X8_daysLeft : GoodIn wsL_law (wsV RL 78 RX8 yX8_daysLeft wsX8_daysLeft) := goodIn_app (goodIn_r _ [590, 591, 592, 2] rfl rfl) ggL_law_X8_daysLeft
set_option maxRecDepth 100000 in
theorem ggL_law_X9_daysLeft : GoodIn wsL_law wsX9_daysLeft := goodIn_r _ [612, 86, 292, 293, 294, 5, 295, 288, 289, 290, 291, 296, 297, 298, 299, 880, 881, 882, 883, 884, 885, 886, 887, 888, 889] rfl rfl
set_option maxRecDepth 100000 in
theorem gL_law_X9_daysLeft : GoodIn wsL_law (wsV RL 82 RX9 yX9_daysLeft wsX9_daysLeft) := goodIn_app (goodIn_r _ [609, 610, 611, 5] rfl rfl) ggL_law_X9_daysLeft
set_option maxRecDepth 100000 in
theorem ggL_law_X8_rateBits : GoodIn wsL_law wsX8_rateBits := goodIn_r _ [616, 19, 617, 618, 619, 18, 620, 59, 462, 463, 464, 14, 465, 109, 514, 515, 516, 517, 476, 390, 391, 392, 39, 177, 178, 179, 38, 180, 50, 49, 429, 430, 431, 432, 433, 875, 876, 877, 878, 879, 898, 890, 891, 892, 893, 894, 895, 896, 897, 912, 913] rfl rfl
set_option maxRecDepth 100000 in
theorem gL_law_X8_rateBits : GoodIn wsL_law (wsV RL 83 RX8 yX8_rateBits wsX8_rateBits) := goodIn_app (goodIn_r _ [613, 614, 615, 2] rfl rfl) ggL_law_X8_rateBits
set_option maxRecDepth 100000 in
theorem ggL_law_X9_rateBits : GoodIn wsL_law wsX9_rateBits := goodIn_r _ [624, 86, 288, 289, 290, 5, 291, 292, 293, 294, 295, 442, 443, 444, 445, 446, 447, 448, 449, 450, 451, 452, 453, 880, 881, 882, 883, 884, 885, 886, 887, 888, 889] rfl rfl
set_option maxRecDepth 100000 in
theorem gL_law_X9_rateBits : GoodIn wsL_law (wsV RL 86 RX9 yX9_rateBits wsX9_rateBits) := goodIn_app (goodIn_r _ [621, 622, 623, 5] rfl rfl) ggL_law_X9_rateBits
set_option maxRecDepth 100000 in
theorem ggL_law_X8_partBits : GoodIn wsL_law wsX8_partBits := goodIn_r _ [628, 19, 172, 120, 2, 121, 629, 630, 631, 18, 632, 633, 634, 635, 636, 59, 424, 416, 417, 14, 418, 41, 177, 178, 179, 38, 180, 50, 49, 425, 426, 427, 428, 429, 430, 431, 432, 433, 875, 876, 877, 878, 879, 898, 890, 891, 892, 893, 894, 895, 896, 897, 912, 913] rfl rfl
set_option maxRecDepth 100000 in
theorem gL_law_X8_partBits : GoodIn wsL_law (wsV RL 87 RX8 yX8_partBits wsX8_partBits) := goodIn_app (goodIn_r _ [625, 626, 627, 2] rfl rfl) ggL_law_X8_partBits
set_option maxRecDepth 100000 in
theorem ggL_law_X9_partBits : GoodIn wsL_law wsX9_partBits := goodIn_r _ [640, 138, 139, 5, 140, 320, 321, 322, 323, 86, 641, 642, 643, 644, 438, 439, 440, 441, 442, 443, 444, 445, 446, 447, 448, 449, 450, 451, 452, 453, 880, 881, 882, 883, 884, 885, 886, 887, 888, 889] rfl rfl
set_option maxRecDepth 100000 in
theorem gL_law_X9_partBits : GoodIn wsL_law (wsV RL 90 RX9 yX9_partBits wsX9_partBits) := goodIn_app (goodIn_r _ [637, 638, 639, 5] rfl rfl) ggL_law_X9_partBits
set_option maxRecDepth 100000 in
theorem ggL_law_X8_undo : GoodIn wsL_law wsX8_undo := goodIn_r _ [648, 23, 15, 649, 650, 651, 22, 652, 99, 100, 101, 102, 103, 104, 65, 105, 106, 107, 14, 108, 39, 40, 41, 109, 110, 111, 42, 43, 112, 113, 114, 38, 115, 49, 875, 876, 877, 878, 879, 899, 900, 901, 890, 891, 892, 893, 894, 895, 896, 897, 912, 913] rfl rfl
set_option maxRecDepth 100000 in
theorem gL_law_X8_undo : GoodIn wsL_law (wsV RL 91 RX8 yX8_undo wsX8_undo) := goodIn_app (goodIn_r _ [645, 646, 647, 2] rfl rfl) ggL_law_X8_undo
set_option maxRecDepth 100000 in
theorem ggL_law_X9_undo : GoodIn wsL_law wsX9_undo := goodIn_r _ [656, 145, 86, 88, 880, 881, 882, 883, 884, 885, 886, 887, 888, 889] rfl rfl
set_option maxRecDepth 100000 in
theorem gL_law_X9_undo : GoodIn wsL_law (wsV RL 94 RX9 yX9_undo wsX9_undo) := goodIn_app (goodIn_r _ [653, 654, 655, 5] rfl rfl) ggL_law_X9_undo
set_option maxRecDepth 100000 in
theorem ggL_law_X8_type : GoodIn wsL_law wsX8_type := goodIn_r _ [660, 27, 661, 662, 663, 26, 664, 497, 72, 120, 2, 121, 875, 876, 877, 878, 879, 902, 903, 904, 905, 906] rfl rfl
set_option maxRecDepth 100000 in
theorem gL_law_X8_type : GoodIn wsL_law (wsV RL 95 RX8 yX8_type wsX8_type) := goodIn_app (goodIn_r _ [657, 658, 659, 2] rfl rfl) ggL_law_X8_type
set_option maxRecDepth 100000 in
theorem ggL_law_X9_type : GoodIn wsL_law wsX9_type := goodIn_r _ [668, 540, 89, 138, 139, 5, 140, 880, 881, 882, 883, 884, 885, 886, 887, 888, 889] rfl rfl
set_option maxRecDepth 100000 in
theorem gL_law_X9_type : GoodIn wsL_law (wsV RL 98 RX9 yX9_type wsX9_type) := goodIn_app (goodIn_r _ [665, 666, 667, 5] rfl rfl) ggL_law_X9_type
set_option maxRecDepth 100000 in
theorem ggL_law_X8_clearText : GoodIn wsL_law wsX8_clearText := goodIn_r _ [672, 27, 673, 674, 675, 26, 676, 497, 875, 876, 877, 878, 879, 902, 903, 904, 905, 906] rfl rfl
set_option maxRecDepth 100000 in
theorem gL_law_X8_clearText : GoodIn wsL_law (wsV RL 99 RX8 yX8_clearText wsX8_clearText) := goodIn_app (goodIn_r _ [669, 670, 671, 2] rfl rfl) ggL_law_X8_clearText
set_option maxRecDepth 100000 in
theorem ggL_law_X9_clearText : GoodIn wsL_law wsX9_clearText := goodIn_r _ [680, 540, 880, 881, 882, 883, 884, 885, 886, 887, 888, 889] rfl rfl
set_option maxRecDepth 100000 in
theorem gL_law_X9_clearText : GoodIn wsL_law (wsV RL 102 RX9 yX9_clearText wsX9_clearText) := goodIn_app (goodIn_r _ [677, 678, 679, 5] rfl rfl) ggL_law_X9_clearText
set_option maxRecDepth 100000 in
theorem ggL_law_X8_fault : GoodIn wsL_law wsX8_fault := goodIn_r _ [684, 31, 15, 172, 120, 2, 121, 685, 686, 687, 30, 688, 80, 689, 690, 691, 78, 692, 106, 107, 14, 108, 39, 40, 41, 109, 110, 111, 42, 43, 112, 113, 114, 38, 115, 49, 693, 494, 495, 26, 496, 497, 694, 695, 696, 697, 698, 699, 73, 700, 701, 702, 703, 704, 705, 706, 707, 708, 709, 710, 711, 712, 713, 714, 715, 716, 717, 718, 719, 720, 721, 722, 723, 724, 72, 725, 726, 727, 728, 729, 730, 731, 732, 733, 734, 735, 736, 737, 738, 739, 740, 741, 742, 743, 744, 745, 746, 747, 748, 749, 750, 751, 752, 753, 754, 755, 756, 757, 758, 759, 760, 761, 762, 763, 764, 765, 766, 767, 768, 769, 770, 771, 772, 773, 774, 775, 776, 777, 778, 779, 780, 781, 782, 783, 784, 785, 786, 787, 788, 789, 790, 117, 118, 119, 51, 52, 53, 54, 50, 791, 167, 168, 169, 170, 171, 173, 174, 175, 176, 177, 178, 179, 180, 792, 213, 214, 215, 216, 217, 218, 219, 220, 221, 222, 223, 224, 225, 226, 227, 228, 229, 230, 231, 232, 233, 234, 235, 236, 237, 238, 239, 240, 241, 242, 243, 244, 245, 246, 247, 248, 249, 250, 251, 252, 253, 254, 255, 256, 257, 258, 259, 260, 261, 262, 263, 793, 329, 330, 331, 332, 333, 334, 335, 336, 337, 338, 339, 794, 357, 358, 359, 795, 796, 797, 798, 799, 800, 801, 802, 803, 804, 805, 806, 807, 808, 809, 810, 875, 876, 877, 878, 879, 907, 908, 909, 910, 911, 890, 891, 892, 893, 894, 895, 896, 897, 912, 913, 902, 903, 904, 905, 906] rfl rfl
set_option maxRecDepth 100000 in
theorem gL_law_X8_fault : GoodIn wsL_law (wsV RL 103 RX8 yX8_fault wsX8_fault) := goodIn_app (goodIn_r _ [681, 682, 683, 2] rfl rfl) ggL_law_X8_fault
set_option maxRecDepth 100000 in
theorem ggL_law_X9_fault : GoodIn wsL_law wsX9_fault := goodIn_r _ [814, 815, 138, 139, 5, 140, 130, 131, 132, 133, 87, 86, 816, 817, 818, 819, 820, 540, 821, 822, 823, 824, 825, 90, 826, 827, 828, 829, 830, 831, 832, 833, 89, 834, 835, 836, 837, 838, 839, 840, 841, 842, 843, 844, 845, 846, 847, 848, 849, 850, 851, 852, 853, 854, 134, 135, 136, 137, 185, 186, 187, 188, 189, 190, 191, 192, 193, 194, 195, 268, 269, 270, 271, 272, 273, 274, 275, 276, 277, 278, 279, 280, 281, 282, 283, 284, 285, 286, 287, 288, 289, 290, 291, 292, 293, 294, 295, 296, 297, 298, 299, 300, 301, 302, 303, 304, 305, 306, 307, 308, 309, 310, 311, 312, 313, 314, 315, 316, 317, 318, 319, 320, 321, 322, 323, 344, 345, 346, 347, 348, 349, 350, 351, 364, 365, 366, 367, 855, 856, 857, 858, 880, 881, 882, 883, 884, 885, 886, 887, 888, 889] rfl rfl
set_option maxRecDepth 100000 in
theorem gL_law_X9_fault : GoodIn wsL_law (wsV RL 106 RX9 yX9_fault wsX9_fault) := goodIn_app (goodIn_r _ [811, 812, 813, 5] rfl rfl) ggL_law_X9_fault
set_option maxRecDepth 100000 in
theorem ggL_law_X8_play : GoodIn wsL_law wsX8_play := goodIn_r _ [862, 31, 15, 23, 685, 686, 687, 30, 688, 80, 689, 690, 691, 78, 692, 106, 107, 14, 108, 39, 40, 41, 109, 110, 111, 42, 43, 112, 113, 114, 38, 115, 49, 693, 494, 495, 26, 496, 497, 694, 695, 696, 697, 698, 699, 73, 700, 701, 702, 703, 704, 705, 706, 707, 708, 709, 710, 711, 712, 713, 714, 715, 716, 717, 718, 719, 720, 721, 722, 723, 724, 72, 725, 726, 727, 728, 729, 730, 731, 732, 733, 734, 735, 736, 737, 738, 739, 740, 741, 742, 743, 744, 745, 746, 747, 748, 749, 750, 751, 752, 753, 754, 755, 756, 757, 758, 759, 760, 761, 762, 763, 764, 765, 766, 767, 768, 769, 120, 2, 121, 770, 771, 772, 773, 774, 775, 776, 777, 778, 779, 780, 781, 782, 783, 784, 785, 786, 787, 788, 789, 790, 117, 118, 119, 51, 52, 53, 54, 50, 791, 167, 168, 169, 170, 171, 172, 173, 174, 175, 176, 177, 178, 179, 180, 792, 213, 214, 215, 216, 217, 218, 219, 220, 221, 222, 223, 224, 225, 226, 227, 228, 229, 230, 231, 232, 233, 234, 235, 236, 237, 238, 239, 240, 241, 242, 243, 244, 245, 246, 247, 248, 249, 250, 251, 252, 253, 254, 255, 256, 257, 258, 259, 260, 261, 262, 263, 793, 329, 330, 331, 332, 333, 334, 335, 336, 337, 338, 339, 794, 357, 358, 359, 795, 796, 797, 798, 799, 800, 801, 802, 95, 96, 97, 22, 98, 99, 100, 101, 102, 103, 104, 65, 105, 863, 864, 865, 866, 867, 868, 869, 870, 122, 123, 124, 125, 875, 876, 877, 878, 879, 907, 908, 909, 910, 911, 890, 891, 892, 893, 894, 895, 896, 897, 912, 913, 902, 903, 904, 905, 906, 899, 900, 901] rfl rfl
set_option maxRecDepth 100000 in
theorem gL_law_X8_play : GoodIn wsL_law (wsV RL 107 RX8 yX8_play wsX8_play) := goodIn_app (goodIn_r _ [859, 860, 861, 2] rfl rfl) ggL_law_X8_play
set_option maxRecDepth 100000 in
theorem ggL_law_X9_play : GoodIn wsL_law wsX9_play := goodIn_r _ [874, 130, 131, 132, 5, 133, 87, 86, 816, 817, 818, 819, 820, 540, 821, 815, 822, 823, 824, 825, 90, 826, 827, 828, 829, 830, 831, 832, 833, 89, 138, 139, 140, 834, 835, 836, 837, 838, 839, 840, 841, 842, 843, 844, 845, 846, 847, 848, 849, 850, 851, 852, 853, 854, 134, 135, 136, 137, 185, 186, 187, 188, 189, 190, 191, 192, 193, 194, 195, 268, 269, 270, 271, 272, 273, 274, 275, 276, 277, 278, 279, 280, 281, 282, 283, 284, 285, 286, 287, 288, 289, 290, 291, 292, 293, 294, 295, 296, 297, 298, 299, 300, 301, 302, 303, 304, 305, 306, 307, 308, 309, 310, 311, 312, 313, 314, 315, 316, 317, 318, 319, 320, 321, 322, 323, 344, 345, 346, 347, 348, 349, 350, 351, 364, 365, 366, 367, 855, 856, 857, 858, 141, 142, 143, 144, 145, 88, 880, 881, 882, 883, 884, 885, 886, 887, 888, 889] rfl rfl
set_option maxRecDepth 100000 in
theorem gL_law_X9_play : GoodIn wsL_law (wsV RL 110 RX9 yX9_play wsX9_play) := goodIn_app (goodIn_r _ [871, 872, 873, 5] rfl rfl) ggL_law_X9_play
theorem dL_law_0 : decode cL_law 0 = .ok (.new 7, 3) := by decide +kernel
theorem dL_law_3 : decode cL_law 3 = .ok (.dup, 1) := by decide +kernel
theorem dL_law_4 : decode cL_law 4 = .ok (.invokespecial 9, 3) := by decide +kernel
theorem dL_law_7 : decode cL_law 7 = .ok (.astore_n 1, 1) := by decide +kernel
theorem dL_law_8 : decode cL_law 8 = .ok (.new 10, 3) := by decide +kernel
theorem dL_law_11 : decode cL_law 11 = .ok (.dup, 1) := by decide +kernel
theorem dL_law_12 : decode cL_law 12 = .ok (.invokespecial 12, 3) := by decide +kernel
theorem dL_law_15 : decode cL_law 15 = .ok (.astore_n 2, 1) := by decide +kernel
theorem dL_law_16 : decode cL_law 16 = .ok (.iconst 0, 1) := by decide +kernel
theorem dL_law_17 : decode cL_law 17 = .ok (.istore_n 3, 1) := by decide +kernel
theorem dL_law_18 : decode cL_law 18 = .ok (.iload_n 3, 1) := by decide +kernel
theorem dL_law_19 : decode cL_law 19 = .ok (.aload_n 0, 1) := by decide +kernel
theorem dL_law_20 : decode cL_law 20 = .ok (.arraylength, 1) := by decide +kernel
theorem dL_law_21 : decode cL_law 21 = .ok (.bipush 6, 2) := by decide +kernel
theorem dL_law_23 : decode cL_law 23 = .ok (.isub, 1) := by decide +kernel
theorem dL_law_24 : decode cL_law 24 = .ok (.if_icmp .gt 791, 3) := by decide +kernel
theorem dL_law_27 : decode cL_law 27 = .ok (.aload_n 0, 1) := by decide +kernel
theorem dL_law_28 : decode cL_law 28 = .ok (.iload_n 3, 1) := by decide +kernel
theorem dL_law_29 : decode cL_law 29 = .ok (.iaload, 1) := by decide +kernel
theorem dL_law_30 : decode cL_law 30 = .ok (.bipush 31, 2) := by decide +kernel
theorem dL_law_32 : decode cL_law 32 = .ok (.iand, 1) := by decide +kernel
theorem dL_law_33 : decode cL_law 33 = .ok (.tableswitch 776 0 22 #[107, 130, 163, 206, 249, 302, 365, 388, 421, 454, 487, 530, 553, 576, 609, 642, 655, 668, 691, 704, 727, 740, 763], 107) := by decide +kernel
theorem dL_law_140 : decode cL_law 140 = .ok (.aload_n 1, 1) := by decide +kernel
theorem dL_law_141 : decode cL_law 141 = .ok (.aload_n 0, 1) := by decide +kernel
theorem dL_law_142 : decode cL_law 142 = .ok (.iload_n 3, 1) := by decide +kernel
theorem dL_law_143 : decode cL_law 143 = .ok (.iconst 1, 1) := by decide +kernel
theorem dL_law_144 : decode cL_law 144 = .ok (.iadd, 1) := by decide +kernel
theorem dL_law_145 : decode cL_law 145 = .ok (.iaload, 1) := by decide +kernel
theorem dL_law_146 : decode cL_law 146 = .ok (.invokevirtual 13, 3) := by decide +kernel
theorem dL_law_149 : decode cL_law 149 = .ok (.aload_n 2, 1) := by decide +kernel
theorem dL_law_150 : decode cL_law 150 = .ok (.aload_n 0, 1) := by decide +kernel
theorem dL_law_151 : decode cL_law 151 = .ok (.iload_n 3, 1) := by decide +kernel
theorem dL_law_152 : decode cL_law 152 = .ok (.iconst 1, 1) := by decide +kernel
theorem dL_law_153 : decode cL_law 153 = .ok (.iadd, 1) := by decide +kernel
theorem dL_law_154 : decode cL_law 154 = .ok (.iaload, 1) := by decide +kernel
theorem dL_law_155 : decode cL_law 155 = .ok (.invokevirtual 17, 3) := by decide +kernel
theorem dL_law_158 : decode cL_law 158 = .ok (.if_icmp .eq 651, 3) := by decide +kernel
theorem dL_law_161 : decode cL_law 161 = .ok (.iconst 0, 1) := by decide +kernel
theorem dL_law_162 : decode cL_law 162 = .ok (.ireturn, 1) := by decide +kernel
theorem dL_law_163 : decode cL_law 163 = .ok (.aload_n 1, 1) := by decide +kernel
theorem dL_law_164 : decode cL_law 164 = .ok (.aload_n 0, 1) := by decide +kernel
theorem dL_law_165 : decode cL_law 165 = .ok (.iload_n 3, 1) := by decide +kernel
theorem dL_law_166 : decode cL_law 166 = .ok (.iconst 1, 1) := by decide +kernel
theorem dL_law_167 : decode cL_law 167 = .ok (.iadd, 1) := by decide +kernel
theorem dL_law_168 : decode cL_law 168 = .ok (.iaload, 1) := by decide +kernel
theorem dL_law_169 : decode cL_law 169 = .ok (.aload_n 0, 1) := by decide +kernel
theorem dL_law_170 : decode cL_law 170 = .ok (.iload_n 3, 1) := by decide +kernel
theorem dL_law_171 : decode cL_law 171 = .ok (.iconst 2, 1) := by decide +kernel
theorem dL_law_172 : decode cL_law 172 = .ok (.iadd, 1) := by decide +kernel
theorem dL_law_173 : decode cL_law 173 = .ok (.iaload, 1) := by decide +kernel
theorem dL_law_174 : decode cL_law 174 = .ok (.invokevirtual 18, 3) := by decide +kernel
theorem dL_law_177 : decode cL_law 177 = .ok (.aload_n 2, 1) := by decide +kernel
theorem dL_law_178 : decode cL_law 178 = .ok (.aload_n 0, 1) := by decide +kernel
theorem dL_law_179 : decode cL_law 179 = .ok (.iload_n 3, 1) := by decide +kernel
theorem dL_law_180 : decode cL_law 180 = .ok (.iconst 1, 1) := by decide +kernel
theorem dL_law_181 : decode cL_law 181 = .ok (.iadd, 1) := by decide +kernel
theorem dL_law_182 : decode cL_law 182 = .ok (.iaload, 1) := by decide +kernel
theorem dL_law_183 : decode cL_law 183 = .ok (.aload_n 0, 1) := by decide +kernel
theorem dL_law_184 : decode cL_law 184 = .ok (.iload_n 3, 1) := by decide +kernel
theorem dL_law_185 : decode cL_law 185 = .ok (.iconst 2, 1) := by decide +kernel
theorem dL_law_186 : decode cL_law 186 = .ok (.iadd, 1) := by decide +kernel
theorem dL_law_187 : decode cL_law 187 = .ok (.iaload, 1) := by decide +kernel
theorem dL_law_188 : decode cL_law 188 = .ok (.invokevirtual 22, 3) := by decide +kernel
theorem dL_law_191 : decode cL_law 191 = .ok (.if_icmp .eq 618, 3) := by decide +kernel
theorem dL_law_194 : decode cL_law 194 = .ok (.iconst 0, 1) := by decide +kernel
theorem dL_law_195 : decode cL_law 195 = .ok (.ireturn, 1) := by decide +kernel
theorem dL_law_196 : decode cL_law 196 = .ok (.aload_n 1, 1) := by decide +kernel
theorem dL_law_197 : decode cL_law 197 = .ok (.aload_n 0, 1) := by decide +kernel
theorem dL_law_198 : decode cL_law 198 = .ok (.iload_n 3, 1) := by decide +kernel
theorem dL_law_199 : decode cL_law 199 = .ok (.iconst 1, 1) := by decide +kernel
theorem dL_law_200 : decode cL_law 200 = .ok (.iadd, 1) := by decide +kernel
theorem dL_law_201 : decode cL_law 201 = .ok (.iaload, 1) := by decide +kernel
theorem dL_law_202 : decode cL_law 202 = .ok (.aload_n 0, 1) := by decide +kernel
theorem dL_law_203 : decode cL_law 203 = .ok (.iload_n 3, 1) := by decide +kernel
theorem dL_law_204 : decode cL_law 204 = .ok (.iconst 2, 1) := by decide +kernel
theorem dL_law_205 : decode cL_law 205 = .ok (.iadd, 1) := by decide +kernel
theorem dL_law_206 : decode cL_law 206 = .ok (.iaload, 1) := by decide +kernel
theorem dL_law_207 : decode cL_law 207 = .ok (.aload_n 0, 1) := by decide +kernel
theorem dL_law_208 : decode cL_law 208 = .ok (.iload_n 3, 1) := by decide +kernel
theorem dL_law_209 : decode cL_law 209 = .ok (.iconst 3, 1) := by decide +kernel
theorem dL_law_210 : decode cL_law 210 = .ok (.iadd, 1) := by decide +kernel
theorem dL_law_211 : decode cL_law 211 = .ok (.iaload, 1) := by decide +kernel
theorem dL_law_212 : decode cL_law 212 = .ok (.invokevirtual 23, 3) := by decide +kernel
theorem dL_law_215 : decode cL_law 215 = .ok (.aload_n 2, 1) := by decide +kernel
theorem dL_law_216 : decode cL_law 216 = .ok (.aload_n 0, 1) := by decide +kernel
theorem dL_law_217 : decode cL_law 217 = .ok (.iload_n 3, 1) := by decide +kernel
theorem dL_law_218 : decode cL_law 218 = .ok (.iconst 1, 1) := by decide +kernel
theorem dL_law_219 : decode cL_law 219 = .ok (.iadd, 1) := by decide +kernel
theorem dL_law_220 : decode cL_law 220 = .ok (.iaload, 1) := by decide +kernel
theorem dL_law_221 : decode cL_law 221 = .ok (.aload_n 0, 1) := by decide +kernel
theorem dL_law_222 : decode cL_law 222 = .ok (.iload_n 3, 1) := by decide +kernel
theorem dL_law_223 : decode cL_law 223 = .ok (.iconst 2, 1) := by decide +kernel
theorem dL_law_224 : decode cL_law 224 = .ok (.iadd, 1) := by decide +kernel
theorem dL_law_225 : decode cL_law 225 = .ok (.iaload, 1) := by decide +kernel
theorem dL_law_226 : decode cL_law 226 = .ok (.aload_n 0, 1) := by decide +kernel
theorem dL_law_227 : decode cL_law 227 = .ok (.iload_n 3, 1) := by decide +kernel
theorem dL_law_228 : decode cL_law 228 = .ok (.iconst 3, 1) := by decide +kernel
theorem dL_law_229 : decode cL_law 229 = .ok (.iadd, 1) := by decide +kernel
theorem dL_law_230 : decode cL_law 230 = .ok (.iaload, 1) := by decide +kernel
theorem dL_law_231 : decode cL_law 231 = .ok (.invokevirtual 27, 3) := by decide +kernel
theorem dL_law_234 : decode cL_law 234 = .ok (.if_icmp .eq 575, 3) := by decide +kernel
theorem dL_law_237 : decode cL_law 237 = .ok (.iconst 0, 1) := by decide +kernel
theorem dL_law_238 : decode cL_law 238 = .ok (.ireturn, 1) := by decide +kernel
theorem dL_law_239 : decode cL_law 239 = .ok (.aload_n 1, 1) := by decide +kernel
theorem dL_law_240 : decode cL_law 240 = .ok (.aload_n 0, 1) := by decide +kernel
theorem dL_law_241 : decode cL_law 241 = .ok (.iload_n 3, 1) := by decide +kernel
theorem dL_law_242 : decode cL_law 242 = .ok (.iconst 1, 1) := by decide +kernel
theorem dL_law_243 : decode cL_law 243 = .ok (.iadd, 1) := by decide +kernel
theorem dL_law_244 : decode cL_law 244 = .ok (.iaload, 1) := by decide +kernel
theorem dL_law_245 : decode cL_law 245 = .ok (.aload_n 0, 1) := by decide +kernel
theorem dL_law_246 : decode cL_law 246 = .ok (.iload_n 3, 1) := by decide +kernel
theorem dL_law_247 : decode cL_law 247 = .ok (.iconst 2, 1) := by decide +kernel
theorem dL_law_248 : decode cL_law 248 = .ok (.iadd, 1) := by decide +kernel
theorem dL_law_249 : decode cL_law 249 = .ok (.iaload, 1) := by decide +kernel
theorem dL_law_250 : decode cL_law 250 = .ok (.aload_n 0, 1) := by decide +kernel
theorem dL_law_251 : decode cL_law 251 = .ok (.iload_n 3, 1) := by decide +kernel
theorem dL_law_252 : decode cL_law 252 = .ok (.iconst 3, 1) := by decide +kernel
theorem dL_law_253 : decode cL_law 253 = .ok (.iadd, 1) := by decide +kernel
theorem dL_law_254 : decode cL_law 254 = .ok (.iaload, 1) := by decide +kernel
theorem dL_law_255 : decode cL_law 255 = .ok (.invokevirtual 28, 3) := by decide +kernel
theorem dL_law_258 : decode cL_law 258 = .ok (.aload_n 2, 1) := by decide +kernel
theorem dL_law_259 : decode cL_law 259 = .ok (.aload_n 0, 1) := by decide +kernel
theorem dL_law_260 : decode cL_law 260 = .ok (.iload_n 3, 1) := by decide +kernel
theorem dL_law_261 : decode cL_law 261 = .ok (.iconst 1, 1) := by decide +kernel
theorem dL_law_262 : decode cL_law 262 = .ok (.iadd, 1) := by decide +kernel
theorem dL_law_263 : decode cL_law 263 = .ok (.iaload, 1) := by decide +kernel
theorem dL_law_264 : decode cL_law 264 = .ok (.aload_n 0, 1) := by decide +kernel
theorem dL_law_265 : decode cL_law 265 = .ok (.iload_n 3, 1) := by decide +kernel
theorem dL_law_266 : decode cL_law 266 = .ok (.iconst 2, 1) := by decide +kernel
theorem dL_law_267 : decode cL_law 267 = .ok (.iadd, 1) := by decide +kernel
theorem dL_law_268 : decode cL_law 268 = .ok (.iaload, 1) := by decide +kernel
theorem dL_law_269 : decode cL_law 269 = .ok (.aload_n 0, 1) := by decide +kernel
theorem dL_law_270 : decode cL_law 270 = .ok (.iload_n 3, 1) := by decide +kernel
theorem dL_law_271 : decode cL_law 271 = .ok (.iconst 3, 1) := by decide +kernel
theorem dL_law_272 : decode cL_law 272 = .ok (.iadd, 1) := by decide +kernel
theorem dL_law_273 : decode cL_law 273 = .ok (.iaload, 1) := by decide +kernel
theorem dL_law_274 : decode cL_law 274 = .ok (.invokevirtual 31, 3) := by decide +kernel
theorem dL_law_277 : decode cL_law 277 = .ok (.if_icmp .eq 532, 3) := by decide +kernel
theorem dL_law_280 : decode cL_law 280 = .ok (.iconst 0, 1) := by decide +kernel
theorem dL_law_281 : decode cL_law 281 = .ok (.ireturn, 1) := by decide +kernel
theorem dL_law_282 : decode cL_law 282 = .ok (.aload_n 1, 1) := by decide +kernel
theorem dL_law_283 : decode cL_law 283 = .ok (.aload_n 0, 1) := by decide +kernel
theorem dL_law_284 : decode cL_law 284 = .ok (.iload_n 3, 1) := by decide +kernel
theorem dL_law_285 : decode cL_law 285 = .ok (.iconst 1, 1) := by decide +kernel
theorem dL_law_286 : decode cL_law 286 = .ok (.iadd, 1) := by decide +kernel
theorem dL_law_287 : decode cL_law 287 = .ok (.iaload, 1) := by decide +kernel
theorem dL_law_288 : decode cL_law 288 = .ok (.aload_n 0, 1) := by decide +kernel
theorem dL_law_289 : decode cL_law 289 = .ok (.iload_n 3, 1) := by decide +kernel
theorem dL_law_290 : decode cL_law 290 = .ok (.iconst 2, 1) := by decide +kernel
theorem dL_law_291 : decode cL_law 291 = .ok (.iadd, 1) := by decide +kernel
theorem dL_law_292 : decode cL_law 292 = .ok (.iaload, 1) := by decide +kernel
theorem dL_law_293 : decode cL_law 293 = .ok (.aload_n 0, 1) := by decide +kernel
theorem dL_law_294 : decode cL_law 294 = .ok (.iload_n 3, 1) := by decide +kernel
theorem dL_law_295 : decode cL_law 295 = .ok (.iconst 3, 1) := by decide +kernel
theorem dL_law_296 : decode cL_law 296 = .ok (.iadd, 1) := by decide +kernel
theorem dL_law_297 : decode cL_law 297 = .ok (.iaload, 1) := by decide +kernel
theorem dL_law_298 : decode cL_law 298 = .ok (.aload_n 0, 1) := by decide +kernel
theorem dL_law_299 : decode cL_law 299 = .ok (.iload_n 3, 1) := by decide +kernel
theorem dL_law_300 : decode cL_law 300 = .ok (.iconst 4, 1) := by decide +kernel
theorem dL_law_301 : decode cL_law 301 = .ok (.iadd, 1) := by decide +kernel
theorem dL_law_302 : decode cL_law 302 = .ok (.iaload, 1) := by decide +kernel
theorem dL_law_303 : decode cL_law 303 = .ok (.invokevirtual 32, 3) := by decide +kernel
theorem dL_law_306 : decode cL_law 306 = .ok (.aload_n 2, 1) := by decide +kernel
theorem dL_law_307 : decode cL_law 307 = .ok (.aload_n 0, 1) := by decide +kernel
theorem dL_law_308 : decode cL_law 308 = .ok (.iload_n 3, 1) := by decide +kernel
theorem dL_law_309 : decode cL_law 309 = .ok (.iconst 1, 1) := by decide +kernel
theorem dL_law_310 : decode cL_law 310 = .ok (.iadd, 1) := by decide +kernel
theorem dL_law_311 : decode cL_law 311 = .ok (.iaload, 1) := by decide +kernel
theorem dL_law_312 : decode cL_law 312 = .ok (.aload_n 0, 1) := by decide +kernel
theorem dL_law_313 : decode cL_law 313 = .ok (.iload_n 3, 1) := by decide +kernel
theorem dL_law_314 : decode cL_law 314 = .ok (.iconst 2, 1) := by decide +kernel
theorem dL_law_315 : decode cL_law 315 = .ok (.iadd, 1) := by decide +kernel
theorem dL_law_316 : decode cL_law 316 = .ok (.iaload, 1) := by decide +kernel
theorem dL_law_317 : decode cL_law 317 = .ok (.aload_n 0, 1) := by decide +kernel
theorem dL_law_318 : decode cL_law 318 = .ok (.iload_n 3, 1) := by decide +kernel
theorem dL_law_319 : decode cL_law 319 = .ok (.iconst 3, 1) := by decide +kernel
theorem dL_law_320 : decode cL_law 320 = .ok (.iadd, 1) := by decide +kernel
theorem dL_law_321 : decode cL_law 321 = .ok (.iaload, 1) := by decide +kernel
theorem dL_law_322 : decode cL_law 322 = .ok (.aload_n 0, 1) := by decide +kernel
theorem dL_law_323 : decode cL_law 323 = .ok (.iload_n 3, 1) := by decide +kernel
theorem dL_law_324 : decode cL_law 324 = .ok (.iconst 4, 1) := by decide +kernel
theorem dL_law_325 : decode cL_law 325 = .ok (.iadd, 1) := by decide +kernel
theorem dL_law_326 : decode cL_law 326 = .ok (.iaload, 1) := by decide +kernel
theorem dL_law_327 : decode cL_law 327 = .ok (.invokevirtual 36, 3) := by decide +kernel
theorem dL_law_330 : decode cL_law 330 = .ok (.if_icmp .eq 479, 3) := by decide +kernel
theorem dL_law_333 : decode cL_law 333 = .ok (.iconst 0, 1) := by decide +kernel
theorem dL_law_334 : decode cL_law 334 = .ok (.ireturn, 1) := by decide +kernel
theorem dL_law_335 : decode cL_law 335 = .ok (.aload_n 1, 1) := by decide +kernel
theorem dL_law_336 : decode cL_law 336 = .ok (.aload_n 0, 1) := by decide +kernel
theorem dL_law_337 : decode cL_law 337 = .ok (.iload_n 3, 1) := by decide +kernel
theorem dL_law_338 : decode cL_law 338 = .ok (.iconst 1, 1) := by decide +kernel
theorem dL_law_339 : decode cL_law 339 = .ok (.iadd, 1) := by decide +kernel
theorem dL_law_340 : decode cL_law 340 = .ok (.iaload, 1) := by decide +kernel
theorem dL_law_341 : decode cL_law 341 = .ok (.aload_n 0, 1) := by decide +kernel
theorem dL_law_342 : decode cL_law 342 = .ok (.iload_n 3, 1) := by decide +kernel
theorem dL_law_343 : decode cL_law 343 = .ok (.iconst 2, 1) := by decide +kernel
theorem dL_law_344 : decode cL_law 344 = .ok (.iadd, 1) := by decide +kernel
theorem dL_law_345 : decode cL_law 345 = .ok (.iaload, 1) := by decide +kernel
theorem dL_law_346 : decode cL_law 346 = .ok (.aload_n 0, 1) := by decide +kernel
theorem dL_law_347 : decode cL_law 347 = .ok (.iload_n 3, 1) := by decide +kernel
theorem dL_law_348 : decode cL_law 348 = .ok (.iconst 3, 1) := by decide +kernel
theorem dL_law_349 : decode cL_law 349 = .ok (.iadd, 1) := by decide +kernel
theorem dL_law_350 : decode cL_law 350 = .ok (.iaload, 1) := by decide +kernel
theorem dL_law_351 : decode cL_law 351 = .ok (.aload_n 0, 1) := by decide +kernel
theorem dL_law_352 : decode cL_law 352 = .ok (.iload_n 3, 1) := by decide +kernel
theorem dL_law_353 : decode cL_law 353 = .ok (.iconst 4, 1) := by decide +kernel
theorem dL_law_354 : decode cL_law 354 = .ok (.iadd, 1) := by decide +kernel
theorem dL_law_355 : decode cL_law 355 = .ok (.iaload, 1) := by decide +kernel
theorem dL_law_356 : decode cL_law 356 = .ok (.aload_n 0, 1) := by decide +kernel
theorem dL_law_357 : decode cL_law 357 = .ok (.iload_n 3, 1) := by decide +kernel
theorem dL_law_358 : decode cL_law 358 = .ok (.iconst 5, 1) := by decide +kernel
theorem dL_law_359 : decode cL_law 359 = .ok (.iadd, 1) := by decide +kernel
theorem dL_law_360 : decode cL_law 360 = .ok (.iaload, 1) := by decide +kernel
theorem dL_law_361 : decode cL_law 361 = .ok (.invokevirtual 37, 3) := by decide +kernel
theorem dL_law_364 : decode cL_law 364 = .ok (.aload_n 2, 1) := by decide +kernel
theorem dL_law_365 : decode cL_law 365 = .ok (.aload_n 0, 1) := by decide +kernel
theorem dL_law_366 : decode cL_law 366 = .ok (.iload_n 3, 1) := by decide +kernel
theorem dL_law_367 : decode cL_law 367 = .ok (.iconst 1, 1) := by decide +kernel
theorem dL_law_368 : decode cL_law 368 = .ok (.iadd, 1) := by decide +kernel
theorem dL_law_369 : decode cL_law 369 = .ok (.iaload, 1) := by decide +kernel
theorem dL_law_370 : decode cL_law 370 = .ok (.aload_n 0, 1) := by decide +kernel
theorem dL_law_371 : decode cL_law 371 = .ok (.iload_n 3, 1) := by decide +kernel
theorem dL_law_372 : decode cL_law 372 = .ok (.iconst 2, 1) := by decide +kernel
theorem dL_law_373 : decode cL_law 373 = .ok (.iadd, 1) := by decide +kernel
theorem dL_law_374 : decode cL_law 374 = .ok (.iaload, 1) := by decide +kernel
theorem dL_law_375 : decode cL_law 375 = .ok (.aload_n 0, 1) := by decide +kernel
theorem dL_law_376 : decode cL_law 376 = .ok (.iload_n 3, 1) := by decide +kernel
theorem dL_law_377 : decode cL_law 377 = .ok (.iconst 3, 1) := by decide +kernel
theorem dL_law_378 : decode cL_law 378 = .ok (.iadd, 1) := by decide +kernel
theorem dL_law_379 : decode cL_law 379 = .ok (.iaload, 1) := by decide +kernel
theorem dL_law_380 : decode cL_law 380 = .ok (.aload_n 0, 1) := by decide +kernel
theorem dL_law_381 : decode cL_law 381 = .ok (.iload_n 3, 1) := by decide +kernel
theorem dL_law_382 : decode cL_law 382 = .ok (.iconst 4, 1) := by decide +kernel
theorem dL_law_383 : decode cL_law 383 = .ok (.iadd, 1) := by decide +kernel
theorem dL_law_384 : decode cL_law 384 = .ok (.iaload, 1) := by decide +kernel
theorem dL_law_385 : decode cL_law 385 = .ok (.aload_n 0, 1) := by decide +kernel
theorem dL_law_386 : decode cL_law 386 = .ok (.iload_n 3, 1) := by decide +kernel
theorem dL_law_387 : decode cL_law 387 = .ok (.iconst 5, 1) := by decide +kernel
theorem dL_law_388 : decode cL_law 388 = .ok (.iadd, 1) := by decide +kernel
theorem dL_law_389 : decode cL_law 389 = .ok (.iaload, 1) := by decide +kernel
theorem dL_law_390 : decode cL_law 390 = .ok (.invokevirtual 41, 3) := by decide +kernel
theorem dL_law_393 : decode cL_law 393 = .ok (.if_icmp .eq 416, 3) := by decide +kernel
theorem dL_law_396 : decode cL_law 396 = .ok (.iconst 0, 1) := by decide +kernel
theorem dL_law_397 : decode cL_law 397 = .ok (.ireturn, 1) := by decide +kernel
theorem dL_law_398 : decode cL_law 398 = .ok (.aload_n 1, 1) := by decide +kernel
theorem dL_law_399 : decode cL_law 399 = .ok (.aload_n 0, 1) := by decide +kernel
theorem dL_law_400 : decode cL_law 400 = .ok (.iload_n 3, 1) := by decide +kernel
theorem dL_law_401 : decode cL_law 401 = .ok (.iconst 1, 1) := by decide +kernel
theorem dL_law_402 : decode cL_law 402 = .ok (.iadd, 1) := by decide +kernel
theorem dL_law_403 : decode cL_law 403 = .ok (.iaload, 1) := by decide +kernel
theorem dL_law_404 : decode cL_law 404 = .ok (.invokevirtual 42, 3) := by decide +kernel
theorem dL_law_407 : decode cL_law 407 = .ok (.aload_n 2, 1) := by decide +kernel
theorem dL_law_408 : decode cL_law 408 = .ok (.aload_n 0, 1) := by decide +kernel
theorem dL_law_409 : decode cL_law 409 = .ok (.iload_n 3, 1) := by decide +kernel
theorem dL_law_410 : decode cL_law 410 = .ok (.iconst 1, 1) := by decide +kernel
theorem dL_law_411 : decode cL_law 411 = .ok (.iadd, 1) := by decide +kernel
theorem dL_law_412 : decode cL_law 412 = .ok (.iaload, 1) := by decide +kernel
theorem dL_law_413 : decode cL_law 413 = .ok (.invokevirtual 45, 3) := by decide +kernel
theorem dL_law_416 : decode cL_law 416 = .ok (.if_icmp .eq 393, 3) := by decide +kernel
theorem dL_law_419 : decode cL_law 419 = .ok (.iconst 0, 1) := by decide +kernel
theorem dL_law_420 : decode cL_law 420 = .ok (.ireturn, 1) := by decide +kernel
theorem dL_law_421 : decode cL_law 421 = .ok (.aload_n 1, 1) := by decide +kernel
theorem dL_law_422 : decode cL_law 422 = .ok (.aload_n 0, 1) := by decide +kernel
theorem dL_law_423 : decode cL_law 423 = .ok (.iload_n 3, 1) := by decide +kernel
theorem dL_law_424 : decode cL_law 424 = .ok (.iconst 1, 1) := by decide +kernel
theorem dL_law_425 : decode cL_law 425 = .ok (.iadd, 1) := by decide +kernel
theorem dL_law_426 : decode cL_law 426 = .ok (.iaload, 1) := by decide +kernel
theorem dL_law_427 : decode cL_law 427 = .ok (.aload_n 0, 1) := by decide +kernel
theorem dL_law_428 : decode cL_law 428 = .ok (.iload_n 3, 1) := by decide +kernel
theorem dL_law_429 : decode cL_law 429 = .ok (.iconst 2, 1) := by decide +kernel
theorem dL_law_430 : decode cL_law 430 = .ok (.iadd, 1) := by decide +kernel
theorem dL_law_431 : decode cL_law 431 = .ok (.iaload, 1) := by decide +kernel
theorem dL_law_432 : decode cL_law 432 = .ok (.invokevirtual 46, 3) := by decide +kernel
theorem dL_law_435 : decode cL_law 435 = .ok (.aload_n 2, 1) := by decide +kernel
theorem dL_law_436 : decode cL_law 436 = .ok (.aload_n 0, 1) := by decide +kernel
theorem dL_law_437 : decode cL_law 437 = .ok (.iload_n 3, 1) := by decide +kernel
theorem dL_law_438 : decode cL_law 438 = .ok (.iconst 1, 1) := by decide +kernel
theorem dL_law_439 : decode cL_law 439 = .ok (.iadd, 1) := by decide +kernel
theorem dL_law_440 : decode cL_law 440 = .ok (.iaload, 1) := by decide +kernel
theorem dL_law_441 : decode cL_law 441 = .ok (.aload_n 0, 1) := by decide +kernel
theorem dL_law_442 : decode cL_law 442 = .ok (.iload_n 3, 1) := by decide +kernel
theorem dL_law_443 : decode cL_law 443 = .ok (.iconst 2, 1) := by decide +kernel
theorem dL_law_444 : decode cL_law 444 = .ok (.iadd, 1) := by decide +kernel
theorem dL_law_445 : decode cL_law 445 = .ok (.iaload, 1) := by decide +kernel
theorem dL_law_446 : decode cL_law 446 = .ok (.invokevirtual 49, 3) := by decide +kernel
theorem dL_law_449 : decode cL_law 449 = .ok (.if_icmp .eq 360, 3) := by decide +kernel
theorem dL_law_452 : decode cL_law 452 = .ok (.iconst 0, 1) := by decide +kernel
theorem dL_law_453 : decode cL_law 453 = .ok (.ireturn, 1) := by decide +kernel
theorem dL_law_454 : decode cL_law 454 = .ok (.aload_n 1, 1) := by decide +kernel
theorem dL_law_455 : decode cL_law 455 = .ok (.aload_n 0, 1) := by decide +kernel
theorem dL_law_456 : decode cL_law 456 = .ok (.iload_n 3, 1) := by decide +kernel
theorem dL_law_457 : decode cL_law 457 = .ok (.iconst 1, 1) := by decide +kernel
theorem dL_law_458 : decode cL_law 458 = .ok (.iadd, 1) := by decide +kernel
theorem dL_law_459 : decode cL_law 459 = .ok (.iaload, 1) := by decide +kernel
theorem dL_law_460 : decode cL_law 460 = .ok (.aload_n 0, 1) := by decide +kernel
theorem dL_law_461 : decode cL_law 461 = .ok (.iload_n 3, 1) := by decide +kernel
theorem dL_law_462 : decode cL_law 462 = .ok (.iconst 2, 1) := by decide +kernel
theorem dL_law_463 : decode cL_law 463 = .ok (.iadd, 1) := by decide +kernel
theorem dL_law_464 : decode cL_law 464 = .ok (.iaload, 1) := by decide +kernel
theorem dL_law_465 : decode cL_law 465 = .ok (.invokevirtual 50, 3) := by decide +kernel
theorem dL_law_468 : decode cL_law 468 = .ok (.aload_n 2, 1) := by decide +kernel
theorem dL_law_469 : decode cL_law 469 = .ok (.aload_n 0, 1) := by decide +kernel
theorem dL_law_470 : decode cL_law 470 = .ok (.iload_n 3, 1) := by decide +kernel
theorem dL_law_471 : decode cL_law 471 = .ok (.iconst 1, 1) := by decide +kernel
theorem dL_law_472 : decode cL_law 472 = .ok (.iadd, 1) := by decide +kernel
theorem dL_law_473 : decode cL_law 473 = .ok (.iaload, 1) := by decide +kernel
theorem dL_law_474 : decode cL_law 474 = .ok (.aload_n 0, 1) := by decide +kernel
theorem dL_law_475 : decode cL_law 475 = .ok (.iload_n 3, 1) := by decide +kernel
theorem dL_law_476 : decode cL_law 476 = .ok (.iconst 2, 1) := by decide +kernel
theorem dL_law_477 : decode cL_law 477 = .ok (.iadd, 1) := by decide +kernel
theorem dL_law_478 : decode cL_law 478 = .ok (.iaload, 1) := by decide +kernel
theorem dL_law_479 : decode cL_law 479 = .ok (.invokevirtual 53, 3) := by decide +kernel
theorem dL_law_482 : decode cL_law 482 = .ok (.if_icmp .eq 327, 3) := by decide +kernel
theorem dL_law_485 : decode cL_law 485 = .ok (.iconst 0, 1) := by decide +kernel
theorem dL_law_486 : decode cL_law 486 = .ok (.ireturn, 1) := by decide +kernel
theorem dL_law_487 : decode cL_law 487 = .ok (.aload_n 1, 1) := by decide +kernel
theorem dL_law_488 : decode cL_law 488 = .ok (.aload_n 0, 1) := by decide +kernel
theorem dL_law_489 : decode cL_law 489 = .ok (.iload_n 3, 1) := by decide +kernel
theorem dL_law_490 : decode cL_law 490 = .ok (.iconst 1, 1) := by decide +kernel
theorem dL_law_491 : decode cL_law 491 = .ok (.iadd, 1) := by decide +kernel
theorem dL_law_492 : decode cL_law 492 = .ok (.iaload, 1) := by decide +kernel
theorem dL_law_493 : decode cL_law 493 = .ok (.aload_n 0, 1) := by decide +kernel
theorem dL_law_494 : decode cL_law 494 = .ok (.iload_n 3, 1) := by decide +kernel
theorem dL_law_495 : decode cL_law 495 = .ok (.iconst 2, 1) := by decide +kernel
theorem dL_law_496 : decode cL_law 496 = .ok (.iadd, 1) := by decide +kernel
theorem dL_law_497 : decode cL_law 497 = .ok (.iaload, 1) := by decide +kernel
theorem dL_law_498 : decode cL_law 498 = .ok (.invokevirtual 54, 3) := by decide +kernel
theorem dL_law_501 : decode cL_law 501 = .ok (.aload_n 2, 1) := by decide +kernel
theorem dL_law_502 : decode cL_law 502 = .ok (.aload_n 0, 1) := by decide +kernel
theorem dL_law_503 : decode cL_law 503 = .ok (.iload_n 3, 1) := by decide +kernel
theorem dL_law_504 : decode cL_law 504 = .ok (.iconst 1, 1) := by decide +kernel
theorem dL_law_505 : decode cL_law 505 = .ok (.iadd, 1) := by decide +kernel
theorem dL_law_506 : decode cL_law 506 = .ok (.iaload, 1) := by decide +kernel
theorem dL_law_507 : decode cL_law 507 = .ok (.aload_n 0, 1) := by decide +kernel
theorem dL_law_508 : decode cL_law 508 = .ok (.iload_n 3, 1) := by decide +kernel
theorem dL_law_509 : decode cL_law 509 = .ok (.iconst 2, 1) := by decide +kernel
theorem dL_law_510 : decode cL_law 510 = .ok (.iadd, 1) := by decide +kernel
theorem dL_law_511 : decode cL_law 511 = .ok (.iaload, 1) := by decide +kernel
theorem dL_law_512 : decode cL_law 512 = .ok (.invokevirtual 57, 3) := by decide +kernel
theorem dL_law_515 : decode cL_law 515 = .ok (.if_icmp .eq 294, 3) := by decide +kernel
theorem dL_law_518 : decode cL_law 518 = .ok (.iconst 0, 1) := by decide +kernel
theorem dL_law_519 : decode cL_law 519 = .ok (.ireturn, 1) := by decide +kernel
theorem dL_law_520 : decode cL_law 520 = .ok (.aload_n 1, 1) := by decide +kernel
theorem dL_law_521 : decode cL_law 521 = .ok (.aload_n 0, 1) := by decide +kernel
theorem dL_law_522 : decode cL_law 522 = .ok (.iload_n 3, 1) := by decide +kernel
theorem dL_law_523 : decode cL_law 523 = .ok (.iconst 1, 1) := by decide +kernel
theorem dL_law_524 : decode cL_law 524 = .ok (.iadd, 1) := by decide +kernel
theorem dL_law_525 : decode cL_law 525 = .ok (.iaload, 1) := by decide +kernel
theorem dL_law_526 : decode cL_law 526 = .ok (.aload_n 0, 1) := by decide +kernel
theorem dL_law_527 : decode cL_law 527 = .ok (.iload_n 3, 1) := by decide +kernel
theorem dL_law_528 : decode cL_law 528 = .ok (.iconst 2, 1) := by decide +kernel
theorem dL_law_529 : decode cL_law 529 = .ok (.iadd, 1) := by decide +kernel
theorem dL_law_530 : decode cL_law 530 = .ok (.iaload, 1) := by decide +kernel
theorem dL_law_531 : decode cL_law 531 = .ok (.aload_n 0, 1) := by decide +kernel
theorem dL_law_532 : decode cL_law 532 = .ok (.iload_n 3, 1) := by decide +kernel
theorem dL_law_533 : decode cL_law 533 = .ok (.iconst 3, 1) := by decide +kernel
theorem dL_law_534 : decode cL_law 534 = .ok (.iadd, 1) := by decide +kernel
theorem dL_law_535 : decode cL_law 535 = .ok (.iaload, 1) := by decide +kernel
theorem dL_law_536 : decode cL_law 536 = .ok (.invokevirtual 58, 3) := by decide +kernel
theorem dL_law_539 : decode cL_law 539 = .ok (.aload_n 2, 1) := by decide +kernel
theorem dL_law_540 : decode cL_law 540 = .ok (.aload_n 0, 1) := by decide +kernel
theorem dL_law_541 : decode cL_law 541 = .ok (.iload_n 3, 1) := by decide +kernel
theorem dL_law_542 : decode cL_law 542 = .ok (.iconst 1, 1) := by decide +kernel
theorem dL_law_543 : decode cL_law 543 = .ok (.iadd, 1) := by decide +kernel
theorem dL_law_544 : decode cL_law 544 = .ok (.iaload, 1) := by decide +kernel
theorem dL_law_545 : decode cL_law 545 = .ok (.aload_n 0, 1) := by decide +kernel
theorem dL_law_546 : decode cL_law 546 = .ok (.iload_n 3, 1) := by decide +kernel
theorem dL_law_547 : decode cL_law 547 = .ok (.iconst 2, 1) := by decide +kernel
theorem dL_law_548 : decode cL_law 548 = .ok (.iadd, 1) := by decide +kernel
theorem dL_law_549 : decode cL_law 549 = .ok (.iaload, 1) := by decide +kernel
theorem dL_law_550 : decode cL_law 550 = .ok (.aload_n 0, 1) := by decide +kernel
theorem dL_law_551 : decode cL_law 551 = .ok (.iload_n 3, 1) := by decide +kernel
theorem dL_law_552 : decode cL_law 552 = .ok (.iconst 3, 1) := by decide +kernel
theorem dL_law_553 : decode cL_law 553 = .ok (.iadd, 1) := by decide +kernel
theorem dL_law_554 : decode cL_law 554 = .ok (.iaload, 1) := by decide +kernel
theorem dL_law_555 : decode cL_law 555 = .ok (.invokevirtual 61, 3) := by decide +kernel
theorem dL_law_558 : decode cL_law 558 = .ok (.if_icmp .eq 251, 3) := by decide +kernel
theorem dL_law_561 : decode cL_law 561 = .ok (.iconst 0, 1) := by decide +kernel
theorem dL_law_562 : decode cL_law 562 = .ok (.ireturn, 1) := by decide +kernel
theorem dL_law_563 : decode cL_law 563 = .ok (.aload_n 1, 1) := by decide +kernel
theorem dL_law_564 : decode cL_law 564 = .ok (.aload_n 0, 1) := by decide +kernel
theorem dL_law_565 : decode cL_law 565 = .ok (.iload_n 3, 1) := by decide +kernel
theorem dL_law_566 : decode cL_law 566 = .ok (.iconst 1, 1) := by decide +kernel
theorem dL_law_567 : decode cL_law 567 = .ok (.iadd, 1) := by decide +kernel
theorem dL_law_568 : decode cL_law 568 = .ok (.iaload, 1) := by decide +kernel
theorem dL_law_569 : decode cL_law 569 = .ok (.invokevirtual 62, 3) := by decide +kernel
theorem dL_law_572 : decode cL_law 572 = .ok (.aload_n 2, 1) := by decide +kernel
theorem dL_law_573 : decode cL_law 573 = .ok (.aload_n 0, 1) := by decide +kernel
theorem dL_law_574 : decode cL_law 574 = .ok (.iload_n 3, 1) := by decide +kernel
theorem dL_law_575 : decode cL_law 575 = .ok (.iconst 1, 1) := by decide +kernel
theorem dL_law_576 : decode cL_law 576 = .ok (.iadd, 1) := by decide +kernel
theorem dL_law_577 : decode cL_law 577 = .ok (.iaload, 1) := by decide +kernel
theorem dL_law_578 : decode cL_law 578 = .ok (.invokevirtual 65, 3) := by decide +kernel
theorem dL_law_581 : decode cL_law 581 = .ok (.if_icmp .eq 228, 3) := by decide +kernel
theorem dL_law_584 : decode cL_law 584 = .ok (.iconst 0, 1) := by decide +kernel
theorem dL_law_585 : decode cL_law 585 = .ok (.ireturn, 1) := by decide +kernel
theorem dL_law_586 : decode cL_law 586 = .ok (.aload_n 1, 1) := by decide +kernel
theorem dL_law_587 : decode cL_law 587 = .ok (.aload_n 0, 1) := by decide +kernel
theorem dL_law_588 : decode cL_law 588 = .ok (.iload_n 3, 1) := by decide +kernel
theorem dL_law_589 : decode cL_law 589 = .ok (.iconst 1, 1) := by decide +kernel
theorem dL_law_590 : decode cL_law 590 = .ok (.iadd, 1) := by decide +kernel
theorem dL_law_591 : decode cL_law 591 = .ok (.iaload, 1) := by decide +kernel
theorem dL_law_592 : decode cL_law 592 = .ok (.invokevirtual 66, 3) := by decide +kernel
theorem dL_law_595 : decode cL_law 595 = .ok (.aload_n 2, 1) := by decide +kernel
theorem dL_law_596 : decode cL_law 596 = .ok (.aload_n 0, 1) := by decide +kernel
theorem dL_law_597 : decode cL_law 597 = .ok (.iload_n 3, 1) := by decide +kernel
theorem dL_law_598 : decode cL_law 598 = .ok (.iconst 1, 1) := by decide +kernel
theorem dL_law_599 : decode cL_law 599 = .ok (.iadd, 1) := by decide +kernel
theorem dL_law_600 : decode cL_law 600 = .ok (.iaload, 1) := by decide +kernel
theorem dL_law_601 : decode cL_law 601 = .ok (.invokevirtual 69, 3) := by decide +kernel
theorem dL_law_604 : decode cL_law 604 = .ok (.if_icmp .eq 205, 3) := by decide +kernel
theorem dL_law_607 : decode cL_law 607 = .ok (.iconst 0, 1) := by decide +kernel
theorem dL_law_608 : decode cL_law 608 = .ok (.ireturn, 1) := by decide +kernel
theorem dL_law_609 : decode cL_law 609 = .ok (.aload_n 1, 1) := by decide +kernel
theorem dL_law_610 : decode cL_law 610 = .ok (.aload_n 0, 1) := by decide +kernel
theorem dL_law_611 : decode cL_law 611 = .ok (.iload_n 3, 1) := by decide +kernel
theorem dL_law_612 : decode cL_law 612 = .ok (.iconst 1, 1) := by decide +kernel
theorem dL_law_613 : decode cL_law 613 = .ok (.iadd, 1) := by decide +kernel
theorem dL_law_614 : decode cL_law 614 = .ok (.iaload, 1) := by decide +kernel
theorem dL_law_615 : decode cL_law 615 = .ok (.aload_n 0, 1) := by decide +kernel
theorem dL_law_616 : decode cL_law 616 = .ok (.iload_n 3, 1) := by decide +kernel
theorem dL_law_617 : decode cL_law 617 = .ok (.iconst 2, 1) := by decide +kernel
theorem dL_law_618 : decode cL_law 618 = .ok (.iadd, 1) := by decide +kernel
theorem dL_law_619 : decode cL_law 619 = .ok (.iaload, 1) := by decide +kernel
theorem dL_law_620 : decode cL_law 620 = .ok (.invokevirtual 70, 3) := by decide +kernel
theorem dL_law_623 : decode cL_law 623 = .ok (.aload_n 2, 1) := by decide +kernel
theorem dL_law_624 : decode cL_law 624 = .ok (.aload_n 0, 1) := by decide +kernel
theorem dL_law_625 : decode cL_law 625 = .ok (.iload_n 3, 1) := by decide +kernel
theorem dL_law_626 : decode cL_law 626 = .ok (.iconst 1, 1) := by decide +kernel
theorem dL_law_627 : decode cL_law 627 = .ok (.iadd, 1) := by decide +kernel
theorem dL_law_628 : decode cL_law 628 = .ok (.iaload, 1) := by decide +kernel
theorem dL_law_629 : decode cL_law 629 = .ok (.aload_n 0, 1) := by decide +kernel
theorem dL_law_630 : decode cL_law 630 = .ok (.iload_n 3, 1) := by decide +kernel
theorem dL_law_631 : decode cL_law 631 = .ok (.iconst 2, 1) := by decide +kernel
theorem dL_law_632 : decode cL_law 632 = .ok (.iadd, 1) := by decide +kernel
theorem dL_law_633 : decode cL_law 633 = .ok (.iaload, 1) := by decide +kernel
theorem dL_law_634 : decode cL_law 634 = .ok (.invokevirtual 73, 3) := by decide +kernel
theorem dL_law_637 : decode cL_law 637 = .ok (.if_icmp .eq 172, 3) := by decide +kernel
theorem dL_law_640 : decode cL_law 640 = .ok (.iconst 0, 1) := by decide +kernel
theorem dL_law_641 : decode cL_law 641 = .ok (.ireturn, 1) := by decide +kernel
theorem dL_law_642 : decode cL_law 642 = .ok (.aload_n 1, 1) := by decide +kernel
theorem dL_law_643 : decode cL_law 643 = .ok (.aload_n 0, 1) := by decide +kernel
theorem dL_law_644 : decode cL_law 644 = .ok (.iload_n 3, 1) := by decide +kernel
theorem dL_law_645 : decode cL_law 645 = .ok (.iconst 1, 1) := by decide +kernel
theorem dL_law_646 : decode cL_law 646 = .ok (.iadd, 1) := by decide +kernel
theorem dL_law_647 : decode cL_law 647 = .ok (.iaload, 1) := by decide +kernel
theorem dL_law_648 : decode cL_law 648 = .ok (.aload_n 0, 1) := by decide +kernel
theorem dL_law_649 : decode cL_law 649 = .ok (.iload_n 3, 1) := by decide +kernel
theorem dL_law_650 : decode cL_law 650 = .ok (.iconst 2, 1) := by decide +kernel
theorem dL_law_651 : decode cL_law 651 = .ok (.iadd, 1) := by decide +kernel
theorem dL_law_652 : decode cL_law 652 = .ok (.iaload, 1) := by decide +kernel
theorem dL_law_653 : decode cL_law 653 = .ok (.invokevirtual 74, 3) := by decide +kernel
theorem dL_law_656 : decode cL_law 656 = .ok (.aload_n 2, 1) := by decide +kernel
theorem dL_law_657 : decode cL_law 657 = .ok (.aload_n 0, 1) := by decide +kernel
theorem dL_law_658 : decode cL_law 658 = .ok (.iload_n 3, 1) := by decide +kernel
theorem dL_law_659 : decode cL_law 659 = .ok (.iconst 1, 1) := by decide +kernel
theorem dL_law_660 : decode cL_law 660 = .ok (.iadd, 1) := by decide +kernel
theorem dL_law_661 : decode cL_law 661 = .ok (.iaload, 1) := by decide +kernel
theorem dL_law_662 : decode cL_law 662 = .ok (.aload_n 0, 1) := by decide +kernel
theorem dL_law_663 : decode cL_law 663 = .ok (.iload_n 3, 1) := by decide +kernel
theorem dL_law_664 : decode cL_law 664 = .ok (.iconst 2, 1) := by decide +kernel
theorem dL_law_665 : decode cL_law 665 = .ok (.iadd, 1) := by decide +kernel
theorem dL_law_666 : decode cL_law 666 = .ok (.iaload, 1) := by decide +kernel
theorem dL_law_667 : decode cL_law 667 = .ok (.invokevirtual 77, 3) := by decide +kernel
theorem dL_law_670 : decode cL_law 670 = .ok (.if_icmp .eq 139, 3) := by decide +kernel
theorem dL_law_673 : decode cL_law 673 = .ok (.iconst 0, 1) := by decide +kernel
theorem dL_law_674 : decode cL_law 674 = .ok (.ireturn, 1) := by decide +kernel
theorem dL_law_675 : decode cL_law 675 = .ok (.aload_n 1, 1) := by decide +kernel
theorem dL_law_676 : decode cL_law 676 = .ok (.invokevirtual 78, 3) := by decide +kernel
theorem dL_law_679 : decode cL_law 679 = .ok (.aload_n 2, 1) := by decide +kernel
theorem dL_law_680 : decode cL_law 680 = .ok (.invokevirtual 82, 3) := by decide +kernel
theorem dL_law_683 : decode cL_law 683 = .ok (.if_icmp .eq 126, 3) := by decide +kernel
theorem dL_law_686 : decode cL_law 686 = .ok (.iconst 0, 1) := by decide +kernel
theorem dL_law_687 : decode cL_law 687 = .ok (.ireturn, 1) := by decide +kernel
theorem dL_law_688 : decode cL_law 688 = .ok (.aload_n 1, 1) := by decide +kernel
theorem dL_law_689 : decode cL_law 689 = .ok (.invokevirtual 83, 3) := by decide +kernel
theorem dL_law_692 : decode cL_law 692 = .ok (.aload_n 2, 1) := by decide +kernel
theorem dL_law_693 : decode cL_law 693 = .ok (.invokevirtual 86, 3) := by decide +kernel
theorem dL_law_696 : decode cL_law 696 = .ok (.if_icmp .eq 113, 3) := by decide +kernel
theorem dL_law_699 : decode cL_law 699 = .ok (.iconst 0, 1) := by decide +kernel
theorem dL_law_700 : decode cL_law 700 = .ok (.ireturn, 1) := by decide +kernel
theorem dL_law_701 : decode cL_law 701 = .ok (.aload_n 1, 1) := by decide +kernel
theorem dL_law_702 : decode cL_law 702 = .ok (.aload_n 0, 1) := by decide +kernel
theorem dL_law_703 : decode cL_law 703 = .ok (.iload_n 3, 1) := by decide +kernel
theorem dL_law_704 : decode cL_law 704 = .ok (.iconst 1, 1) := by decide +kernel
theorem dL_law_705 : decode cL_law 705 = .ok (.iadd, 1) := by decide +kernel
theorem dL_law_706 : decode cL_law 706 = .ok (.iaload, 1) := by decide +kernel
theorem dL_law_707 : decode cL_law 707 = .ok (.invokevirtual 87, 3) := by decide +kernel
theorem dL_law_710 : decode cL_law 710 = .ok (.aload_n 2, 1) := by decide +kernel
theorem dL_law_711 : decode cL_law 711 = .ok (.aload_n 0, 1) := by decide +kernel
theorem dL_law_712 : decode cL_law 712 = .ok (.iload_n 3, 1) := by decide +kernel
theorem dL_law_713 : decode cL_law 713 = .ok (.iconst 1, 1) := by decide +kernel
theorem dL_law_714 : decode cL_law 714 = .ok (.iadd, 1) := by decide +kernel
theorem dL_law_715 : decode cL_law 715 = .ok (.iaload, 1) := by decide +kernel
theorem dL_law_716 : decode cL_law 716 = .ok (.invokevirtual 90, 3) := by decide +kernel
theorem dL_law_719 : decode cL_law 719 = .ok (.if_icmp .eq 90, 3) := by decide +kernel
theorem dL_law_722 : decode cL_law 722 = .ok (.iconst 0, 1) := by decide +kernel
theorem dL_law_723 : decode cL_law 723 = .ok (.ireturn, 1) := by decide +kernel
theorem dL_law_724 : decode cL_law 724 = .ok (.aload_n 1, 1) := by decide +kernel
theorem dL_law_725 : decode cL_law 725 = .ok (.invokevirtual 91, 3) := by decide +kernel
theorem dL_law_728 : decode cL_law 728 = .ok (.aload_n 2, 1) := by decide +kernel
theorem dL_law_729 : decode cL_law 729 = .ok (.invokevirtual 94, 3) := by decide +kernel
theorem dL_law_732 : decode cL_law 732 = .ok (.if_icmp .eq 77, 3) := by decide +kernel
theorem dL_law_735 : decode cL_law 735 = .ok (.iconst 0, 1) := by decide +kernel
theorem dL_law_736 : decode cL_law 736 = .ok (.ireturn, 1) := by decide +kernel
theorem dL_law_737 : decode cL_law 737 = .ok (.aload_n 1, 1) := by decide +kernel
theorem dL_law_738 : decode cL_law 738 = .ok (.aload_n 0, 1) := by decide +kernel
theorem dL_law_739 : decode cL_law 739 = .ok (.iload_n 3, 1) := by decide +kernel
theorem dL_law_740 : decode cL_law 740 = .ok (.iconst 1, 1) := by decide +kernel
theorem dL_law_741 : decode cL_law 741 = .ok (.iadd, 1) := by decide +kernel
theorem dL_law_742 : decode cL_law 742 = .ok (.iaload, 1) := by decide +kernel
theorem dL_law_743 : decode cL_law 743 = .ok (.invokevirtual 95, 3) := by decide +kernel
theorem dL_law_746 : decode cL_law 746 = .ok (.aload_n 2, 1) := by decide +kernel
theorem dL_law_747 : decode cL_law 747 = .ok (.aload_n 0, 1) := by decide +kernel
theorem dL_law_748 : decode cL_law 748 = .ok (.iload_n 3, 1) := by decide +kernel
theorem dL_law_749 : decode cL_law 749 = .ok (.iconst 1, 1) := by decide +kernel
theorem dL_law_750 : decode cL_law 750 = .ok (.iadd, 1) := by decide +kernel
theorem dL_law_751 : decode cL_law 751 = .ok (.iaload, 1) := by decide +kernel
theorem dL_law_752 : decode cL_law 752 = .ok (.invokevirtual 98, 3) := by decide +kernel
theorem dL_law_755 : decode cL_law 755 = .ok (.if_icmp .eq 54, 3) := by decide +kernel
theorem dL_law_758 : decode cL_law 758 = .ok (.iconst 0, 1) := by decide +kernel
theorem dL_law_759 : decode cL_law 759 = .ok (.ireturn, 1) := by decide +kernel
theorem dL_law_760 : decode cL_law 760 = .ok (.aload_n 1, 1) := by decide +kernel
theorem dL_law_761 : decode cL_law 761 = .ok (.invokevirtual 99, 3) := by decide +kernel
theorem dL_law_764 : decode cL_law 764 = .ok (.aload_n 2, 1) := by decide +kernel
theorem dL_law_765 : decode cL_law 765 = .ok (.invokevirtual 102, 3) := by decide +kernel
theorem dL_law_768 : decode cL_law 768 = .ok (.if_icmp .eq 41, 3) := by decide +kernel
theorem dL_law_771 : decode cL_law 771 = .ok (.iconst 0, 1) := by decide +kernel
theorem dL_law_772 : decode cL_law 772 = .ok (.ireturn, 1) := by decide +kernel
theorem dL_law_773 : decode cL_law 773 = .ok (.aload_n 1, 1) := by decide +kernel
theorem dL_law_774 : decode cL_law 774 = .ok (.aload_n 0, 1) := by decide +kernel
theorem dL_law_775 : decode cL_law 775 = .ok (.iload_n 3, 1) := by decide +kernel
theorem dL_law_776 : decode cL_law 776 = .ok (.iconst 1, 1) := by decide +kernel
theorem dL_law_777 : decode cL_law 777 = .ok (.iadd, 1) := by decide +kernel
theorem dL_law_778 : decode cL_law 778 = .ok (.iaload, 1) := by decide +kernel
theorem dL_law_779 : decode cL_law 779 = .ok (.invokevirtual 103, 3) := by decide +kernel
theorem dL_law_782 : decode cL_law 782 = .ok (.aload_n 2, 1) := by decide +kernel
theorem dL_law_783 : decode cL_law 783 = .ok (.aload_n 0, 1) := by decide +kernel
theorem dL_law_784 : decode cL_law 784 = .ok (.iload_n 3, 1) := by decide +kernel
theorem dL_law_785 : decode cL_law 785 = .ok (.iconst 1, 1) := by decide +kernel
theorem dL_law_786 : decode cL_law 786 = .ok (.iadd, 1) := by decide +kernel
theorem dL_law_787 : decode cL_law 787 = .ok (.iaload, 1) := by decide +kernel
theorem dL_law_788 : decode cL_law 788 = .ok (.invokevirtual 106, 3) := by decide +kernel
theorem dL_law_791 : decode cL_law 791 = .ok (.if_icmp .eq 18, 3) := by decide +kernel
theorem dL_law_794 : decode cL_law 794 = .ok (.iconst 0, 1) := by decide +kernel
theorem dL_law_795 : decode cL_law 795 = .ok (.ireturn, 1) := by decide +kernel
theorem dL_law_796 : decode cL_law 796 = .ok (.aload_n 1, 1) := by decide +kernel
theorem dL_law_797 : decode cL_law 797 = .ok (.invokevirtual 107, 3) := by decide +kernel
theorem dL_law_800 : decode cL_law 800 = .ok (.aload_n 2, 1) := by decide +kernel
theorem dL_law_801 : decode cL_law 801 = .ok (.invokevirtual 110, 3) := by decide +kernel
theorem dL_law_804 : decode cL_law 804 = .ok (.if_icmp .eq 5, 3) := by decide +kernel
theorem dL_law_807 : decode cL_law 807 = .ok (.iconst 0, 1) := by decide +kernel
theorem dL_law_808 : decode cL_law 808 = .ok (.ireturn, 1) := by decide +kernel
theorem dL_law_809 : decode cL_law 809 = .ok (.iinc 3 6, 3) := by decide +kernel
theorem dL_law_812 : decode cL_law 812 = .ok (.goto (-794), 3) := by decide +kernel
theorem dL_law_815 : decode cL_law 815 = .ok (.iconst 1, 1) := by decide +kernel
theorem dL_law_816 : decode cL_law 816 = .ok (.ireturn, 1) := by decide +kernel
