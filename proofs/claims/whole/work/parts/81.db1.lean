set_option maxRecDepth 20000 in
theorem ggL_law_X6_type : GoodIn wsL_law wsX6_type := goodIn_r _ [204, 32, 205, 206, 207, 31, 208, 209, 66, 210, 211, 212, 654, 655, 656, 657, 658, 659, 660, 661, 662, 663, 708, 709, 710] (by decide +kernel) (by decide +kernel)
set_option maxRecDepth 20000 in
theorem gL_law_X6_type : GoodIn wsL_law (wsV RL 100 RX6 yX6_type wsX6_type) := goodIn_app (goodIn_of _ (by decide +kernel)) ggL_law_X6_type
set_option maxRecDepth 20000 in
theorem ggL_law_X7_type : GoodIn wsL_law wsX7_type := goodIn_r _ [216, 153, 217, 98, 664, 665, 666, 667, 668, 669, 670, 671, 672, 673, 674, 675, 676, 677, 678, 679, 680, 681, 682, 683, 684, 685, 686, 687, 688, 689, 690, 691, 692, 693, 694, 695, 696, 697] (by decide +kernel) (by decide +kernel)
set_option maxRecDepth 20000 in
theorem gL_law_X7_type : GoodIn wsL_law (wsV RL 104 RX7 yX7_type wsX7_type) := goodIn_app (goodIn_of _ (by decide +kernel)) ggL_law_X7_type
set_option maxRecDepth 20000 in
theorem ggL_law_L_rule : GoodIn wsL_law wsL_rule := goodIn_ca (goodIn_r _ [220, 108, 221, 222, 223, 2, 224, 130, 131, 225, 32, 24, 226, 126, 127, 128, 129, 132, 227, 228, 229, 31, 230, 231, 209, 232, 233, 234, 26, 235, 236, 237, 238, 239, 240, 241, 242, 243, 244, 245, 246, 247, 248, 249, 250, 66, 251, 252, 253, 254, 60, 255, 256, 257, 258, 259, 260, 261, 262, 263, 264, 265, 266, 267, 268, 269, 270, 271, 272, 273, 654, 655, 656, 657, 658, 659, 660, 661, 662, 663, 708, 709, 710, 703, 704, 705, 706, 707] (by decide +kernel) (by decide +kernel)) (goodIn_sub (fun _ h => List.mem_append_right _ h) (by decide +kernel))
set_option maxRecDepth 20000 in
theorem gL_law_L_rule : GoodIn wsL_law (va_wsS RL 105 yL_rule wsL_rule) := goodIn_app (goodIn_of _ (by decide +kernel)) ggL_law_L_rule
set_option maxRecDepth 20000 in
theorem ggL_law_X7_rule : GoodIn wsL_law wsX7_rule := goodIn_r _ [277, 152, 278, 153, 217, 279, 280, 281, 5, 282, 283, 92, 101, 93, 94, 95, 96, 284, 285, 286, 287, 288, 289, 290, 291, 292, 98, 293, 294, 295, 296, 100, 297, 298, 299, 300, 301, 302, 303, 304, 305, 306, 307, 308, 664, 665, 666, 667, 668, 669, 670, 671, 672, 673, 674, 675, 676, 677, 678, 679, 680, 681, 682, 683, 684, 685, 686, 687, 688, 689, 690, 691, 692, 693, 694, 695, 696, 697] (by decide +kernel) (by decide +kernel)
set_option maxRecDepth 20000 in
theorem gL_law_X7_rule : GoodIn wsL_law (wsV RL 108 RX7 yX7_rule wsX7_rule) := goodIn_app (goodIn_of _ (by decide +kernel)) ggL_law_X7_rule
set_option maxRecDepth 20000 in
theorem ggL_law_L_forget : GoodIn wsL_law wsL_forget := goodIn_ca (goodIn_r _ [311, 108, 312, 313, 314, 2, 315, 225, 126, 127, 128, 129, 130, 131, 132, 316, 317, 318, 319, 28, 654, 655, 656, 657, 658, 659, 660, 661, 662, 663] (by decide +kernel) (by decide +kernel)) (goodIn_sub (fun _ h => List.mem_append_right _ h) (by decide +kernel))
set_option maxRecDepth 20000 in
theorem gL_law_L_forget : GoodIn wsL_law (va_wsS RL 109 yL_forget wsL_forget) := goodIn_app (goodIn_of _ (by decide +kernel)) ggL_law_L_forget
set_option maxRecDepth 20000 in
theorem ggL_law_X7_forget : GoodIn wsL_law wsX7_forget := goodIn_r _ [323, 152, 153, 278, 97, 664, 665, 666, 667, 668, 669, 670, 671, 672, 673, 674, 675, 676, 677, 678, 679, 680, 681, 682, 683, 684, 685, 686, 687, 688, 689, 690, 691, 692, 693, 694, 695, 696, 697] (by decide +kernel) (by decide +kernel)
set_option maxRecDepth 20000 in
theorem gL_law_X7_forget : GoodIn wsL_law (wsV RL 111 RX7 yX7_forget wsX7_forget) := goodIn_app (goodIn_of _ (by decide +kernel)) ggL_law_X7_forget
set_option maxRecDepth 20000 in
theorem ggL_law_X6_poll : GoodIn wsL_law wsX6_poll := goodIn_r _ [327, 328, 329, 330, 331, 2, 332, 18, 115, 333, 334, 335, 17, 336, 337, 338, 339, 340, 46, 341, 342, 343, 344, 42, 345, 346, 347, 348, 44, 349, 137, 350, 351, 352, 353, 354, 355, 36, 356, 357, 358, 35, 359, 71, 360, 361, 362, 363, 364, 365, 366, 367, 368, 369, 370, 371, 372, 373, 374, 375, 376, 377, 142, 143, 378, 379, 380, 381, 382, 140, 141, 383, 384, 385, 386, 387, 388, 139, 389, 390, 391, 392, 393, 394, 395, 396, 397, 398, 399, 400, 401, 402, 20, 403, 404, 168, 405, 406, 407, 408, 409, 410, 411, 412, 413, 414, 415, 138, 416, 417, 418, 419, 420, 421, 225, 24, 422, 423, 424, 425, 426, 427, 428, 429, 430, 431, 432, 433, 434, 435, 436, 437, 438, 439, 440, 441, 442, 26, 443, 236, 60, 444, 445, 446, 447, 448, 449, 450, 28, 451, 452, 453, 454, 455, 456, 654, 655, 656, 657, 658, 659, 660, 661, 662, 663, 698, 699, 713, 714, 715, 716, 717, 718, 719, 720, 721, 722, 723, 711, 712, 700, 701, 702, 703, 704, 705, 706, 707] (by decide +kernel) (by decide +kernel)
set_option maxRecDepth 20000 in
theorem gL_law_X6_poll : GoodIn wsL_law (wsV RL 112 RX6 yX6_poll wsX6_poll) := goodIn_app (goodIn_of _ (by decide +kernel)) ggL_law_X6_poll
set_option maxRecDepth 20000 in
theorem ggL_law_X7_poll : GoodIn wsL_law wsX7_poll := goodIn_r _ [460, 153, 461, 91, 462, 463, 464, 465, 5, 466, 77, 154, 155, 156, 467, 468, 469, 470, 86, 87, 88, 471, 472, 473, 474, 475, 476, 477, 478, 76, 479, 480, 481, 482, 483, 484, 485, 486, 99, 487, 488, 489, 490, 491, 81, 84, 83, 82, 150, 492, 493, 80, 494, 85, 495, 496, 497, 498, 78, 89, 90, 499, 500, 501, 502, 278, 96, 94, 95, 97, 503, 504, 505, 506, 93, 92, 507, 508, 509, 510, 511, 512, 513, 514, 515, 664, 665, 666, 667, 668, 669, 670, 671, 672, 673, 674, 675, 676, 677, 678, 679, 680, 681, 682, 683, 684, 685, 686, 687, 688, 689, 690, 691, 692, 693, 694, 695, 696, 697] (by decide +kernel) (by decide +kernel)
set_option maxRecDepth 20000 in
theorem gL_law_X7_poll : GoodIn wsL_law (wsV RL 115 RX7 yX7_poll wsX7_poll) := goodIn_app (goodIn_of _ (by decide +kernel)) ggL_law_X7_poll
set_option maxRecDepth 20000 in
theorem ggL_law_X6_key : GoodIn wsL_law wsX6_key := goodIn_r _ [519, 132, 654, 655, 656, 657, 658, 659, 660, 661, 662, 663] (by decide +kernel) (by decide +kernel)
set_option maxRecDepth 20000 in
theorem gL_law_X6_key : GoodIn wsL_law (wsV RL 116 RX6 yX6_key wsX6_key) := goodIn_app (goodIn_of _ (by decide +kernel)) ggL_law_X6_key
set_option maxRecDepth 20000 in
theorem ggL_law_X7_key : GoodIn wsL_law wsX7_key := goodIn_r _ [523, 153, 152, 664, 665, 666, 667, 668, 669, 670, 671, 672, 673, 674, 675, 676, 677, 678, 679, 680, 681, 682, 683, 684, 685, 686, 687, 688, 689, 690, 691, 692, 693, 694, 695, 696, 697] (by decide +kernel) (by decide +kernel)
set_option maxRecDepth 20000 in
theorem gL_law_X7_key : GoodIn wsL_law (wsV RL 119 RX7 yX7_key wsX7_key) := goodIn_app (goodIn_of _ (by decide +kernel)) ggL_law_X7_key
set_option maxRecDepth 20000 in
theorem ggL_law_L_silence : GoodIn wsL_law wsL_silence := goodIn_ca (goodIn_r _ [526, 108, 527, 528, 529, 2, 530, 405, 36, 328, 126, 127, 128, 129, 130, 131, 132, 356, 357, 358, 35, 359, 71, 360, 361, 362, 363, 364, 365, 366, 367, 368, 654, 655, 656, 657, 658, 659, 660, 661, 662, 663, 711, 712] (by decide +kernel) (by decide +kernel)) (goodIn_sub (fun _ h => List.mem_append_right _ h) (by decide +kernel))
set_option maxRecDepth 20000 in
theorem gL_law_L_silence : GoodIn wsL_law (va_wsS RL 120 yL_silence wsL_silence) := goodIn_app (goodIn_of _ (by decide +kernel)) ggL_law_L_silence
