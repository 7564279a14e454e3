set_option maxRecDepth 20000 in
theorem ggL_law_L_zone : GoodIn wsL_law wsL_zone := goodIn_ca (goodIn_r _ [598, 106, 599, 600, 601, 2, 602, 20, 404, 403, 116, 117, 118, 119, 120, 431, 432, 433, 434, 18, 115, 412, 413, 414, 44, 415, 138, 416, 417, 347, 348, 349, 137, 435, 436, 437, 438, 143, 141, 139, 439, 654, 655, 656, 657, 658, 659, 660, 661, 662, 663, 700, 701, 702, 698, 699, 713, 714, 715, 716, 717, 718, 719, 720, 721, 722, 723] (by decide +kernel) (by decide +kernel)) (goodIn_sub (fun _ h => List.mem_append_left _ (List.mem_append_left _ (List.mem_append_right _ h))) (by decide +kernel))
set_option maxRecDepth 20000 in
theorem gL_law_L_zone : GoodIn wsL_law (va_wsS RL 141 yL_zone wsL_zone) := goodIn_app (goodIn_of _ (by decide +kernel)) ggL_law_L_zone
set_option maxRecDepth 20000 in
theorem ggL_law_X7_zone : GoodIn wsL_law wsX7_zone := goodIn_r _ [606, 153, 91, 89, 154, 155, 5, 156, 511, 512, 513, 514, 78, 88, 85, 77, 83, 80, 515, 463, 464, 465, 466, 664, 665, 666, 667, 668, 669, 670, 671, 672, 673, 674, 675, 676, 677, 678, 679, 680, 681, 682, 683, 684, 685, 686, 687, 688, 689, 690, 691, 692, 693, 694, 695, 696, 697] (by decide +kernel) (by decide +kernel)
set_option maxRecDepth 20000 in
theorem gL_law_X7_zone : GoodIn wsL_law (wsV RL 143 RX7 yX7_zone wsX7_zone) := goodIn_app (goodIn_of _ (by decide +kernel)) ggL_law_X7_zone
set_option maxRecDepth 20000 in
theorem ggL_law_L_output : GoodIn wsL_law wsL_output := goodIn_ca (goodIn_r _ [609, 106, 610, 611, 612, 2, 613, 28, 405, 116, 117, 118, 119, 120, 654, 655, 656, 657, 658, 659, 660, 661, 662, 663] (by decide +kernel) (by decide +kernel)) (goodIn_sub (fun _ h => List.mem_append_left _ (List.mem_append_left _ (List.mem_append_right _ h))) (by decide +kernel))
set_option maxRecDepth 20000 in
theorem gL_law_L_output : GoodIn wsL_law (va_wsS RL 144 yL_output wsL_output) := goodIn_app (goodIn_of _ (by decide +kernel)) ggL_law_L_output
set_option maxRecDepth 20000 in
theorem ggL_law_X7_output : GoodIn wsL_law wsX7_output := goodIn_r _ [617, 153, 97, 462, 154, 155, 5, 156, 664, 665, 666, 667, 668, 669, 670, 671, 672, 673, 674, 675, 676, 677, 678, 679, 680, 681, 682, 683, 684, 685, 686, 687, 688, 689, 690, 691, 692, 693, 694, 695, 696, 697] (by decide +kernel) (by decide +kernel)
set_option maxRecDepth 20000 in
theorem gL_law_X7_output : GoodIn wsL_law (wsV RL 146 RX7 yX7_output wsX7_output) := goodIn_app (goodIn_of _ (by decide +kernel)) ggL_law_X7_output
set_option maxRecDepth 20000 in
theorem ggL_law_L_held : GoodIn wsL_law wsL_held := goodIn_ca (goodIn_r _ [620, 106, 621, 622, 623, 2, 624, 225, 625, 366, 367, 368, 24, 422, 116, 117, 118, 119, 120, 654, 655, 656, 657, 658, 659, 660, 661, 662, 663, 703, 704, 705, 706, 707] (by decide +kernel) (by decide +kernel)) (goodIn_sub (fun _ h => List.mem_append_left _ (List.mem_append_left _ (List.mem_append_right _ h))) (by decide +kernel))
set_option maxRecDepth 20000 in
theorem gL_law_L_held : GoodIn wsL_law (va_wsS RL 147 yL_held wsL_held) := goodIn_app (goodIn_of _ (by decide +kernel)) ggL_law_L_held
set_option maxRecDepth 20000 in
theorem ggL_law_X7_held : GoodIn wsL_law wsX7_held := goodIn_r _ [629, 278, 153, 96, 154, 155, 5, 156, 664, 665, 666, 667, 668, 669, 670, 671, 672, 673, 674, 675, 676, 677, 678, 679, 680, 681, 682, 683, 684, 685, 686, 687, 688, 689, 690, 691, 692, 693, 694, 695, 696, 697] (by decide +kernel) (by decide +kernel)
set_option maxRecDepth 20000 in
theorem gL_law_X7_held : GoodIn wsL_law (wsV RL 149 RX7 yX7_held wsX7_held) := goodIn_app (goodIn_of _ (by decide +kernel)) ggL_law_X7_held
set_option maxRecDepth 20000 in
theorem ggL_law_L_log : GoodIn wsL_law wsL_log := goodIn_ca (goodIn_r _ [632, 107, 633, 634, 635, 2, 636, 36, 637, 625, 366, 367, 368, 638, 121, 122, 123, 124, 125, 654, 655, 656, 657, 658, 659, 660, 661, 662, 663, 711, 712] (by decide +kernel) (by decide +kernel)) (goodIn_sub (fun _ h => List.mem_append_left _ (List.mem_append_right _ h)) (by decide +kernel))
set_option maxRecDepth 20000 in
theorem gL_law_L_log : GoodIn wsL_law (va_wsS RL 150 yL_log wsL_log) := goodIn_app (goodIn_of _ (by decide +kernel)) ggL_law_L_log
set_option maxRecDepth 20000 in
theorem ggL_law_X7_log : GoodIn wsL_law wsX7_log := goodIn_r _ [642, 487, 153, 99, 154, 155, 5, 156, 664, 665, 666, 667, 668, 669, 670, 671, 672, 673, 674, 675, 676, 677, 678, 679, 680, 681, 682, 683, 684, 685, 686, 687, 688, 689, 690, 691, 692, 693, 694, 695, 696, 697] (by decide +kernel) (by decide +kernel)
set_option maxRecDepth 20000 in
theorem gL_law_X7_log : GoodIn wsL_law (wsV RL 153 RX7 yX7_log wsX7_log) := goodIn_app (goodIn_of _ (by decide +kernel)) ggL_law_X7_log
set_option maxRecDepth 20000 in
theorem ggL_law_L_count : GoodIn wsL_law wsL_count := goodIn_ca (goodIn_r _ [645, 107, 646, 647, 648, 2, 649, 124, 125, 328, 225, 132, 405, 32, 226, 427, 428, 429, 430, 18, 115, 355, 654, 655, 656, 657, 658, 659, 660, 661, 662, 663, 708, 709, 710, 698, 699, 713, 714, 715, 716, 717, 718, 719, 720, 721, 722, 723] (by decide +kernel) (by decide +kernel)) (goodIn_sub (fun _ h => List.mem_append_left _ (List.mem_append_right _ h)) (by decide +kernel))
set_option maxRecDepth 20000 in
theorem gL_law_L_count : GoodIn wsL_law (va_wsS RL 154 yL_count wsL_count) := goodIn_app (goodIn_of _ (by decide +kernel)) ggL_law_L_count
set_option maxRecDepth 20000 in
theorem ggL_law_X7_count : GoodIn wsL_law wsX7_count := goodIn_r _ [653, 153, 461, 278, 152, 462, 217, 154, 155, 5, 156, 507, 508, 509, 510, 87, 664, 665, 666, 667, 668, 669, 670, 671, 672, 673, 674, 675, 676, 677, 678, 679, 680, 681, 682, 683, 684, 685, 686, 687, 688, 689, 690, 691, 692, 693, 694, 695, 696, 697] (by decide +kernel) (by decide +kernel)
set_option maxRecDepth 20000 in
theorem gL_law_X7_count : GoodIn wsL_law (wsV RL 156 RX7 yX7_count wsX7_count) := goodIn_app (goodIn_of _ (by decide +kernel)) ggL_law_X7_count
