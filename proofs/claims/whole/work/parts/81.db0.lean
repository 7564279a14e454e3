set_option maxRecDepth 20000 in
theorem ggL_law_X6_init : GoodIn wsL_law wsX6_init := goodIn_r _ [11, 12, 13, 14, 15, 16, 17, 18, 19, 20, 21, 22, 23, 24, 25, 26, 27, 28, 29, 30, 31, 32, 33, 34, 35, 36, 37, 38, 39, 40, 41, 42, 43, 44, 45, 46, 47, 48, 49, 50, 51, 52, 53, 54, 55, 56, 57, 58, 59, 60, 61, 62, 63, 64, 65, 66, 67, 68, 69, 70, 71, 698, 699, 654, 655, 656, 657, 658, 659, 660, 661, 662, 663, 700, 701, 702, 703, 704, 705, 706, 707, 708, 709, 710, 711, 712, 713, 714, 715, 716, 717, 718, 719, 720, 721, 722, 723] (by decide +kernel) (by decide +kernel)
set_option maxRecDepth 20000 in
theorem gL_law_X6_init : GoodIn wsL_law (wsX6_init) := ggL_law_X6_init
set_option maxRecDepth 20000 in
theorem ggL_law_X7_init : GoodIn wsL_law wsX7_init := goodIn_r _ [74, 75, 13, 14, 45, 76, 77, 78, 79, 80, 81, 82, 83, 84, 27, 85, 86, 87, 88, 89, 90, 91, 92, 93, 94, 95, 96, 97, 65, 98, 99, 100, 101, 664, 665, 666, 667, 668, 669, 670, 671, 672, 673, 674, 675, 676, 677, 678, 679, 680, 681, 682, 683, 684, 685, 686, 687, 688, 689, 690, 691, 692, 693, 694, 695, 696, 697] (by decide +kernel) (by decide +kernel)
set_option maxRecDepth 20000 in
theorem gL_law_X7_init : GoodIn wsL_law (wsX7_init) := ggL_law_X7_init
set_option maxRecDepth 20000 in
theorem ggL_law_L_fit : GoodIn wsL_law wsL_fit := goodIn_ca (goodIn_ca (goodIn_ca (goodIn_r _ [105, 106, 107, 108, 109, 110, 111, 2, 112, 113, 114, 18, 115, 116, 117, 118, 119, 120, 121, 122, 123, 124, 125, 126, 127, 128, 129, 130, 131, 132, 133, 134, 135, 44, 136, 137, 138, 139, 140, 141, 142, 143, 144, 145, 654, 655, 656, 657, 658, 659, 660, 661, 662, 663, 698, 699, 713, 714, 715, 716, 717, 718, 719, 720, 721, 722, 723] (by decide +kernel) (by decide +kernel)) (goodIn_sub (fun _ h => List.mem_append_left _ (List.mem_append_left _ (List.mem_append_right _ h))) (by decide +kernel))) (goodIn_sub (fun _ h => List.mem_append_left _ (List.mem_append_right _ h)) (by decide +kernel))) (goodIn_sub (fun _ h => List.mem_append_right _ h) (by decide +kernel))
set_option maxRecDepth 20000 in
theorem gL_law_L_fit : GoodIn wsL_law (va_wsS RL 80 yL_fit wsL_fit) := goodIn_app (goodIn_of _ (by decide +kernel)) ggL_law_L_fit
set_option maxRecDepth 20000 in
theorem ggL_law_X7_fit : GoodIn wsL_law wsX7_fit := goodIn_r _ [149, 150, 151, 152, 153, 77, 78, 80, 82, 83, 84, 85, 86, 87, 154, 155, 5, 156, 664, 665, 666, 667, 668, 669, 670, 671, 672, 673, 674, 675, 676, 677, 678, 679, 680, 681, 682, 683, 684, 685, 686, 687, 688, 689, 690, 691, 692, 693, 694, 695, 696, 697] (by decide +kernel) (by decide +kernel)
set_option maxRecDepth 20000 in
theorem gL_law_X7_fit : GoodIn wsL_law (wsV RL 85 RX7 yX7_fit wsX7_fit) := goodIn_app (goodIn_of _ (by decide +kernel)) ggL_law_X7_fit
set_option maxRecDepth 20000 in
theorem ggL_law_X7_thrown : GoodIn wsL_law wsX7_thrown := goodIn_r _ [160, 153, 664, 665, 666, 667, 668, 669, 670, 671, 672, 673, 674, 675, 676, 677, 678, 679, 680, 681, 682, 683, 684, 685, 686, 687, 688, 689, 690, 691, 692, 693, 694, 695, 696, 697] (by decide +kernel) (by decide +kernel)
set_option maxRecDepth 20000 in
theorem gL_law_X7_thrown : GoodIn wsL_law (wsV RL 86 RX7 yX7_thrown wsX7_thrown) := goodIn_app (goodIn_of _ (by decide +kernel)) ggL_law_X7_thrown
set_option maxRecDepth 20000 in
theorem ggL_law_L_need : GoodIn wsL_law wsL_need := goodIn_ca (goodIn_ca (goodIn_ca (goodIn_r _ [163, 106, 107, 108, 164, 165, 166, 2, 167, 20, 168, 116, 117, 118, 119, 120, 121, 122, 123, 124, 125, 126, 127, 128, 129, 130, 131, 132, 654, 655, 656, 657, 658, 659, 660, 661, 662, 663, 700, 701, 702] (by decide +kernel) (by decide +kernel)) (goodIn_sub (fun _ h => List.mem_append_left _ (List.mem_append_left _ (List.mem_append_right _ h))) (by decide +kernel))) (goodIn_sub (fun _ h => List.mem_append_left _ (List.mem_append_right _ h)) (by decide +kernel))) (goodIn_sub (fun _ h => List.mem_append_right _ h) (by decide +kernel))
set_option maxRecDepth 20000 in
theorem gL_law_L_need : GoodIn wsL_law (va_wsS RL 89 yL_need wsL_need) := goodIn_app (goodIn_of _ (by decide +kernel)) ggL_law_L_need
set_option maxRecDepth 20000 in
theorem ggL_law_X7_need : GoodIn wsL_law wsX7_need := goodIn_r _ [172, 152, 153, 90, 154, 155, 5, 156, 664, 665, 666, 667, 668, 669, 670, 671, 672, 673, 674, 675, 676, 677, 678, 679, 680, 681, 682, 683, 684, 685, 686, 687, 688, 689, 690, 691, 692, 693, 694, 695, 696, 697] (by decide +kernel) (by decide +kernel)
set_option maxRecDepth 20000 in
theorem gL_law_X7_need : GoodIn wsL_law (wsV RL 92 RX7 yX7_need wsX7_need) := goodIn_app (goodIn_of _ (by decide +kernel)) ggL_law_X7_need
set_option maxRecDepth 20000 in
theorem ggL_law_L_wire : GoodIn wsL_law wsL_wire := goodIn_ca (goodIn_ca (goodIn_r _ [175, 106, 107, 176, 177, 178, 2, 179, 18, 180, 116, 117, 118, 119, 120, 121, 122, 123, 124, 125, 654, 655, 656, 657, 658, 659, 660, 661, 662, 663, 698, 699] (by decide +kernel) (by decide +kernel)) (goodIn_sub (fun _ h => List.mem_append_left _ (List.mem_append_left _ (List.mem_append_right _ h))) (by decide +kernel))) (goodIn_sub (fun _ h => List.mem_append_left _ (List.mem_append_right _ h)) (by decide +kernel))
set_option maxRecDepth 20000 in
theorem gL_law_L_wire : GoodIn wsL_law (va_wsS RL 93 yL_wire wsL_wire) := goodIn_app (goodIn_of _ (by decide +kernel)) ggL_law_L_wire
set_option maxRecDepth 20000 in
theorem ggL_law_X7_wire : GoodIn wsL_law wsX7_wire := goodIn_r _ [184, 153, 76, 154, 155, 5, 156, 664, 665, 666, 667, 668, 669, 670, 671, 672, 673, 674, 675, 676, 677, 678, 679, 680, 681, 682, 683, 684, 685, 686, 687, 688, 689, 690, 691, 692, 693, 694, 695, 696, 697] (by decide +kernel) (by decide +kernel)
set_option maxRecDepth 20000 in
theorem gL_law_X7_wire : GoodIn wsL_law (wsV RL 95 RX7 yX7_wire wsX7_wire) := goodIn_app (goodIn_of _ (by decide +kernel)) ggL_law_X7_wire
set_option maxRecDepth 20000 in
theorem ggL_law_L_reading : GoodIn wsL_law wsL_reading := goodIn_ca (goodIn_ca (goodIn_r _ [187, 106, 107, 188, 189, 190, 2, 191, 192, 193, 18, 115, 194, 116, 117, 118, 119, 120, 121, 122, 123, 124, 125, 654, 655, 656, 657, 658, 659, 660, 661, 662, 663, 698, 699, 713, 714, 715, 716, 717, 718, 719, 720, 721, 722, 723] (by decide +kernel) (by decide +kernel)) (goodIn_sub (fun _ h => List.mem_append_left _ (List.mem_append_left _ (List.mem_append_right _ h))) (by decide +kernel))) (goodIn_sub (fun _ h => List.mem_append_left _ (List.mem_append_right _ h)) (by decide +kernel))
set_option maxRecDepth 20000 in
theorem gL_law_L_reading : GoodIn wsL_law (va_wsS RL 96 yL_reading wsL_reading) := goodIn_app (goodIn_of _ (by decide +kernel)) ggL_law_L_reading
set_option maxRecDepth 20000 in
theorem ggL_law_X7_reading : GoodIn wsL_law wsX7_reading := goodIn_r _ [198, 199, 200, 153, 81, 154, 155, 5, 156, 664, 665, 666, 667, 668, 669, 670, 671, 672, 673, 674, 675, 676, 677, 678, 679, 680, 681, 682, 683, 684, 685, 686, 687, 688, 689, 690, 691, 692, 693, 694, 695, 696, 697] (by decide +kernel) (by decide +kernel)
set_option maxRecDepth 20000 in
theorem gL_law_X7_reading : GoodIn wsL_law (wsV RL 99 RX7 yX7_reading wsX7_reading) := goodIn_app (goodIn_of _ (by decide +kernel)) ggL_law_X7_reading
