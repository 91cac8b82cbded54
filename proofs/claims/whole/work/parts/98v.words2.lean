set_option maxRecDepth 20000 in
theorem ggL_law_X6_init : GoodIn wsL_law wsX6_init := goodIn_r _ [9, 10, 11, 12, 13, 14, 15, 16, 17, 18, 19, 20, 21, 22, 23, 24, 25, 26, 27, 28, 29, 30, 31, 32, 33, 34, 35, 36, 37, 38, 39, 40, 41, 42, 43, 44, 45, 46, 47, 48, 49, 50, 51, 52, 53, 54, 55, 56, 57, 58, 59, 60, 61, 62, 63, 64, 65, 66, 67, 68, 763, 764, 765, 766, 767, 711, 712, 713, 714, 715, 716, 717, 718, 719, 720, 768, 769, 770, 771, 772, 773, 774, 775, 776, 777, 778, 779, 780, 781] (by decide +kernel) (by decide +kernel)
set_option maxRecDepth 20000 in
theorem gL_law_X6_init : GoodIn wsL_law (wsX6_init) := ggL_law_X6_init
set_option maxRecDepth 20000 in
theorem ggL_law_X7_init : GoodIn wsL_law wsX7_init := goodIn_r _ [71, 72, 11, 12, 73, 34, 74, 75, 76, 77, 78, 79, 80, 81, 82, 83, 84, 85, 86, 87, 88, 89, 90, 91, 92, 93, 94, 95, 96, 97, 98, 99, 100, 101, 102, 103, 104, 105, 106, 107, 108, 109, 110, 111, 5, 112, 113, 114, 721, 722, 723, 724, 725, 726, 727, 728, 729, 730, 731, 732, 733, 734, 735, 736, 737, 738, 739, 740, 741, 742, 743, 744, 745, 746, 747, 748, 749, 750, 751, 752, 753, 754, 755, 756, 757, 758, 759, 760, 761, 762] (by decide +kernel) (by decide +kernel)
set_option maxRecDepth 20000 in
theorem gL_law_X7_init : GoodIn wsL_law (wsX7_init) := ggL_law_X7_init
set_option maxRecDepth 20000 in
theorem ggL_law_L_street : GoodIn wsL_law wsL_street := goodIn_ca (goodIn_ca (goodIn_ca (goodIn_r _ [118, 119, 120, 121, 122, 123, 124, 2, 125, 126, 127, 128, 129, 16, 130, 131, 132, 133, 134, 135, 136, 15, 137, 138, 139, 140, 141, 142, 143, 144, 45, 35, 36, 37, 40, 41, 42, 43, 39, 44, 46, 47, 48, 49, 50, 51, 52, 53, 711, 712, 713, 714, 715, 716, 717, 718, 719, 720, 763, 764, 765, 766, 767] (by decide +kernel) (by decide +kernel)) (goodIn_sub (fun _ h => List.mem_append_left _ (List.mem_append_left _ (List.mem_append_right _ h))) (by decide +kernel))) (goodIn_sub (fun _ h => List.mem_append_left _ (List.mem_append_right _ h)) (by decide +kernel))) (goodIn_sub (fun _ h => List.mem_append_right _ h) (by decide +kernel))
set_option maxRecDepth 20000 in
theorem gL_law_L_street : GoodIn wsL_law (va_wsS RL 83 yL_street wsL_street) := goodIn_app (goodIn_of _ (by decide +kernel)) ggL_law_L_street
set_option maxRecDepth 20000 in
theorem ggL_law_X7_street : GoodIn wsL_law wsX7_street := goodIn_r _ [148, 114, 74, 75, 76, 149, 150, 5, 151, 152, 153, 154, 155, 156, 157, 158, 159, 109, 110, 111, 112, 77, 113, 721, 722, 723, 724, 725, 726, 727, 728, 729, 730, 731, 732, 733, 734, 735, 736, 737, 738, 739, 740, 741, 742, 743, 744, 745, 746, 747, 748, 749, 750, 751, 752, 753, 754, 755, 756, 757, 758, 759, 760, 761, 762] (by decide +kernel) (by decide +kernel)
set_option maxRecDepth 20000 in
theorem gL_law_X7_street : GoodIn wsL_law (wsV RL 88 RX7 yX7_street wsX7_street) := goodIn_app (goodIn_of _ (by decide +kernel)) ggL_law_X7_street
set_option maxRecDepth 20000 in
theorem ggL_law_X7_thrown : GoodIn wsL_law wsX7_thrown := goodIn_r _ [163, 159, 721, 722, 723, 724, 725, 726, 727, 728, 729, 730, 731, 732, 733, 734, 735, 736, 737, 738, 739, 740, 741, 742, 743, 744, 745, 746, 747, 748, 749, 750, 751, 752, 753, 754, 755, 756, 757, 758, 759, 760, 761, 762] (by decide +kernel) (by decide +kernel)
set_option maxRecDepth 20000 in
theorem gL_law_X7_thrown : GoodIn wsL_law (wsV RL 89 RX7 yX7_thrown wsX7_thrown) := goodIn_app (goodIn_of _ (by decide +kernel)) ggL_law_X7_thrown
set_option maxRecDepth 20000 in
theorem ggL_law_L_slow : GoodIn wsL_law wsL_slow := goodIn_ca (goodIn_ca (goodIn_r _ [166, 119, 120, 167, 168, 169, 2, 170, 133, 134, 16, 138, 139, 140, 126, 127, 171, 172, 173, 15, 174, 37, 40, 41, 42, 43, 39, 44, 45, 35, 36, 46, 47, 48, 49, 50, 51, 52, 53, 711, 712, 713, 714, 715, 716, 717, 718, 719, 720, 763, 764, 765, 766, 767] (by decide +kernel) (by decide +kernel)) (goodIn_sub (fun _ h => List.mem_append_right _ h) (by decide +kernel))) (goodIn_sub (fun _ h => List.mem_append_left _ (List.mem_append_left _ (List.mem_append_right _ h))) (by decide +kernel))
set_option maxRecDepth 20000 in
theorem gL_law_L_slow : GoodIn wsL_law (va_wsS RL 92 yL_slow wsL_slow) := goodIn_app (goodIn_of _ (by decide +kernel)) ggL_law_L_slow
set_option maxRecDepth 20000 in
theorem ggL_law_X7_slow : GoodIn wsL_law wsX7_slow := goodIn_r _ [178, 114, 76, 152, 153, 5, 154, 155, 156, 157, 158, 159, 109, 110, 111, 112, 77, 113, 74, 75, 721, 722, 723, 724, 725, 726, 727, 728, 729, 730, 731, 732, 733, 734, 735, 736, 737, 738, 739, 740, 741, 742, 743, 744, 745, 746, 747, 748, 749, 750, 751, 752, 753, 754, 755, 756, 757, 758, 759, 760, 761, 762] (by decide +kernel) (by decide +kernel)
set_option maxRecDepth 20000 in
theorem gL_law_X7_slow : GoodIn wsL_law (wsV RL 95 RX7 yX7_slow wsX7_slow) := goodIn_app (goodIn_of _ (by decide +kernel)) ggL_law_X7_slow
set_option maxRecDepth 20000 in
theorem ggL_law_L_way : GoodIn wsL_law wsL_way := goodIn_ca (goodIn_r _ [181, 119, 182, 183, 184, 2, 185, 16, 130, 131, 132, 133, 134, 135, 136, 15, 137, 186, 187, 188, 189, 39, 44, 190, 711, 712, 713, 714, 715, 716, 717, 718, 719, 720, 763, 764, 765, 766, 767] (by decide +kernel) (by decide +kernel)) (goodIn_sub (fun _ h => List.mem_append_right _ h) (by decide +kernel))
set_option maxRecDepth 20000 in
theorem gL_law_L_way : GoodIn wsL_law (va_wsS RL 96 yL_way wsL_way) := goodIn_app (goodIn_of _ (by decide +kernel)) ggL_law_L_way
set_option maxRecDepth 20000 in
theorem ggL_law_X7_way : GoodIn wsL_law wsX7_way := goodIn_r _ [194, 113, 149, 150, 5, 151, 152, 153, 154, 155, 156, 157, 158, 159, 195, 196, 197, 198, 77, 721, 722, 723, 724, 725, 726, 727, 728, 729, 730, 731, 732, 733, 734, 735, 736, 737, 738, 739, 740, 741, 742, 743, 744, 745, 746, 747, 748, 749, 750, 751, 752, 753, 754, 755, 756, 757, 758, 759, 760, 761, 762] (by decide +kernel) (by decide +kernel)
set_option maxRecDepth 20000 in
theorem gL_law_X7_way : GoodIn wsL_law (wsV RL 98 RX7 yX7_way wsX7_way) := goodIn_app (goodIn_of _ (by decide +kernel)) ggL_law_X7_way
set_option maxRecDepth 20000 in
theorem ggL_law_L_driver : GoodIn wsL_law wsL_driver := goodIn_ca (goodIn_ca (goodIn_r _ [201, 119, 121, 202, 203, 204, 2, 205, 128, 129, 206, 17, 207, 208, 18, 130, 131, 132, 133, 134, 135, 136, 15, 137, 209, 210, 211, 212, 11, 12, 213, 214, 215, 216, 217, 218, 34, 219, 220, 221, 222, 223, 224, 225, 226, 227, 79, 228, 229, 230, 231, 232, 233, 234, 235, 236, 237, 238, 239, 711, 712, 713, 714, 715, 716, 717, 718, 719, 720, 782, 783, 784, 785, 786, 787, 788, 789, 790, 791, 792, 793, 794, 795, 796, 797, 798] (by decide +kernel) (by decide +kernel)) (goodIn_sub (fun _ h => List.mem_append_left _ (List.mem_append_right _ h)) (by decide +kernel))) (goodIn_sub (fun _ h => List.mem_append_right _ h) (by decide +kernel))
set_option maxRecDepth 20000 in
theorem gL_law_L_driver : GoodIn wsL_law (va_wsS RL 99 yL_driver wsL_driver) := goodIn_app (goodIn_of _ (by decide +kernel)) ggL_law_L_driver
set_option maxRecDepth 20000 in
theorem ggL_law_X7_driver : GoodIn wsL_law wsX7_driver := goodIn_r _ [243, 244, 78, 149, 150, 5, 151, 152, 153, 154, 155, 156, 157, 158, 159, 245, 246, 247, 248, 249, 86, 250, 251, 252, 253, 82, 80, 81, 721, 722, 723, 724, 725, 726, 727, 728, 729, 730, 731, 732, 733, 734, 735, 736, 737, 738, 739, 740, 741, 742, 743, 744, 745, 746, 747, 748, 749, 750, 751, 752, 753, 754, 755, 756, 757, 758, 759, 760, 761, 762] (by decide +kernel) (by decide +kernel)
set_option maxRecDepth 20000 in
theorem gL_law_X7_driver : GoodIn wsL_law (wsV RL 102 RX7 yX7_driver wsX7_driver) := goodIn_app (goodIn_of _ (by decide +kernel)) ggL_law_X7_driver
set_option maxRecDepth 20000 in
theorem ggL_law_L_rest : GoodIn wsL_law wsL_rest := goodIn_ca (goodIn_ca (goodIn_r _ [256, 119, 121, 257, 258, 259, 2, 260, 128, 129, 261, 262, 263, 264, 133, 134, 206, 18, 234, 235, 236, 208, 237, 218, 238, 239, 229, 230, 231, 232, 233, 782, 783, 784, 785, 786, 787, 788, 789, 790, 791, 792, 793, 794, 795, 796, 797, 798, 711, 712, 713, 714, 715, 716, 717, 718, 719, 720] (by decide +kernel) (by decide +kernel)) (goodIn_sub (fun _ h => List.mem_append_left _ (List.mem_append_right _ h)) (by decide +kernel))) (goodIn_sub (fun _ h => List.mem_append_right _ h) (by decide +kernel))
set_option maxRecDepth 20000 in
theorem gL_law_L_rest : GoodIn wsL_law (va_wsS RL 103 yL_rest wsL_rest) := goodIn_app (goodIn_of _ (by decide +kernel)) ggL_law_L_rest
set_option maxRecDepth 20000 in
theorem ggL_law_X7_rest : GoodIn wsL_law wsX7_rest := goodIn_r _ [268, 82, 80, 269, 270, 271, 5, 272, 244, 152, 153, 154, 155, 156, 157, 158, 159, 245, 246, 247, 248, 249, 86, 250, 251, 252, 253, 81, 721, 722, 723, 724, 725, 726, 727, 728, 729, 730, 731, 732, 733, 734, 735, 736, 737, 738, 739, 740, 741, 742, 743, 744, 745, 746, 747, 748, 749, 750, 751, 752, 753, 754, 755, 756, 757, 758, 759, 760, 761, 762] (by decide +kernel) (by decide +kernel)
set_option maxRecDepth 20000 in
theorem gL_law_X7_rest : GoodIn wsL_law (wsV RL 106 RX7 yX7_rest wsX7_rest) := goodIn_app (goodIn_of _ (by decide +kernel)) ggL_law_X7_rest
set_option maxRecDepth 20000 in
theorem ggL_law_L_wander : GoodIn wsL_law wsL_wander := goodIn_ca (goodIn_ca (goodIn_r _ [275, 119, 121, 276, 277, 278, 2, 279, 128, 129, 16, 280, 261, 262, 263, 264, 133, 134, 206, 18, 130, 131, 132, 135, 136, 15, 137, 186, 187, 188, 189, 39, 44, 190, 234, 235, 236, 208, 237, 218, 238, 239, 281, 282, 283, 217, 284, 285, 225, 227, 228, 286, 287, 288, 289, 711, 712, 713, 714, 715, 716, 717, 718, 719, 720, 782, 783, 784, 785, 786, 787, 788, 789, 790, 791, 792, 793, 794, 763, 764, 765, 766, 767, 795, 796, 797, 798] (by decide +kernel) (by decide +kernel)) (goodIn_sub (fun _ h => List.mem_append_left _ (List.mem_append_right _ h)) (by decide +kernel))) (goodIn_sub (fun _ h => List.mem_append_right _ h) (by decide +kernel))
set_option maxRecDepth 20000 in
theorem gL_law_L_wander : GoodIn wsL_law (va_wsS RL 107 yL_wander wsL_wander) := goodIn_app (goodIn_of _ (by decide +kernel)) ggL_law_L_wander
set_option maxRecDepth 20000 in
theorem ggL_law_X7_wander : GoodIn wsL_law wsX7_wander := goodIn_r _ [293, 78, 113, 85, 269, 270, 271, 5, 272, 244, 152, 153, 154, 149, 150, 151, 250, 251, 252, 253, 82, 80, 81, 195, 196, 197, 198, 77, 155, 156, 157, 158, 159, 294, 295, 296, 297, 83, 84, 298, 299, 300, 301, 302, 303, 304, 305, 306, 92, 100, 90, 91, 97, 245, 246, 247, 248, 249, 86, 721, 722, 723, 724, 725, 726, 727, 728, 729, 730, 731, 732, 733, 734, 735, 736, 737, 738, 739, 740, 741, 742, 743, 744, 745, 746, 747, 748, 749, 750, 751, 752, 753, 754, 755, 756, 757, 758, 759, 760, 761, 762] (by decide +kernel) (by decide +kernel)
set_option maxRecDepth 20000 in
theorem gL_law_X7_wander : GoodIn wsL_law (wsV RL 109 RX7 yX7_wander wsX7_wander) := goodIn_app (goodIn_of _ (by decide +kernel)) ggL_law_X7_wander
set_option maxRecDepth 20000 in
theorem ggL_law_L_cap : GoodIn wsL_law wsL_cap := goodIn_ca (goodIn_r _ [309, 120, 310, 311, 312, 2, 313, 29, 138, 139, 140, 126, 127, 711, 712, 713, 714, 715, 716, 717, 718, 719, 720] (by decide +kernel) (by decide +kernel)) (goodIn_sub (fun _ h => List.mem_append_left _ (List.mem_append_left _ (List.mem_append_right _ h))) (by decide +kernel))
set_option maxRecDepth 20000 in
theorem gL_law_L_cap : GoodIn wsL_law (va_wsS RL 110 yL_cap wsL_cap) := goodIn_app (goodIn_of _ (by decide +kernel)) ggL_law_L_cap
set_option maxRecDepth 20000 in
theorem ggL_law_X7_cap : GoodIn wsL_law wsX7_cap := goodIn_r _ [317, 73, 152, 153, 5, 154, 155, 156, 157, 158, 159, 721, 722, 723, 724, 725, 726, 727, 728, 729, 730, 731, 732, 733, 734, 735, 736, 737, 738, 739, 740, 741, 742, 743, 744, 745, 746, 747, 748, 749, 750, 751, 752, 753, 754, 755, 756, 757, 758, 759, 760, 761, 762] (by decide +kernel) (by decide +kernel)
set_option maxRecDepth 20000 in
theorem gL_law_X7_cap : GoodIn wsL_law (wsV RL 112 RX7 yX7_cap wsX7_cap) := goodIn_app (goodIn_of _ (by decide +kernel)) ggL_law_X7_cap
set_option maxRecDepth 20000 in
theorem ggL_law_L_height : GoodIn wsL_law wsL_height := goodIn_ca (goodIn_r _ [320, 119, 321, 322, 323, 2, 324, 133, 134, 325, 326, 327, 328, 329, 20, 206, 18, 330, 331, 48, 332, 29, 333, 47, 49, 334, 335, 336, 234, 235, 236, 208, 237, 218, 238, 239, 711, 712, 713, 714, 715, 716, 717, 718, 719, 720, 799, 800, 801, 802, 803, 804, 805, 806, 807, 808, 809, 810, 782, 783, 784, 785, 786, 787, 788, 789, 790, 791, 792, 793, 794, 795, 796, 797, 798] (by decide +kernel) (by decide +kernel)) (goodIn_sub (fun _ h => List.mem_append_right _ h) (by decide +kernel))
set_option maxRecDepth 20000 in
theorem gL_law_L_height : GoodIn wsL_law (va_wsS RL 113 yL_height wsL_height) := goodIn_app (goodIn_of _ (by decide +kernel)) ggL_law_L_height
set_option maxRecDepth 20000 in
theorem ggL_law_X7_height : GoodIn wsL_law wsX7_height := goodIn_r _ [340, 152, 153, 5, 154, 155, 156, 157, 158, 159, 341, 342, 343, 344, 345, 92, 93, 244, 78, 73, 250, 251, 252, 253, 82, 80, 81, 721, 722, 723, 724, 725, 726, 727, 728, 729, 730, 731, 732, 733, 734, 735, 736, 737, 738, 739, 740, 741, 742, 743, 744, 745, 746, 747, 748, 749, 750, 751, 752, 753, 754, 755, 756, 757, 758, 759, 760, 761, 762] (by decide +kernel) (by decide +kernel)
set_option maxRecDepth 20000 in
theorem gL_law_X7_height : GoodIn wsL_law (wsV RL 115 RX7 yX7_height wsX7_height) := goodIn_app (goodIn_of _ (by decide +kernel)) ggL_law_X7_height
set_option maxRecDepth 20000 in
theorem ggL_law_L_request : GoodIn wsL_law wsL_request := goodIn_ca (goodIn_ca (goodIn_ca (goodIn_r _ [348, 119, 120, 121, 349, 350, 351, 2, 352, 126, 127, 128, 129, 16, 329, 19, 353, 354, 280, 20, 130, 131, 132, 133, 134, 135, 136, 15, 137, 138, 139, 140, 186, 187, 188, 189, 39, 44, 190, 334, 335, 336, 325, 326, 327, 328, 206, 18, 330, 331, 48, 332, 29, 333, 47, 49, 234, 235, 236, 208, 237, 218, 238, 239, 355, 356, 357, 358, 11, 12, 359, 360, 361, 362, 363, 364, 365, 711, 712, 713, 714, 715, 716, 717, 718, 719, 720, 799, 800, 801, 802, 803, 804, 805, 806, 807, 808, 809, 810, 763, 764, 765, 766, 767, 782, 783, 784, 785, 786, 787, 788, 789, 790, 791, 792, 793, 794, 795, 796, 797, 798] (by decide +kernel) (by decide +kernel)) (goodIn_sub (fun _ h => List.mem_append_left _ (List.mem_append_left _ (List.mem_append_right _ h))) (by decide +kernel))) (goodIn_sub (fun _ h => List.mem_append_left _ (List.mem_append_right _ h)) (by decide +kernel))) (goodIn_sub (fun _ h => List.mem_append_right _ h) (by decide +kernel))
set_option maxRecDepth 20000 in
theorem gL_law_L_request : GoodIn wsL_law (va_wsS RL 116 yL_request wsL_request) := goodIn_app (goodIn_of _ (by decide +kernel)) ggL_law_L_request
set_option maxRecDepth 20000 in
theorem ggL_law_X7_request : GoodIn wsL_law wsX7_request := goodIn_r _ [369, 345, 113, 97, 93, 94, 95, 302, 96, 98, 99, 100, 149, 150, 5, 151, 152, 153, 154, 195, 196, 197, 198, 77, 155, 156, 157, 158, 159, 341, 342, 343, 344, 92, 244, 78, 73, 250, 251, 252, 253, 82, 80, 81, 721, 722, 723, 724, 725, 726, 727, 728, 729, 730, 731, 732, 733, 734, 735, 736, 737, 738, 739, 740, 741, 742, 743, 744, 745, 746, 747, 748, 749, 750, 751, 752, 753, 754, 755, 756, 757, 758, 759, 760, 761, 762] (by decide +kernel) (by decide +kernel)
set_option maxRecDepth 20000 in
theorem gL_law_X7_request : GoodIn wsL_law (wsV RL 119 RX7 yX7_request wsX7_request) := goodIn_app (goodIn_of _ (by decide +kernel)) ggL_law_X7_request
set_option maxRecDepth 20000 in
theorem ggL_law_L_cancel : GoodIn wsL_law wsL_cancel := goodIn_ca (goodIn_ca (goodIn_r _ [372, 119, 121, 373, 374, 375, 2, 376, 128, 129, 280, 377, 378, 379, 380, 133, 134, 329, 20, 381, 382, 383, 217, 384, 285, 227, 228, 385, 386, 387, 388, 389, 390, 391, 392, 286, 287, 288, 289, 225, 799, 800, 801, 802, 803, 804, 805, 806, 807, 808, 809, 810, 782, 783, 784, 785, 786, 787, 788, 789, 790, 791, 792, 793, 794, 711, 712, 713, 714, 715, 716, 717, 718, 719, 720, 795, 796, 797, 798] (by decide +kernel) (by decide +kernel)) (goodIn_sub (fun _ h => List.mem_append_left _ (List.mem_append_right _ h)) (by decide +kernel))) (goodIn_sub (fun _ h => List.mem_append_right _ h) (by decide +kernel))
set_option maxRecDepth 20000 in
theorem gL_law_L_cancel : GoodIn wsL_law (va_wsS RL 120 yL_cancel wsL_cancel) := goodIn_app (goodIn_of _ (by decide +kernel)) ggL_law_L_cancel
set_option maxRecDepth 20000 in
theorem ggL_law_X7_cancel : GoodIn wsL_law wsX7_cancel := goodIn_r _ [396, 92, 302, 101, 98, 82, 84, 83, 397, 398, 399, 5, 400, 345, 152, 153, 154, 155, 156, 157, 158, 159, 721, 722, 723, 724, 725, 726, 727, 728, 729, 730, 731, 732, 733, 734, 735, 736, 737, 738, 739, 740, 741, 742, 743, 744, 745, 746, 747, 748, 749, 750, 751, 752, 753, 754, 755, 756, 757, 758, 759, 760, 761, 762] (by decide +kernel) (by decide +kernel)
set_option maxRecDepth 20000 in
theorem gL_law_X7_cancel : GoodIn wsL_law (wsV RL 122 RX7 yX7_cancel wsX7_cancel) := goodIn_app (goodIn_of _ (by decide +kernel)) ggL_law_X7_cancel
set_option maxRecDepth 20000 in
theorem ggL_law_L_rate : GoodIn wsL_law wsL_rate := goodIn_ca (goodIn_ca (goodIn_ca (goodIn_r _ [403, 119, 120, 121, 404, 405, 406, 2, 407, 128, 129, 377, 378, 379, 380, 133, 134, 329, 20, 138, 139, 140, 126, 127, 234, 235, 236, 208, 237, 218, 238, 239, 408, 409, 410, 411, 219, 412, 413, 47, 48, 49, 220, 229, 230, 231, 232, 233, 799, 800, 801, 802, 803, 804, 805, 806, 807, 808, 809, 810, 782, 783, 784, 785, 786, 787, 788, 789, 790, 791, 792, 793, 794, 711, 712, 713, 714, 715, 716, 717, 718, 719, 720, 795, 796, 797, 798] (by decide +kernel) (by decide +kernel)) (goodIn_sub (fun _ h => List.mem_append_left _ (List.mem_append_right _ h)) (by decide +kernel))) (goodIn_sub (fun _ h => List.mem_append_right _ h) (by decide +kernel))) (goodIn_sub (fun _ h => List.mem_append_left _ (List.mem_append_left _ (List.mem_append_right _ h))) (by decide +kernel))
set_option maxRecDepth 20000 in
theorem gL_law_L_rate : GoodIn wsL_law (va_wsS RL 123 yL_rate wsL_rate) := goodIn_app (goodIn_of _ (by decide +kernel)) ggL_law_L_rate
set_option maxRecDepth 20000 in
theorem ggL_law_X7_rate : GoodIn wsL_law wsX7_rate := goodIn_r _ [417, 92, 102, 98, 88, 87, 81, 397, 398, 399, 5, 400, 345, 152, 153, 154, 155, 156, 157, 158, 159, 418, 419, 420, 421, 245, 246, 247, 248, 249, 86, 250, 251, 252, 253, 82, 80, 721, 722, 723, 724, 725, 726, 727, 728, 729, 730, 731, 732, 733, 734, 735, 736, 737, 738, 739, 740, 741, 742, 743, 744, 745, 746, 747, 748, 749, 750, 751, 752, 753, 754, 755, 756, 757, 758, 759, 760, 761, 762] (by decide +kernel) (by decide +kernel)
set_option maxRecDepth 20000 in
theorem gL_law_X7_rate : GoodIn wsL_law (wsV RL 125 RX7 yX7_rate wsX7_rate) := goodIn_app (goodIn_of _ (by decide +kernel)) ggL_law_X7_rate
set_option maxRecDepth 20000 in
theorem ggL_law_X6_airport : GoodIn wsL_law wsX6_airport := goodIn_r _ [425, 329, 20, 426, 427, 428, 2, 429, 206, 18, 234, 235, 236, 208, 237, 218, 238, 239, 430, 431, 432, 433, 280, 16, 186, 187, 188, 15, 189, 39, 44, 190, 136, 137, 434, 435, 436, 437, 438, 439, 440, 441, 442, 281, 282, 283, 217, 284, 285, 225, 227, 228, 286, 287, 288, 289, 443, 444, 445, 446, 447, 448, 449, 450, 451, 452, 453, 454, 389, 390, 391, 392, 455, 456, 457, 458, 459, 460, 461, 462, 463, 386, 387, 388, 229, 230, 231, 232, 233, 711, 712, 713, 714, 715, 716, 717, 718, 719, 720, 799, 800, 801, 802, 803, 804, 805, 806, 807, 808, 809, 810, 782, 783, 784, 785, 786, 787, 788, 789, 790, 791, 792, 793, 794, 795, 796, 797, 798, 763, 764, 765, 766, 767] (by decide +kernel) (by decide +kernel)
set_option maxRecDepth 20000 in
theorem gL_law_X6_airport : GoodIn wsL_law (wsV RL 126 RX6 yX6_airport wsX6_airport) := goodIn_app (goodIn_of _ (by decide +kernel)) ggL_law_X6_airport
set_option maxRecDepth 20000 in
theorem ggL_law_X7_airport : GoodIn wsL_law wsX7_airport := goodIn_r _ [467, 159, 345, 244, 78, 86, 92, 93, 250, 251, 252, 5, 253, 82, 80, 81, 468, 469, 470, 471, 98, 101, 302, 99, 94, 195, 196, 197, 198, 77, 294, 295, 296, 297, 83, 84, 298, 299, 300, 301, 85, 303, 304, 305, 306, 100, 90, 91, 97, 245, 246, 247, 248, 249, 721, 722, 723, 724, 725, 726, 727, 728, 729, 730, 731, 732, 733, 734, 735, 736, 737, 738, 739, 740, 741, 742, 743, 744, 745, 746, 747, 748, 749, 750, 751, 752, 753, 754, 755, 756, 757, 758, 759, 760, 761, 762] (by decide +kernel) (by decide +kernel)
set_option maxRecDepth 20000 in
theorem gL_law_X7_airport : GoodIn wsL_law (wsV RL 129 RX7 yX7_airport wsX7_airport) := goodIn_app (goodIn_of _ (by decide +kernel)) ggL_law_X7_airport
set_option maxRecDepth 20000 in
theorem ggL_law_L_best : GoodIn wsL_law wsL_best := goodIn_ca (goodIn_r _ [474, 121, 475, 476, 477, 2, 478, 24, 479, 480, 481, 482, 128, 129, 206, 329, 20, 483, 484, 485, 23, 486, 487, 488, 489, 490, 491, 492, 59, 493, 494, 495, 496, 280, 16, 18, 186, 187, 188, 15, 189, 39, 44, 190, 136, 137, 234, 235, 236, 208, 237, 218, 238, 239, 497, 498, 499, 500, 61, 501, 502, 503, 504, 62, 505, 506, 507, 508, 509, 331, 48, 332, 510, 511, 512, 513, 514, 515, 516, 517, 711, 712, 713, 714, 715, 716, 717, 718, 719, 720, 799, 800, 801, 802, 803, 804, 805, 806, 807, 808, 809, 810, 768, 769, 770, 771, 772, 773, 782, 783, 784, 785, 786, 787, 788, 789, 790, 791, 792, 793, 794, 763, 764, 765, 766, 767, 795, 796, 797, 798] (by decide +kernel) (by decide +kernel)) (goodIn_sub (fun _ h => List.mem_append_left _ (List.mem_append_right _ h)) (by decide +kernel))
set_option maxRecDepth 20000 in
theorem gL_law_L_best : GoodIn wsL_law (va_wsS RL 130 yL_best wsL_best) := goodIn_app (goodIn_of _ (by decide +kernel)) ggL_law_L_best
set_option maxRecDepth 20000 in
theorem ggL_law_X7_best : GoodIn wsL_law wsX7_best := goodIn_r _ [521, 522, 523, 524, 525, 5, 526, 345, 92, 93, 103, 155, 156, 157, 158, 159, 527, 528, 529, 530, 244, 104, 78, 113, 302, 95, 531, 105, 195, 196, 197, 198, 77, 250, 251, 252, 253, 82, 80, 81, 721, 722, 723, 724, 725, 726, 727, 728, 729, 730, 731, 732, 733, 734, 735, 736, 737, 738, 739, 740, 741, 742, 743, 744, 745, 746, 747, 748, 749, 750, 751, 752, 753, 754, 755, 756, 757, 758, 759, 760, 761, 762] (by decide +kernel) (by decide +kernel)
set_option maxRecDepth 20000 in
theorem gL_law_X7_best : GoodIn wsL_law (wsV RL 133 RX7 yX7_best wsX7_best) := goodIn_app (goodIn_of _ (by decide +kernel)) ggL_law_X7_best
set_option maxRecDepth 20000 in
theorem ggL_law_L_bestAnew : GoodIn wsL_law wsL_bestAnew := goodIn_ca (goodIn_r _ [534, 121, 535, 536, 537, 2, 538, 24, 479, 480, 481, 482, 128, 129, 206, 329, 20, 483, 484, 485, 23, 486, 487, 488, 489, 490, 491, 492, 59, 493, 494, 495, 496, 280, 16, 18, 186, 187, 188, 15, 189, 39, 44, 190, 136, 137, 234, 235, 236, 208, 237, 218, 238, 239, 497, 498, 499, 500, 61, 539, 540, 541, 542, 63, 509, 331, 48, 332, 543, 544, 545, 546, 711, 712, 713, 714, 715, 716, 717, 718, 719, 720, 799, 800, 801, 802, 803, 804, 805, 806, 807, 808, 809, 810, 768, 769, 770, 771, 772, 773, 782, 783, 784, 785, 786, 787, 788, 789, 790, 791, 792, 793, 794, 763, 764, 765, 766, 767, 795, 796, 797, 798] (by decide +kernel) (by decide +kernel)) (goodIn_sub (fun _ h => List.mem_append_left _ (List.mem_append_right _ h)) (by decide +kernel))
set_option maxRecDepth 20000 in
theorem gL_law_L_bestAnew : GoodIn wsL_law (va_wsS RL 134 yL_bestAnew wsL_bestAnew) := goodIn_app (goodIn_of _ (by decide +kernel)) ggL_law_L_bestAnew
set_option maxRecDepth 20000 in
theorem ggL_law_X7_bestAnew : GoodIn wsL_law wsX7_bestAnew := goodIn_r _ [550, 551, 519, 520, 5, 521, 522, 523, 524, 525, 526, 345, 92, 93, 103, 155, 156, 157, 158, 159, 527, 528, 529, 530, 244, 104, 78, 113, 302, 95, 531, 105, 195, 196, 197, 198, 77, 250, 251, 252, 253, 82, 80, 81, 721, 722, 723, 724, 725, 726, 727, 728, 729, 730, 731, 732, 733, 734, 735, 736, 737, 738, 739, 740, 741, 742, 743, 744, 745, 746, 747, 748, 749, 750, 751, 752, 753, 754, 755, 756, 757, 758, 759, 760, 761, 762] (by decide +kernel) (by decide +kernel)
set_option maxRecDepth 20000 in
theorem gL_law_X7_bestAnew : GoodIn wsL_law (wsV RL 136 RX7 yX7_bestAnew wsX7_bestAnew) := goodIn_app (goodIn_of _ (by decide +kernel)) ggL_law_X7_bestAnew
set_option maxRecDepth 20000 in
theorem ggL_law_L_match : GoodIn wsL_law wsL_match := goodIn_ca (goodIn_r _ [554, 121, 555, 556, 557, 2, 558, 24, 18, 479, 480, 481, 482, 128, 129, 206, 329, 20, 483, 484, 485, 23, 486, 487, 488, 489, 490, 491, 492, 59, 493, 494, 495, 496, 280, 16, 186, 187, 188, 15, 189, 39, 44, 190, 136, 137, 234, 235, 236, 208, 237, 218, 238, 239, 497, 498, 499, 500, 61, 501, 502, 503, 504, 62, 505, 506, 507, 508, 509, 331, 48, 332, 510, 511, 512, 513, 514, 515, 516, 517, 559, 560, 561, 562, 430, 431, 432, 433, 434, 435, 436, 437, 438, 439, 440, 441, 442, 281, 282, 283, 217, 284, 285, 225, 227, 228, 286, 287, 288, 289, 443, 444, 445, 446, 447, 448, 449, 450, 451, 452, 453, 454, 389, 390, 391, 392, 455, 456, 457, 458, 459, 460, 461, 462, 463, 386, 387, 388, 229, 230, 231, 232, 233, 711, 712, 713, 714, 715, 716, 717, 718, 719, 720, 768, 769, 770, 771, 772, 773, 799, 800, 801, 802, 803, 804, 805, 806, 807, 808, 809, 810, 782, 783, 784, 785, 786, 787, 788, 789, 790, 791, 792, 793, 794, 763, 764, 765, 766, 767, 795, 796, 797, 798] (by decide +kernel) (by decide +kernel)) (goodIn_sub (fun _ h => List.mem_append_left _ (List.mem_append_right _ h)) (by decide +kernel))
set_option maxRecDepth 20000 in
theorem gL_law_L_match : GoodIn wsL_law (va_wsS RL 137 yL_match wsL_match) := goodIn_app (goodIn_of _ (by decide +kernel)) ggL_law_L_match
set_option maxRecDepth 20000 in
theorem ggL_law_X7_match : GoodIn wsL_law wsX7_match := goodIn_r _ [566, 105, 244, 103, 523, 524, 525, 5, 526, 345, 92, 93, 155, 156, 157, 158, 159, 527, 528, 529, 530, 522, 104, 78, 113, 302, 95, 531, 195, 196, 197, 198, 77, 250, 251, 252, 253, 82, 80, 81, 468, 469, 470, 471, 98, 101, 99, 94, 294, 295, 296, 297, 83, 84, 298, 299, 300, 301, 85, 303, 304, 305, 306, 100, 90, 91, 97, 245, 246, 247, 248, 249, 86, 721, 722, 723, 724, 725, 726, 727, 728, 729, 730, 731, 732, 733, 734, 735, 736, 737, 738, 739, 740, 741, 742, 743, 744, 745, 746, 747, 748, 749, 750, 751, 752, 753, 754, 755, 756, 757, 758, 759, 760, 761, 762] (by decide +kernel) (by decide +kernel)
set_option maxRecDepth 20000 in
theorem gL_law_X7_match : GoodIn wsL_law (wsV RL 139 RX7 yX7_match wsX7_match) := goodIn_app (goodIn_of _ (by decide +kernel)) ggL_law_X7_match
set_option maxRecDepth 20000 in
theorem ggL_law_X6_share : GoodIn wsL_law wsX6_share := goodIn_r _ [570, 329, 20, 571, 572, 573, 2, 574, 28, 206, 18, 575, 576, 577, 27, 578, 579, 580, 581, 582, 583, 217, 584, 285, 227, 585, 586, 587, 588, 228, 589, 590, 591, 592, 593, 594, 595, 596, 597, 598, 599, 600, 601, 68, 602, 460, 461, 462, 225, 389, 390, 391, 392, 603, 187, 188, 15, 189, 39, 44, 190, 136, 137, 604, 605, 606, 607, 608, 439, 440, 441, 442, 609, 610, 611, 612, 613, 452, 453, 454, 614, 456, 457, 458, 281, 282, 283, 284, 286, 287, 288, 289, 434, 435, 436, 437, 280, 16, 438, 711, 712, 713, 714, 715, 716, 717, 718, 719, 720, 799, 800, 801, 802, 803, 804, 805, 806, 807, 808, 809, 810, 782, 783, 784, 785, 786, 787, 788, 789, 790, 791, 792, 793, 794, 774, 775, 776, 777, 778, 779, 780, 781, 795, 796, 797, 798, 763, 764, 765, 766, 767] (by decide +kernel) (by decide +kernel)
set_option maxRecDepth 20000 in
theorem gL_law_X6_share : GoodIn wsL_law (wsV RL 140 RX6 yX6_share wsX6_share) := goodIn_app (goodIn_of _ (by decide +kernel)) ggL_law_X6_share
set_option maxRecDepth 20000 in
theorem ggL_law_X7_share : GoodIn wsL_law wsX7_share := goodIn_r _ [618, 159, 345, 92, 96, 619, 620, 621, 5, 622, 113, 244, 108, 623, 624, 625, 626, 81, 82, 84, 627, 628, 629, 630, 106, 93, 94, 83, 107, 85, 195, 196, 197, 198, 77, 631, 632, 633, 634, 95, 99, 635, 636, 637, 638, 98, 101, 302, 721, 722, 723, 724, 725, 726, 727, 728, 729, 730, 731, 732, 733, 734, 735, 736, 737, 738, 739, 740, 741, 742, 743, 744, 745, 746, 747, 748, 749, 750, 751, 752, 753, 754, 755, 756, 757, 758, 759, 760, 761, 762] (by decide +kernel) (by decide +kernel)
set_option maxRecDepth 20000 in
theorem gL_law_X7_share : GoodIn wsL_law (wsV RL 143 RX7 yX7_share wsX7_share) := goodIn_app (goodIn_of _ (by decide +kernel)) ggL_law_X7_share
set_option maxRecDepth 20000 in
theorem ggL_law_L_requestIs : GoodIn wsL_law wsL_requestIs := goodIn_ca (goodIn_ca (goodIn_r _ [641, 119, 120, 642, 643, 644, 2, 645, 377, 378, 379, 380, 133, 134, 329, 20, 138, 139, 140, 126, 127, 646, 647, 648, 354, 649, 365, 364, 799, 800, 801, 802, 803, 804, 805, 806, 807, 808, 809, 810, 782, 783, 784, 785, 786, 787, 788, 789, 790, 791, 792, 793, 794, 711, 712, 713, 714, 715, 716, 717, 718, 719, 720] (by decide +kernel) (by decide +kernel)) (goodIn_sub (fun _ h => List.mem_append_right _ h) (by decide +kernel))) (goodIn_sub (fun _ h => List.mem_append_left _ (List.mem_append_left _ (List.mem_append_right _ h))) (by decide +kernel))
set_option maxRecDepth 20000 in
theorem gL_law_L_requestIs : GoodIn wsL_law (va_wsS RL 144 yL_requestIs wsL_requestIs) := goodIn_app (goodIn_of _ (by decide +kernel)) ggL_law_L_requestIs
set_option maxRecDepth 20000 in
theorem ggL_law_X7_requestIs : GoodIn wsL_law wsX7_requestIs := goodIn_r _ [653, 92, 97, 98, 99, 100, 95, 397, 398, 399, 5, 400, 345, 152, 153, 154, 155, 156, 157, 158, 159, 721, 722, 723, 724, 725, 726, 727, 728, 729, 730, 731, 732, 733, 734, 735, 736, 737, 738, 739, 740, 741, 742, 743, 744, 745, 746, 747, 748, 749, 750, 751, 752, 753, 754, 755, 756, 757, 758, 759, 760, 761, 762] (by decide +kernel) (by decide +kernel)
set_option maxRecDepth 20000 in
theorem gL_law_X7_requestIs : GoodIn wsL_law (wsV RL 146 RX7 yX7_requestIs wsX7_requestIs) := goodIn_app (goodIn_of _ (by decide +kernel)) ggL_law_X7_requestIs
set_option maxRecDepth 20000 in
theorem ggL_law_L_driverIs : GoodIn wsL_law wsL_driverIs := goodIn_ca (goodIn_ca (goodIn_r _ [656, 119, 120, 657, 658, 659, 2, 660, 261, 262, 263, 264, 133, 134, 206, 18, 138, 139, 140, 126, 127, 234, 235, 236, 208, 237, 218, 238, 239, 782, 783, 784, 785, 786, 787, 788, 789, 790, 791, 792, 793, 794, 795, 796, 797, 798, 711, 712, 713, 714, 715, 716, 717, 718, 719, 720] (by decide +kernel) (by decide +kernel)) (goodIn_sub (fun _ h => List.mem_append_right _ h) (by decide +kernel))) (goodIn_sub (fun _ h => List.mem_append_left _ (List.mem_append_left _ (List.mem_append_right _ h))) (by decide +kernel))
set_option maxRecDepth 20000 in
theorem gL_law_L_driverIs : GoodIn wsL_law (va_wsS RL 147 yL_driverIs wsL_driverIs) := goodIn_app (goodIn_of _ (by decide +kernel)) ggL_law_L_driverIs
set_option maxRecDepth 20000 in
theorem ggL_law_X7_driverIs : GoodIn wsL_law wsX7_driverIs := goodIn_r _ [664, 78, 82, 85, 89, 90, 269, 270, 271, 5, 272, 244, 152, 153, 154, 155, 156, 157, 158, 159, 250, 251, 252, 253, 80, 81, 418, 419, 420, 421, 87, 88, 721, 722, 723, 724, 725, 726, 727, 728, 729, 730, 731, 732, 733, 734, 735, 736, 737, 738, 739, 740, 741, 742, 743, 744, 745, 746, 747, 748, 749, 750, 751, 752, 753, 754, 755, 756, 757, 758, 759, 760, 761, 762] (by decide +kernel) (by decide +kernel)
set_option maxRecDepth 20000 in
theorem gL_law_X7_driverIs : GoodIn wsL_law (wsV RL 149 RX7 yX7_driverIs wsX7_driverIs) := goodIn_app (goodIn_of _ (by decide +kernel)) ggL_law_X7_driverIs
set_option maxRecDepth 20000 in
theorem ggL_law_L_stop : GoodIn wsL_law wsL_stop := goodIn_ca (goodIn_r _ [667, 119, 668, 669, 670, 2, 671, 133, 134, 261, 262, 263, 264, 206, 18, 459, 460, 461, 217, 462, 225, 389, 390, 391, 392, 285, 451, 452, 453, 454, 227, 455, 456, 457, 458, 228, 782, 783, 784, 785, 786, 787, 788, 789, 790, 791, 792, 793, 794, 799, 800, 801, 802, 803, 804, 805, 806, 807, 808, 809, 810, 711, 712, 713, 714, 715, 716, 717, 718, 719, 720, 795, 796, 797, 798] (by decide +kernel) (by decide +kernel)) (goodIn_sub (fun _ h => List.mem_append_right _ h) (by decide +kernel))
set_option maxRecDepth 20000 in
theorem gL_law_L_stop : GoodIn wsL_law (va_wsS RL 150 yL_stop wsL_stop) := goodIn_app (goodIn_of _ (by decide +kernel)) ggL_law_L_stop
set_option maxRecDepth 20000 in
theorem ggL_law_X7_stop : GoodIn wsL_law wsX7_stop := goodIn_r _ [675, 82, 84, 83, 269, 270, 271, 5, 272, 244, 152, 153, 154, 155, 156, 157, 158, 159, 721, 722, 723, 724, 725, 726, 727, 728, 729, 730, 731, 732, 733, 734, 735, 736, 737, 738, 739, 740, 741, 742, 743, 744, 745, 746, 747, 748, 749, 750, 751, 752, 753, 754, 755, 756, 757, 758, 759, 760, 761, 762] (by decide +kernel) (by decide +kernel)
set_option maxRecDepth 20000 in
theorem gL_law_X7_stop : GoodIn wsL_law (wsV RL 153 RX7 yX7_stop wsX7_stop) := goodIn_app (goodIn_of _ (by decide +kernel)) ggL_law_X7_stop
set_option maxRecDepth 20000 in
theorem ggL_law_L_pay : GoodIn wsL_law wsL_pay := goodIn_ca (goodIn_r _ [678, 119, 679, 680, 681, 2, 682, 330, 331, 48, 332, 261, 262, 263, 264, 133, 134, 206, 18, 782, 783, 784, 785, 786, 787, 788, 789, 790, 791, 792, 793, 794, 711, 712, 713, 714, 715, 716, 717, 718, 719, 720] (by decide +kernel) (by decide +kernel)) (goodIn_sub (fun _ h => List.mem_append_right _ h) (by decide +kernel))
set_option maxRecDepth 20000 in
theorem gL_law_L_pay : GoodIn wsL_law (va_wsS RL 154 yL_pay wsL_pay) := goodIn_app (goodIn_of _ (by decide +kernel)) ggL_law_L_pay
set_option maxRecDepth 20000 in
theorem ggL_law_X7_pay : GoodIn wsL_law wsX7_pay := goodIn_r _ [686, 91, 89, 269, 270, 271, 5, 272, 244, 152, 153, 154, 155, 156, 157, 158, 159, 721, 722, 723, 724, 725, 726, 727, 728, 729, 730, 731, 732, 733, 734, 735, 736, 737, 738, 739, 740, 741, 742, 743, 744, 745, 746, 747, 748, 749, 750, 751, 752, 753, 754, 755, 756, 757, 758, 759, 760, 761, 762] (by decide +kernel) (by decide +kernel)
set_option maxRecDepth 20000 in
theorem gL_law_X7_pay : GoodIn wsL_law (wsV RL 156 RX7 yX7_pay wsX7_pay) := goodIn_app (goodIn_of _ (by decide +kernel)) ggL_law_X7_pay
set_option maxRecDepth 20000 in
theorem ggL_law_L_pass : GoodIn wsL_law wsL_pass := goodIn_ca (goodIn_ca (goodIn_r _ [689, 120, 121, 690, 691, 692, 2, 693, 128, 129, 280, 138, 139, 140, 126, 127, 694, 695, 696, 697, 206, 18, 329, 20, 698, 586, 587, 217, 588, 285, 228, 443, 444, 445, 446, 447, 448, 449, 450, 16, 451, 452, 453, 454, 227, 389, 390, 391, 392, 455, 456, 457, 458, 459, 460, 461, 462, 225, 463, 386, 387, 388, 286, 287, 288, 289, 186, 187, 188, 15, 189, 39, 44, 190, 136, 137, 229, 230, 231, 232, 233, 234, 235, 236, 208, 237, 218, 238, 239, 711, 712, 713, 714, 715, 716, 717, 718, 719, 720, 782, 783, 784, 785, 786, 787, 788, 789, 790, 791, 792, 793, 794, 799, 800, 801, 802, 803, 804, 805, 806, 807, 808, 809, 810, 795, 796, 797, 798, 763, 764, 765, 766, 767] (by decide +kernel) (by decide +kernel)) (goodIn_sub (fun _ h => List.mem_append_left _ (List.mem_append_right _ h)) (by decide +kernel))) (goodIn_sub (fun _ h => List.mem_append_left _ (List.mem_append_left _ (List.mem_append_right _ h))) (by decide +kernel))
set_option maxRecDepth 20000 in
theorem gL_law_L_pass : GoodIn wsL_law (va_wsS RL 157 yL_pass wsL_pass) := goodIn_app (goodIn_of _ (by decide +kernel)) ggL_law_L_pass
set_option maxRecDepth 20000 in
theorem ggL_law_X7_pass : GoodIn wsL_law wsX7_pass := goodIn_r _ [702, 302, 152, 153, 5, 154, 155, 156, 157, 158, 159, 703, 704, 705, 706, 244, 89, 82, 85, 345, 92, 95, 707, 708, 709, 710, 84, 303, 304, 305, 306, 78, 83, 100, 90, 91, 97, 298, 299, 300, 301, 195, 196, 197, 198, 77, 245, 246, 247, 248, 249, 86, 250, 251, 252, 253, 80, 81, 721, 722, 723, 724, 725, 726, 727, 728, 729, 730, 731, 732, 733, 734, 735, 736, 737, 738, 739, 740, 741, 742, 743, 744, 745, 746, 747, 748, 749, 750, 751, 752, 753, 754, 755, 756, 757, 758, 759, 760, 761, 762] (by decide +kernel) (by decide +kernel)
set_option maxRecDepth 20000 in
theorem gL_law_X7_pass : GoodIn wsL_law (wsV RL 159 RX7 yX7_pass wsX7_pass) := goodIn_app (goodIn_of _ (by decide +kernel)) ggL_law_X7_pass
theorem gl_of {ws : List Cond} (h : GoodIn wsL_law ws) : GoodIn lw_tbl ws := fun w hw => ⟨wsL_law_in w (h w hw).1, (h w hw).2⟩
