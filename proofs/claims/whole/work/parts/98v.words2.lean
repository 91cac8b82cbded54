/-! WHAT EACH CALLEE WANTS -/
set_option maxRecDepth 20000 in
theorem gw_wsX6_init_r1 : ∀ w ∈ wsX6_init_r1, w ∈ lw_tbl := (lw_in [68, 69, 70, 71, 72, 49, 204, 109, 205, 111, 206, 113, 114, 51, 207, 142, 143, 52, 208, 211, 73, 74, 75, 76] (by decide +kernel))
set_option maxRecDepth 20000 in
theorem gw_wsX6_init_r2 : ∀ w ∈ wsX6_init_r2, w ∈ lw_tbl := (lw_in [108, 91, 92, 93, 77, 94, 79, 81, 0, 82, 83, 96, 84, 85, 50, 86, 87, 89, 1, 90, 115, 116, 117, 118] (by decide +kernel))
set_option maxRecDepth 20000 in
theorem gw_wsX6_init_r3 : ∀ w ∈ wsX6_init_r3, w ∈ lw_tbl := (lw_in [119, 121, 120, 123, 124, 125, 144, 145, 146, 147, 172, 148, 149, 53, 173, 150, 151, 152, 153, 155, 154, 156, 171, 157] (by decide +kernel))
set_option maxRecDepth 20000 in
theorem gw_wsX6_init : ∀ w ∈ wsX6_init, w ∈ lw_tbl := List.forall_mem_cons.mpr ⟨List.mem_of_getElem? (i := 67) (by decide +kernel), List.forall_mem_append.mpr ⟨List.forall_mem_append.mpr ⟨List.forall_mem_append.mpr ⟨List.forall_mem_append.mpr ⟨List.forall_mem_append.mpr ⟨List.forall_mem_append.mpr ⟨gw_wsX6_init_r1, List.forall_mem_append.mpr ⟨gw_wsX6_init_r2, gw_wsX6_init_r3⟩⟩, in_wsX00⟩, in_wsX60⟩, in_wsX20⟩, in_wsX50⟩, in_wsX40⟩⟩
set_option maxRecDepth 20000 in
theorem gw_wsX7_init_r1 : ∀ w ∈ wsX7_init_r1, w ∈ lw_tbl := (lw_in [823, 69, 70, 831, 108, 833, 834, 835, 836, 838, 171, 839, 840, 841, 842, 843, 844, 845, 847, 848, 849, 850, 851, 853] (by decide +kernel))
set_option maxRecDepth 20000 in
theorem gw_wsX7_init_r2 : ∀ w ∈ wsX7_init_r2, w ∈ lw_tbl := (lw_in [854, 855, 856, 857, 858, 859, 860, 861, 862, 863, 864, 865, 866, 868, 869, 870, 824, 826, 25, 54, 827, 828, 832] (by decide +kernel))
set_option maxRecDepth 20000 in
theorem gw_wsX7_init : ∀ w ∈ wsX7_init, w ∈ lw_tbl := List.forall_mem_cons.mpr ⟨List.mem_of_getElem? (i := 822) (by decide +kernel), List.forall_mem_append.mpr ⟨List.forall_mem_append.mpr ⟨gw_wsX7_init_r1, gw_wsX7_init_r2⟩, in_wsX70⟩⟩
set_option maxRecDepth 20000 in
theorem gw_wsL_street_r1 : ∀ w ∈ wsL_street_r1, w ∈ lw_tbl := (lw_in [358, 359, 360, 361, 362, 363, 48, 364, 437, 59, 457, 60, 204, 365, 366, 367, 369, 58, 368, 256, 49, 257, 453, 454] (by decide +kernel))
set_option maxRecDepth 20000 in
theorem gw_wsL_street_r2 : ∀ w ∈ wsL_street_r2, w ∈ lw_tbl := (lw_in [455, 473, 474, 475, 476, 96, 91, 92, 93, 79, 81, 0, 82, 94, 83, 84, 85, 50, 86, 87, 89, 1, 90] (by decide +kernel))
set_option maxRecDepth 20000 in
theorem gw_wsL_street : ∀ w ∈ wsL_street, w ∈ lw_tbl := List.forall_mem_cons.mpr ⟨List.mem_of_getElem? (i := 357) (by decide +kernel), List.forall_mem_append.mpr ⟨List.forall_mem_append.mpr ⟨List.forall_mem_append.mpr ⟨List.forall_mem_append.mpr ⟨List.forall_mem_append.mpr ⟨List.forall_mem_append.mpr ⟨gw_wsL_street_r1, gw_wsL_street_r2⟩, in_wsX60⟩, in_wsX00⟩, wsL_law_x0⟩, wsL_law_x1⟩, wsL_law_x2⟩⟩
set_option maxRecDepth 20000 in
theorem gw_wsX7_street : ∀ w ∈ wsX7_street, w ∈ lw_tbl := List.forall_mem_cons.mpr ⟨List.mem_of_getElem? (i := 963) (by decide +kernel), List.forall_mem_append.mpr ⟨(lw_in [832, 833, 834, 835, 964, 965, 54, 966, 967, 968, 969, 970, 972, 26, 973, 829, 824, 826, 25, 827, 836, 828] (by decide +kernel)), in_wsX70⟩⟩
set_option maxRecDepth 20000 in
theorem gw_wsX7_thrown : ∀ w ∈ wsX7_thrown, w ∈ lw_tbl := List.forall_mem_cons.mpr ⟨List.mem_of_getElem? (i := 959) (by decide +kernel), List.forall_mem_append.mpr ⟨(lw_in [829] (by decide +kernel)), in_wsX70⟩⟩
set_option maxRecDepth 20000 in
theorem gw_wsL_slow_r1 : ∀ w ∈ wsL_slow_r1, w ∈ lw_tbl := (lw_in [358, 359, 480, 481, 482, 48, 483, 369, 58, 204, 453, 454, 455, 437, 59, 485, 486, 487, 49, 488, 93, 79, 81, 0] (by decide +kernel))
set_option maxRecDepth 20000 in
theorem gw_wsL_slow_r2 : ∀ w ∈ wsL_slow_r2, w ∈ lw_tbl := (lw_in [82, 94, 83, 96, 91, 92, 84, 85, 50, 86, 87, 89, 1, 90] (by decide +kernel))
set_option maxRecDepth 20000 in
theorem gw_wsL_slow : ∀ w ∈ wsL_slow, w ∈ lw_tbl := List.forall_mem_cons.mpr ⟨List.mem_of_getElem? (i := 479) (by decide +kernel), List.forall_mem_append.mpr ⟨List.forall_mem_append.mpr ⟨List.forall_mem_append.mpr ⟨List.forall_mem_append.mpr ⟨List.forall_mem_append.mpr ⟨gw_wsL_slow_r1, gw_wsL_slow_r2⟩, in_wsX60⟩, in_wsX00⟩, wsL_law_x2⟩, wsL_law_x0⟩⟩
set_option maxRecDepth 20000 in
theorem gw_wsX7_slow : ∀ w ∈ wsX7_slow, w ∈ lw_tbl := List.forall_mem_cons.mpr ⟨List.mem_of_getElem? (i := 977) (by decide +kernel), List.forall_mem_append.mpr ⟨(lw_in [832, 835, 967, 968, 54, 969, 970, 972, 26, 973, 829, 824, 826, 25, 827, 836, 828, 833, 834] (by decide +kernel)), in_wsX70⟩⟩
set_option maxRecDepth 20000 in
theorem gw_wsL_way : ∀ w ∈ wsL_way, w ∈ lw_tbl := List.forall_mem_cons.mpr ⟨List.mem_of_getElem? (i := 491) (by decide +kernel), List.forall_mem_append.mpr ⟨List.forall_mem_append.mpr ⟨List.forall_mem_append.mpr ⟨(lw_in [358, 492, 493, 494, 48, 495, 204, 365, 366, 367, 369, 58, 368, 256, 49, 257, 251, 252, 253, 254, 94, 83, 255] (by decide +kernel)), in_wsX60⟩, in_wsX00⟩, wsL_law_x2⟩⟩
set_option maxRecDepth 20000 in
theorem gw_wsX7_way : ∀ w ∈ wsX7_way, w ∈ lw_tbl := List.forall_mem_cons.mpr ⟨List.mem_of_getElem? (i := 981) (by decide +kernel), List.forall_mem_append.mpr ⟨(lw_in [828, 964, 965, 54, 966, 967, 968, 969, 970, 972, 26, 973, 829, 982, 984, 27, 985, 836] (by decide +kernel)), in_wsX70⟩⟩
set_option maxRecDepth 20000 in
theorem gw_wsL_driver_r1 : ∀ w ∈ wsL_driver_r1, w ∈ lw_tbl := (lw_in [358, 360, 499, 500, 501, 48, 502, 457, 60, 209, 109, 504, 61, 205, 365, 366, 367, 369, 58, 368, 256, 49, 257, 505] (by decide +kernel))
set_option maxRecDepth 20000 in
theorem gw_wsL_driver_r2 : ∀ w ∈ wsL_driver_r2, w ∈ lw_tbl := (lw_in [506, 507, 508, 69, 70, 511, 522, 509, 149, 53, 513, 108, 516, 518, 510, 151, 152, 153, 155, 154, 156, 171, 157, 303] (by decide +kernel))
set_option maxRecDepth 20000 in
theorem gw_wsL_driver_r3 : ∀ w ∈ wsL_driver_r3, w ∈ lw_tbl := (lw_in [305, 9, 306, 213, 243, 244, 245, 246, 524, 520] (by decide +kernel))
set_option maxRecDepth 20000 in
theorem gw_wsL_driver : ∀ w ∈ wsL_driver, w ∈ lw_tbl := List.forall_mem_cons.mpr ⟨List.mem_of_getElem? (i := 498) (by decide +kernel), List.forall_mem_append.mpr ⟨List.forall_mem_append.mpr ⟨List.forall_mem_append.mpr ⟨List.forall_mem_append.mpr ⟨List.forall_mem_append.mpr ⟨List.forall_mem_append.mpr ⟨gw_wsL_driver_r1, List.forall_mem_append.mpr ⟨gw_wsL_driver_r2, gw_wsL_driver_r3⟩⟩, in_wsX60⟩, in_wsX10⟩, in_wsX40⟩, wsL_law_x1⟩, wsL_law_x2⟩⟩
set_option maxRecDepth 20000 in
theorem gw_wsX7_driver_r1 : ∀ w ∈ wsX7_driver_r1, w ∈ lw_tbl := (lw_in [837, 838, 964, 965, 54, 966, 967, 968, 969, 970, 972, 26, 973, 829, 990, 992, 28, 993, 846, 845, 994, 996, 29, 997] (by decide +kernel))
set_option maxRecDepth 20000 in
theorem gw_wsX7_driver_r2 : ∀ w ∈ wsX7_driver_r2, w ∈ lw_tbl := (lw_in [841, 839, 840] (by decide +kernel))
set_option maxRecDepth 20000 in
theorem gw_wsX7_driver : ∀ w ∈ wsX7_driver, w ∈ lw_tbl := List.forall_mem_cons.mpr ⟨List.mem_of_getElem? (i := 989) (by decide +kernel), List.forall_mem_append.mpr ⟨List.forall_mem_append.mpr ⟨gw_wsX7_driver_r1, gw_wsX7_driver_r2⟩, in_wsX70⟩⟩
set_option maxRecDepth 20000 in
theorem gw_wsL_rest_r1 : ∀ w ∈ wsL_rest_r1, w ∈ lw_tbl := (lw_in [358, 360, 562, 563, 564, 48, 565, 457, 60, 566, 568, 15, 569, 369, 58, 209, 205, 243, 244, 245, 61, 246, 513, 524] (by decide +kernel))
set_option maxRecDepth 20000 in
theorem gw_wsL_rest_r2 : ∀ w ∈ wsL_rest_r2, w ∈ lw_tbl := (lw_in [520, 303, 305, 9, 306, 213] (by decide +kernel))
set_option maxRecDepth 20000 in
theorem gw_wsL_rest : ∀ w ∈ wsL_rest, w ∈ lw_tbl := List.forall_mem_cons.mpr ⟨List.mem_of_getElem? (i := 561) (by decide +kernel), List.forall_mem_append.mpr ⟨List.forall_mem_append.mpr ⟨List.forall_mem_append.mpr ⟨List.forall_mem_append.mpr ⟨List.forall_mem_append.mpr ⟨List.forall_mem_append.mpr ⟨gw_wsL_rest_r1, gw_wsL_rest_r2⟩, in_wsX10⟩, in_wsX40⟩, in_wsX60⟩, wsL_law_x1⟩, wsL_law_x2⟩⟩
set_option maxRecDepth 20000 in
theorem gw_wsX7_rest_r1 : ∀ w ∈ wsX7_rest_r1, w ∈ lw_tbl := (lw_in [841, 839, 1002, 1004, 30, 54, 1005, 837, 967, 968, 969, 970, 972, 26, 973, 829, 990, 992, 28, 993, 846, 845, 994, 996] (by decide +kernel))
set_option maxRecDepth 20000 in
theorem gw_wsX7_rest_r2 : ∀ w ∈ wsX7_rest_r2, w ∈ lw_tbl := (lw_in [29, 997, 840] (by decide +kernel))
set_option maxRecDepth 20000 in
theorem gw_wsX7_rest : ∀ w ∈ wsX7_rest, w ∈ lw_tbl := List.forall_mem_cons.mpr ⟨List.mem_of_getElem? (i := 1001) (by decide +kernel), List.forall_mem_append.mpr ⟨List.forall_mem_append.mpr ⟨gw_wsX7_rest_r1, gw_wsX7_rest_r2⟩, in_wsX70⟩⟩
set_option maxRecDepth 20000 in
theorem gw_wsL_wander_r1 : ∀ w ∈ wsL_wander_r1, w ∈ lw_tbl := (lw_in [358, 360, 575, 576, 577, 48, 578, 457, 60, 204, 212, 566, 568, 15, 569, 369, 58, 209, 205, 365, 366, 367, 368, 256] (by decide +kernel))
set_option maxRecDepth 20000 in
theorem gw_wsL_wander_r2 : ∀ w ∈ wsL_wander_r2, w ∈ lw_tbl := (lw_in [49, 257, 251, 252, 253, 254, 94, 83, 255, 243, 244, 245, 61, 246, 513, 524, 520, 267, 268, 269, 53, 270, 159, 155] (by decide +kernel))
set_option maxRecDepth 20000 in
theorem gw_wsL_wander_r3 : ∀ w ∈ wsL_wander_r3, w ∈ lw_tbl := (lw_in [156, 157, 271, 273, 5, 274] (by decide +kernel))
set_option maxRecDepth 20000 in
theorem gw_wsL_wander : ∀ w ∈ wsL_wander, w ∈ lw_tbl := List.forall_mem_cons.mpr ⟨List.mem_of_getElem? (i := 574) (by decide +kernel), List.forall_mem_append.mpr ⟨List.forall_mem_append.mpr ⟨List.forall_mem_append.mpr ⟨List.forall_mem_append.mpr ⟨List.forall_mem_append.mpr ⟨List.forall_mem_append.mpr ⟨List.forall_mem_append.mpr ⟨gw_wsL_wander_r1, List.forall_mem_append.mpr ⟨gw_wsL_wander_r2, gw_wsL_wander_r3⟩⟩, in_wsX60⟩, in_wsX10⟩, in_wsX00⟩, in_wsX40⟩, wsL_law_x1⟩, wsL_law_x2⟩⟩
set_option maxRecDepth 20000 in
theorem gw_wsX7_wander_r1 : ∀ w ∈ wsX7_wander_r1, w ∈ lw_tbl := (lw_in [838, 828, 844, 1002, 1004, 30, 54, 1005, 837, 967, 968, 969, 964, 965, 966, 994, 996, 29, 997, 841, 839, 840, 982, 984] (by decide +kernel))
set_option maxRecDepth 20000 in
theorem gw_wsX7_wander_r2 : ∀ w ∈ wsX7_wander_r2, w ∈ lw_tbl := (lw_in [27, 985, 836, 970, 972, 26, 973, 829, 1010, 1012, 31, 1013, 842, 843, 1014, 1016, 32, 1017, 830, 1018, 1020, 33, 1021, 853] (by decide +kernel))
set_option maxRecDepth 20000 in
theorem gw_wsX7_wander_r3 : ∀ w ∈ wsX7_wander_r3, w ∈ lw_tbl := (lw_in [861, 850, 851, 858, 990, 992, 28, 993, 846, 845] (by decide +kernel))
set_option maxRecDepth 20000 in
theorem gw_wsX7_wander : ∀ w ∈ wsX7_wander, w ∈ lw_tbl := List.forall_mem_cons.mpr ⟨List.mem_of_getElem? (i := 1009) (by decide +kernel), List.forall_mem_append.mpr ⟨List.forall_mem_append.mpr ⟨gw_wsX7_wander_r1, List.forall_mem_append.mpr ⟨gw_wsX7_wander_r2, gw_wsX7_wander_r3⟩⟩, in_wsX70⟩⟩
set_option maxRecDepth 20000 in
theorem gw_wsL_cap : ∀ w ∈ wsL_cap, w ∈ lw_tbl := List.forall_mem_cons.mpr ⟨List.mem_of_getElem? (i := 582) (by decide +kernel), List.forall_mem_append.mpr ⟨List.forall_mem_append.mpr ⟨(lw_in [359, 583, 584, 585, 48, 586, 211, 453, 454, 455, 437, 59] (by decide +kernel)), in_wsX60⟩, wsL_law_x0⟩⟩
set_option maxRecDepth 20000 in
theorem gw_wsX7_cap : ∀ w ∈ wsX7_cap, w ∈ lw_tbl := List.forall_mem_cons.mpr ⟨List.mem_of_getElem? (i := 1025) (by decide +kernel), List.forall_mem_append.mpr ⟨(lw_in [831, 967, 968, 54, 969, 970, 972, 26, 973, 829] (by decide +kernel)), in_wsX70⟩⟩
set_option maxRecDepth 20000 in
theorem gw_wsL_height_r1 : ∀ w ∈ wsL_height_r1, w ∈ lw_tbl := (lw_in [358, 590, 591, 592, 48, 593, 369, 58, 595, 597, 16, 598, 210, 206, 209, 205, 602, 603, 50, 604, 211, 605, 85, 86] (by decide +kernel))
set_option maxRecDepth 20000 in
theorem gw_wsL_height_r2 : ∀ w ∈ wsL_height_r2, w ∈ lw_tbl := (lw_in [599, 600, 601, 243, 244, 245, 61, 246, 513, 524, 520] (by decide +kernel))
set_option maxRecDepth 20000 in
theorem gw_wsL_height : ∀ w ∈ wsL_height, w ∈ lw_tbl := List.forall_mem_cons.mpr ⟨List.mem_of_getElem? (i := 589) (by decide +kernel), List.forall_mem_append.mpr ⟨List.forall_mem_append.mpr ⟨List.forall_mem_append.mpr ⟨List.forall_mem_append.mpr ⟨List.forall_mem_append.mpr ⟨List.forall_mem_append.mpr ⟨gw_wsL_height_r1, gw_wsL_height_r2⟩, in_wsX60⟩, in_wsX30⟩, in_wsX10⟩, in_wsX40⟩, wsL_law_x2⟩⟩
set_option maxRecDepth 20000 in
theorem gw_wsX7_height_r1 : ∀ w ∈ wsX7_height_r1, w ∈ lw_tbl := (lw_in [967, 968, 54, 969, 970, 972, 26, 973, 829, 1030, 1032, 34, 1033, 852, 853, 854, 837, 838, 831, 994, 996, 29, 997, 841] (by decide +kernel))
set_option maxRecDepth 20000 in
theorem gw_wsX7_height_r2 : ∀ w ∈ wsX7_height_r2, w ∈ lw_tbl := (lw_in [839, 840] (by decide +kernel))
set_option maxRecDepth 20000 in
theorem gw_wsX7_height : ∀ w ∈ wsX7_height, w ∈ lw_tbl := List.forall_mem_cons.mpr ⟨List.mem_of_getElem? (i := 1029) (by decide +kernel), List.forall_mem_append.mpr ⟨List.forall_mem_append.mpr ⟨gw_wsX7_height_r1, gw_wsX7_height_r2⟩, in_wsX70⟩⟩
set_option maxRecDepth 20000 in
theorem gw_wsL_request_r1 : ∀ w ∈ wsL_request_r1, w ∈ lw_tbl := (lw_in [358, 359, 360, 609, 610, 611, 48, 612, 437, 59, 457, 60, 204, 210, 111, 614, 62, 212, 206, 365, 366, 367, 369, 58] (by decide +kernel))
set_option maxRecDepth 20000 in
theorem gw_wsL_request_r2 : ∀ w ∈ wsL_request_r2, w ∈ lw_tbl := (lw_in [368, 256, 49, 257, 453, 454, 455, 251, 252, 253, 254, 94, 83, 255, 599, 600, 601, 595, 597, 16, 598, 209, 205, 602] (by decide +kernel))
set_option maxRecDepth 20000 in
theorem gw_wsL_request_r3 : ∀ w ∈ wsL_request_r3, w ∈ lw_tbl := (lw_in [603, 50, 604, 211, 605, 85, 86, 243, 244, 245, 61, 246, 513, 524, 520, 615, 616, 617, 618, 69, 70, 619, 621, 625] (by decide +kernel))
set_option maxRecDepth 20000 in
theorem gw_wsL_request_r4 : ∀ w ∈ wsL_request_r4, w ∈ lw_tbl := (lw_in [629, 635, 639, 642] (by decide +kernel))
set_option maxRecDepth 20000 in
theorem gw_wsL_request : ∀ w ∈ wsL_request, w ∈ lw_tbl := List.forall_mem_cons.mpr ⟨List.mem_of_getElem? (i := 608) (by decide +kernel), List.forall_mem_append.mpr ⟨List.forall_mem_append.mpr ⟨List.forall_mem_append.mpr ⟨List.forall_mem_append.mpr ⟨List.forall_mem_append.mpr ⟨List.forall_mem_append.mpr ⟨List.forall_mem_append.mpr ⟨List.forall_mem_append.mpr ⟨List.forall_mem_append.mpr ⟨gw_wsL_request_r1, List.forall_mem_append.mpr ⟨gw_wsL_request_r2, List.forall_mem_append.mpr ⟨gw_wsL_request_r3, gw_wsL_request_r4⟩⟩⟩, in_wsX60⟩, in_wsX30⟩, in_wsX00⟩, in_wsX10⟩, in_wsX40⟩, wsL_law_x0⟩, wsL_law_x1⟩, wsL_law_x2⟩⟩
set_option maxRecDepth 20000 in
theorem gw_wsX7_request_r1 : ∀ w ∈ wsX7_request_r1, w ∈ lw_tbl := (lw_in [852, 828, 858, 854, 855, 856, 830, 857, 859, 860, 861, 964, 965, 54, 966, 967, 968, 969, 982, 984, 27, 985, 836, 970] (by decide +kernel))
set_option maxRecDepth 20000 in
theorem gw_wsX7_request_r2 : ∀ w ∈ wsX7_request_r2, w ∈ lw_tbl := (lw_in [972, 26, 973, 829, 1030, 1032, 34, 1033, 853, 837, 838, 831, 994, 996, 29, 997, 841, 839, 840] (by decide +kernel))
set_option maxRecDepth 20000 in
theorem gw_wsX7_request : ∀ w ∈ wsX7_request, w ∈ lw_tbl := List.forall_mem_cons.mpr ⟨List.mem_of_getElem? (i := 1037) (by decide +kernel), List.forall_mem_append.mpr ⟨List.forall_mem_append.mpr ⟨gw_wsX7_request_r1, gw_wsX7_request_r2⟩, in_wsX70⟩⟩
set_option maxRecDepth 20000 in
theorem gw_wsL_cancel_r1 : ∀ w ∈ wsL_cancel_r1, w ∈ lw_tbl := (lw_in [358, 360, 673, 674, 675, 48, 676, 457, 60, 212, 677, 679, 17, 680, 369, 58, 210, 206, 683, 684, 685, 53, 686, 159] (by decide +kernel))
set_option maxRecDepth 20000 in
theorem gw_wsL_cancel_r2 : ∀ w ∈ wsL_cancel_r2, w ∈ lw_tbl := (lw_in [156, 157, 687, 300, 301, 302, 287, 289, 8, 290, 271, 273, 5, 274, 155] (by decide +kernel))
set_option maxRecDepth 20000 in
theorem gw_wsL_cancel : ∀ w ∈ wsL_cancel, w ∈ lw_tbl := List.forall_mem_cons.mpr ⟨List.mem_of_getElem? (i := 672) (by decide +kernel), List.forall_mem_append.mpr ⟨List.forall_mem_append.mpr ⟨List.forall_mem_append.mpr ⟨List.forall_mem_append.mpr ⟨List.forall_mem_append.mpr ⟨List.forall_mem_append.mpr ⟨List.forall_mem_append.mpr ⟨gw_wsL_cancel_r1, gw_wsL_cancel_r2⟩, in_wsX30⟩, in_wsX10⟩, in_wsX60⟩, in_wsX40⟩, wsL_law_x1⟩, wsL_law_x2⟩⟩
set_option maxRecDepth 20000 in
theorem gw_wsX7_cancel : ∀ w ∈ wsX7_cancel, w ∈ lw_tbl := List.forall_mem_cons.mpr ⟨List.mem_of_getElem? (i := 1041) (by decide +kernel), List.forall_mem_append.mpr ⟨(lw_in [853, 830, 862, 859, 841, 843, 842, 1042, 1044, 35, 54, 1045, 852, 967, 968, 969, 970, 972, 26, 973, 829] (by decide +kernel)), in_wsX70⟩⟩
set_option maxRecDepth 20000 in
theorem gw_wsL_rate_r1 : ∀ w ∈ wsL_rate_r1, w ∈ lw_tbl := (lw_in [358, 359, 360, 691, 692, 693, 48, 694, 457, 60, 677, 679, 17, 680, 369, 58, 210, 206, 453, 454, 455, 437, 59, 243] (by decide +kernel))
set_option maxRecDepth 20000 in
theorem gw_wsL_rate_r2 : ∀ w ∈ wsL_rate_r2, w ∈ lw_tbl := (lw_in [244, 245, 61, 246, 513, 524, 520, 696, 697, 698, 699, 516, 517, 700, 85, 50, 86, 518, 303, 305, 9, 306, 213] (by decide +kernel))
set_option maxRecDepth 20000 in
theorem gw_wsL_rate : ∀ w ∈ wsL_rate, w ∈ lw_tbl := List.forall_mem_cons.mpr ⟨List.mem_of_getElem? (i := 690) (by decide +kernel), List.forall_mem_append.mpr ⟨List.forall_mem_append.mpr ⟨List.forall_mem_append.mpr ⟨List.forall_mem_append.mpr ⟨List.forall_mem_append.mpr ⟨List.forall_mem_append.mpr ⟨List.forall_mem_append.mpr ⟨List.forall_mem_append.mpr ⟨gw_wsL_rate_r1, gw_wsL_rate_r2⟩, in_wsX30⟩, in_wsX10⟩, in_wsX60⟩, in_wsX40⟩, wsL_law_x1⟩, wsL_law_x2⟩, wsL_law_x0⟩⟩
set_option maxRecDepth 20000 in
theorem gw_wsX7_rate_r1 : ∀ w ∈ wsX7_rate_r1, w ∈ lw_tbl := (lw_in [853, 863, 859, 848, 847, 840, 1042, 1044, 35, 54, 1045, 852, 967, 968, 969, 970, 972, 26, 973, 829, 1050, 1052, 36, 1053] (by decide +kernel))
set_option maxRecDepth 20000 in
theorem gw_wsX7_rate_r2 : ∀ w ∈ wsX7_rate_r2, w ∈ lw_tbl := (lw_in [990, 992, 28, 993, 846, 845, 994, 996, 29, 997, 841, 839] (by decide +kernel))
set_option maxRecDepth 20000 in
theorem gw_wsX7_rate : ∀ w ∈ wsX7_rate, w ∈ lw_tbl := List.forall_mem_cons.mpr ⟨List.mem_of_getElem? (i := 1049) (by decide +kernel), List.forall_mem_append.mpr ⟨List.forall_mem_append.mpr ⟨gw_wsX7_rate_r1, gw_wsX7_rate_r2⟩, in_wsX70⟩⟩
set_option maxRecDepth 20000 in
theorem gw_wsX6_airport_r1 : ∀ w ∈ wsX6_airport_r1, w ∈ lw_tbl := (lw_in [210, 206, 239, 241, 2, 48, 242, 209, 205, 243, 244, 245, 61, 246, 513, 524, 520, 247, 249, 3, 250, 212, 204, 251] (by decide +kernel))
set_option maxRecDepth 20000 in
theorem gw_wsX6_airport_r2 : ∀ w ∈ wsX6_airport_r2, w ∈ lw_tbl := (lw_in [252, 253, 49, 254, 94, 83, 255, 256, 257, 258, 260, 4, 261, 262, 263, 264, 265, 266, 267, 268, 269, 53, 270, 159] (by decide +kernel))
set_option maxRecDepth 20000 in
theorem gw_wsX6_airport_r3 : ∀ w ∈ wsX6_airport_r3, w ∈ lw_tbl := (lw_in [155, 156, 157, 271, 273, 5, 274, 275, 277, 6, 278, 279, 281, 7, 282, 283, 284, 285, 286, 287, 289, 8, 290, 291] (by decide +kernel))
set_option maxRecDepth 20000 in
theorem gw_wsX6_airport_r4 : ∀ w ∈ wsX6_airport_r4, w ∈ lw_tbl := (lw_in [292, 293, 294, 295, 296, 297, 298, 299, 300, 301, 302, 303, 305, 9, 306, 213] (by decide +kernel))
set_option maxRecDepth 20000 in
theorem gw_wsX6_airport : ∀ w ∈ wsX6_airport, w ∈ lw_tbl := List.forall_mem_cons.mpr ⟨List.mem_of_getElem? (i := 238) (by decide +kernel), List.forall_mem_append.mpr ⟨List.forall_mem_append.mpr ⟨List.forall_mem_append.mpr ⟨List.forall_mem_append.mpr ⟨List.forall_mem_append.mpr ⟨List.forall_mem_append.mpr ⟨gw_wsX6_airport_r1, List.forall_mem_append.mpr ⟨gw_wsX6_airport_r2, List.forall_mem_append.mpr ⟨gw_wsX6_airport_r3, gw_wsX6_airport_r4⟩⟩⟩, in_wsX60⟩, in_wsX30⟩, in_wsX10⟩, in_wsX40⟩, in_wsX00⟩⟩
set_option maxRecDepth 20000 in
theorem gw_wsX7_airport_r1 : ∀ w ∈ wsX7_airport_r1, w ∈ lw_tbl := (lw_in [829, 852, 837, 838, 845, 853, 854, 994, 996, 29, 54, 997, 841, 839, 840, 1058, 1060, 37, 1061, 859, 862, 830, 860, 855] (by decide +kernel))
set_option maxRecDepth 20000 in
theorem gw_wsX7_airport_r2 : ∀ w ∈ wsX7_airport_r2, w ∈ lw_tbl := (lw_in [982, 984, 27, 985, 836, 1010, 1012, 31, 1013, 842, 843, 1014, 1016, 32, 1017, 844, 1018, 1020, 33, 1021, 861, 850, 851, 858] (by decide +kernel))
set_option maxRecDepth 20000 in
theorem gw_wsX7_airport_r3 : ∀ w ∈ wsX7_airport_r3, w ∈ lw_tbl := (lw_in [990, 992, 28, 993, 846] (by decide +kernel))
set_option maxRecDepth 20000 in
theorem gw_wsX7_airport : ∀ w ∈ wsX7_airport, w ∈ lw_tbl := List.forall_mem_cons.mpr ⟨List.mem_of_getElem? (i := 1057) (by decide +kernel), List.forall_mem_append.mpr ⟨List.forall_mem_append.mpr ⟨gw_wsX7_airport_r1, List.forall_mem_append.mpr ⟨gw_wsX7_airport_r2, gw_wsX7_airport_r3⟩⟩, in_wsX70⟩⟩
set_option maxRecDepth 20000 in
theorem gw_wsL_best_r1 : ∀ w ∈ wsL_best_r1, w ∈ lw_tbl := (lw_in [360, 704, 705, 706, 48, 707, 207, 708, 710, 18, 711, 457, 60, 209, 210, 206, 712, 713, 714, 51, 715, 126, 127, 717] (by decide +kernel))
set_option maxRecDepth 20000 in
theorem gw_wsL_best_r2 : ∀ w ∈ wsL_best_r2, w ∈ lw_tbl := (lw_in [718, 719, 720, 121, 721, 723, 19, 724, 212, 204, 205, 251, 252, 253, 49, 254, 94, 83, 255, 256, 257, 243, 244, 245] (by decide +kernel))
set_option maxRecDepth 20000 in
theorem gw_wsL_best_r3 : ∀ w ∈ wsL_best_r3, w ∈ lw_tbl := (lw_in [61, 246, 513, 524, 520, 725, 726, 727, 728, 123, 729, 730, 731, 732, 124, 733, 735, 20, 736, 745, 603, 50, 604, 737] (by decide +kernel))
set_option maxRecDepth 20000 in
theorem gw_wsL_best_r4 : ∀ w ∈ wsL_best_r4, w ∈ lw_tbl := (lw_in [739, 21, 740, 741, 743, 22, 744] (by decide +kernel))
set_option maxRecDepth 20000 in
theorem gw_wsL_best : ∀ w ∈ wsL_best, w ∈ lw_tbl := List.forall_mem_cons.mpr ⟨List.mem_of_getElem? (i := 703) (by decide +kernel), List.forall_mem_append.mpr ⟨List.forall_mem_append.mpr ⟨List.forall_mem_append.mpr ⟨List.forall_mem_append.mpr ⟨List.forall_mem_append.mpr ⟨List.forall_mem_append.mpr ⟨List.forall_mem_append.mpr ⟨List.forall_mem_append.mpr ⟨gw_wsL_best_r1, List.forall_mem_append.mpr ⟨gw_wsL_best_r2, List.forall_mem_append.mpr ⟨gw_wsL_best_r3, gw_wsL_best_r4⟩⟩⟩, in_wsX60⟩, in_wsX30⟩, in_wsX20⟩, in_wsX10⟩, in_wsX00⟩, in_wsX40⟩, wsL_law_x1⟩⟩
set_option maxRecDepth 20000 in
theorem gw_wsX7_best_r1 : ∀ w ∈ wsX7_best_r1, w ∈ lw_tbl := (lw_in [867, 1066, 1068, 38, 54, 1069, 852, 853, 854, 864, 970, 972, 26, 973, 829, 1070, 1072, 39, 1073, 837, 865, 838, 828, 830] (by decide +kernel))
set_option maxRecDepth 20000 in
theorem gw_wsX7_best_r2 : ∀ w ∈ wsX7_best_r2, w ∈ lw_tbl := (lw_in [856, 1074, 866, 982, 984, 27, 985, 836, 994, 996, 29, 997, 841, 839, 840] (by decide +kernel))
set_option maxRecDepth 20000 in
theorem gw_wsX7_best : ∀ w ∈ wsX7_best, w ∈ lw_tbl := List.forall_mem_cons.mpr ⟨List.mem_of_getElem? (i := 1065) (by decide +kernel), List.forall_mem_append.mpr ⟨List.forall_mem_append.mpr ⟨gw_wsX7_best_r1, gw_wsX7_best_r2⟩, in_wsX70⟩⟩
set_option maxRecDepth 20000 in
theorem gw_wsL_bestAnew_r1 : ∀ w ∈ wsL_bestAnew_r1, w ∈ lw_tbl := (lw_in [360, 749, 750, 751, 48, 752, 207, 708, 710, 18, 711, 457, 60, 209, 210, 206, 712, 713, 714, 51, 715, 126, 127, 717] (by decide +kernel))
set_option maxRecDepth 20000 in
theorem gw_wsL_bestAnew_r2 : ∀ w ∈ wsL_bestAnew_r2, w ∈ lw_tbl := (lw_in [718, 719, 720, 121, 721, 723, 19, 724, 212, 204, 205, 251, 252, 253, 49, 254, 94, 83, 255, 256, 257, 243, 244, 245] (by decide +kernel))
set_option maxRecDepth 20000 in
theorem gw_wsL_bestAnew_r3 : ∀ w ∈ wsL_bestAnew_r3, w ∈ lw_tbl := (lw_in [61, 246, 513, 524, 520, 725, 726, 727, 728, 123, 753, 754, 755, 756, 125, 745, 603, 50, 604, 757, 759, 23, 760] (by decide +kernel))
set_option maxRecDepth 20000 in
theorem gw_wsL_bestAnew : ∀ w ∈ wsL_bestAnew, w ∈ lw_tbl := List.forall_mem_cons.mpr ⟨List.mem_of_getElem? (i := 748) (by decide +kernel), List.forall_mem_append.mpr ⟨List.forall_mem_append.mpr ⟨List.forall_mem_append.mpr ⟨List.forall_mem_append.mpr ⟨List.forall_mem_append.mpr ⟨List.forall_mem_append.mpr ⟨List.forall_mem_append.mpr ⟨List.forall_mem_append.mpr ⟨gw_wsL_bestAnew_r1, List.forall_mem_append.mpr ⟨gw_wsL_bestAnew_r2, gw_wsL_bestAnew_r3⟩⟩, in_wsX60⟩, in_wsX30⟩, in_wsX20⟩, in_wsX10⟩, in_wsX00⟩, in_wsX40⟩, wsL_law_x1⟩⟩
set_option maxRecDepth 20000 in
theorem gw_wsX7_bestAnew_r1 : ∀ w ∈ wsX7_bestAnew_r1, w ∈ lw_tbl := (lw_in [1079, 1063, 1064, 54, 1065, 867, 1066, 1068, 38, 1069, 852, 853, 854, 864, 970, 972, 26, 973, 829, 1070, 1072, 39, 1073, 837] (by decide +kernel))
set_option maxRecDepth 20000 in
theorem gw_wsX7_bestAnew_r2 : ∀ w ∈ wsX7_bestAnew_r2, w ∈ lw_tbl := (lw_in [865, 838, 828, 830, 856, 1074, 866, 982, 984, 27, 985, 836, 994, 996, 29, 997, 841, 839, 840] (by decide +kernel))
set_option maxRecDepth 20000 in
theorem gw_wsX7_bestAnew : ∀ w ∈ wsX7_bestAnew, w ∈ lw_tbl := List.forall_mem_cons.mpr ⟨List.mem_of_getElem? (i := 1078) (by decide +kernel), List.forall_mem_append.mpr ⟨List.forall_mem_append.mpr ⟨gw_wsX7_bestAnew_r1, gw_wsX7_bestAnew_r2⟩, in_wsX70⟩⟩
set_option maxRecDepth 20000 in
theorem gw_wsL_match_r1 : ∀ w ∈ wsL_match_r1, w ∈ lw_tbl := (lw_in [360, 764, 765, 766, 48, 767, 207, 205, 708, 710, 18, 711, 457, 60, 209, 210, 206, 712, 713, 714, 51, 715, 126, 127] (by decide +kernel))
set_option maxRecDepth 20000 in
theorem gw_wsL_match_r2 : ∀ w ∈ wsL_match_r2, w ∈ lw_tbl := (lw_in [717, 718, 719, 720, 121, 721, 723, 19, 724, 212, 204, 251, 252, 253, 49, 254, 94, 83, 255, 256, 257, 243, 244, 245] (by decide +kernel))
set_option maxRecDepth 20000 in
theorem gw_wsL_match_r3 : ∀ w ∈ wsL_match_r3, w ∈ lw_tbl := (lw_in [61, 246, 513, 524, 520, 725, 726, 727, 728, 123, 729, 730, 731, 732, 124, 733, 735, 20, 736, 745, 603, 50, 604, 737] (by decide +kernel))
set_option maxRecDepth 20000 in
theorem gw_wsL_match_r4 : ∀ w ∈ wsL_match_r4, w ∈ lw_tbl := (lw_in [739, 21, 740, 741, 743, 22, 744, 768, 769, 770, 771, 247, 249, 3, 250, 258, 260, 4, 261, 262, 263, 264, 265, 266] (by decide +kernel))
set_option maxRecDepth 20000 in
theorem gw_wsL_match_r5 : ∀ w ∈ wsL_match_r5, w ∈ lw_tbl := (lw_in [267, 268, 269, 53, 270, 159, 155, 156, 157, 271, 273, 5, 274, 275, 277, 6, 278, 279, 281, 7, 282, 283, 284, 285] (by decide +kernel))
set_option maxRecDepth 20000 in
theorem gw_wsL_match_r6 : ∀ w ∈ wsL_match_r6, w ∈ lw_tbl := (lw_in [286, 287, 289, 8, 290, 291, 292, 293, 294, 295, 296, 297, 298, 299, 300, 301, 302, 303, 305, 9, 306, 213] (by decide +kernel))
set_option maxRecDepth 20000 in
theorem gw_wsL_match : ∀ w ∈ wsL_match, w ∈ lw_tbl := List.forall_mem_cons.mpr ⟨List.mem_of_getElem? (i := 763) (by decide +kernel), List.forall_mem_append.mpr ⟨List.forall_mem_append.mpr ⟨List.forall_mem_append.mpr ⟨List.forall_mem_append.mpr ⟨List.forall_mem_append.mpr ⟨List.forall_mem_append.mpr ⟨List.forall_mem_append.mpr ⟨List.forall_mem_append.mpr ⟨gw_wsL_match_r1, List.forall_mem_append.mpr ⟨gw_wsL_match_r2, List.forall_mem_append.mpr ⟨gw_wsL_match_r3, List.forall_mem_append.mpr ⟨gw_wsL_match_r4, List.forall_mem_append.mpr ⟨gw_wsL_match_r5, gw_wsL_match_r6⟩⟩⟩⟩⟩, in_wsX60⟩, in_wsX20⟩, in_wsX30⟩, in_wsX10⟩, in_wsX00⟩, in_wsX40⟩, wsL_law_x1⟩⟩
set_option maxRecDepth 20000 in
theorem gw_wsX7_match_r1 : ∀ w ∈ wsX7_match_r1, w ∈ lw_tbl := (lw_in [866, 837, 864, 1066, 1068, 38, 54, 1069, 852, 853, 854, 970, 972, 26, 973, 829, 1070, 1072, 39, 1073, 867, 865, 838, 828] (by decide +kernel))
set_option maxRecDepth 20000 in
theorem gw_wsX7_match_r2 : ∀ w ∈ wsX7_match_r2, w ∈ lw_tbl := (lw_in [830, 856, 1074, 982, 984, 27, 985, 836, 994, 996, 29, 997, 841, 839, 840, 1058, 1060, 37, 1061, 859, 862, 860, 855, 1010] (by decide +kernel))
set_option maxRecDepth 20000 in
theorem gw_wsX7_match_r3 : ∀ w ∈ wsX7_match_r3, w ∈ lw_tbl := (lw_in [1012, 31, 1013, 842, 843, 1014, 1016, 32, 1017, 844, 1018, 1020, 33, 1021, 861, 850, 851, 858, 990, 992, 28, 993, 846, 845] (by decide +kernel))
set_option maxRecDepth 20000 in
theorem gw_wsX7_match : ∀ w ∈ wsX7_match, w ∈ lw_tbl := List.forall_mem_cons.mpr ⟨List.mem_of_getElem? (i := 1083) (by decide +kernel), List.forall_mem_append.mpr ⟨List.forall_mem_append.mpr ⟨gw_wsX7_match_r1, List.forall_mem_append.mpr ⟨gw_wsX7_match_r2, gw_wsX7_match_r3⟩⟩, in_wsX70⟩⟩
set_option maxRecDepth 20000 in
theorem gw_wsX6_share_r1 : ∀ w ∈ wsX6_share_r1, w ∈ lw_tbl := (lw_in [210, 206, 311, 313, 10, 48, 314, 208, 209, 205, 315, 316, 317, 52, 318, 174, 175, 319, 320, 321, 53, 322, 159, 156] (by decide +kernel))
set_option maxRecDepth 20000 in
theorem gw_wsX6_share_r2 : ∀ w ∈ wsX6_share_r2, w ∈ lw_tbl := (lw_in [323, 324, 325, 326, 157, 327, 328, 329, 330, 183, 177, 179, 184, 181, 331, 333, 11, 334, 172, 335, 296, 297, 298, 155] (by decide +kernel))
set_option maxRecDepth 20000 in
theorem gw_wsX6_share_r3 : ∀ w ∈ wsX6_share_r3, w ∈ lw_tbl := (lw_in [287, 289, 8, 290, 336, 252, 253, 49, 254, 94, 83, 255, 256, 257, 337, 339, 12, 340, 173, 341, 342, 343, 344, 345] (by decide +kernel))
set_option maxRecDepth 20000 in
theorem gw_wsX6_share_r4 : ∀ w ∈ wsX6_share_r4, w ∈ lw_tbl := (lw_in [268, 269, 270, 271, 273, 5, 274, 346, 347, 349, 13, 350, 352, 351, 284, 285, 286, 353, 292, 293, 294, 354, 263, 264] (by decide +kernel))
set_option maxRecDepth 20000 in
theorem gw_wsX6_share_r5 : ∀ w ∈ wsX6_share_r5, w ∈ lw_tbl := (lw_in [265, 266, 267, 258, 260, 4, 261, 212, 204, 262] (by decide +kernel))
set_option maxRecDepth 20000 in
theorem gw_wsX6_share : ∀ w ∈ wsX6_share, w ∈ lw_tbl := List.forall_mem_cons.mpr ⟨List.mem_of_getElem? (i := 310) (by decide +kernel), List.forall_mem_append.mpr ⟨List.forall_mem_append.mpr ⟨List.forall_mem_append.mpr ⟨List.forall_mem_append.mpr ⟨List.forall_mem_append.mpr ⟨List.forall_mem_append.mpr ⟨List.forall_mem_append.mpr ⟨gw_wsX6_share_r1, List.forall_mem_append.mpr ⟨gw_wsX6_share_r2, List.forall_mem_append.mpr ⟨gw_wsX6_share_r3, List.forall_mem_append.mpr ⟨gw_wsX6_share_r4, gw_wsX6_share_r5⟩⟩⟩⟩, in_wsX60⟩, in_wsX30⟩, in_wsX10⟩, in_wsX50⟩, in_wsX40⟩, in_wsX00⟩⟩
set_option maxRecDepth 20000 in
theorem gw_wsX7_share_r1 : ∀ w ∈ wsX7_share_r1, w ∈ lw_tbl := (lw_in [829, 852, 853, 857, 1088, 1090, 40, 54, 1091, 828, 837, 870, 1092, 1094, 41, 1095, 840, 841, 843, 1096, 1098, 42, 1099, 868] (by decide +kernel))
set_option maxRecDepth 20000 in
theorem gw_wsX7_share_r2 : ∀ w ∈ wsX7_share_r2, w ∈ lw_tbl := (lw_in [854, 855, 842, 869, 844, 982, 984, 27, 985, 836, 1100, 1102, 43, 1103, 856, 860, 1104, 1106, 44, 1107, 859, 862, 830] (by decide +kernel))
set_option maxRecDepth 20000 in
theorem gw_wsX7_share : ∀ w ∈ wsX7_share, w ∈ lw_tbl := List.forall_mem_cons.mpr ⟨List.mem_of_getElem? (i := 1087) (by decide +kernel), List.forall_mem_append.mpr ⟨List.forall_mem_append.mpr ⟨gw_wsX7_share_r1, gw_wsX7_share_r2⟩, in_wsX70⟩⟩
set_option maxRecDepth 20000 in
theorem gw_wsL_requestIs_r1 : ∀ w ∈ wsL_requestIs_r1, w ∈ lw_tbl := (lw_in [358, 359, 775, 776, 777, 48, 778, 677, 679, 17, 680, 369, 58, 210, 206, 453, 454, 455, 437, 59, 779, 780, 781, 62] (by decide +kernel))
set_option maxRecDepth 20000 in
theorem gw_wsL_requestIs_r2 : ∀ w ∈ wsL_requestIs_r2, w ∈ lw_tbl := (lw_in [782, 642, 639] (by decide +kernel))
set_option maxRecDepth 20000 in
theorem gw_wsL_requestIs : ∀ w ∈ wsL_requestIs, w ∈ lw_tbl := List.forall_mem_cons.mpr ⟨List.mem_of_getElem? (i := 774) (by decide +kernel), List.forall_mem_append.mpr ⟨List.forall_mem_append.mpr ⟨List.forall_mem_append.mpr ⟨List.forall_mem_append.mpr ⟨List.forall_mem_append.mpr ⟨List.forall_mem_append.mpr ⟨gw_wsL_requestIs_r1, gw_wsL_requestIs_r2⟩, in_wsX30⟩, in_wsX10⟩, in_wsX60⟩, wsL_law_x2⟩, wsL_law_x0⟩⟩
set_option maxRecDepth 20000 in
theorem gw_wsX7_requestIs : ∀ w ∈ wsX7_requestIs, w ∈ lw_tbl := List.forall_mem_cons.mpr ⟨List.mem_of_getElem? (i := 1123) (by decide +kernel), List.forall_mem_append.mpr ⟨(lw_in [853, 858, 859, 860, 861, 856, 1042, 1044, 35, 54, 1045, 852, 967, 968, 969, 970, 972, 26, 973, 829] (by decide +kernel)), in_wsX70⟩⟩
set_option maxRecDepth 20000 in
theorem gw_wsL_driverIs_r1 : ∀ w ∈ wsL_driverIs_r1, w ∈ lw_tbl := (lw_in [358, 359, 786, 787, 788, 48, 789, 566, 568, 15, 569, 369, 58, 209, 205, 453, 454, 455, 437, 59, 243, 244, 245, 61] (by decide +kernel))
set_option maxRecDepth 20000 in
theorem gw_wsL_driverIs_r2 : ∀ w ∈ wsL_driverIs_r2, w ∈ lw_tbl := (lw_in [246, 513, 524, 520] (by decide +kernel))
set_option maxRecDepth 20000 in
theorem gw_wsL_driverIs : ∀ w ∈ wsL_driverIs, w ∈ lw_tbl := List.forall_mem_cons.mpr ⟨List.mem_of_getElem? (i := 785) (by decide +kernel), List.forall_mem_append.mpr ⟨List.forall_mem_append.mpr ⟨List.forall_mem_append.mpr ⟨List.forall_mem_append.mpr ⟨List.forall_mem_append.mpr ⟨List.forall_mem_append.mpr ⟨gw_wsL_driverIs_r1, gw_wsL_driverIs_r2⟩, in_wsX10⟩, in_wsX40⟩, in_wsX60⟩, wsL_law_x2⟩, wsL_law_x0⟩⟩
set_option maxRecDepth 20000 in
theorem gw_wsX7_driverIs_r1 : ∀ w ∈ wsX7_driverIs_r1, w ∈ lw_tbl := (lw_in [838, 841, 844, 849, 850, 1002, 1004, 30, 54, 1005, 837, 967, 968, 969, 970, 972, 26, 973, 829, 994, 996, 29, 997, 839] (by decide +kernel))
set_option maxRecDepth 20000 in
theorem gw_wsX7_driverIs_r2 : ∀ w ∈ wsX7_driverIs_r2, w ∈ lw_tbl := (lw_in [840, 1050, 1052, 36, 1053, 847, 848] (by decide +kernel))
set_option maxRecDepth 20000 in
theorem gw_wsX7_driverIs : ∀ w ∈ wsX7_driverIs, w ∈ lw_tbl := List.forall_mem_cons.mpr ⟨List.mem_of_getElem? (i := 1127) (by decide +kernel), List.forall_mem_append.mpr ⟨List.forall_mem_append.mpr ⟨gw_wsX7_driverIs_r1, gw_wsX7_driverIs_r2⟩, in_wsX70⟩⟩
set_option maxRecDepth 20000 in
theorem gw_wsL_stop_r1 : ∀ w ∈ wsL_stop_r1, w ∈ lw_tbl := (lw_in [358, 793, 794, 795, 48, 796, 369, 58, 566, 568, 15, 569, 209, 205, 295, 296, 297, 53, 298, 155, 287, 289, 8, 290] (by decide +kernel))
set_option maxRecDepth 20000 in
theorem gw_wsL_stop_r2 : ∀ w ∈ wsL_stop_r2, w ∈ lw_tbl := (lw_in [159, 283, 284, 285, 286, 156, 291, 292, 293, 294, 157] (by decide +kernel))
set_option maxRecDepth 20000 in
theorem gw_wsL_stop : ∀ w ∈ wsL_stop, w ∈ lw_tbl := List.forall_mem_cons.mpr ⟨List.mem_of_getElem? (i := 792) (by decide +kernel), List.forall_mem_append.mpr ⟨List.forall_mem_append.mpr ⟨List.forall_mem_append.mpr ⟨List.forall_mem_append.mpr ⟨List.forall_mem_append.mpr ⟨List.forall_mem_append.mpr ⟨gw_wsL_stop_r1, gw_wsL_stop_r2⟩, in_wsX10⟩, in_wsX30⟩, in_wsX60⟩, in_wsX40⟩, wsL_law_x2⟩⟩
set_option maxRecDepth 20000 in
theorem gw_wsX7_stop : ∀ w ∈ wsX7_stop, w ∈ lw_tbl := List.forall_mem_cons.mpr ⟨List.mem_of_getElem? (i := 1131) (by decide +kernel), List.forall_mem_append.mpr ⟨(lw_in [841, 843, 842, 1002, 1004, 30, 54, 1005, 837, 967, 968, 969, 970, 972, 26, 973, 829] (by decide +kernel)), in_wsX70⟩⟩
set_option maxRecDepth 20000 in
theorem gw_wsL_pay : ∀ w ∈ wsL_pay, w ∈ lw_tbl := List.forall_mem_cons.mpr ⟨List.mem_of_getElem? (i := 800) (by decide +kernel), List.forall_mem_append.mpr ⟨List.forall_mem_append.mpr ⟨List.forall_mem_append.mpr ⟨(lw_in [358, 801, 802, 803, 48, 804, 602, 603, 50, 604, 566, 568, 15, 569, 369, 58, 209, 205] (by decide +kernel)), in_wsX10⟩, in_wsX60⟩, wsL_law_x2⟩⟩
set_option maxRecDepth 20000 in
theorem gw_wsX7_pay : ∀ w ∈ wsX7_pay, w ∈ lw_tbl := List.forall_mem_cons.mpr ⟨List.mem_of_getElem? (i := 1135) (by decide +kernel), List.forall_mem_append.mpr ⟨(lw_in [851, 849, 1002, 1004, 30, 54, 1005, 837, 967, 968, 969, 970, 972, 26, 973, 829] (by decide +kernel)), in_wsX70⟩⟩
set_option maxRecDepth 20000 in
theorem gw_wsL_pass_r1 : ∀ w ∈ wsL_pass_r1, w ∈ lw_tbl := (lw_in [359, 360, 808, 809, 810, 48, 811, 457, 60, 212, 453, 454, 455, 437, 59, 813, 815, 24, 816, 209, 205, 210, 206, 817] (by decide +kernel))
set_option maxRecDepth 20000 in
theorem gw_wsL_pass_r2 : ∀ w ∈ wsL_pass_r2, w ∈ lw_tbl := (lw_in [324, 325, 53, 326, 159, 157, 275, 277, 6, 278, 279, 281, 7, 282, 204, 283, 284, 285, 286, 156, 287, 289, 8, 290] (by decide +kernel))
set_option maxRecDepth 20000 in
theorem gw_wsL_pass_r3 : ∀ w ∈ wsL_pass_r3, w ∈ lw_tbl := (lw_in [291, 292, 293, 294, 295, 296, 297, 298, 155, 299, 300, 301, 302, 271, 273, 5, 274, 251, 252, 253, 49, 254, 94, 83] (by decide +kernel))
set_option maxRecDepth 20000 in
theorem gw_wsL_pass_r4 : ∀ w ∈ wsL_pass_r4, w ∈ lw_tbl := (lw_in [255, 256, 257, 303, 305, 9, 306, 213, 243, 244, 245, 61, 246, 513, 524, 520] (by decide +kernel))
set_option maxRecDepth 20000 in
theorem gw_wsL_pass : ∀ w ∈ wsL_pass, w ∈ lw_tbl := List.forall_mem_cons.mpr ⟨List.mem_of_getElem? (i := 807) (by decide +kernel), List.forall_mem_append.mpr ⟨List.forall_mem_append.mpr ⟨List.forall_mem_append.mpr ⟨List.forall_mem_append.mpr ⟨List.forall_mem_append.mpr ⟨List.forall_mem_append.mpr ⟨List.forall_mem_append.mpr ⟨List.forall_mem_append.mpr ⟨gw_wsL_pass_r1, List.forall_mem_append.mpr ⟨gw_wsL_pass_r2, List.forall_mem_append.mpr ⟨gw_wsL_pass_r3, gw_wsL_pass_r4⟩⟩⟩, in_wsX60⟩, in_wsX10⟩, in_wsX30⟩, in_wsX40⟩, in_wsX00⟩, wsL_law_x1⟩, wsL_law_x0⟩⟩
set_option maxRecDepth 20000 in
theorem gw_wsX7_pass_r1 : ∀ w ∈ wsX7_pass_r1, w ∈ lw_tbl := (lw_in [830, 967, 968, 54, 969, 970, 972, 26, 973, 829, 1112, 1114, 45, 1115, 837, 849, 841, 844, 852, 853, 856, 1116, 1118, 46] (by decide +kernel))
set_option maxRecDepth 20000 in
theorem gw_wsX7_pass_r2 : ∀ w ∈ wsX7_pass_r2, w ∈ lw_tbl := (lw_in [1119, 843, 1018, 1020, 33, 1021, 838, 842, 861, 850, 851, 858, 1014, 1016, 32, 1017, 982, 984, 27, 985, 836, 990, 992, 28] (by decide +kernel))
set_option maxRecDepth 20000 in
theorem gw_wsX7_pass_r3 : ∀ w ∈ wsX7_pass_r3, w ∈ lw_tbl := (lw_in [993, 846, 845, 994, 996, 29, 997, 839, 840] (by decide +kernel))
set_option maxRecDepth 20000 in
theorem gw_wsX7_pass : ∀ w ∈ wsX7_pass, w ∈ lw_tbl := List.forall_mem_cons.mpr ⟨List.mem_of_getElem? (i := 1111) (by decide +kernel), List.forall_mem_append.mpr ⟨List.forall_mem_append.mpr ⟨gw_wsX7_pass_r1, List.forall_mem_append.mpr ⟨gw_wsX7_pass_r2, gw_wsX7_pass_r3⟩⟩, in_wsX70⟩⟩
