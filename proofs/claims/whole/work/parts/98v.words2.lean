/-! WHAT EACH CALLEE WANTS -/
set_option maxRecDepth 20000 in
theorem gw_wsX6_init_r1 : ∀ w ∈ wsX6_init_r1, w ∈ lw_tbl := (lw_in [67, 68, 69, 70, 71, 48, 176, 108, 177, 110, 178, 112, 113, 50, 179, 141, 142, 51, 180, 183, 72, 73, 74, 75] (by decide +kernel))
set_option maxRecDepth 20000 in
theorem gw_wsX6_init_r2 : ∀ w ∈ wsX6_init_r2, w ∈ lw_tbl := (lw_in [107, 90, 91, 92, 76, 93, 78, 80, 0, 81, 82, 95, 83, 84, 49, 85, 86, 88, 1, 89, 114, 115, 116, 117] (by decide +kernel))
set_option maxRecDepth 20000 in
theorem gw_wsX6_init_r3 : ∀ w ∈ wsX6_init_r3, w ∈ lw_tbl := (lw_in [118, 120, 119, 122, 123, 124, 143, 144, 145, 146, 147] (by decide +kernel))
set_option maxRecDepth 20000 in
theorem gw_wsX6_init : ∀ w ∈ wsX6_init, w ∈ lw_tbl := List.forall_mem_cons.mpr ⟨List.mem_of_getElem? (i := 66) (by decide +kernel), List.forall_mem_append.mpr ⟨List.forall_mem_append.mpr ⟨List.forall_mem_append.mpr ⟨List.forall_mem_append.mpr ⟨List.forall_mem_append.mpr ⟨gw_wsX6_init_r1, List.forall_mem_append.mpr ⟨gw_wsX6_init_r2, gw_wsX6_init_r3⟩⟩, in_wsX00⟩, in_wsX60⟩, in_wsX20⟩, in_wsX50⟩⟩
set_option maxRecDepth 20000 in
theorem gw_wsX7_init_r1 : ∀ w ∈ wsX7_init_r1, w ∈ lw_tbl := (lw_in [810, 68, 69, 818, 107, 820, 821, 822, 823, 825, 497, 826, 827, 828, 829, 830, 831, 832, 834, 835, 836, 837, 838, 840] (by decide +kernel))
set_option maxRecDepth 20000 in
theorem gw_wsX7_init_r2 : ∀ w ∈ wsX7_init_r2, w ∈ lw_tbl := (lw_in [841, 842, 843, 844, 845, 846, 847, 848, 849, 850, 851, 852, 853, 855, 856, 857, 811, 813, 24, 52, 814, 815, 819] (by decide +kernel))
set_option maxRecDepth 20000 in
theorem gw_wsX7_init : ∀ w ∈ wsX7_init, w ∈ lw_tbl := List.forall_mem_cons.mpr ⟨List.mem_of_getElem? (i := 809) (by decide +kernel), List.forall_mem_append.mpr ⟨List.forall_mem_append.mpr ⟨gw_wsX7_init_r1, gw_wsX7_init_r2⟩, in_wsX70⟩⟩
set_option maxRecDepth 20000 in
theorem gw_wsL_street_r1 : ∀ w ∈ wsL_street_r1, w ∈ lw_tbl := (lw_in [324, 325, 326, 327, 328, 329, 47, 330, 403, 57, 423, 58, 176, 331, 332, 333, 335, 56, 334, 228, 48, 229, 419, 420] (by decide +kernel))
set_option maxRecDepth 20000 in
theorem gw_wsL_street_r2 : ∀ w ∈ wsL_street_r2, w ∈ lw_tbl := (lw_in [421, 439, 440, 441, 442, 95, 90, 91, 92, 78, 80, 0, 81, 93, 82, 83, 84, 49, 85, 86, 88, 1, 89] (by decide +kernel))
set_option maxRecDepth 20000 in
theorem gw_wsL_street : ∀ w ∈ wsL_street, w ∈ lw_tbl := List.forall_mem_cons.mpr ⟨List.mem_of_getElem? (i := 323) (by decide +kernel), List.forall_mem_append.mpr ⟨List.forall_mem_append.mpr ⟨List.forall_mem_append.mpr ⟨List.forall_mem_append.mpr ⟨List.forall_mem_append.mpr ⟨List.forall_mem_append.mpr ⟨gw_wsL_street_r1, gw_wsL_street_r2⟩, in_wsX60⟩, in_wsX00⟩, wsL_law_x0⟩, wsL_law_x1⟩, wsL_law_x2⟩⟩
set_option maxRecDepth 20000 in
theorem gw_wsX7_street : ∀ w ∈ wsX7_street, w ∈ lw_tbl := List.forall_mem_cons.mpr ⟨List.mem_of_getElem? (i := 950) (by decide +kernel), List.forall_mem_append.mpr ⟨(lw_in [819, 820, 821, 822, 951, 952, 52, 953, 954, 955, 956, 957, 959, 25, 960, 816, 811, 813, 24, 814, 823, 815] (by decide +kernel)), in_wsX70⟩⟩
set_option maxRecDepth 20000 in
theorem gw_wsX7_thrown : ∀ w ∈ wsX7_thrown, w ∈ lw_tbl := List.forall_mem_cons.mpr ⟨List.mem_of_getElem? (i := 946) (by decide +kernel), List.forall_mem_append.mpr ⟨(lw_in [816] (by decide +kernel)), in_wsX70⟩⟩
set_option maxRecDepth 20000 in
theorem gw_wsL_slow_r1 : ∀ w ∈ wsL_slow_r1, w ∈ lw_tbl := (lw_in [324, 325, 446, 447, 448, 47, 449, 335, 56, 176, 419, 420, 421, 403, 57, 451, 452, 453, 48, 454, 92, 78, 80, 0] (by decide +kernel))
set_option maxRecDepth 20000 in
theorem gw_wsL_slow_r2 : ∀ w ∈ wsL_slow_r2, w ∈ lw_tbl := (lw_in [81, 93, 82, 95, 90, 91, 83, 84, 49, 85, 86, 88, 1, 89] (by decide +kernel))
set_option maxRecDepth 20000 in
theorem gw_wsL_slow : ∀ w ∈ wsL_slow, w ∈ lw_tbl := List.forall_mem_cons.mpr ⟨List.mem_of_getElem? (i := 445) (by decide +kernel), List.forall_mem_append.mpr ⟨List.forall_mem_append.mpr ⟨List.forall_mem_append.mpr ⟨List.forall_mem_append.mpr ⟨List.forall_mem_append.mpr ⟨gw_wsL_slow_r1, gw_wsL_slow_r2⟩, in_wsX60⟩, in_wsX00⟩, wsL_law_x2⟩, wsL_law_x0⟩⟩
set_option maxRecDepth 20000 in
theorem gw_wsX7_slow : ∀ w ∈ wsX7_slow, w ∈ lw_tbl := List.forall_mem_cons.mpr ⟨List.mem_of_getElem? (i := 964) (by decide +kernel), List.forall_mem_append.mpr ⟨(lw_in [819, 822, 954, 955, 52, 956, 957, 959, 25, 960, 816, 811, 813, 24, 814, 823, 815, 820, 821] (by decide +kernel)), in_wsX70⟩⟩
set_option maxRecDepth 20000 in
theorem gw_wsL_way : ∀ w ∈ wsL_way, w ∈ lw_tbl := List.forall_mem_cons.mpr ⟨List.mem_of_getElem? (i := 457) (by decide +kernel), List.forall_mem_append.mpr ⟨List.forall_mem_append.mpr ⟨List.forall_mem_append.mpr ⟨(lw_in [324, 458, 459, 460, 47, 461, 176, 331, 332, 333, 335, 56, 334, 228, 48, 229, 223, 224, 225, 226, 93, 82, 227] (by decide +kernel)), in_wsX60⟩, in_wsX00⟩, wsL_law_x2⟩⟩
set_option maxRecDepth 20000 in
theorem gw_wsX7_way : ∀ w ∈ wsX7_way, w ∈ lw_tbl := List.forall_mem_cons.mpr ⟨List.mem_of_getElem? (i := 968) (by decide +kernel), List.forall_mem_append.mpr ⟨(lw_in [815, 951, 952, 52, 953, 954, 955, 956, 957, 959, 25, 960, 816, 969, 971, 26, 972, 823] (by decide +kernel)), in_wsX70⟩⟩
set_option maxRecDepth 20000 in
theorem gw_wsL_driver_r1 : ∀ w ∈ wsL_driver_r1, w ∈ lw_tbl := (lw_in [324, 326, 465, 466, 467, 47, 468, 423, 58, 181, 108, 470, 59, 177, 331, 332, 333, 335, 56, 334, 228, 48, 229, 471] (by decide +kernel))
set_option maxRecDepth 20000 in
theorem gw_wsL_driver_r2 : ∀ w ∈ wsL_driver_r2, w ∈ lw_tbl := (lw_in [472, 473, 474, 68, 69, 498, 509, 475, 246, 60, 500, 107, 503, 505, 476, 477, 478, 479, 481, 480, 482, 497, 483, 276] (by decide +kernel))
set_option maxRecDepth 20000 in
theorem gw_wsL_driver_r3 : ∀ w ∈ wsL_driver_r3, w ∈ lw_tbl := (lw_in [278, 9, 279, 185, 215, 216, 217, 218, 511, 507] (by decide +kernel))
set_option maxRecDepth 20000 in
theorem gw_wsL_driver : ∀ w ∈ wsL_driver, w ∈ lw_tbl := List.forall_mem_cons.mpr ⟨List.mem_of_getElem? (i := 464) (by decide +kernel), List.forall_mem_append.mpr ⟨List.forall_mem_append.mpr ⟨List.forall_mem_append.mpr ⟨List.forall_mem_append.mpr ⟨List.forall_mem_append.mpr ⟨List.forall_mem_append.mpr ⟨gw_wsL_driver_r1, List.forall_mem_append.mpr ⟨gw_wsL_driver_r2, gw_wsL_driver_r3⟩⟩, in_wsX60⟩, in_wsX10⟩, in_wsX40⟩, wsL_law_x1⟩, wsL_law_x2⟩⟩
set_option maxRecDepth 20000 in
theorem gw_wsX7_driver_r1 : ∀ w ∈ wsX7_driver_r1, w ∈ lw_tbl := (lw_in [824, 825, 951, 952, 52, 953, 954, 955, 956, 957, 959, 25, 960, 816, 977, 979, 27, 980, 833, 832, 981, 983, 28, 984] (by decide +kernel))
set_option maxRecDepth 20000 in
theorem gw_wsX7_driver_r2 : ∀ w ∈ wsX7_driver_r2, w ∈ lw_tbl := (lw_in [828, 826, 827] (by decide +kernel))
set_option maxRecDepth 20000 in
theorem gw_wsX7_driver : ∀ w ∈ wsX7_driver, w ∈ lw_tbl := List.forall_mem_cons.mpr ⟨List.mem_of_getElem? (i := 976) (by decide +kernel), List.forall_mem_append.mpr ⟨List.forall_mem_append.mpr ⟨gw_wsX7_driver_r1, gw_wsX7_driver_r2⟩, in_wsX70⟩⟩
set_option maxRecDepth 20000 in
theorem gw_wsL_rest_r1 : ∀ w ∈ wsL_rest_r1, w ∈ lw_tbl := (lw_in [324, 326, 549, 550, 551, 47, 552, 423, 58, 553, 555, 14, 556, 335, 56, 181, 177, 215, 216, 217, 59, 218, 500, 511] (by decide +kernel))
set_option maxRecDepth 20000 in
theorem gw_wsL_rest_r2 : ∀ w ∈ wsL_rest_r2, w ∈ lw_tbl := (lw_in [507, 276, 278, 9, 279, 185] (by decide +kernel))
set_option maxRecDepth 20000 in
theorem gw_wsL_rest : ∀ w ∈ wsL_rest, w ∈ lw_tbl := List.forall_mem_cons.mpr ⟨List.mem_of_getElem? (i := 548) (by decide +kernel), List.forall_mem_append.mpr ⟨List.forall_mem_append.mpr ⟨List.forall_mem_append.mpr ⟨List.forall_mem_append.mpr ⟨List.forall_mem_append.mpr ⟨List.forall_mem_append.mpr ⟨gw_wsL_rest_r1, gw_wsL_rest_r2⟩, in_wsX10⟩, in_wsX40⟩, in_wsX60⟩, wsL_law_x1⟩, wsL_law_x2⟩⟩
set_option maxRecDepth 20000 in
theorem gw_wsX7_rest_r1 : ∀ w ∈ wsX7_rest_r1, w ∈ lw_tbl := (lw_in [828, 826, 989, 991, 29, 52, 992, 824, 954, 955, 956, 957, 959, 25, 960, 816, 977, 979, 27, 980, 833, 832, 981, 983] (by decide +kernel))
set_option maxRecDepth 20000 in
theorem gw_wsX7_rest_r2 : ∀ w ∈ wsX7_rest_r2, w ∈ lw_tbl := (lw_in [28, 984, 827] (by decide +kernel))
set_option maxRecDepth 20000 in
theorem gw_wsX7_rest : ∀ w ∈ wsX7_rest, w ∈ lw_tbl := List.forall_mem_cons.mpr ⟨List.mem_of_getElem? (i := 988) (by decide +kernel), List.forall_mem_append.mpr ⟨List.forall_mem_append.mpr ⟨gw_wsX7_rest_r1, gw_wsX7_rest_r2⟩, in_wsX70⟩⟩
set_option maxRecDepth 20000 in
theorem gw_wsL_wander_r1 : ∀ w ∈ wsL_wander_r1, w ∈ lw_tbl := (lw_in [324, 326, 562, 563, 564, 47, 565, 423, 58, 176, 184, 553, 555, 14, 556, 335, 56, 181, 177, 331, 332, 333, 334, 228] (by decide +kernel))
set_option maxRecDepth 20000 in
theorem gw_wsL_wander_r2 : ∀ w ∈ wsL_wander_r2, w ∈ lw_tbl := (lw_in [48, 229, 223, 224, 225, 226, 93, 82, 227, 215, 216, 217, 59, 218, 500, 511, 507, 239, 240, 241, 60, 242, 485, 481] (by decide +kernel))
set_option maxRecDepth 20000 in
theorem gw_wsL_wander_r3 : ∀ w ∈ wsL_wander_r3, w ∈ lw_tbl := (lw_in [482, 483, 243, 245, 5, 247] (by decide +kernel))
set_option maxRecDepth 20000 in
theorem gw_wsL_wander : ∀ w ∈ wsL_wander, w ∈ lw_tbl := List.forall_mem_cons.mpr ⟨List.mem_of_getElem? (i := 561) (by decide +kernel), List.forall_mem_append.mpr ⟨List.forall_mem_append.mpr ⟨List.forall_mem_append.mpr ⟨List.forall_mem_append.mpr ⟨List.forall_mem_append.mpr ⟨List.forall_mem_append.mpr ⟨List.forall_mem_append.mpr ⟨gw_wsL_wander_r1, List.forall_mem_append.mpr ⟨gw_wsL_wander_r2, gw_wsL_wander_r3⟩⟩, in_wsX60⟩, in_wsX10⟩, in_wsX00⟩, in_wsX40⟩, wsL_law_x1⟩, wsL_law_x2⟩⟩
set_option maxRecDepth 20000 in
theorem gw_wsX7_wander_r1 : ∀ w ∈ wsX7_wander_r1, w ∈ lw_tbl := (lw_in [825, 815, 831, 989, 991, 29, 52, 992, 824, 954, 955, 956, 951, 952, 953, 981, 983, 28, 984, 828, 826, 827, 969, 971] (by decide +kernel))
set_option maxRecDepth 20000 in
theorem gw_wsX7_wander_r2 : ∀ w ∈ wsX7_wander_r2, w ∈ lw_tbl := (lw_in [26, 972, 823, 957, 959, 25, 960, 816, 997, 999, 30, 1000, 829, 830, 1001, 1003, 31, 1004, 817, 1005, 1007, 32, 1008, 840] (by decide +kernel))
set_option maxRecDepth 20000 in
theorem gw_wsX7_wander_r3 : ∀ w ∈ wsX7_wander_r3, w ∈ lw_tbl := (lw_in [848, 837, 838, 845, 977, 979, 27, 980, 833, 832] (by decide +kernel))
set_option maxRecDepth 20000 in
theorem gw_wsX7_wander : ∀ w ∈ wsX7_wander, w ∈ lw_tbl := List.forall_mem_cons.mpr ⟨List.mem_of_getElem? (i := 996) (by decide +kernel), List.forall_mem_append.mpr ⟨List.forall_mem_append.mpr ⟨gw_wsX7_wander_r1, List.forall_mem_append.mpr ⟨gw_wsX7_wander_r2, gw_wsX7_wander_r3⟩⟩, in_wsX70⟩⟩
set_option maxRecDepth 20000 in
theorem gw_wsL_cap : ∀ w ∈ wsL_cap, w ∈ lw_tbl := List.forall_mem_cons.mpr ⟨List.mem_of_getElem? (i := 569) (by decide +kernel), List.forall_mem_append.mpr ⟨List.forall_mem_append.mpr ⟨(lw_in [325, 570, 571, 572, 47, 573, 183, 419, 420, 421, 403, 57] (by decide +kernel)), in_wsX60⟩, wsL_law_x0⟩⟩
set_option maxRecDepth 20000 in
theorem gw_wsX7_cap : ∀ w ∈ wsX7_cap, w ∈ lw_tbl := List.forall_mem_cons.mpr ⟨List.mem_of_getElem? (i := 1012) (by decide +kernel), List.forall_mem_append.mpr ⟨(lw_in [818, 954, 955, 52, 956, 957, 959, 25, 960, 816] (by decide +kernel)), in_wsX70⟩⟩
set_option maxRecDepth 20000 in
theorem gw_wsL_height_r1 : ∀ w ∈ wsL_height_r1, w ∈ lw_tbl := (lw_in [324, 577, 578, 579, 47, 580, 335, 56, 582, 584, 15, 585, 182, 178, 181, 177, 589, 590, 49, 591, 183, 592, 84, 85] (by decide +kernel))
set_option maxRecDepth 20000 in
theorem gw_wsL_height_r2 : ∀ w ∈ wsL_height_r2, w ∈ lw_tbl := (lw_in [586, 587, 588, 215, 216, 217, 59, 218, 500, 511, 507] (by decide +kernel))
set_option maxRecDepth 20000 in
theorem gw_wsL_height : ∀ w ∈ wsL_height, w ∈ lw_tbl := List.forall_mem_cons.mpr ⟨List.mem_of_getElem? (i := 576) (by decide +kernel), List.forall_mem_append.mpr ⟨List.forall_mem_append.mpr ⟨List.forall_mem_append.mpr ⟨List.forall_mem_append.mpr ⟨List.forall_mem_append.mpr ⟨List.forall_mem_append.mpr ⟨gw_wsL_height_r1, gw_wsL_height_r2⟩, in_wsX60⟩, in_wsX30⟩, in_wsX10⟩, in_wsX40⟩, wsL_law_x2⟩⟩
set_option maxRecDepth 20000 in
theorem gw_wsX7_height_r1 : ∀ w ∈ wsX7_height_r1, w ∈ lw_tbl := (lw_in [954, 955, 52, 956, 957, 959, 25, 960, 816, 1017, 1019, 33, 1020, 839, 840, 841, 824, 825, 818, 981, 983, 28, 984, 828] (by decide +kernel))
set_option maxRecDepth 20000 in
theorem gw_wsX7_height_r2 : ∀ w ∈ wsX7_height_r2, w ∈ lw_tbl := (lw_in [826, 827] (by decide +kernel))
set_option maxRecDepth 20000 in
theorem gw_wsX7_height : ∀ w ∈ wsX7_height, w ∈ lw_tbl := List.forall_mem_cons.mpr ⟨List.mem_of_getElem? (i := 1016) (by decide +kernel), List.forall_mem_append.mpr ⟨List.forall_mem_append.mpr ⟨gw_wsX7_height_r1, gw_wsX7_height_r2⟩, in_wsX70⟩⟩
set_option maxRecDepth 20000 in
theorem gw_wsL_request_r1 : ∀ w ∈ wsL_request_r1, w ∈ lw_tbl := (lw_in [324, 325, 326, 596, 597, 598, 47, 599, 403, 57, 423, 58, 176, 182, 110, 601, 61, 184, 178, 331, 332, 333, 335, 56] (by decide +kernel))
set_option maxRecDepth 20000 in
theorem gw_wsL_request_r2 : ∀ w ∈ wsL_request_r2, w ∈ lw_tbl := (lw_in [334, 228, 48, 229, 419, 420, 421, 223, 224, 225, 226, 93, 82, 227, 586, 587, 588, 582, 584, 15, 585, 181, 177, 589] (by decide +kernel))
set_option maxRecDepth 20000 in
theorem gw_wsL_request_r3 : ∀ w ∈ wsL_request_r3, w ∈ lw_tbl := (lw_in [590, 49, 591, 183, 592, 84, 85, 215, 216, 217, 59, 218, 500, 511, 507, 602, 603, 604, 605, 68, 69, 606, 608, 612] (by decide +kernel))
set_option maxRecDepth 20000 in
theorem gw_wsL_request_r4 : ∀ w ∈ wsL_request_r4, w ∈ lw_tbl := (lw_in [616, 622, 626, 629] (by decide +kernel))
set_option maxRecDepth 20000 in
theorem gw_wsL_request : ∀ w ∈ wsL_request, w ∈ lw_tbl := List.forall_mem_cons.mpr ⟨List.mem_of_getElem? (i := 595) (by decide +kernel), List.forall_mem_append.mpr ⟨List.forall_mem_append.mpr ⟨List.forall_mem_append.mpr ⟨List.forall_mem_append.mpr ⟨List.forall_mem_append.mpr ⟨List.forall_mem_append.mpr ⟨List.forall_mem_append.mpr ⟨List.forall_mem_append.mpr ⟨List.forall_mem_append.mpr ⟨gw_wsL_request_r1, List.forall_mem_append.mpr ⟨gw_wsL_request_r2, List.forall_mem_append.mpr ⟨gw_wsL_request_r3, gw_wsL_request_r4⟩⟩⟩, in_wsX60⟩, in_wsX30⟩, in_wsX00⟩, in_wsX10⟩, in_wsX40⟩, wsL_law_x0⟩, wsL_law_x1⟩, wsL_law_x2⟩⟩
set_option maxRecDepth 20000 in
theorem gw_wsX7_request_r1 : ∀ w ∈ wsX7_request_r1, w ∈ lw_tbl := (lw_in [839, 815, 845, 841, 842, 843, 817, 844, 846, 847, 848, 951, 952, 52, 953, 954, 955, 956, 969, 971, 26, 972, 823, 957] (by decide +kernel))
set_option maxRecDepth 20000 in
theorem gw_wsX7_request_r2 : ∀ w ∈ wsX7_request_r2, w ∈ lw_tbl := (lw_in [959, 25, 960, 816, 1017, 1019, 33, 1020, 840, 824, 825, 818, 981, 983, 28, 984, 828, 826, 827] (by decide +kernel))
set_option maxRecDepth 20000 in
theorem gw_wsX7_request : ∀ w ∈ wsX7_request, w ∈ lw_tbl := List.forall_mem_cons.mpr ⟨List.mem_of_getElem? (i := 1024) (by decide +kernel), List.forall_mem_append.mpr ⟨List.forall_mem_append.mpr ⟨gw_wsX7_request_r1, gw_wsX7_request_r2⟩, in_wsX70⟩⟩
set_option maxRecDepth 20000 in
theorem gw_wsL_cancel_r1 : ∀ w ∈ wsL_cancel_r1, w ∈ lw_tbl := (lw_in [324, 326, 660, 661, 662, 47, 663, 423, 58, 184, 664, 666, 16, 667, 335, 56, 182, 178, 670, 671, 672, 60, 673, 485] (by decide +kernel))
set_option maxRecDepth 20000 in
theorem gw_wsL_cancel_r2 : ∀ w ∈ wsL_cancel_r2, w ∈ lw_tbl := (lw_in [482, 483, 674, 273, 274, 275, 260, 262, 8, 263, 243, 245, 5, 247, 481] (by decide +kernel))
set_option maxRecDepth 20000 in
theorem gw_wsL_cancel : ∀ w ∈ wsL_cancel, w ∈ lw_tbl := List.forall_mem_cons.mpr ⟨List.mem_of_getElem? (i := 659) (by decide +kernel), List.forall_mem_append.mpr ⟨List.forall_mem_append.mpr ⟨List.forall_mem_append.mpr ⟨List.forall_mem_append.mpr ⟨List.forall_mem_append.mpr ⟨List.forall_mem_append.mpr ⟨List.forall_mem_append.mpr ⟨gw_wsL_cancel_r1, gw_wsL_cancel_r2⟩, in_wsX30⟩, in_wsX10⟩, in_wsX60⟩, in_wsX40⟩, wsL_law_x1⟩, wsL_law_x2⟩⟩
set_option maxRecDepth 20000 in
theorem gw_wsX7_cancel : ∀ w ∈ wsX7_cancel, w ∈ lw_tbl := List.forall_mem_cons.mpr ⟨List.mem_of_getElem? (i := 1028) (by decide +kernel), List.forall_mem_append.mpr ⟨(lw_in [840, 817, 849, 846, 828, 830, 829, 1029, 1031, 34, 52, 1032, 839, 954, 955, 956, 957, 959, 25, 960, 816] (by decide +kernel)), in_wsX70⟩⟩
set_option maxRecDepth 20000 in
theorem gw_wsL_rate_r1 : ∀ w ∈ wsL_rate_r1, w ∈ lw_tbl := (lw_in [324, 325, 326, 678, 679, 680, 47, 681, 423, 58, 664, 666, 16, 667, 335, 56, 182, 178, 419, 420, 421, 403, 57, 215] (by decide +kernel))
set_option maxRecDepth 20000 in
theorem gw_wsL_rate_r2 : ∀ w ∈ wsL_rate_r2, w ∈ lw_tbl := (lw_in [216, 217, 59, 218, 500, 511, 507, 683, 684, 685, 686, 503, 504, 687, 84, 49, 85, 505, 276, 278, 9, 279, 185] (by decide +kernel))
set_option maxRecDepth 20000 in
theorem gw_wsL_rate : ∀ w ∈ wsL_rate, w ∈ lw_tbl := List.forall_mem_cons.mpr ⟨List.mem_of_getElem? (i := 677) (by decide +kernel), List.forall_mem_append.mpr ⟨List.forall_mem_append.mpr ⟨List.forall_mem_append.mpr ⟨List.forall_mem_append.mpr ⟨List.forall_mem_append.mpr ⟨List.forall_mem_append.mpr ⟨List.forall_mem_append.mpr ⟨List.forall_mem_append.mpr ⟨gw_wsL_rate_r1, gw_wsL_rate_r2⟩, in_wsX30⟩, in_wsX10⟩, in_wsX60⟩, in_wsX40⟩, wsL_law_x1⟩, wsL_law_x2⟩, wsL_law_x0⟩⟩
set_option maxRecDepth 20000 in
theorem gw_wsX7_rate_r1 : ∀ w ∈ wsX7_rate_r1, w ∈ lw_tbl := (lw_in [840, 850, 846, 835, 834, 827, 1029, 1031, 34, 52, 1032, 839, 954, 955, 956, 957, 959, 25, 960, 816, 1037, 1039, 35, 1040] (by decide +kernel))
set_option maxRecDepth 20000 in
theorem gw_wsX7_rate_r2 : ∀ w ∈ wsX7_rate_r2, w ∈ lw_tbl := (lw_in [977, 979, 27, 980, 833, 832, 981, 983, 28, 984, 828, 826] (by decide +kernel))
set_option maxRecDepth 20000 in
theorem gw_wsX7_rate : ∀ w ∈ wsX7_rate, w ∈ lw_tbl := List.forall_mem_cons.mpr ⟨List.mem_of_getElem? (i := 1036) (by decide +kernel), List.forall_mem_append.mpr ⟨List.forall_mem_append.mpr ⟨gw_wsX7_rate_r1, gw_wsX7_rate_r2⟩, in_wsX70⟩⟩
set_option maxRecDepth 20000 in
theorem gw_wsX6_airport_r1 : ∀ w ∈ wsX6_airport_r1, w ∈ lw_tbl := (lw_in [182, 178, 211, 213, 2, 47, 214, 181, 177, 215, 216, 217, 59, 218, 500, 511, 507, 219, 221, 3, 222, 184, 176, 223] (by decide +kernel))
set_option maxRecDepth 20000 in
theorem gw_wsX6_airport_r2 : ∀ w ∈ wsX6_airport_r2, w ∈ lw_tbl := (lw_in [224, 225, 48, 226, 93, 82, 227, 228, 229, 230, 232, 4, 233, 234, 235, 236, 237, 238, 239, 240, 241, 60, 242, 485] (by decide +kernel))
set_option maxRecDepth 20000 in
theorem gw_wsX6_airport_r3 : ∀ w ∈ wsX6_airport_r3, w ∈ lw_tbl := (lw_in [481, 482, 483, 243, 245, 5, 247, 248, 250, 6, 251, 252, 254, 7, 255, 256, 257, 258, 259, 260, 262, 8, 263, 264] (by decide +kernel))
set_option maxRecDepth 20000 in
theorem gw_wsX6_airport_r4 : ∀ w ∈ wsX6_airport_r4, w ∈ lw_tbl := (lw_in [265, 266, 267, 268, 269, 270, 271, 272, 273, 274, 275, 276, 278, 9, 279, 185] (by decide +kernel))
set_option maxRecDepth 20000 in
theorem gw_wsX6_airport : ∀ w ∈ wsX6_airport, w ∈ lw_tbl := List.forall_mem_cons.mpr ⟨List.mem_of_getElem? (i := 210) (by decide +kernel), List.forall_mem_append.mpr ⟨List.forall_mem_append.mpr ⟨List.forall_mem_append.mpr ⟨List.forall_mem_append.mpr ⟨List.forall_mem_append.mpr ⟨List.forall_mem_append.mpr ⟨gw_wsX6_airport_r1, List.forall_mem_append.mpr ⟨gw_wsX6_airport_r2, List.forall_mem_append.mpr ⟨gw_wsX6_airport_r3, gw_wsX6_airport_r4⟩⟩⟩, in_wsX60⟩, in_wsX30⟩, in_wsX10⟩, in_wsX40⟩, in_wsX00⟩⟩
set_option maxRecDepth 20000 in
theorem gw_wsX7_airport_r1 : ∀ w ∈ wsX7_airport_r1, w ∈ lw_tbl := (lw_in [816, 839, 824, 825, 832, 840, 841, 981, 983, 28, 52, 984, 828, 826, 827, 1045, 1047, 36, 1048, 846, 849, 817, 847, 842] (by decide +kernel))
set_option maxRecDepth 20000 in
theorem gw_wsX7_airport_r2 : ∀ w ∈ wsX7_airport_r2, w ∈ lw_tbl := (lw_in [969, 971, 26, 972, 823, 997, 999, 30, 1000, 829, 830, 1001, 1003, 31, 1004, 831, 1005, 1007, 32, 1008, 848, 837, 838, 845] (by decide +kernel))
set_option maxRecDepth 20000 in
theorem gw_wsX7_airport_r3 : ∀ w ∈ wsX7_airport_r3, w ∈ lw_tbl := (lw_in [977, 979, 27, 980, 833] (by decide +kernel))
set_option maxRecDepth 20000 in
theorem gw_wsX7_airport : ∀ w ∈ wsX7_airport, w ∈ lw_tbl := List.forall_mem_cons.mpr ⟨List.mem_of_getElem? (i := 1044) (by decide +kernel), List.forall_mem_append.mpr ⟨List.forall_mem_append.mpr ⟨gw_wsX7_airport_r1, List.forall_mem_append.mpr ⟨gw_wsX7_airport_r2, gw_wsX7_airport_r3⟩⟩, in_wsX70⟩⟩
set_option maxRecDepth 20000 in
theorem gw_wsL_best_r1 : ∀ w ∈ wsL_best_r1, w ∈ lw_tbl := (lw_in [326, 691, 692, 693, 47, 694, 179, 695, 697, 17, 698, 423, 58, 181, 182, 178, 699, 700, 701, 50, 702, 125, 126, 704] (by decide +kernel))
set_option maxRecDepth 20000 in
theorem gw_wsL_best_r2 : ∀ w ∈ wsL_best_r2, w ∈ lw_tbl := (lw_in [705, 706, 707, 120, 708, 710, 18, 711, 184, 176, 177, 223, 224, 225, 48, 226, 93, 82, 227, 228, 229, 215, 216, 217] (by decide +kernel))
set_option maxRecDepth 20000 in
theorem gw_wsL_best_r3 : ∀ w ∈ wsL_best_r3, w ∈ lw_tbl := (lw_in [59, 218, 500, 511, 507, 712, 713, 714, 715, 122, 716, 717, 718, 719, 123, 720, 722, 19, 723, 732, 590, 49, 591, 724] (by decide +kernel))
set_option maxRecDepth 20000 in
theorem gw_wsL_best_r4 : ∀ w ∈ wsL_best_r4, w ∈ lw_tbl := (lw_in [726, 20, 727, 728, 730, 21, 731] (by decide +kernel))
set_option maxRecDepth 20000 in
theorem gw_wsL_best : ∀ w ∈ wsL_best, w ∈ lw_tbl := List.forall_mem_cons.mpr ⟨List.mem_of_getElem? (i := 690) (by decide +kernel), List.forall_mem_append.mpr ⟨List.forall_mem_append.mpr ⟨List.forall_mem_append.mpr ⟨List.forall_mem_append.mpr ⟨List.forall_mem_append.mpr ⟨List.forall_mem_append.mpr ⟨List.forall_mem_append.mpr ⟨List.forall_mem_append.mpr ⟨gw_wsL_best_r1, List.forall_mem_append.mpr ⟨gw_wsL_best_r2, List.forall_mem_append.mpr ⟨gw_wsL_best_r3, gw_wsL_best_r4⟩⟩⟩, in_wsX60⟩, in_wsX30⟩, in_wsX20⟩, in_wsX10⟩, in_wsX00⟩, in_wsX40⟩, wsL_law_x1⟩⟩
set_option maxRecDepth 20000 in
theorem gw_wsX7_best_r1 : ∀ w ∈ wsX7_best_r1, w ∈ lw_tbl := (lw_in [854, 1053, 1055, 37, 52, 1056, 839, 840, 841, 851, 957, 959, 25, 960, 816, 1057, 1059, 38, 1060, 824, 852, 825, 815, 817] (by decide +kernel))
set_option maxRecDepth 20000 in
theorem gw_wsX7_best_r2 : ∀ w ∈ wsX7_best_r2, w ∈ lw_tbl := (lw_in [843, 1061, 853, 969, 971, 26, 972, 823, 981, 983, 28, 984, 828, 826, 827] (by decide +kernel))
set_option maxRecDepth 20000 in
theorem gw_wsX7_best : ∀ w ∈ wsX7_best, w ∈ lw_tbl := List.forall_mem_cons.mpr ⟨List.mem_of_getElem? (i := 1052) (by decide +kernel), List.forall_mem_append.mpr ⟨List.forall_mem_append.mpr ⟨gw_wsX7_best_r1, gw_wsX7_best_r2⟩, in_wsX70⟩⟩
set_option maxRecDepth 20000 in
theorem gw_wsL_bestAnew_r1 : ∀ w ∈ wsL_bestAnew_r1, w ∈ lw_tbl := (lw_in [326, 736, 737, 738, 47, 739, 179, 695, 697, 17, 698, 423, 58, 181, 182, 178, 699, 700, 701, 50, 702, 125, 126, 704] (by decide +kernel))
set_option maxRecDepth 20000 in
theorem gw_wsL_bestAnew_r2 : ∀ w ∈ wsL_bestAnew_r2, w ∈ lw_tbl := (lw_in [705, 706, 707, 120, 708, 710, 18, 711, 184, 176, 177, 223, 224, 225, 48, 226, 93, 82, 227, 228, 229, 215, 216, 217] (by decide +kernel))
set_option maxRecDepth 20000 in
theorem gw_wsL_bestAnew_r3 : ∀ w ∈ wsL_bestAnew_r3, w ∈ lw_tbl := (lw_in [59, 218, 500, 511, 507, 712, 713, 714, 715, 122, 740, 741, 742, 743, 124, 732, 590, 49, 591, 744, 746, 22, 747] (by decide +kernel))
set_option maxRecDepth 20000 in
theorem gw_wsL_bestAnew : ∀ w ∈ wsL_bestAnew, w ∈ lw_tbl := List.forall_mem_cons.mpr ⟨List.mem_of_getElem? (i := 735) (by decide +kernel), List.forall_mem_append.mpr ⟨List.forall_mem_append.mpr ⟨List.forall_mem_append.mpr ⟨List.forall_mem_append.mpr ⟨List.forall_mem_append.mpr ⟨List.forall_mem_append.mpr ⟨List.forall_mem_append.mpr ⟨List.forall_mem_append.mpr ⟨gw_wsL_bestAnew_r1, List.forall_mem_append.mpr ⟨gw_wsL_bestAnew_r2, gw_wsL_bestAnew_r3⟩⟩, in_wsX60⟩, in_wsX30⟩, in_wsX20⟩, in_wsX10⟩, in_wsX00⟩, in_wsX40⟩, wsL_law_x1⟩⟩
set_option maxRecDepth 20000 in
theorem gw_wsX7_bestAnew_r1 : ∀ w ∈ wsX7_bestAnew_r1, w ∈ lw_tbl := (lw_in [1066, 1050, 1051, 52, 1052, 854, 1053, 1055, 37, 1056, 839, 840, 841, 851, 957, 959, 25, 960, 816, 1057, 1059, 38, 1060, 824] (by decide +kernel))
set_option maxRecDepth 20000 in
theorem gw_wsX7_bestAnew_r2 : ∀ w ∈ wsX7_bestAnew_r2, w ∈ lw_tbl := (lw_in [852, 825, 815, 817, 843, 1061, 853, 969, 971, 26, 972, 823, 981, 983, 28, 984, 828, 826, 827] (by decide +kernel))
set_option maxRecDepth 20000 in
theorem gw_wsX7_bestAnew : ∀ w ∈ wsX7_bestAnew, w ∈ lw_tbl := List.forall_mem_cons.mpr ⟨List.mem_of_getElem? (i := 1065) (by decide +kernel), List.forall_mem_append.mpr ⟨List.forall_mem_append.mpr ⟨gw_wsX7_bestAnew_r1, gw_wsX7_bestAnew_r2⟩, in_wsX70⟩⟩
set_option maxRecDepth 20000 in
theorem gw_wsL_match_r1 : ∀ w ∈ wsL_match_r1, w ∈ lw_tbl := (lw_in [326, 751, 752, 753, 47, 754, 179, 177, 695, 697, 17, 698, 423, 58, 181, 182, 178, 699, 700, 701, 50, 702, 125, 126] (by decide +kernel))
set_option maxRecDepth 20000 in
theorem gw_wsL_match_r2 : ∀ w ∈ wsL_match_r2, w ∈ lw_tbl := (lw_in [704, 705, 706, 707, 120, 708, 710, 18, 711, 184, 176, 223, 224, 225, 48, 226, 93, 82, 227, 228, 229, 215, 216, 217] (by decide +kernel))
set_option maxRecDepth 20000 in
theorem gw_wsL_match_r3 : ∀ w ∈ wsL_match_r3, w ∈ lw_tbl := (lw_in [59, 218, 500, 511, 507, 712, 713, 714, 715, 122, 716, 717, 718, 719, 123, 720, 722, 19, 723, 732, 590, 49, 591, 724] (by decide +kernel))
set_option maxRecDepth 20000 in
theorem gw_wsL_match_r4 : ∀ w ∈ wsL_match_r4, w ∈ lw_tbl := (lw_in [726, 20, 727, 728, 730, 21, 731, 755, 756, 757, 758, 219, 221, 3, 222, 230, 232, 4, 233, 234, 235, 236, 237, 238] (by decide +kernel))
set_option maxRecDepth 20000 in
theorem gw_wsL_match_r5 : ∀ w ∈ wsL_match_r5, w ∈ lw_tbl := (lw_in [239, 240, 241, 60, 242, 485, 481, 482, 483, 243, 245, 5, 247, 248, 250, 6, 251, 252, 254, 7, 255, 256, 257, 258] (by decide +kernel))
set_option maxRecDepth 20000 in
theorem gw_wsL_match_r6 : ∀ w ∈ wsL_match_r6, w ∈ lw_tbl := (lw_in [259, 260, 262, 8, 263, 264, 265, 266, 267, 268, 269, 270, 271, 272, 273, 274, 275, 276, 278, 9, 279, 185] (by decide +kernel))
set_option maxRecDepth 20000 in
theorem gw_wsL_match : ∀ w ∈ wsL_match, w ∈ lw_tbl := List.forall_mem_cons.mpr ⟨List.mem_of_getElem? (i := 750) (by decide +kernel), List.forall_mem_append.mpr ⟨List.forall_mem_append.mpr ⟨List.forall_mem_append.mpr ⟨List.forall_mem_append.mpr ⟨List.forall_mem_append.mpr ⟨List.forall_mem_append.mpr ⟨List.forall_mem_append.mpr ⟨List.forall_mem_append.mpr ⟨gw_wsL_match_r1, List.forall_mem_append.mpr ⟨gw_wsL_match_r2, List.forall_mem_append.mpr ⟨gw_wsL_match_r3, List.forall_mem_append.mpr ⟨gw_wsL_match_r4, List.forall_mem_append.mpr ⟨gw_wsL_match_r5, gw_wsL_match_r6⟩⟩⟩⟩⟩, in_wsX60⟩, in_wsX20⟩, in_wsX30⟩, in_wsX10⟩, in_wsX00⟩, in_wsX40⟩, wsL_law_x1⟩⟩
set_option maxRecDepth 20000 in
theorem gw_wsX7_match_r1 : ∀ w ∈ wsX7_match_r1, w ∈ lw_tbl := (lw_in [853, 824, 851, 1053, 1055, 37, 52, 1056, 839, 840, 841, 957, 959, 25, 960, 816, 1057, 1059, 38, 1060, 854, 852, 825, 815] (by decide +kernel))
set_option maxRecDepth 20000 in
theorem gw_wsX7_match_r2 : ∀ w ∈ wsX7_match_r2, w ∈ lw_tbl := (lw_in [817, 843, 1061, 969, 971, 26, 972, 823, 981, 983, 28, 984, 828, 826, 827, 1045, 1047, 36, 1048, 846, 849, 847, 842, 997] (by decide +kernel))
set_option maxRecDepth 20000 in
theorem gw_wsX7_match_r3 : ∀ w ∈ wsX7_match_r3, w ∈ lw_tbl := (lw_in [999, 30, 1000, 829, 830, 1001, 1003, 31, 1004, 831, 1005, 1007, 32, 1008, 848, 837, 838, 845, 977, 979, 27, 980, 833, 832] (by decide +kernel))
set_option maxRecDepth 20000 in
theorem gw_wsX7_match : ∀ w ∈ wsX7_match, w ∈ lw_tbl := List.forall_mem_cons.mpr ⟨List.mem_of_getElem? (i := 1070) (by decide +kernel), List.forall_mem_append.mpr ⟨List.forall_mem_append.mpr ⟨gw_wsX7_match_r1, List.forall_mem_append.mpr ⟨gw_wsX7_match_r2, gw_wsX7_match_r3⟩⟩, in_wsX70⟩⟩
set_option maxRecDepth 20000 in
theorem gw_wsX6_share_r1 : ∀ w ∈ wsX6_share_r1, w ∈ lw_tbl := (lw_in [182, 178, 284, 286, 10, 47, 287, 180, 181, 177, 288, 289, 290, 51, 291, 148, 149, 292, 293, 294, 60, 295, 485, 482] (by decide +kernel))
set_option maxRecDepth 20000 in
theorem gw_wsX6_share_r2 : ∀ w ∈ wsX6_share_r2, w ∈ lw_tbl := (lw_in [296, 297, 298, 299, 483, 300, 301, 302, 303, 157, 151, 153, 158, 155, 304, 306, 11, 307, 147, 308, 269, 270, 271, 481] (by decide +kernel))
set_option maxRecDepth 20000 in
theorem gw_wsX6_share_r3 : ∀ w ∈ wsX6_share_r3, w ∈ lw_tbl := (lw_in [260, 262, 8, 263, 309, 224, 225, 48, 226, 93, 82, 227, 228, 229, 310, 312, 12, 313, 314, 235, 236, 237, 238, 315] (by decide +kernel))
set_option maxRecDepth 20000 in
theorem gw_wsX6_share_r4 : ∀ w ∈ wsX6_share_r4, w ∈ lw_tbl := (lw_in [316, 317, 320, 318, 257, 258, 259, 319, 265, 266, 267, 239, 240, 241, 242, 243, 245, 5, 247, 230, 232, 4, 233, 184] (by decide +kernel))
set_option maxRecDepth 20000 in
theorem gw_wsX6_share_r5 : ∀ w ∈ wsX6_share_r5, w ∈ lw_tbl := (lw_in [176, 234] (by decide +kernel))
set_option maxRecDepth 20000 in
theorem gw_wsX6_share : ∀ w ∈ wsX6_share, w ∈ lw_tbl := List.forall_mem_cons.mpr ⟨List.mem_of_getElem? (i := 283) (by decide +kernel), List.forall_mem_append.mpr ⟨List.forall_mem_append.mpr ⟨List.forall_mem_append.mpr ⟨List.forall_mem_append.mpr ⟨List.forall_mem_append.mpr ⟨List.forall_mem_append.mpr ⟨List.forall_mem_append.mpr ⟨gw_wsX6_share_r1, List.forall_mem_append.mpr ⟨gw_wsX6_share_r2, List.forall_mem_append.mpr ⟨gw_wsX6_share_r3, List.forall_mem_append.mpr ⟨gw_wsX6_share_r4, gw_wsX6_share_r5⟩⟩⟩⟩, in_wsX60⟩, in_wsX30⟩, in_wsX10⟩, in_wsX50⟩, in_wsX40⟩, in_wsX00⟩⟩
set_option maxRecDepth 20000 in
theorem gw_wsX7_share_r1 : ∀ w ∈ wsX7_share_r1, w ∈ lw_tbl := (lw_in [816, 839, 840, 844, 1075, 1077, 39, 52, 1078, 815, 824, 857, 1079, 1081, 40, 1082, 827, 828, 830, 1083, 1085, 41, 1086, 855] (by decide +kernel))
set_option maxRecDepth 20000 in
theorem gw_wsX7_share_r2 : ∀ w ∈ wsX7_share_r2, w ∈ lw_tbl := (lw_in [841, 842, 829, 856, 831, 969, 971, 26, 972, 823, 1087, 1089, 42, 1090, 843, 847, 1091, 1093, 43, 1094, 846, 849, 817] (by decide +kernel))
set_option maxRecDepth 20000 in
theorem gw_wsX7_share : ∀ w ∈ wsX7_share, w ∈ lw_tbl := List.forall_mem_cons.mpr ⟨List.mem_of_getElem? (i := 1074) (by decide +kernel), List.forall_mem_append.mpr ⟨List.forall_mem_append.mpr ⟨gw_wsX7_share_r1, gw_wsX7_share_r2⟩, in_wsX70⟩⟩
set_option maxRecDepth 20000 in
theorem gw_wsL_requestIs_r1 : ∀ w ∈ wsL_requestIs_r1, w ∈ lw_tbl := (lw_in [324, 325, 762, 763, 764, 47, 765, 664, 666, 16, 667, 335, 56, 182, 178, 419, 420, 421, 403, 57, 766, 767, 768, 61] (by decide +kernel))
set_option maxRecDepth 20000 in
theorem gw_wsL_requestIs_r2 : ∀ w ∈ wsL_requestIs_r2, w ∈ lw_tbl := (lw_in [769, 629, 626] (by decide +kernel))
set_option maxRecDepth 20000 in
theorem gw_wsL_requestIs : ∀ w ∈ wsL_requestIs, w ∈ lw_tbl := List.forall_mem_cons.mpr ⟨List.mem_of_getElem? (i := 761) (by decide +kernel), List.forall_mem_append.mpr ⟨List.forall_mem_append.mpr ⟨List.forall_mem_append.mpr ⟨List.forall_mem_append.mpr ⟨List.forall_mem_append.mpr ⟨List.forall_mem_append.mpr ⟨gw_wsL_requestIs_r1, gw_wsL_requestIs_r2⟩, in_wsX30⟩, in_wsX10⟩, in_wsX60⟩, wsL_law_x2⟩, wsL_law_x0⟩⟩
set_option maxRecDepth 20000 in
theorem gw_wsX7_requestIs : ∀ w ∈ wsX7_requestIs, w ∈ lw_tbl := List.forall_mem_cons.mpr ⟨List.mem_of_getElem? (i := 1110) (by decide +kernel), List.forall_mem_append.mpr ⟨(lw_in [840, 845, 846, 847, 848, 843, 1029, 1031, 34, 52, 1032, 839, 954, 955, 956, 957, 959, 25, 960, 816] (by decide +kernel)), in_wsX70⟩⟩
set_option maxRecDepth 20000 in
theorem gw_wsL_driverIs_r1 : ∀ w ∈ wsL_driverIs_r1, w ∈ lw_tbl := (lw_in [324, 325, 773, 774, 775, 47, 776, 553, 555, 14, 556, 335, 56, 181, 177, 419, 420, 421, 403, 57, 215, 216, 217, 59] (by decide +kernel))
set_option maxRecDepth 20000 in
theorem gw_wsL_driverIs_r2 : ∀ w ∈ wsL_driverIs_r2, w ∈ lw_tbl := (lw_in [218, 500, 511, 507] (by decide +kernel))
set_option maxRecDepth 20000 in
theorem gw_wsL_driverIs : ∀ w ∈ wsL_driverIs, w ∈ lw_tbl := List.forall_mem_cons.mpr ⟨List.mem_of_getElem? (i := 772) (by decide +kernel), List.forall_mem_append.mpr ⟨List.forall_mem_append.mpr ⟨List.forall_mem_append.mpr ⟨List.forall_mem_append.mpr ⟨List.forall_mem_append.mpr ⟨List.forall_mem_append.mpr ⟨gw_wsL_driverIs_r1, gw_wsL_driverIs_r2⟩, in_wsX10⟩, in_wsX40⟩, in_wsX60⟩, wsL_law_x2⟩, wsL_law_x0⟩⟩
set_option maxRecDepth 20000 in
theorem gw_wsX7_driverIs_r1 : ∀ w ∈ wsX7_driverIs_r1, w ∈ lw_tbl := (lw_in [825, 828, 831, 836, 837, 989, 991, 29, 52, 992, 824, 954, 955, 956, 957, 959, 25, 960, 816, 981, 983, 28, 984, 826] (by decide +kernel))
set_option maxRecDepth 20000 in
theorem gw_wsX7_driverIs_r2 : ∀ w ∈ wsX7_driverIs_r2, w ∈ lw_tbl := (lw_in [827, 1037, 1039, 35, 1040, 834, 835] (by decide +kernel))
set_option maxRecDepth 20000 in
theorem gw_wsX7_driverIs : ∀ w ∈ wsX7_driverIs, w ∈ lw_tbl := List.forall_mem_cons.mpr ⟨List.mem_of_getElem? (i := 1114) (by decide +kernel), List.forall_mem_append.mpr ⟨List.forall_mem_append.mpr ⟨gw_wsX7_driverIs_r1, gw_wsX7_driverIs_r2⟩, in_wsX70⟩⟩
set_option maxRecDepth 20000 in
theorem gw_wsL_stop_r1 : ∀ w ∈ wsL_stop_r1, w ∈ lw_tbl := (lw_in [324, 780, 781, 782, 47, 783, 335, 56, 553, 555, 14, 556, 181, 177, 268, 269, 270, 60, 271, 481, 260, 262, 8, 263] (by decide +kernel))
set_option maxRecDepth 20000 in
theorem gw_wsL_stop_r2 : ∀ w ∈ wsL_stop_r2, w ∈ lw_tbl := (lw_in [485, 256, 257, 258, 259, 482, 264, 265, 266, 267, 483] (by decide +kernel))
set_option maxRecDepth 20000 in
theorem gw_wsL_stop : ∀ w ∈ wsL_stop, w ∈ lw_tbl := List.forall_mem_cons.mpr ⟨List.mem_of_getElem? (i := 779) (by decide +kernel), List.forall_mem_append.mpr ⟨List.forall_mem_append.mpr ⟨List.forall_mem_append.mpr ⟨List.forall_mem_append.mpr ⟨List.forall_mem_append.mpr ⟨List.forall_mem_append.mpr ⟨gw_wsL_stop_r1, gw_wsL_stop_r2⟩, in_wsX10⟩, in_wsX30⟩, in_wsX60⟩, in_wsX40⟩, wsL_law_x2⟩⟩
set_option maxRecDepth 20000 in
theorem gw_wsX7_stop : ∀ w ∈ wsX7_stop, w ∈ lw_tbl := List.forall_mem_cons.mpr ⟨List.mem_of_getElem? (i := 1118) (by decide +kernel), List.forall_mem_append.mpr ⟨(lw_in [828, 830, 829, 989, 991, 29, 52, 992, 824, 954, 955, 956, 957, 959, 25, 960, 816] (by decide +kernel)), in_wsX70⟩⟩
set_option maxRecDepth 20000 in
theorem gw_wsL_pay : ∀ w ∈ wsL_pay, w ∈ lw_tbl := List.forall_mem_cons.mpr ⟨List.mem_of_getElem? (i := 787) (by decide +kernel), List.forall_mem_append.mpr ⟨List.forall_mem_append.mpr ⟨List.forall_mem_append.mpr ⟨(lw_in [324, 788, 789, 790, 47, 791, 589, 590, 49, 591, 553, 555, 14, 556, 335, 56, 181, 177] (by decide +kernel)), in_wsX10⟩, in_wsX60⟩, wsL_law_x2⟩⟩
set_option maxRecDepth 20000 in
theorem gw_wsX7_pay : ∀ w ∈ wsX7_pay, w ∈ lw_tbl := List.forall_mem_cons.mpr ⟨List.mem_of_getElem? (i := 1122) (by decide +kernel), List.forall_mem_append.mpr ⟨(lw_in [838, 836, 989, 991, 29, 52, 992, 824, 954, 955, 956, 957, 959, 25, 960, 816] (by decide +kernel)), in_wsX70⟩⟩
set_option maxRecDepth 20000 in
theorem gw_wsL_pass_r1 : ∀ w ∈ wsL_pass_r1, w ∈ lw_tbl := (lw_in [325, 326, 795, 796, 797, 47, 798, 423, 58, 184, 419, 420, 421, 403, 57, 800, 802, 23, 803, 181, 177, 182, 178, 804] (by decide +kernel))
set_option maxRecDepth 20000 in
theorem gw_wsL_pass_r2 : ∀ w ∈ wsL_pass_r2, w ∈ lw_tbl := (lw_in [297, 298, 60, 299, 485, 483, 248, 250, 6, 251, 252, 254, 7, 255, 176, 256, 257, 258, 259, 482, 260, 262, 8, 263] (by decide +kernel))
set_option maxRecDepth 20000 in
theorem gw_wsL_pass_r3 : ∀ w ∈ wsL_pass_r3, w ∈ lw_tbl := (lw_in [264, 265, 266, 267, 268, 269, 270, 271, 481, 272, 273, 274, 275, 243, 245, 5, 247, 223, 224, 225, 48, 226, 93, 82] (by decide +kernel))
set_option maxRecDepth 20000 in
theorem gw_wsL_pass_r4 : ∀ w ∈ wsL_pass_r4, w ∈ lw_tbl := (lw_in [227, 228, 229, 276, 278, 9, 279, 185, 215, 216, 217, 59, 218, 500, 511, 507] (by decide +kernel))
set_option maxRecDepth 20000 in
theorem gw_wsL_pass : ∀ w ∈ wsL_pass, w ∈ lw_tbl := List.forall_mem_cons.mpr ⟨List.mem_of_getElem? (i := 794) (by decide +kernel), List.forall_mem_append.mpr ⟨List.forall_mem_append.mpr ⟨List.forall_mem_append.mpr ⟨List.forall_mem_append.mpr ⟨List.forall_mem_append.mpr ⟨List.forall_mem_append.mpr ⟨List.forall_mem_append.mpr ⟨List.forall_mem_append.mpr ⟨gw_wsL_pass_r1, List.forall_mem_append.mpr ⟨gw_wsL_pass_r2, List.forall_mem_append.mpr ⟨gw_wsL_pass_r3, gw_wsL_pass_r4⟩⟩⟩, in_wsX60⟩, in_wsX10⟩, in_wsX30⟩, in_wsX40⟩, in_wsX00⟩, wsL_law_x1⟩, wsL_law_x0⟩⟩
set_option maxRecDepth 20000 in
theorem gw_wsX7_pass_r1 : ∀ w ∈ wsX7_pass_r1, w ∈ lw_tbl := (lw_in [817, 954, 955, 52, 956, 957, 959, 25, 960, 816, 1099, 1101, 44, 1102, 824, 836, 828, 831, 839, 840, 843, 1103, 1105, 45] (by decide +kernel))
set_option maxRecDepth 20000 in
theorem gw_wsX7_pass_r2 : ∀ w ∈ wsX7_pass_r2, w ∈ lw_tbl := (lw_in [1106, 830, 1005, 1007, 32, 1008, 825, 829, 848, 837, 838, 845, 1001, 1003, 31, 1004, 969, 971, 26, 972, 823, 977, 979, 27] (by decide +kernel))
set_option maxRecDepth 20000 in
theorem gw_wsX7_pass_r3 : ∀ w ∈ wsX7_pass_r3, w ∈ lw_tbl := (lw_in [980, 833, 832, 981, 983, 28, 984, 826, 827] (by decide +kernel))
set_option maxRecDepth 20000 in
theorem gw_wsX7_pass : ∀ w ∈ wsX7_pass, w ∈ lw_tbl := List.forall_mem_cons.mpr ⟨List.mem_of_getElem? (i := 1098) (by decide +kernel), List.forall_mem_append.mpr ⟨List.forall_mem_append.mpr ⟨gw_wsX7_pass_r1, List.forall_mem_append.mpr ⟨gw_wsX7_pass_r2, gw_wsX7_pass_r3⟩⟩, in_wsX70⟩⟩
