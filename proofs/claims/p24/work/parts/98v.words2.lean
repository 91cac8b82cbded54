/-! WHAT EACH CALLEE WANTS -/
set_option maxRecDepth 20000 in
theorem gw_wsL_drawn : ∀ w ∈ wsL_drawn, w ∈ lw_tbl := List.forall_mem_cons.mpr ⟨List.mem_of_getElem? (i := 217) (by decide +kernel), (lw_in [218, 219] (by decide +kernel))⟩
set_option maxRecDepth 20000 in
theorem gw_wsL_street_r1 : ∀ w ∈ wsL_street_r1, w ∈ lw_tbl := (lw_in [224, 225, 226, 345, 346, 347, 227, 228, 229, 26, 230, 305, 36, 325, 37, 184, 231, 232, 233, 237, 35, 234, 235, 27] (by decide +kernel))
set_option maxRecDepth 20000 in
theorem gw_wsL_street_r2 : ∀ w ∈ wsL_street_r2, w ∈ lw_tbl := (lw_in [236, 321, 322, 323, 341, 342, 343, 344, 76, 71, 72, 73, 59, 61, 0, 62, 74, 63, 64, 65, 28, 66, 67, 69] (by decide +kernel))
set_option maxRecDepth 20000 in
theorem gw_wsL_street_r3 : ∀ w ∈ wsL_street_r3, w ∈ lw_tbl := (lw_in [1, 70] (by decide +kernel))
set_option maxRecDepth 20000 in
theorem gw_wsL_street : ∀ w ∈ wsL_street, w ∈ lw_tbl := List.forall_mem_cons.mpr ⟨List.mem_of_getElem? (i := 223) (by decide +kernel), List.forall_mem_append.mpr ⟨List.forall_mem_append.mpr ⟨List.forall_mem_append.mpr ⟨List.forall_mem_append.mpr ⟨List.forall_mem_append.mpr ⟨List.forall_mem_append.mpr ⟨gw_wsL_street_r1, List.forall_mem_append.mpr ⟨gw_wsL_street_r2, gw_wsL_street_r3⟩⟩, in_wsX60⟩, in_wsX00⟩, wsL_law_x0⟩, wsL_law_x1⟩, wsL_law_x2⟩⟩
set_option maxRecDepth 20000 in
theorem gw_wsL_driver_r1 : ∀ w ∈ wsL_driver_r1, w ∈ lw_tbl := (lw_in [224, 226, 345, 347, 351, 352, 353, 26, 354, 325, 37, 189, 89, 356, 38, 185, 231, 232, 233, 237, 35, 234, 235, 27] (by decide +kernel))
set_option maxRecDepth 20000 in
theorem gw_wsL_driver_r2 : ∀ w ∈ wsL_driver_r2, w ∈ lw_tbl := (lw_in [236, 357, 358, 359, 360, 49, 50, 363, 374, 361, 129, 31, 365, 88, 368, 370, 362, 131, 132, 133, 135, 134, 136, 151] (by decide +kernel))
set_option maxRecDepth 20000 in
theorem gw_wsL_driver_r3 : ∀ w ∈ wsL_driver_r3, w ∈ lw_tbl := (lw_in [137, 411, 413, 3, 414, 193, 415, 416, 417, 418, 376, 372] (by decide +kernel))
set_option maxRecDepth 20000 in
theorem gw_wsL_driver : ∀ w ∈ wsL_driver, w ∈ lw_tbl := List.forall_mem_cons.mpr ⟨List.mem_of_getElem? (i := 350) (by decide +kernel), List.forall_mem_append.mpr ⟨List.forall_mem_append.mpr ⟨List.forall_mem_append.mpr ⟨List.forall_mem_append.mpr ⟨List.forall_mem_append.mpr ⟨List.forall_mem_append.mpr ⟨gw_wsL_driver_r1, List.forall_mem_append.mpr ⟨gw_wsL_driver_r2, gw_wsL_driver_r3⟩⟩, in_wsX60⟩, in_wsX10⟩, in_wsX40⟩, wsL_law_x1⟩, wsL_law_x2⟩⟩
set_option maxRecDepth 20000 in
theorem gw_wsL_sum_r1 : ∀ w ∈ wsL_sum_r1, w ∈ lw_tbl := (lw_in [422, 423, 25, 424, 226, 347, 425, 426, 427, 26, 428, 187, 429, 431, 4, 432, 325, 37, 189, 190, 186, 433, 434, 435] (by decide +kernel))
set_option maxRecDepth 20000 in
theorem gw_wsL_sum_r2 : ∀ w ∈ wsL_sum_r2, w ∈ lw_tbl := (lw_in [29, 436, 106, 107, 438, 439, 440, 441, 101, 442, 444, 5, 445, 192, 184, 185, 446, 447, 448, 27, 449, 74, 63, 450] (by decide +kernel))
set_option maxRecDepth 20000 in
theorem gw_wsL_sum_r3 : ∀ w ∈ wsL_sum_r3, w ∈ lw_tbl := (lw_in [235, 236, 415, 416, 417, 38, 418, 365, 376, 372, 451, 452, 453, 454, 103, 455, 456, 457, 458, 104, 459, 461, 6, 462] (by decide +kernel))
set_option maxRecDepth 20000 in
theorem gw_wsL_sum_r4 : ∀ w ∈ wsL_sum_r4, w ∈ lw_tbl := (lw_in [471, 472, 28, 473, 463, 465, 7, 466, 467, 469, 8, 470, 474, 475, 476, 224, 225, 345, 346, 477, 478, 479, 480, 481] (by decide +kernel))
set_option maxRecDepth 20000 in
theorem gw_wsL_sum_r5 : ∀ w ∈ wsL_sum_r5, w ∈ lw_tbl := (lw_in [483, 9, 484, 237, 35, 321, 322, 323, 305, 36, 486, 487, 488, 39, 489, 599, 596, 490, 491, 492, 493, 494, 495, 496] (by decide +kernel))
set_option maxRecDepth 20000 in
theorem gw_wsL_sum_r6 : ∀ w ∈ wsL_sum_r6, w ∈ lw_tbl := (lw_in [497, 499, 10, 500, 502, 503, 504, 505, 506, 507, 508, 510, 511, 512, 31, 513, 135, 514, 516, 11, 517, 139, 518, 519] (by decide +kernel))
set_option maxRecDepth 20000 in
theorem gw_wsL_sum_r7 : ∀ w ∈ wsL_sum_r7, w ∈ lw_tbl := (lw_in [520, 521, 136, 522, 523, 524, 525, 137, 526, 527, 528, 529, 530, 531, 532, 231, 232, 233, 234, 533, 534, 535, 536, 537] (by decide +kernel))
set_option maxRecDepth 20000 in
theorem gw_wsL_sum_r8 : ∀ w ∈ wsL_sum_r8, w ∈ lw_tbl := (lw_in [538, 539, 541, 543, 12, 544, 548, 191, 549, 65, 66, 545, 546, 547, 550, 551, 552, 553, 554, 555, 556] (by decide +kernel))
set_option maxRecDepth 20000 in
theorem gw_wsL_sum : ∀ w ∈ wsL_sum, w ∈ lw_tbl := List.forall_mem_cons.mpr ⟨List.mem_of_getElem? (i := 421) (by decide +kernel), List.forall_mem_append.mpr ⟨List.forall_mem_append.mpr ⟨List.forall_mem_append.mpr ⟨List.forall_mem_append.mpr ⟨List.forall_mem_append.mpr ⟨List.forall_mem_append.mpr ⟨List.forall_mem_append.mpr ⟨List.forall_mem_append.mpr ⟨List.forall_mem_append.mpr ⟨List.forall_mem_append.mpr ⟨gw_wsL_sum_r1, List.forall_mem_append.mpr ⟨gw_wsL_sum_r2, List.forall_mem_append.mpr ⟨gw_wsL_sum_r3, List.forall_mem_append.mpr ⟨gw_wsL_sum_r4, List.forall_mem_append.mpr ⟨gw_wsL_sum_r5, List.forall_mem_append.mpr ⟨gw_wsL_sum_r6, List.forall_mem_append.mpr ⟨gw_wsL_sum_r7, gw_wsL_sum_r8⟩⟩⟩⟩⟩⟩⟩, in_wsX60⟩, in_wsX30⟩, in_wsX20⟩, in_wsX10⟩, in_wsX00⟩, in_wsX40⟩, wsL_law_x1⟩, wsL_law_x2⟩, wsL_law_x0⟩⟩
set_option maxRecDepth 20000 in
theorem gw_wsL_does_r1 : ∀ w ∈ wsL_does_r1, w ∈ lw_tbl := (lw_in [560, 561, 25, 562, 563, 564, 565, 224, 225, 226, 345, 346, 347, 566, 567, 568, 26, 569, 305, 36, 325, 37, 184, 190] (by decide +kernel))
set_option maxRecDepth 20000 in
theorem gw_wsL_does_r2 : ∀ w ∈ wsL_does_r2, w ∈ lw_tbl := (lw_in [91, 571, 39, 192, 186, 231, 232, 233, 237, 35, 234, 235, 27, 236, 321, 322, 323, 446, 447, 448, 449, 74, 63, 450] (by decide +kernel))
set_option maxRecDepth 20000 in
theorem gw_wsL_does_r3 : ∀ w ∈ wsL_does_r3, w ∈ lw_tbl := (lw_in [545, 546, 547, 541, 543, 12, 544, 189, 185, 548, 472, 28, 473, 191, 549, 65, 66, 415, 416, 417, 38, 418, 365, 376] (by decide +kernel))
set_option maxRecDepth 20000 in
theorem gw_wsL_does_r4 : ∀ w ∈ wsL_does_r4, w ∈ lw_tbl := (lw_in [372, 572, 573, 574, 575, 49, 50, 576, 578, 582, 586, 592, 596, 599, 627, 628, 629, 474, 475, 476, 477, 478, 479, 480] (by decide +kernel))
set_option maxRecDepth 20000 in
theorem gw_wsL_does_r5 : ∀ w ∈ wsL_does_r5, w ∈ lw_tbl := (lw_in [481, 483, 9, 484, 486, 487, 488, 489, 630, 631, 632, 422, 423, 424, 425, 426, 427, 428, 187, 429, 431, 4, 432, 433] (by decide +kernel))
set_option maxRecDepth 20000 in
theorem gw_wsL_does_r6 : ∀ w ∈ wsL_does_r6, w ∈ lw_tbl := (lw_in [434, 435, 29, 436, 106, 107, 438, 439, 440, 441, 101, 442, 444, 5, 445, 451, 452, 453, 454, 103, 455, 456, 457, 458] (by decide +kernel))
set_option maxRecDepth 20000 in
theorem gw_wsL_does_r7 : ∀ w ∈ wsL_does_r7, w ∈ lw_tbl := (lw_in [104, 459, 461, 6, 462, 471, 463, 465, 7, 466, 467, 469, 8, 470, 633, 634, 635, 636, 637, 638, 639, 640, 641, 642] (by decide +kernel))
set_option maxRecDepth 20000 in
theorem gw_wsL_does_r8 : ∀ w ∈ wsL_does_r8, w ∈ lw_tbl := (lw_in [643, 644, 646, 13, 647, 648, 650, 14, 651, 652, 653, 654, 655, 656, 657, 658, 659, 31, 660, 139, 135, 136, 137, 661] (by decide +kernel))
set_option maxRecDepth 20000 in
theorem gw_wsL_does_r9 : ∀ w ∈ wsL_does_r9, w ∈ lw_tbl := (lw_in [663, 15, 664, 665, 667, 16, 668, 669, 671, 17, 672, 518, 519, 520, 521, 514, 516, 11, 517, 522, 523, 524, 525, 510] (by decide +kernel))
set_option maxRecDepth 20000 in
theorem gw_wsL_does_r10 : ∀ w ∈ wsL_does_r10, w ∈ lw_tbl := (lw_in [511, 512, 513, 673, 674, 675, 676, 411, 413, 3, 414, 193, 677, 678, 679, 680, 681, 683, 18, 684, 188, 685, 686, 687] (by decide +kernel))
set_option maxRecDepth 20000 in
theorem gw_wsL_does_r11 : ∀ w ∈ wsL_does_r11, w ∈ lw_tbl := (lw_in [30, 688, 154, 155, 689, 690, 691, 692, 693, 694, 695, 696, 697, 698, 699, 700, 163, 157, 159, 164, 161, 701, 703, 19] (by decide +kernel))
set_option maxRecDepth 20000 in
theorem gw_wsL_does_r12 : ∀ w ∈ wsL_does_r12, w ∈ lw_tbl := (lw_in [704, 152, 705, 706, 707, 709, 20, 710, 153, 711, 712, 713, 714, 715, 716, 717, 719, 21, 720, 722, 721, 723, 724, 725] (by decide +kernel))
set_option maxRecDepth 20000 in
theorem gw_wsL_does_r13 : ∀ w ∈ wsL_does_r13, w ∈ lw_tbl := (lw_in [726, 727, 728, 729, 731, 22, 732, 733, 734, 735, 736, 737, 738, 739, 741, 742, 743, 744, 73, 59, 61, 0, 62, 76] (by decide +kernel))
set_option maxRecDepth 20000 in
theorem gw_wsL_does_r14 : ∀ w ∈ wsL_does_r14, w ∈ lw_tbl := (lw_in [71, 72, 64, 67, 69, 1, 70, 745, 746, 747, 748, 749, 750, 751, 497, 499, 10, 500, 753, 754, 755, 756, 757, 758] (by decide +kernel))
set_option maxRecDepth 20000 in
theorem gw_wsL_does_r15 : ∀ w ∈ wsL_does_r15, w ∈ lw_tbl := (lw_in [759, 761, 762, 763, 764, 765, 766, 767, 769, 770, 771, 772, 773, 774, 775, 776, 777, 778, 779, 780, 782, 783, 784, 785] (by decide +kernel))
set_option maxRecDepth 20000 in
theorem gw_wsL_does_r16 : ∀ w ∈ wsL_does_r16, w ∈ lw_tbl := (lw_in [368, 369, 786, 370, 787, 788, 789, 790, 791, 792, 793, 794, 795, 796, 797, 798, 799, 800, 802, 804, 23, 805, 806] (by decide +kernel))
set_option maxRecDepth 20000 in
theorem gw_wsL_does : ∀ w ∈ wsL_does, w ∈ lw_tbl := List.forall_mem_cons.mpr ⟨List.mem_of_getElem? (i := 559) (by decide +kernel), List.forall_mem_append.mpr ⟨List.forall_mem_append.mpr ⟨List.forall_mem_append.mpr ⟨List.forall_mem_append.mpr ⟨List.forall_mem_append.mpr ⟨List.forall_mem_append.mpr ⟨List.forall_mem_append.mpr ⟨List.forall_mem_append.mpr ⟨List.forall_mem_append.mpr ⟨List.forall_mem_append.mpr ⟨List.forall_mem_append.mpr ⟨gw_wsL_does_r1, List.forall_mem_append.mpr ⟨gw_wsL_does_r2, List.forall_mem_append.mpr ⟨gw_wsL_does_r3, List.forall_mem_append.mpr ⟨gw_wsL_does_r4, List.forall_mem_append.mpr ⟨gw_wsL_does_r5, List.forall_mem_append.mpr ⟨gw_wsL_does_r6, List.forall_mem_append.mpr ⟨gw_wsL_does_r7, List.forall_mem_append.mpr ⟨gw_wsL_does_r8, List.forall_mem_append.mpr ⟨gw_wsL_does_r9, List.forall_mem_append.mpr ⟨gw_wsL_does_r10, List.forall_mem_append.mpr ⟨gw_wsL_does_r11, List.forall_mem_append.mpr ⟨gw_wsL_does_r12, List.forall_mem_append.mpr ⟨gw_wsL_does_r13, List.forall_mem_append.mpr ⟨gw_wsL_does_r14, List.forall_mem_append.mpr ⟨gw_wsL_does_r15, gw_wsL_does_r16⟩⟩⟩⟩⟩⟩⟩⟩⟩⟩⟩⟩⟩⟩⟩, in_wsX60⟩, in_wsX30⟩, in_wsX00⟩, in_wsX10⟩, in_wsX40⟩, in_wsX20⟩, in_wsX50⟩, wsL_law_x0⟩, wsL_law_x1⟩, wsL_law_x2⟩⟩
set_option maxRecDepth 20000 in
theorem gw_wsL_isRefused : ∀ w ∈ wsL_isRefused, w ∈ lw_tbl := List.forall_mem_cons.mpr ⟨List.mem_of_getElem? (i := 629) (by decide +kernel), (lw_in [345, 346, 347] (by decide +kernel))⟩
set_option maxRecDepth 20000 in
theorem gw_wsL_isLawful_r1 : ∀ w ∈ wsL_isLawful_r1, w ∈ lw_tbl := (lw_in [422, 423, 25, 424, 226, 347, 425, 426, 427, 26, 428, 187, 429, 431, 4, 432, 325, 37, 189, 190, 186, 433, 434, 435] (by decide +kernel))
set_option maxRecDepth 20000 in
theorem gw_wsL_isLawful_r2 : ∀ w ∈ wsL_isLawful_r2, w ∈ lw_tbl := (lw_in [29, 436, 106, 107, 438, 439, 440, 441, 101, 442, 444, 5, 445, 192, 184, 185, 446, 447, 448, 27, 449, 74, 63, 450] (by decide +kernel))
set_option maxRecDepth 20000 in
theorem gw_wsL_isLawful_r3 : ∀ w ∈ wsL_isLawful_r3, w ∈ lw_tbl := (lw_in [235, 236, 415, 416, 417, 38, 418, 365, 376, 372, 451, 452, 453, 454, 103, 455, 456, 457, 458, 104, 459, 461, 6, 462] (by decide +kernel))
set_option maxRecDepth 20000 in
theorem gw_wsL_isLawful_r4 : ∀ w ∈ wsL_isLawful_r4, w ∈ lw_tbl := (lw_in [471, 472, 28, 473, 463, 465, 7, 466, 467, 469, 8, 470, 810, 811, 812, 813, 814, 815, 816, 817, 818, 819, 820, 105] (by decide +kernel))
set_option maxRecDepth 20000 in
theorem gw_wsL_isLawful_r5 : ∀ w ∈ wsL_isLawful_r5, w ∈ lw_tbl := (lw_in [821, 823, 24, 824, 474, 475, 476, 224, 225, 345, 346, 477, 478, 479, 480, 481, 483, 9, 484, 237, 35, 321, 322, 323] (by decide +kernel))
set_option maxRecDepth 20000 in
theorem gw_wsL_isLawful_r6 : ∀ w ∈ wsL_isLawful_r6, w ∈ lw_tbl := (lw_in [305, 36, 486, 487, 488, 39, 489, 599, 596, 825, 826, 827, 490, 491, 492, 493, 494, 495, 496, 497, 499, 10, 500, 550] (by decide +kernel))
set_option maxRecDepth 20000 in
theorem gw_wsL_isLawful_r7 : ∀ w ∈ wsL_isLawful_r7, w ∈ lw_tbl := (lw_in [551, 552, 553, 554, 555, 556, 548, 828, 829, 830, 502, 503, 504, 505, 506, 507, 508, 510, 511, 512, 31, 513, 135, 514] (by decide +kernel))
set_option maxRecDepth 20000 in
theorem gw_wsL_isLawful_r8 : ∀ w ∈ wsL_isLawful_r8, w ∈ lw_tbl := (lw_in [516, 11, 517, 139, 518, 519, 520, 521, 136, 522, 523, 524, 525, 137, 533, 534, 535, 536, 537, 538, 539, 541, 543, 12] (by decide +kernel))
set_option maxRecDepth 20000 in
theorem gw_wsL_isLawful_r9 : ∀ w ∈ wsL_isLawful_r9, w ∈ lw_tbl := (lw_in [544, 191, 549, 65, 66, 545, 546, 547, 526, 527, 528, 529, 530, 531, 532, 231, 232, 233, 234] (by decide +kernel))
set_option maxRecDepth 20000 in
theorem gw_wsL_isLawful : ∀ w ∈ wsL_isLawful, w ∈ lw_tbl := List.forall_mem_cons.mpr ⟨List.mem_of_getElem? (i := 809) (by decide +kernel), List.forall_mem_append.mpr ⟨List.forall_mem_append.mpr ⟨List.forall_mem_append.mpr ⟨List.forall_mem_append.mpr ⟨List.forall_mem_append.mpr ⟨List.forall_mem_append.mpr ⟨List.forall_mem_append.mpr ⟨List.forall_mem_append.mpr ⟨List.forall_mem_append.mpr ⟨List.forall_mem_append.mpr ⟨gw_wsL_isLawful_r1, List.forall_mem_append.mpr ⟨gw_wsL_isLawful_r2, List.forall_mem_append.mpr ⟨gw_wsL_isLawful_r3, List.forall_mem_append.mpr ⟨gw_wsL_isLawful_r4, List.forall_mem_append.mpr ⟨gw_wsL_isLawful_r5, List.forall_mem_append.mpr ⟨gw_wsL_isLawful_r6, List.forall_mem_append.mpr ⟨gw_wsL_isLawful_r7, List.forall_mem_append.mpr ⟨gw_wsL_isLawful_r8, gw_wsL_isLawful_r9⟩⟩⟩⟩⟩⟩⟩⟩, in_wsX60⟩, in_wsX30⟩, in_wsX20⟩, in_wsX10⟩, in_wsX00⟩, in_wsX40⟩, wsL_law_x1⟩, wsL_law_x2⟩, wsL_law_x0⟩⟩
set_option maxRecDepth 20000 in
theorem gw_wsX6_init_r1 : ∀ w ∈ wsX6_init_r1, w ∈ lw_tbl := (lw_in [48, 49, 50, 51, 52, 27, 184, 89, 185, 91, 186, 93, 94, 29, 187, 122, 123, 30, 188, 191, 53, 54, 55, 56] (by decide +kernel))
set_option maxRecDepth 20000 in
theorem gw_wsX6_init_r2 : ∀ w ∈ wsX6_init_r2, w ∈ lw_tbl := (lw_in [88, 71, 72, 73, 57, 74, 59, 61, 0, 62, 63, 76, 64, 65, 28, 66, 67, 69, 1, 70, 95, 96, 97, 98] (by decide +kernel))
set_option maxRecDepth 20000 in
theorem gw_wsX6_init_r3 : ∀ w ∈ wsX6_init_r3, w ∈ lw_tbl := (lw_in [99, 101, 100, 103, 104, 105, 124, 125, 126, 127, 152, 128, 129, 31, 153, 130, 131, 132, 133, 135, 134, 136, 151, 137] (by decide +kernel))
set_option maxRecDepth 20000 in
theorem gw_wsX6_init : ∀ w ∈ wsX6_init, w ∈ lw_tbl := List.forall_mem_cons.mpr ⟨List.mem_of_getElem? (i := 47) (by decide +kernel), List.forall_mem_append.mpr ⟨List.forall_mem_append.mpr ⟨List.forall_mem_append.mpr ⟨List.forall_mem_append.mpr ⟨List.forall_mem_append.mpr ⟨List.forall_mem_append.mpr ⟨gw_wsX6_init_r1, List.forall_mem_append.mpr ⟨gw_wsX6_init_r2, gw_wsX6_init_r3⟩⟩, in_wsX00⟩, in_wsX60⟩, in_wsX20⟩, in_wsX50⟩, in_wsX40⟩⟩
set_option maxRecDepth 20000 in
theorem gk_L_drawn : GoodIn lw_tbl (va_wsS RL 153 yL_drawn wsL_drawn) := goodIn_app (goodIn_sub (lw_in [215, 216, 25] (by decide +kernel)) (by decide +kernel)) (goodIn_sub gw_wsL_drawn (by decide +kernel))
set_option maxRecDepth 20000 in
theorem gk_L_street : GoodIn lw_tbl (va_wsS RL 158 yL_street wsL_street) := goodIn_app (goodIn_sub (lw_in [221, 222, 25] (by decide +kernel)) (by decide +kernel)) (goodIn_sub gw_wsL_street (by decide +kernel))
set_option maxRecDepth 20000 in
theorem gk_L_driver : GoodIn lw_tbl (va_wsS RL 161 yL_driver wsL_driver) := goodIn_app (goodIn_sub (lw_in [348, 349, 25] (by decide +kernel)) (by decide +kernel)) (goodIn_sub gw_wsL_driver (by decide +kernel))
set_option maxRecDepth 20000 in
theorem gk_L_sum : GoodIn lw_tbl (va_wsS RL 163 yL_sum wsL_sum) := goodIn_app (goodIn_sub (lw_in [419, 420, 25] (by decide +kernel)) (by decide +kernel)) (goodIn_sub gw_wsL_sum (by decide +kernel))
set_option maxRecDepth 20000 in
theorem gk_L_does : GoodIn lw_tbl (va_wsS RL 166 yL_does wsL_does) := goodIn_app (goodIn_sub (lw_in [557, 558, 25] (by decide +kernel)) (by decide +kernel)) (goodIn_sub gw_wsL_does (by decide +kernel))
set_option maxRecDepth 20000 in
theorem gk_L_isRefused : GoodIn lw_tbl (va_wsS RL 118 yL_isRefused wsL_isRefused) := goodIn_app (goodIn_sub (lw_in [627, 628, 25] (by decide +kernel)) (by decide +kernel)) (goodIn_sub gw_wsL_isRefused (by decide +kernel))
set_option maxRecDepth 20000 in
theorem gk_L_isLawful : GoodIn lw_tbl (va_wsS RL 170 yL_isLawful wsL_isLawful) := goodIn_app (goodIn_sub (lw_in [807, 808, 25] (by decide +kernel)) (by decide +kernel)) (goodIn_sub gw_wsL_isLawful (by decide +kernel))
set_option maxRecDepth 20000 in
theorem gk_X6_init : GoodIn lw_tbl wsX6_init := goodIn_sub gw_wsX6_init (by decide +kernel)
