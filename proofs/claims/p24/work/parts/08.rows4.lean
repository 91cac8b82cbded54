theorem dX6_putIntoRow_0 : decode cX6_putIntoRow 0 = .ok (.aload_n 0, 1) := by decide +kernel
theorem dX6_putIntoRow_1 : decode cX6_putIntoRow 1 = .ok (.getfield 40, 3) := by decide +kernel
theorem dX6_putIntoRow_4 : decode cX6_putIntoRow 4 = .ok (.aload_n 1, 1) := by decide +kernel
theorem dX6_putIntoRow_5 : decode cX6_putIntoRow 5 = .ok (.invokevirtual 319, 3) := by decide +kernel
theorem dX6_putIntoRow_8 : decode cX6_putIntoRow 8 = .ok (.iconst 0, 1) := by decide +kernel
theorem dX6_putIntoRow_9 : decode cX6_putIntoRow 9 = .ok (.istore_n 2, 1) := by decide +kernel
theorem dX6_putIntoRow_10 : decode cX6_putIntoRow 10 = .ok (.iload_n 2, 1) := by decide +kernel
theorem dX6_putIntoRow_11 : decode cX6_putIntoRow 11 = .ok (.aload_n 0, 1) := by decide +kernel
theorem dX6_putIntoRow_12 : decode cX6_putIntoRow 12 = .ok (.getfield 87, 3) := by decide +kernel
theorem dX6_putIntoRow_15 : decode cX6_putIntoRow 15 = .ok (.if_icmp .ge 49, 3) := by decide +kernel
theorem dX6_putIntoRow_18 : decode cX6_putIntoRow 18 = .ok (.aload_n 0, 1) := by decide +kernel
theorem dX6_putIntoRow_19 : decode cX6_putIntoRow 19 = .ok (.getfield 18, 3) := by decide +kernel
theorem dX6_putIntoRow_22 : decode cX6_putIntoRow 22 = .ok (.iload_n 2, 1) := by decide +kernel
theorem dX6_putIntoRow_23 : decode cX6_putIntoRow 23 = .ok (.aaload, 1) := by decide +kernel
theorem dX6_putIntoRow_24 : decode cX6_putIntoRow 24 = .ok (.getfield 322, 3) := by decide +kernel
theorem dX6_putIntoRow_27 : decode cX6_putIntoRow 27 = .ok (.ifCond .ne 31, 3) := by decide +kernel
theorem dX6_putIntoRow_30 : decode cX6_putIntoRow 30 = .ok (.aload_n 0, 1) := by decide +kernel
theorem dX6_putIntoRow_31 : decode cX6_putIntoRow 31 = .ok (.getfield 18, 3) := by decide +kernel
theorem dX6_putIntoRow_34 : decode cX6_putIntoRow 34 = .ok (.iload_n 2, 1) := by decide +kernel
theorem dX6_putIntoRow_35 : decode cX6_putIntoRow 35 = .ok (.aaload, 1) := by decide +kernel
theorem dX6_putIntoRow_36 : decode cX6_putIntoRow 36 = .ok (.getfield 106, 3) := by decide +kernel
theorem dX6_putIntoRow_39 : decode cX6_putIntoRow 39 = .ok (.invokevirtual 325, 3) := by decide +kernel
theorem dX6_putIntoRow_42 : decode cX6_putIntoRow 42 = .ok (.ifCond .eq 16, 3) := by decide +kernel
theorem dX6_putIntoRow_45 : decode cX6_putIntoRow 45 = .ok (.aload_n 0, 1) := by decide +kernel
theorem dX6_putIntoRow_46 : decode cX6_putIntoRow 46 = .ok (.getfield 40, 3) := by decide +kernel
theorem dX6_putIntoRow_49 : decode cX6_putIntoRow 49 = .ok (.aload_n 0, 1) := by decide +kernel
theorem dX6_putIntoRow_50 : decode cX6_putIntoRow 50 = .ok (.getfield 18, 3) := by decide +kernel
theorem dX6_putIntoRow_53 : decode cX6_putIntoRow 53 = .ok (.iload_n 2, 1) := by decide +kernel
theorem dX6_putIntoRow_54 : decode cX6_putIntoRow 54 = .ok (.aaload, 1) := by decide +kernel
theorem dX6_putIntoRow_55 : decode cX6_putIntoRow 55 = .ok (.invokevirtual 328, 3) := by decide +kernel
theorem dX6_putIntoRow_58 : decode cX6_putIntoRow 58 = .ok (.iinc 2 1, 3) := by decide +kernel
theorem dX6_putIntoRow_61 : decode cX6_putIntoRow 61 = .ok (.goto (-51), 3) := by decide +kernel
theorem dX6_putIntoRow_64 : decode cX6_putIntoRow 64 = .ok (.aload_n 0, 1) := by decide +kernel
theorem dX6_putIntoRow_65 : decode cX6_putIntoRow 65 = .ok (.getfield 40, 3) := by decide +kernel
theorem dX6_putIntoRow_68 : decode cX6_putIntoRow 68 = .ok (.getfield 331, 3) := by decide +kernel
theorem dX6_putIntoRow_71 : decode cX6_putIntoRow 71 = .ok (.astore_n 2, 1) := by decide +kernel
theorem dX6_putIntoRow_72 : decode cX6_putIntoRow 72 = .ok (.aload_n 2, 1) := by decide +kernel
theorem dX6_putIntoRow_73 : decode cX6_putIntoRow 73 = .ok (.ifnonnull 5, 3) := by decide +kernel
theorem dX6_putIntoRow_76 : decode cX6_putIntoRow 76 = .ok (.iconst 0, 1) := by decide +kernel
theorem dX6_putIntoRow_77 : decode cX6_putIntoRow 77 = .ok (.ireturn, 1) := by decide +kernel
theorem dX6_putIntoRow_78 : decode cX6_putIntoRow 78 = .ok (.aload_n 2, 1) := by decide +kernel
theorem dX6_putIntoRow_79 : decode cX6_putIntoRow 79 = .ok (.getfield 106, 3) := by decide +kernel
theorem dX6_putIntoRow_82 : decode cX6_putIntoRow 82 = .ok (.aload_n 0, 1) := by decide +kernel
theorem dX6_putIntoRow_83 : decode cX6_putIntoRow 83 = .ok (.getfield 40, 3) := by decide +kernel
theorem dX6_putIntoRow_86 : decode cX6_putIntoRow 86 = .ok (.getfield 332, 3) := by decide +kernel
theorem dX6_putIntoRow_89 : decode cX6_putIntoRow 89 = .ok (.aload_n 1, 1) := by decide +kernel
theorem dX6_putIntoRow_90 : decode cX6_putIntoRow 90 = .ok (.getfield 195, 3) := by decide +kernel
theorem dX6_putIntoRow_93 : decode cX6_putIntoRow 93 = .ok (.aload_n 1, 1) := by decide +kernel
theorem dX6_putIntoRow_94 : decode cX6_putIntoRow 94 = .ok (.iconst 0, 1) := by decide +kernel
theorem dX6_putIntoRow_95 : decode cX6_putIntoRow 95 = .ok (.invokevirtual 130, 3) := by decide +kernel
theorem dX6_putIntoRow_98 : decode cX6_putIntoRow 98 = .ok (.aload_n 2, 1) := by decide +kernel
theorem dX6_putIntoRow_99 : decode cX6_putIntoRow 99 = .ok (.getfield 106, 3) := by decide +kernel
theorem dX6_putIntoRow_102 : decode cX6_putIntoRow 102 = .ok (.aload_n 0, 1) := by decide +kernel
theorem dX6_putIntoRow_103 : decode cX6_putIntoRow 103 = .ok (.getfield 40, 3) := by decide +kernel
theorem dX6_putIntoRow_106 : decode cX6_putIntoRow 106 = .ok (.getfield 335, 3) := by decide +kernel
theorem dX6_putIntoRow_109 : decode cX6_putIntoRow 109 = .ok (.aload_n 1, 1) := by decide +kernel
theorem dX6_putIntoRow_110 : decode cX6_putIntoRow 110 = .ok (.getfield 308, 3) := by decide +kernel
theorem dX6_putIntoRow_113 : decode cX6_putIntoRow 113 = .ok (.aload_n 1, 1) := by decide +kernel
theorem dX6_putIntoRow_114 : decode cX6_putIntoRow 114 = .ok (.iconst 1, 1) := by decide +kernel
theorem dX6_putIntoRow_115 : decode cX6_putIntoRow 115 = .ok (.invokevirtual 130, 3) := by decide +kernel
theorem dX6_putIntoRow_118 : decode cX6_putIntoRow 118 = .ok (.aload_n 0, 1) := by decide +kernel
theorem dX6_putIntoRow_119 : decode cX6_putIntoRow 119 = .ok (.aload_n 1, 1) := by decide +kernel
theorem dX6_putIntoRow_120 : decode cX6_putIntoRow 120 = .ok (.aload_n 2, 1) := by decide +kernel
theorem dX6_putIntoRow_121 : decode cX6_putIntoRow 121 = .ok (.aload_n 0, 1) := by decide +kernel
theorem dX6_putIntoRow_122 : decode cX6_putIntoRow 122 = .ok (.getfield 40, 3) := by decide +kernel
theorem dX6_putIntoRow_125 : decode cX6_putIntoRow 125 = .ok (.getfield 338, 3) := by decide +kernel
theorem dX6_putIntoRow_128 : decode cX6_putIntoRow 128 = .ok (.invokevirtual 304, 3) := by decide +kernel
theorem dX6_putIntoRow_131 : decode cX6_putIntoRow 131 = .ok (.iconst 1, 1) := by decide +kernel
theorem dX6_putIntoRow_132 : decode cX6_putIntoRow 132 = .ok (.ireturn, 1) := by decide +kernel
set_option maxRecDepth 20000 in
theorem ggX6_passOneMinute_X4_riderCount : GoodIn wsX6_passOneMinute wsX4_riderCount := goodIn_r _ [10, 11, 12, 107, 108, 109, 110] (by decide +kernel) (by decide +kernel)
set_option maxRecDepth 20000 in
theorem gX6_passOneMinute_X4_riderCount : GoodIn wsX6_passOneMinute (wsV RX6 341 RX4 yX4_riderCount wsX4_riderCount) := goodIn_app (goodIn_of _ (by decide +kernel)) ggX6_passOneMinute_X4_riderCount
set_option maxRecDepth 20000 in
theorem ggX6_passOneMinute_X6_doReachedStops : GoodIn wsX6_passOneMinute wsX6_doReachedStops := goodIn_r _ [17, 3, 18, 19, 20, 16, 21, 22, 23, 24, 25, 9, 26, 27, 28, 29, 30, 31, 11, 32, 33, 34, 35, 12, 36, 37, 38, 39, 40, 41, 42, 43, 44, 45, 46, 47, 48, 49, 50, 51, 52, 53, 54, 55, 56, 57, 58, 59, 60, 61, 62, 63, 64, 65, 66, 67, 68, 69, 70, 71, 82, 83, 84, 85, 86, 87, 88, 89, 90, 91, 92, 93, 94, 107, 108, 109, 110, 72, 73, 74, 75, 76, 77, 78, 79, 80, 81, 95, 96, 97, 98, 99, 100, 101, 102, 103, 104, 105, 106, 111, 112, 113, 114, 115] (by decide +kernel) (by decide +kernel)
set_option maxRecDepth 20000 in
theorem gX6_passOneMinute_X6_doReachedStops : GoodIn wsX6_passOneMinute (wsV RX6 311 RX6 yX6_doReachedStops wsX6_doReachedStops) := goodIn_app (goodIn_of _ (by decide +kernel)) ggX6_passOneMinute_X6_doReachedStops
theorem dX6_passOneMinute_0 : decode cX6_passOneMinute 0 = .ok (.iconst 0, 1) := by decide +kernel
theorem dX6_passOneMinute_1 : decode cX6_passOneMinute 1 = .ok (.istore_n 1, 1) := by decide +kernel
theorem dX6_passOneMinute_2 : decode cX6_passOneMinute 2 = .ok (.iload_n 1, 1) := by decide +kernel
theorem dX6_passOneMinute_3 : decode cX6_passOneMinute 3 = .ok (.aload_n 0, 1) := by decide +kernel
theorem dX6_passOneMinute_4 : decode cX6_passOneMinute 4 = .ok (.getfield 87, 3) := by decide +kernel
theorem dX6_passOneMinute_7 : decode cX6_passOneMinute 7 = .ok (.if_icmp .ge 39, 3) := by decide +kernel
theorem dX6_passOneMinute_10 : decode cX6_passOneMinute 10 = .ok (.aload_n 0, 1) := by decide +kernel
theorem dX6_passOneMinute_11 : decode cX6_passOneMinute 11 = .ok (.getfield 18, 3) := by decide +kernel
theorem dX6_passOneMinute_14 : decode cX6_passOneMinute 14 = .ok (.iload_n 1, 1) := by decide +kernel
theorem dX6_passOneMinute_15 : decode cX6_passOneMinute 15 = .ok (.aaload, 1) := by decide +kernel
theorem dX6_passOneMinute_16 : decode cX6_passOneMinute 16 = .ok (.getfield 106, 3) := by decide +kernel
theorem dX6_passOneMinute_19 : decode cX6_passOneMinute 19 = .ok (.invokevirtual 341, 3) := by decide +kernel
theorem dX6_passOneMinute_22 : decode cX6_passOneMinute 22 = .ok (.ifCond .le 18, 3) := by decide +kernel
theorem dX6_passOneMinute_25 : decode cX6_passOneMinute 25 = .ok (.aload_n 0, 1) := by decide +kernel
theorem dX6_passOneMinute_26 : decode cX6_passOneMinute 26 = .ok (.getfield 18, 3) := by decide +kernel
theorem dX6_passOneMinute_29 : decode cX6_passOneMinute 29 = .ok (.iload_n 1, 1) := by decide +kernel
theorem dX6_passOneMinute_30 : decode cX6_passOneMinute 30 = .ok (.aaload, 1) := by decide +kernel
theorem dX6_passOneMinute_31 : decode cX6_passOneMinute 31 = .ok (.dup, 1) := by decide +kernel
theorem dX6_passOneMinute_32 : decode cX6_passOneMinute 32 = .ok (.getfield 239, 3) := by decide +kernel
theorem dX6_passOneMinute_35 : decode cX6_passOneMinute 35 = .ok (.iconst 1, 1) := by decide +kernel
theorem dX6_passOneMinute_36 : decode cX6_passOneMinute 36 = .ok (.iadd, 1) := by decide +kernel
theorem dX6_passOneMinute_37 : decode cX6_passOneMinute 37 = .ok (.putfield 239, 3) := by decide +kernel
theorem dX6_passOneMinute_40 : decode cX6_passOneMinute 40 = .ok (.iinc 1 1, 3) := by decide +kernel
theorem dX6_passOneMinute_43 : decode cX6_passOneMinute 43 = .ok (.goto (-41), 3) := by decide +kernel
theorem dX6_passOneMinute_46 : decode cX6_passOneMinute 46 = .ok (.aload_n 0, 1) := by decide +kernel
theorem dX6_passOneMinute_47 : decode cX6_passOneMinute 47 = .ok (.dup, 1) := by decide +kernel
theorem dX6_passOneMinute_48 : decode cX6_passOneMinute 48 = .ok (.getfield 134, 3) := by decide +kernel
theorem dX6_passOneMinute_51 : decode cX6_passOneMinute 51 = .ok (.iconst 1, 1) := by decide +kernel
theorem dX6_passOneMinute_52 : decode cX6_passOneMinute 52 = .ok (.iadd, 1) := by decide +kernel
theorem dX6_passOneMinute_53 : decode cX6_passOneMinute 53 = .ok (.putfield 134, 3) := by decide +kernel
theorem dX6_passOneMinute_56 : decode cX6_passOneMinute 56 = .ok (.iconst 0, 1) := by decide +kernel
theorem dX6_passOneMinute_57 : decode cX6_passOneMinute 57 = .ok (.istore_n 1, 1) := by decide +kernel
theorem dX6_passOneMinute_58 : decode cX6_passOneMinute 58 = .ok (.iload_n 1, 1) := by decide +kernel
theorem dX6_passOneMinute_59 : decode cX6_passOneMinute 59 = .ok (.aload_n 0, 1) := by decide +kernel
theorem dX6_passOneMinute_60 : decode cX6_passOneMinute 60 = .ok (.getfield 87, 3) := by decide +kernel
theorem dX6_passOneMinute_63 : decode cX6_passOneMinute 63 = .ok (.if_icmp .ge 19, 3) := by decide +kernel
theorem dX6_passOneMinute_66 : decode cX6_passOneMinute 66 = .ok (.aload_n 0, 1) := by decide +kernel
theorem dX6_passOneMinute_67 : decode cX6_passOneMinute 67 = .ok (.aload_n 0, 1) := by decide +kernel
theorem dX6_passOneMinute_68 : decode cX6_passOneMinute 68 = .ok (.getfield 18, 3) := by decide +kernel
theorem dX6_passOneMinute_71 : decode cX6_passOneMinute 71 = .ok (.iload_n 1, 1) := by decide +kernel
theorem dX6_passOneMinute_72 : decode cX6_passOneMinute 72 = .ok (.aaload, 1) := by decide +kernel
theorem dX6_passOneMinute_73 : decode cX6_passOneMinute 73 = .ok (.invokevirtual 311, 3) := by decide +kernel
theorem dX6_passOneMinute_76 : decode cX6_passOneMinute 76 = .ok (.iinc 1 1, 3) := by decide +kernel
theorem dX6_passOneMinute_79 : decode cX6_passOneMinute 79 = .ok (.goto (-21), 3) := by decide +kernel
theorem dX6_passOneMinute_82 : decode cX6_passOneMinute 82 = .ok (.iconst 0, 1) := by decide +kernel
theorem dX6_passOneMinute_83 : decode cX6_passOneMinute 83 = .ok (.istore_n 1, 1) := by decide +kernel
theorem dX6_passOneMinute_84 : decode cX6_passOneMinute 84 = .ok (.iload_n 1, 1) := by decide +kernel
theorem dX6_passOneMinute_85 : decode cX6_passOneMinute 85 = .ok (.aload_n 0, 1) := by decide +kernel
theorem dX6_passOneMinute_86 : decode cX6_passOneMinute 86 = .ok (.getfield 146, 3) := by decide +kernel
theorem dX6_passOneMinute_89 : decode cX6_passOneMinute 89 = .ok (.if_icmp .ge 47, 3) := by decide +kernel
theorem dX6_passOneMinute_92 : decode cX6_passOneMinute 92 = .ok (.aload_n 0, 1) := by decide +kernel
theorem dX6_passOneMinute_93 : decode cX6_passOneMinute 93 = .ok (.getfield 24, 3) := by decide +kernel
theorem dX6_passOneMinute_96 : decode cX6_passOneMinute 96 = .ok (.iload_n 1, 1) := by decide +kernel
theorem dX6_passOneMinute_97 : decode cX6_passOneMinute 97 = .ok (.aaload, 1) := by decide +kernel
theorem dX6_passOneMinute_98 : decode cX6_passOneMinute 98 = .ok (.getfield 168, 3) := by decide +kernel
theorem dX6_passOneMinute_101 : decode cX6_passOneMinute 101 = .ok (.ifCond .ne 29, 3) := by decide +kernel
theorem dX6_passOneMinute_104 : decode cX6_passOneMinute 104 = .ok (.aload_n 0, 1) := by decide +kernel
theorem dX6_passOneMinute_105 : decode cX6_passOneMinute 105 = .ok (.getfield 24, 3) := by decide +kernel
theorem dX6_passOneMinute_108 : decode cX6_passOneMinute 108 = .ok (.iload_n 1, 1) := by decide +kernel
theorem dX6_passOneMinute_109 : decode cX6_passOneMinute 109 = .ok (.aaload, 1) := by decide +kernel
theorem dX6_passOneMinute_110 : decode cX6_passOneMinute 110 = .ok (.getfield 157, 3) := by decide +kernel
theorem dX6_passOneMinute_113 : decode cX6_passOneMinute 113 = .ok (.aload_n 0, 1) := by decide +kernel
theorem dX6_passOneMinute_114 : decode cX6_passOneMinute 114 = .ok (.getfield 134, 3) := by decide +kernel
theorem dX6_passOneMinute_117 : decode cX6_passOneMinute 117 = .ok (.if_icmp .gt 13, 3) := by decide +kernel
theorem dX6_passOneMinute_120 : decode cX6_passOneMinute 120 = .ok (.aload_n 0, 1) := by decide +kernel
theorem dX6_passOneMinute_121 : decode cX6_passOneMinute 121 = .ok (.getfield 24, 3) := by decide +kernel
theorem dX6_passOneMinute_124 : decode cX6_passOneMinute 124 = .ok (.iload_n 1, 1) := by decide +kernel
theorem dX6_passOneMinute_125 : decode cX6_passOneMinute 125 = .ok (.aaload, 1) := by decide +kernel
theorem dX6_passOneMinute_126 : decode cX6_passOneMinute 126 = .ok (.iconst 4, 1) := by decide +kernel
theorem dX6_passOneMinute_127 : decode cX6_passOneMinute 127 = .ok (.putfield 168, 3) := by decide +kernel
theorem dX6_passOneMinute_130 : decode cX6_passOneMinute 130 = .ok (.iinc 1 1, 3) := by decide +kernel
theorem dX6_passOneMinute_133 : decode cX6_passOneMinute 133 = .ok (.goto (-49), 3) := by decide +kernel
theorem dX6_passOneMinute_136 : decode cX6_passOneMinute 136 = .ok (.return_, 1) := by decide +kernel
set_option maxRecDepth 20000 in
theorem ggX6_doReachedStops_X6_doNextStop : GoodIn wsX6_doReachedStops wsX6_doNextStop := goodIn_r _ [6, 1, 7, 8, 9, 10, 11, 12, 13, 14, 15, 16, 17, 18, 19, 20, 21, 22, 23, 24, 25, 26, 27, 28, 29, 30, 31, 32, 33, 34, 35, 36, 37, 38, 39, 40, 41, 42, 43, 44, 45, 46, 47, 48, 49, 5, 50, 51, 52, 53, 54, 55, 56, 57, 58, 59, 60, 61, 62, 63, 64, 65, 66, 67, 68, 69, 70, 71, 72, 87, 88, 89, 90, 91, 92, 93, 94, 95, 96, 97, 98, 77, 78, 79, 80, 81, 82, 83, 84, 85, 86, 73, 74, 75, 76, 99, 100, 101, 102, 103] (by decide +kernel) (by decide +kernel)
set_option maxRecDepth 20000 in
theorem gX6_doReachedStops_X6_doNextStop : GoodIn wsX6_doReachedStops (wsV RX6 344 RX6 yX6_doNextStop wsX6_doNextStop) := goodIn_app (goodIn_of _ (by decide +kernel)) ggX6_doReachedStops_X6_doNextStop
theorem dX6_doReachedStops_0 : decode cX6_doReachedStops 0 = .ok (.aload_n 1, 1) := by decide +kernel
theorem dX6_doReachedStops_1 : decode cX6_doReachedStops 1 = .ok (.getfield 106, 3) := by decide +kernel
theorem dX6_doReachedStops_4 : decode cX6_doReachedStops 4 = .ok (.getfield 110, 3) := by decide +kernel
theorem dX6_doReachedStops_7 : decode cX6_doReachedStops 7 = .ok (.istore_n 2, 1) := by decide +kernel
theorem dX6_doReachedStops_8 : decode cX6_doReachedStops 8 = .ok (.iconst 0, 1) := by decide +kernel
theorem dX6_doReachedStops_9 : decode cX6_doReachedStops 9 = .ok (.istore_n 3, 1) := by decide +kernel
theorem dX6_doReachedStops_10 : decode cX6_doReachedStops 10 = .ok (.iload_n 3, 1) := by decide +kernel
theorem dX6_doReachedStops_11 : decode cX6_doReachedStops 11 = .ok (.iload_n 2, 1) := by decide +kernel
theorem dX6_doReachedStops_12 : decode cX6_doReachedStops 12 = .ok (.if_icmp .ge 35, 3) := by decide +kernel
theorem dX6_doReachedStops_15 : decode cX6_doReachedStops 15 = .ok (.aload_n 1, 1) := by decide +kernel
theorem dX6_doReachedStops_16 : decode cX6_doReachedStops 16 = .ok (.getfield 106, 3) := by decide +kernel
theorem dX6_doReachedStops_19 : decode cX6_doReachedStops 19 = .ok (.getfield 110, 3) := by decide +kernel
theorem dX6_doReachedStops_22 : decode cX6_doReachedStops 22 = .ok (.ifCond .le 25, 3) := by decide +kernel
theorem dX6_doReachedStops_25 : decode cX6_doReachedStops 25 = .ok (.aload_n 1, 1) := by decide +kernel
theorem dX6_doReachedStops_26 : decode cX6_doReachedStops 26 = .ok (.getfield 137, 3) := by decide +kernel
theorem dX6_doReachedStops_29 : decode cX6_doReachedStops 29 = .ok (.aload_n 0, 1) := by decide +kernel
theorem dX6_doReachedStops_30 : decode cX6_doReachedStops 30 = .ok (.getfield 134, 3) := by decide +kernel
theorem dX6_doReachedStops_33 : decode cX6_doReachedStops 33 = .ok (.if_icmp .gt 14, 3) := by decide +kernel
theorem dX6_doReachedStops_36 : decode cX6_doReachedStops 36 = .ok (.aload_n 0, 1) := by decide +kernel
theorem dX6_doReachedStops_37 : decode cX6_doReachedStops 37 = .ok (.aload_n 1, 1) := by decide +kernel
theorem dX6_doReachedStops_38 : decode cX6_doReachedStops 38 = .ok (.invokevirtual 344, 3) := by decide +kernel
theorem dX6_doReachedStops_41 : decode cX6_doReachedStops 41 = .ok (.iinc 3 1, 3) := by decide +kernel
theorem dX6_doReachedStops_44 : decode cX6_doReachedStops 44 = .ok (.goto (-34), 3) := by decide +kernel
theorem dX6_doReachedStops_47 : decode cX6_doReachedStops 47 = .ok (.return_, 1) := by decide +kernel
set_option maxRecDepth 20000 in
theorem ggX6_doNextStop_X4_riderAt : GoodIn wsX6_doNextStop wsX4_riderAt := goodIn_r _ [7, 8, 9, 10, 11, 6, 12, 13, 91, 92, 93, 94] (by decide +kernel) (by decide +kernel)
set_option maxRecDepth 20000 in
theorem gX6_doNextStop_X4_riderAt : GoodIn wsX6_doNextStop (wsV RX6 250 RX4 yX4_riderAt wsX4_riderAt) := goodIn_app (goodIn_of _ (by decide +kernel)) ggX6_doNextStop_X4_riderAt
set_option maxRecDepth 20000 in
theorem ggX6_doNextStop_X4_isLetOutAt : GoodIn wsX6_doNextStop wsX4_isLetOutAt := goodIn_r _ [17, 18, 9, 10, 11, 6, 12, 13, 91, 92, 93, 94] (by decide +kernel) (by decide +kernel)
set_option maxRecDepth 20000 in
theorem gX6_doNextStop_X4_isLetOutAt : GoodIn wsX6_doNextStop (wsV RX6 253 RX4 yX4_isLetOutAt wsX4_isLetOutAt) := goodIn_app (goodIn_of _ (by decide +kernel)) ggX6_doNextStop_X4_isLetOutAt
set_option maxRecDepth 20000 in
theorem ggX6_doNextStop_X4_placeAt : GoodIn wsX6_doNextStop wsX4_placeAt := goodIn_r _ [22, 23, 9, 10, 11, 6, 12, 13, 91, 92, 93, 94] (by decide +kernel) (by decide +kernel)
set_option maxRecDepth 20000 in
theorem gX6_doNextStop_X4_placeAt : GoodIn wsX6_doNextStop (wsV RX6 247 RX4 yX4_placeAt wsX4_placeAt) := goodIn_app (goodIn_of _ (by decide +kernel)) ggX6_doNextStop_X4_placeAt
set_option maxRecDepth 20000 in
theorem ggX6_doNextStop_X4_take : GoodIn wsX6_doNextStop wsX4_take := goodIn_r _ [27, 13, 9, 10, 11, 6, 12, 28, 29, 30, 31, 23, 8, 18, 91, 92, 93, 94] (by decide +kernel) (by decide +kernel)
set_option maxRecDepth 20000 in
theorem gX6_doNextStop_X4_take : GoodIn wsX6_doNextStop (wsV RX6 347 RX4 yX4_take wsX4_take) := goodIn_app (goodIn_of _ (by decide +kernel)) ggX6_doNextStop_X4_take
set_option maxRecDepth 20000 in
theorem ggX6_doNextStop_X0_minutesBetween : GoodIn wsX6_doNextStop wsX0_minutesBetween := goodIn_r _ [36, 37, 38, 39, 40, 35, 41, 95, 96, 97, 98, 99] (by decide +kernel) (by decide +kernel)
set_option maxRecDepth 20000 in
theorem gX6_doNextStop_X0_minutesBetween : GoodIn wsX6_doNextStop (wsV RX6 84 RX0 yX0_minutesBetween wsX0_minutesBetween) := goodIn_app (goodIn_of _ (by decide +kernel)) ggX6_doNextStop_X0_minutesBetween
set_option maxRecDepth 20000 in
theorem ggX6_doNextStop_X6_queueIfNowFree : GoodIn wsX6_doNextStop wsX6_queueIfNowFree := goodIn_r _ [46, 47, 48, 49, 50, 51, 52, 53, 54, 55, 81, 82, 83, 84, 85, 86, 87, 88, 89, 90, 56, 57, 58, 59, 60, 61, 62, 63, 64, 65, 66, 67, 68, 91, 92, 93, 94] (by decide +kernel) (by decide +kernel)
set_option maxRecDepth 20000 in
theorem gX6_doNextStop_X6_queueIfNowFree : GoodIn wsX6_doNextStop (wsV RX6 95 RX6 yX6_queueIfNowFree wsX6_queueIfNowFree) := goodIn_app (goodIn_of _ (by decide +kernel)) ggX6_doNextStop_X6_queueIfNowFree
theorem dX6_doNextStop_0 : decode cX6_doNextStop 0 = .ok (.aload_n 1, 1) := by decide +kernel
theorem dX6_doNextStop_1 : decode cX6_doNextStop 1 = .ok (.getfield 106, 3) := by decide +kernel
theorem dX6_doNextStop_4 : decode cX6_doNextStop 4 = .ok (.astore_n 2, 1) := by decide +kernel
theorem dX6_doNextStop_5 : decode cX6_doNextStop 5 = .ok (.aload_n 2, 1) := by decide +kernel
theorem dX6_doNextStop_6 : decode cX6_doNextStop 6 = .ok (.iconst 0, 1) := by decide +kernel
theorem dX6_doNextStop_7 : decode cX6_doNextStop 7 = .ok (.invokevirtual 250, 3) := by decide +kernel
theorem dX6_doNextStop_10 : decode cX6_doNextStop 10 = .ok (.astore_n 3, 1) := by decide +kernel
theorem dX6_doNextStop_11 : decode cX6_doNextStop 11 = .ok (.aload_n 3, 1) := by decide +kernel
theorem dX6_doNextStop_12 : decode cX6_doNextStop 12 = .ok (.ifnull 50, 3) := by decide +kernel
theorem dX6_doNextStop_15 : decode cX6_doNextStop 15 = .ok (.aload_n 2, 1) := by decide +kernel
theorem dX6_doNextStop_16 : decode cX6_doNextStop 16 = .ok (.iconst 0, 1) := by decide +kernel
theorem dX6_doNextStop_17 : decode cX6_doNextStop 17 = .ok (.invokevirtual 253, 3) := by decide +kernel
theorem dX6_doNextStop_20 : decode cX6_doNextStop 20 = .ok (.ifCond .eq 42, 3) := by decide +kernel
theorem dX6_doNextStop_23 : decode cX6_doNextStop 23 = .ok (.aload_n 3, 1) := by decide +kernel
theorem dX6_doNextStop_24 : decode cX6_doNextStop 24 = .ok (.iconst 3, 1) := by decide +kernel
theorem dX6_doNextStop_25 : decode cX6_doNextStop 25 = .ok (.putfield 168, 3) := by decide +kernel
theorem dX6_doNextStop_28 : decode cX6_doNextStop 28 = .ok (.aload_n 3, 1) := by decide +kernel
theorem dX6_doNextStop_29 : decode cX6_doNextStop 29 = .ok (.aload_n 0, 1) := by decide +kernel
theorem dX6_doNextStop_30 : decode cX6_doNextStop 30 = .ok (.getfield 134, 3) := by decide +kernel
theorem dX6_doNextStop_33 : decode cX6_doNextStop 33 = .ok (.putfield 233, 3) := by decide +kernel
theorem dX6_doNextStop_36 : decode cX6_doNextStop 36 = .ok (.aload_n 1, 1) := by decide +kernel
theorem dX6_doNextStop_37 : decode cX6_doNextStop 37 = .ok (.dup, 1) := by decide +kernel
theorem dX6_doNextStop_38 : decode cX6_doNextStop 38 = .ok (.getfield 242, 3) := by decide +kernel
theorem dX6_doNextStop_41 : decode cX6_doNextStop 41 = .ok (.iconst 1, 1) := by decide +kernel
theorem dX6_doNextStop_42 : decode cX6_doNextStop 42 = .ok (.iadd, 1) := by decide +kernel
theorem dX6_doNextStop_43 : decode cX6_doNextStop 43 = .ok (.putfield 242, 3) := by decide +kernel
theorem dX6_doNextStop_46 : decode cX6_doNextStop 46 = .ok (.aload_n 1, 1) := by decide +kernel
theorem dX6_doNextStop_47 : decode cX6_doNextStop 47 = .ok (.dup, 1) := by decide +kernel
theorem dX6_doNextStop_48 : decode cX6_doNextStop 48 = .ok (.getfield 257, 3) := by decide +kernel
theorem dX6_doNextStop_51 : decode cX6_doNextStop 51 = .ok (.aload_n 3, 1) := by decide +kernel
theorem dX6_doNextStop_52 : decode cX6_doNextStop 52 = .ok (.getfield 160, 3) := by decide +kernel
theorem dX6_doNextStop_55 : decode cX6_doNextStop 55 = .ok (.iadd, 1) := by decide +kernel
theorem dX6_doNextStop_56 : decode cX6_doNextStop 56 = .ok (.putfield 257, 3) := by decide +kernel
theorem dX6_doNextStop_59 : decode cX6_doNextStop 59 = .ok (.goto 12, 3) := by decide +kernel
theorem dX6_doNextStop_62 : decode cX6_doNextStop 62 = .ok (.aload_n 3, 1) := by decide +kernel
theorem dX6_doNextStop_63 : decode cX6_doNextStop 63 = .ok (.ifnull 8, 3) := by decide +kernel
theorem dX6_doNextStop_66 : decode cX6_doNextStop 66 = .ok (.aload_n 3, 1) := by decide +kernel
theorem dX6_doNextStop_67 : decode cX6_doNextStop 67 = .ok (.iconst 2, 1) := by decide +kernel
theorem dX6_doNextStop_68 : decode cX6_doNextStop 68 = .ok (.putfield 168, 3) := by decide +kernel
theorem dX6_doNextStop_71 : decode cX6_doNextStop 71 = .ok (.aload_n 1, 1) := by decide +kernel
theorem dX6_doNextStop_72 : decode cX6_doNextStop 72 = .ok (.aload_n 2, 1) := by decide +kernel
theorem dX6_doNextStop_73 : decode cX6_doNextStop 73 = .ok (.iconst 0, 1) := by decide +kernel
theorem dX6_doNextStop_74 : decode cX6_doNextStop 74 = .ok (.invokevirtual 247, 3) := by decide +kernel
theorem dX6_doNextStop_77 : decode cX6_doNextStop 77 = .ok (.putfield 125, 3) := by decide +kernel
theorem dX6_doNextStop_80 : decode cX6_doNextStop 80 = .ok (.aload_n 2, 1) := by decide +kernel
theorem dX6_doNextStop_81 : decode cX6_doNextStop 81 = .ok (.iconst 0, 1) := by decide +kernel
theorem dX6_doNextStop_82 : decode cX6_doNextStop 82 = .ok (.invokevirtual 347, 3) := by decide +kernel
theorem dX6_doNextStop_85 : decode cX6_doNextStop 85 = .ok (.aload_n 2, 1) := by decide +kernel
theorem dX6_doNextStop_86 : decode cX6_doNextStop 86 = .ok (.getfield 110, 3) := by decide +kernel
theorem dX6_doNextStop_89 : decode cX6_doNextStop 89 = .ok (.ifCond .le 31, 3) := by decide +kernel
theorem dX6_doNextStop_92 : decode cX6_doNextStop 92 = .ok (.aload_n 1, 1) := by decide +kernel
theorem dX6_doNextStop_93 : decode cX6_doNextStop 93 = .ok (.aload_n 0, 1) := by decide +kernel
theorem dX6_doNextStop_94 : decode cX6_doNextStop 94 = .ok (.getfield 134, 3) := by decide +kernel
theorem dX6_doNextStop_97 : decode cX6_doNextStop 97 = .ok (.aload_n 0, 1) := by decide +kernel
theorem dX6_doNextStop_98 : decode cX6_doNextStop 98 = .ok (.getfield 10, 3) := by decide +kernel
theorem dX6_doNextStop_101 : decode cX6_doNextStop 101 = .ok (.aload_n 1, 1) := by decide +kernel
theorem dX6_doNextStop_102 : decode cX6_doNextStop 102 = .ok (.getfield 125, 3) := by decide +kernel
theorem dX6_doNextStop_105 : decode cX6_doNextStop 105 = .ok (.aload_n 2, 1) := by decide +kernel
theorem dX6_doNextStop_106 : decode cX6_doNextStop 106 = .ok (.iconst 0, 1) := by decide +kernel
theorem dX6_doNextStop_107 : decode cX6_doNextStop 107 = .ok (.invokevirtual 247, 3) := by decide +kernel
theorem dX6_doNextStop_110 : decode cX6_doNextStop 110 = .ok (.invokevirtual 84, 3) := by decide +kernel
theorem dX6_doNextStop_113 : decode cX6_doNextStop 113 = .ok (.iadd, 1) := by decide +kernel
theorem dX6_doNextStop_114 : decode cX6_doNextStop 114 = .ok (.putfield 137, 3) := by decide +kernel
theorem dX6_doNextStop_117 : decode cX6_doNextStop 117 = .ok (.goto 9, 3) := by decide +kernel
theorem dX6_doNextStop_120 : decode cX6_doNextStop 120 = .ok (.aload_n 0, 1) := by decide +kernel
theorem dX6_doNextStop_121 : decode cX6_doNextStop 121 = .ok (.aload_n 1, 1) := by decide +kernel
theorem dX6_doNextStop_122 : decode cX6_doNextStop 122 = .ok (.iconst 0, 1) := by decide +kernel
theorem dX6_doNextStop_123 : decode cX6_doNextStop 123 = .ok (.invokevirtual 95, 3) := by decide +kernel
theorem dX6_doNextStop_126 : decode cX6_doNextStop 126 = .ok (.return_, 1) := by decide +kernel
theorem dJ9_max_7cf53_0 : decode cJ9_max_7cf53 0 = .ok (.iload_n 0, 1) := by decide +kernel
theorem dJ9_max_7cf53_1 : decode cJ9_max_7cf53 1 = .ok (.iload_n 1, 1) := by decide +kernel
theorem dJ9_max_7cf53_2 : decode cJ9_max_7cf53 2 = .ok (.if_icmp .lt 7, 3) := by decide +kernel
theorem dJ9_max_7cf53_5 : decode cJ9_max_7cf53 5 = .ok (.iload_n 0, 1) := by decide +kernel
theorem dJ9_max_7cf53_6 : decode cJ9_max_7cf53 6 = .ok (.goto 4, 3) := by decide +kernel
theorem dJ9_max_7cf53_9 : decode cJ9_max_7cf53 9 = .ok (.iload_n 1, 1) := by decide +kernel
theorem dJ9_max_7cf53_10 : decode cJ9_max_7cf53 10 = .ok (.ireturn, 1) := by decide +kernel
theorem dJ9_min_7cf53_0 : decode cJ9_min_7cf53 0 = .ok (.iload_n 0, 1) := by decide +kernel
theorem dJ9_min_7cf53_1 : decode cJ9_min_7cf53 1 = .ok (.iload_n 1, 1) := by decide +kernel
theorem dJ9_min_7cf53_2 : decode cJ9_min_7cf53 2 = .ok (.if_icmp .gt 7, 3) := by decide +kernel
theorem dJ9_min_7cf53_5 : decode cJ9_min_7cf53 5 = .ok (.iload_n 0, 1) := by decide +kernel
theorem dJ9_min_7cf53_6 : decode cJ9_min_7cf53 6 = .ok (.goto 4, 3) := by decide +kernel
theorem dJ9_min_7cf53_9 : decode cJ9_min_7cf53 9 = .ok (.iload_n 1, 1) := by decide +kernel
theorem dJ9_min_7cf53_10 : decode cJ9_min_7cf53 10 = .ok (.ireturn, 1) := by decide +kernel
set_option maxRecDepth 20000 in
theorem ggL_street_X6_street : GoodIn wsL_street wsX6_street := goodIn_ca (goodIn_ca (goodIn_ca (goodIn_r _ [11, 12, 13, 14, 15, 16, 17, 18, 10, 19, 20, 21, 22, 23, 24, 25, 26, 27, 28, 29, 30, 31, 32, 33, 34, 35, 36, 37, 38, 39, 40, 41, 42, 43, 44, 45, 46, 47, 48, 49, 50, 51, 52, 53, 54, 55, 56, 57, 58, 59, 60, 61, 62, 63, 64, 65] (by decide +kernel) (by decide +kernel)) (goodIn_sub (fun _ h => List.mem_cons_of_mem _ (List.mem_append_left _ (List.mem_append_left _ (List.mem_append_right _ h)))) (by decide +kernel))) (goodIn_sub (fun _ h => List.mem_cons_of_mem _ (List.mem_append_left _ (List.mem_append_right _ h))) (by decide +kernel))) (goodIn_sub (fun _ h => List.mem_cons_of_mem _ (List.mem_append_right _ h)) (by decide +kernel))
set_option maxRecDepth 20000 in
theorem gL_street_X6_street : GoodIn wsL_street (wsV RL 7 RX6 yX6_street wsX6_street) := goodIn_app (goodIn_of _ (by decide +kernel)) ggL_street_X6_street
theorem dL_street_0 : decode cL_street 0 = .ok (.aload_n 0, 1) := by decide +kernel
theorem dL_street_1 : decode cL_street 1 = .ok (.iload_n 1, 1) := by decide +kernel
theorem dL_street_2 : decode cL_street 2 = .ok (.iload_n 2, 1) := by decide +kernel
theorem dL_street_3 : decode cL_street 3 = .ok (.iload_n 3, 1) := by decide +kernel
theorem dL_street_4 : decode cL_street 4 = .ok (.invokevirtual 7, 3) := by decide +kernel
theorem dL_street_7 : decode cL_street 7 = .ok (.ireturn, 1) := by decide +kernel
theorem dL_street_8 : decode cL_street 8 = .ok (.astore 4, 2) := by decide +kernel
theorem dL_street_10 : decode cL_street 10 = .ok (.ldc 15, 2) := by decide +kernel
theorem dL_street_12 : decode cL_street 12 = .ok (.ireturn, 1) := by decide +kernel
theorem dL_street_13 : decode cL_street 13 = .ok (.astore 4, 2) := by decide +kernel
theorem dL_street_15 : decode cL_street 15 = .ok (.ldc 18, 2) := by decide +kernel
theorem dL_street_17 : decode cL_street 17 = .ok (.ireturn, 1) := by decide +kernel
theorem dL_street_18 : decode cL_street 18 = .ok (.astore 4, 2) := by decide +kernel
theorem dL_street_20 : decode cL_street 20 = .ok (.ldc 21, 2) := by decide +kernel
theorem dL_street_22 : decode cL_street 22 = .ok (.ireturn, 1) := by decide +kernel
set_option maxRecDepth 20000 in
theorem ggL_slow_X6_slow : GoodIn wsL_slow wsX6_slow := goodIn_ca (goodIn_ca (goodIn_r _ [9, 10, 11, 12, 13, 14, 8, 15, 16, 17, 18, 19, 20, 21, 22, 23, 24, 25, 26, 27, 28, 29, 30, 31, 32, 33, 34, 35, 36, 37, 38, 39, 40, 41, 42, 43, 44, 45, 46, 47, 48, 49, 50, 51, 52, 53, 54, 55] (by decide +kernel) (by decide +kernel)) (goodIn_sub (fun _ h => List.mem_cons_of_mem _ (List.mem_append_left _ (List.mem_append_right _ h))) (by decide +kernel))) (goodIn_sub (fun _ h => List.mem_cons_of_mem _ (List.mem_append_right _ h)) (by decide +kernel))
set_option maxRecDepth 20000 in
theorem gL_slow_X6_slow : GoodIn wsL_slow (wsV RL 22 RX6 yX6_slow wsX6_slow) := goodIn_app (goodIn_of _ (by decide +kernel)) ggL_slow_X6_slow
theorem dL_slow_0 : decode cL_slow 0 = .ok (.aload_n 0, 1) := by decide +kernel
theorem dL_slow_1 : decode cL_slow 1 = .ok (.iload_n 1, 1) := by decide +kernel
theorem dL_slow_2 : decode cL_slow 2 = .ok (.iload_n 2, 1) := by decide +kernel
theorem dL_slow_3 : decode cL_slow 3 = .ok (.invokevirtual 22, 3) := by decide +kernel
theorem dL_slow_6 : decode cL_slow 6 = .ok (.ireturn, 1) := by decide +kernel
theorem dL_slow_7 : decode cL_slow 7 = .ok (.astore_n 3, 1) := by decide +kernel
theorem dL_slow_8 : decode cL_slow 8 = .ok (.ldc 15, 2) := by decide +kernel
theorem dL_slow_10 : decode cL_slow 10 = .ok (.ireturn, 1) := by decide +kernel
theorem dL_slow_11 : decode cL_slow 11 = .ok (.astore_n 3, 1) := by decide +kernel
theorem dL_slow_12 : decode cL_slow 12 = .ok (.ldc 18, 2) := by decide +kernel
theorem dL_slow_14 : decode cL_slow 14 = .ok (.ireturn, 1) := by decide +kernel
set_option maxRecDepth 20000 in
theorem ggL_way_X6_way : GoodIn wsL_way wsX6_way := goodIn_ca (goodIn_r _ [7, 8, 9, 10, 6, 11, 12, 13, 14, 15, 16, 17, 18, 19, 20, 21, 22, 23, 24, 25, 26, 27, 28, 29, 30, 31, 32, 33, 34, 35, 36, 37, 38, 39] (by decide +kernel) (by decide +kernel)) (goodIn_sub (fun _ h => List.mem_cons_of_mem _ (List.mem_append_right _ h)) (by decide +kernel))
set_option maxRecDepth 20000 in
theorem gL_way_X6_way : GoodIn wsL_way (wsV RL 26 RX6 yX6_way wsX6_way) := goodIn_app (goodIn_of _ (by decide +kernel)) ggL_way_X6_way
theorem dL_way_0 : decode cL_way 0 = .ok (.aload_n 0, 1) := by decide +kernel
theorem dL_way_1 : decode cL_way 1 = .ok (.iload_n 1, 1) := by decide +kernel
theorem dL_way_2 : decode cL_way 2 = .ok (.iload_n 2, 1) := by decide +kernel
theorem dL_way_3 : decode cL_way 3 = .ok (.invokevirtual 26, 3) := by decide +kernel
theorem dL_way_6 : decode cL_way 6 = .ok (.ireturn, 1) := by decide +kernel
theorem dL_way_7 : decode cL_way 7 = .ok (.astore_n 3, 1) := by decide +kernel
theorem dL_way_8 : decode cL_way 8 = .ok (.ldc 15, 2) := by decide +kernel
theorem dL_way_10 : decode cL_way 10 = .ok (.ireturn, 1) := by decide +kernel
set_option maxRecDepth 20000 in
theorem ggL_driver_X6_driver : GoodIn wsL_driver wsX6_driver := goodIn_ca (goodIn_ca (goodIn_r _ [9, 10, 11, 12, 13, 14, 15, 16, 17, 18, 8, 19, 20, 21, 22, 23, 24, 25, 26, 27, 28, 29, 30, 31, 32, 33, 34, 35, 36, 37, 38, 39, 40, 41, 42, 43, 44, 45, 46, 47, 48, 49, 50, 51, 52, 53, 54, 55, 56, 57, 58, 59, 60, 61, 62, 63, 64, 65, 66, 67, 68, 69, 70, 71, 72, 73, 74, 75, 76, 77, 78, 79, 80, 81, 82, 83, 84, 85, 86, 87] (by decide +kernel) (by decide +kernel)) (goodIn_sub (fun _ h => List.mem_cons_of_mem _ (List.mem_append_left _ (List.mem_append_right _ h))) (by decide +kernel))) (goodIn_sub (fun _ h => List.mem_cons_of_mem _ (List.mem_append_right _ h)) (by decide +kernel))
set_option maxRecDepth 20000 in
theorem gL_driver_X6_driver : GoodIn wsL_driver (wsV RL 29 RX6 yX6_driver wsX6_driver) := goodIn_app (goodIn_of _ (by decide +kernel)) ggL_driver_X6_driver
theorem dL_driver_0 : decode cL_driver 0 = .ok (.aload_n 0, 1) := by decide +kernel
theorem dL_driver_1 : decode cL_driver 1 = .ok (.iload_n 1, 1) := by decide +kernel
theorem dL_driver_2 : decode cL_driver 2 = .ok (.invokevirtual 29, 3) := by decide +kernel
theorem dL_driver_5 : decode cL_driver 5 = .ok (.ireturn, 1) := by decide +kernel
theorem dL_driver_6 : decode cL_driver 6 = .ok (.astore_n 2, 1) := by decide +kernel
theorem dL_driver_7 : decode cL_driver 7 = .ok (.ldc 15, 2) := by decide +kernel
theorem dL_driver_9 : decode cL_driver 9 = .ok (.ireturn, 1) := by decide +kernel
theorem dL_driver_10 : decode cL_driver 10 = .ok (.astore_n 2, 1) := by decide +kernel
theorem dL_driver_11 : decode cL_driver 11 = .ok (.ldc 21, 2) := by decide +kernel
theorem dL_driver_13 : decode cL_driver 13 = .ok (.ireturn, 1) := by decide +kernel
set_option maxRecDepth 20000 in
theorem ggL_rest_X6_rest : GoodIn wsL_rest wsX6_rest := goodIn_ca (goodIn_ca (goodIn_r _ [9, 10, 11, 12, 13, 14, 8, 15, 16, 17, 18, 19, 20, 21, 22, 23, 24, 25, 26, 27, 28, 29, 30, 31, 32, 33, 34, 35, 36, 37, 38, 39, 40, 41, 42, 43, 44, 45, 46, 47, 48, 49, 50, 51, 52, 53, 54, 55, 56, 57, 58, 59] (by decide +kernel) (by decide +kernel)) (goodIn_sub (fun _ h => List.mem_cons_of_mem _ (List.mem_append_left _ (List.mem_append_right _ h))) (by decide +kernel))) (goodIn_sub (fun _ h => List.mem_cons_of_mem _ (List.mem_append_right _ h)) (by decide +kernel))
set_option maxRecDepth 20000 in
theorem gL_rest_X6_rest : GoodIn wsL_rest (wsV RL 33 RX6 yX6_rest wsX6_rest) := goodIn_app (goodIn_of _ (by decide +kernel)) ggL_rest_X6_rest
theorem dL_rest_0 : decode cL_rest 0 = .ok (.aload_n 0, 1) := by decide +kernel
theorem dL_rest_1 : decode cL_rest 1 = .ok (.iload_n 1, 1) := by decide +kernel
theorem dL_rest_2 : decode cL_rest 2 = .ok (.iload_n 2, 1) := by decide +kernel
theorem dL_rest_3 : decode cL_rest 3 = .ok (.invokevirtual 33, 3) := by decide +kernel
theorem dL_rest_6 : decode cL_rest 6 = .ok (.ifCond .eq 7, 3) := by decide +kernel
theorem dL_rest_9 : decode cL_rest 9 = .ok (.iconst 1, 1) := by decide +kernel
theorem dL_rest_10 : decode cL_rest 10 = .ok (.goto 4, 3) := by decide +kernel
theorem dL_rest_13 : decode cL_rest 13 = .ok (.iconst 0, 1) := by decide +kernel
theorem dL_rest_14 : decode cL_rest 14 = .ok (.ireturn, 1) := by decide +kernel
theorem dL_rest_15 : decode cL_rest 15 = .ok (.astore_n 3, 1) := by decide +kernel
theorem dL_rest_16 : decode cL_rest 16 = .ok (.ldc 15, 2) := by decide +kernel
theorem dL_rest_18 : decode cL_rest 18 = .ok (.ireturn, 1) := by decide +kernel
theorem dL_rest_19 : decode cL_rest 19 = .ok (.astore_n 3, 1) := by decide +kernel
theorem dL_rest_20 : decode cL_rest 20 = .ok (.ldc 21, 2) := by decide +kernel
theorem dL_rest_22 : decode cL_rest 22 = .ok (.ireturn, 1) := by decide +kernel
set_option maxRecDepth 20000 in
theorem ggL_wander_X6_wander : GoodIn wsL_wander wsX6_wander := goodIn_ca (goodIn_ca (goodIn_r _ [9, 10, 11, 12, 13, 14, 15, 16, 8, 17, 18, 19, 20, 21, 22, 23, 24, 25, 26, 27, 28, 29, 30, 31, 32, 33, 34, 35, 36, 37, 38, 39, 40, 41, 42, 43, 44, 45, 46, 47, 48, 49, 50, 51, 52, 53, 54, 55, 56, 57, 58, 59, 60, 61, 62, 63, 64, 65, 66, 67, 68, 69, 70, 71, 72, 73, 74, 75, 76, 77, 78, 79, 80, 81, 82, 83, 84, 85, 86, 87, 88] (by decide +kernel) (by decide +kernel)) (goodIn_sub (fun _ h => List.mem_cons_of_mem _ (List.mem_append_left _ (List.mem_append_right _ h))) (by decide +kernel))) (goodIn_sub (fun _ h => List.mem_cons_of_mem _ (List.mem_append_right _ h)) (by decide +kernel))
set_option maxRecDepth 20000 in
theorem gL_wander_X6_wander : GoodIn wsL_wander (wsV RL 37 RX6 yX6_wander wsX6_wander) := goodIn_app (goodIn_of _ (by decide +kernel)) ggL_wander_X6_wander
theorem dL_wander_0 : decode cL_wander 0 = .ok (.aload_n 0, 1) := by decide +kernel
theorem dL_wander_1 : decode cL_wander 1 = .ok (.iload_n 1, 1) := by decide +kernel
theorem dL_wander_2 : decode cL_wander 2 = .ok (.iload_n 2, 1) := by decide +kernel
theorem dL_wander_3 : decode cL_wander 3 = .ok (.invokevirtual 37, 3) := by decide +kernel
theorem dL_wander_6 : decode cL_wander 6 = .ok (.ireturn, 1) := by decide +kernel
theorem dL_wander_7 : decode cL_wander 7 = .ok (.astore_n 3, 1) := by decide +kernel
theorem dL_wander_8 : decode cL_wander 8 = .ok (.ldc 15, 2) := by decide +kernel
theorem dL_wander_10 : decode cL_wander 10 = .ok (.ireturn, 1) := by decide +kernel
theorem dL_wander_11 : decode cL_wander 11 = .ok (.astore_n 3, 1) := by decide +kernel
theorem dL_wander_12 : decode cL_wander 12 = .ok (.ldc 21, 2) := by decide +kernel
theorem dL_wander_14 : decode cL_wander 14 = .ok (.ireturn, 1) := by decide +kernel
set_option maxRecDepth 20000 in
theorem ggL_cap_X6_cap : GoodIn wsL_cap wsX6_cap := goodIn_ca (goodIn_r _ [7, 8, 9, 10, 6, 11, 12, 13, 14, 15, 16, 17, 18, 19, 20, 21, 22, 23] (by decide +kernel) (by decide +kernel)) (goodIn_sub (fun _ h => List.mem_cons_of_mem _ (List.mem_append_right _ h)) (by decide +kernel))
set_option maxRecDepth 20000 in
theorem gL_cap_X6_cap : GoodIn wsL_cap (wsV RL 40 RX6 yX6_cap wsX6_cap) := goodIn_app (goodIn_of _ (by decide +kernel)) ggL_cap_X6_cap
theorem dL_cap_0 : decode cL_cap 0 = .ok (.aload_n 0, 1) := by decide +kernel
theorem dL_cap_1 : decode cL_cap 1 = .ok (.iload_n 1, 1) := by decide +kernel
theorem dL_cap_2 : decode cL_cap 2 = .ok (.invokevirtual 40, 3) := by decide +kernel
theorem dL_cap_5 : decode cL_cap 5 = .ok (.ireturn, 1) := by decide +kernel
theorem dL_cap_6 : decode cL_cap 6 = .ok (.astore_n 2, 1) := by decide +kernel
theorem dL_cap_7 : decode cL_cap 7 = .ok (.ldc 18, 2) := by decide +kernel
theorem dL_cap_9 : decode cL_cap 9 = .ok (.ireturn, 1) := by decide +kernel
set_option maxRecDepth 20000 in
theorem ggL_height_X6_height : GoodIn wsL_height wsX6_height := goodIn_ca (goodIn_r _ [7, 8, 9, 10, 11, 12, 6, 13, 14, 15, 16, 17, 18, 19, 20, 21, 22, 23, 24, 25, 26, 27, 28, 29, 30, 31, 32, 33, 34, 35, 36, 37, 38, 39, 40, 41, 42, 43, 44, 45, 46, 47, 48, 49, 50, 51, 52, 53, 54, 55, 56, 57, 58, 59, 60, 61, 62, 63, 64, 65, 66, 67, 68, 69, 70, 71, 72, 73, 74, 75] (by decide +kernel) (by decide +kernel)) (goodIn_sub (fun _ h => List.mem_cons_of_mem _ (List.mem_append_right _ h)) (by decide +kernel))
set_option maxRecDepth 20000 in
theorem gL_height_X6_height : GoodIn wsL_height (wsV RL 43 RX6 yX6_height wsX6_height) := goodIn_app (goodIn_of _ (by decide +kernel)) ggL_height_X6_height
theorem dL_height_0 : decode cL_height 0 = .ok (.aload_n 0, 1) := by decide +kernel
theorem dL_height_1 : decode cL_height 1 = .ok (.iload_n 1, 1) := by decide +kernel
theorem dL_height_2 : decode cL_height 2 = .ok (.invokevirtual 43, 3) := by decide +kernel
theorem dL_height_5 : decode cL_height 5 = .ok (.ireturn, 1) := by decide +kernel
theorem dL_height_6 : decode cL_height 6 = .ok (.astore_n 2, 1) := by decide +kernel
theorem dL_height_7 : decode cL_height 7 = .ok (.ldc 15, 2) := by decide +kernel
theorem dL_height_9 : decode cL_height 9 = .ok (.ireturn, 1) := by decide +kernel
set_option maxRecDepth 20000 in
theorem ggL_request_X6_request : GoodIn wsL_request wsX6_request := goodIn_ca (goodIn_ca (goodIn_ca (goodIn_r _ [11, 12, 13, 14, 15, 16, 17, 18, 19, 20, 21, 22, 23, 24, 10, 25, 26, 27, 28, 29, 30, 31, 32, 33, 34, 35, 36, 37, 38, 39, 40, 41, 42, 43, 44, 45, 46, 47, 48, 49, 50, 51, 52, 53, 54, 55, 56, 57, 58, 59, 60, 61, 62, 63, 64, 65, 66, 67, 68, 69, 70, 71, 72, 73, 74, 75, 76, 77, 78, 79, 80, 81, 82, 83, 84, 85, 86, 87, 88, 89, 90, 91, 92, 93, 94, 95, 96, 97, 98, 99, 100, 101, 102, 103, 104, 105, 106, 107, 108, 109, 110, 111, 112, 113, 114, 115, 116, 117, 118, 119, 120, 121, 122, 123] (by decide +kernel) (by decide +kernel)) (goodIn_sub (fun _ h => List.mem_cons_of_mem _ (List.mem_append_left _ (List.mem_append_left _ (List.mem_append_right _ h)))) (by decide +kernel))) (goodIn_sub (fun _ h => List.mem_cons_of_mem _ (List.mem_append_left _ (List.mem_append_right _ h))) (by decide +kernel))) (goodIn_sub (fun _ h => List.mem_cons_of_mem _ (List.mem_append_right _ h)) (by decide +kernel))
set_option maxRecDepth 20000 in
theorem gL_request_X6_request : GoodIn wsL_request (wsV RL 46 RX6 yX6_request wsX6_request) := goodIn_app (goodIn_of _ (by decide +kernel)) ggL_request_X6_request
theorem dL_request_0 : decode cL_request 0 = .ok (.aload_n 0, 1) := by decide +kernel
theorem dL_request_1 : decode cL_request 1 = .ok (.iload_n 1, 1) := by decide +kernel
theorem dL_request_2 : decode cL_request 2 = .ok (.iload_n 2, 1) := by decide +kernel
theorem dL_request_3 : decode cL_request 3 = .ok (.iload_n 3, 1) := by decide +kernel
theorem dL_request_4 : decode cL_request 4 = .ok (.iload 4, 2) := by decide +kernel
theorem dL_request_6 : decode cL_request 6 = .ok (.invokevirtual 46, 3) := by decide +kernel
theorem dL_request_9 : decode cL_request 9 = .ok (.ireturn, 1) := by decide +kernel
theorem dL_request_10 : decode cL_request 10 = .ok (.astore 5, 2) := by decide +kernel
theorem dL_request_12 : decode cL_request 12 = .ok (.ldc 15, 2) := by decide +kernel
theorem dL_request_14 : decode cL_request 14 = .ok (.ireturn, 1) := by decide +kernel
theorem dL_request_15 : decode cL_request 15 = .ok (.astore 5, 2) := by decide +kernel
theorem dL_request_17 : decode cL_request 17 = .ok (.ldc 18, 2) := by decide +kernel
theorem dL_request_19 : decode cL_request 19 = .ok (.ireturn, 1) := by decide +kernel
theorem dL_request_20 : decode cL_request 20 = .ok (.astore 5, 2) := by decide +kernel
theorem dL_request_22 : decode cL_request 22 = .ok (.ldc 21, 2) := by decide +kernel
theorem dL_request_24 : decode cL_request 24 = .ok (.ireturn, 1) := by decide +kernel
set_option maxRecDepth 20000 in
theorem ggL_cancel_X6_cancel : GoodIn wsL_cancel wsX6_cancel := goodIn_ca (goodIn_ca (goodIn_r _ [9, 10, 11, 12, 13, 14, 15, 8, 16, 17, 18, 19, 20, 21, 22, 23, 24, 25, 26, 27, 28, 29, 30, 31, 32, 33, 34, 35, 36, 37, 38, 39, 40, 41, 42, 43, 44, 45, 46, 47, 48, 49, 50, 51, 52, 53, 54, 55, 56, 57, 58, 59, 60, 61, 62, 63, 64, 65, 66, 67, 68, 69, 70, 71, 72, 73, 74, 75, 76, 77, 78, 79, 80] (by decide +kernel) (by decide +kernel)) (goodIn_sub (fun _ h => List.mem_cons_of_mem _ (List.mem_append_left _ (List.mem_append_right _ h))) (by decide +kernel))) (goodIn_sub (fun _ h => List.mem_cons_of_mem _ (List.mem_append_right _ h)) (by decide +kernel))
set_option maxRecDepth 20000 in
theorem gL_cancel_X6_cancel : GoodIn wsL_cancel (wsV RL 50 RX6 yX6_cancel wsX6_cancel) := goodIn_app (goodIn_of _ (by decide +kernel)) ggL_cancel_X6_cancel
theorem dL_cancel_0 : decode cL_cancel 0 = .ok (.aload_n 0, 1) := by decide +kernel
theorem dL_cancel_1 : decode cL_cancel 1 = .ok (.iload_n 1, 1) := by decide +kernel
theorem dL_cancel_2 : decode cL_cancel 2 = .ok (.invokevirtual 50, 3) := by decide +kernel
theorem dL_cancel_5 : decode cL_cancel 5 = .ok (.ireturn, 1) := by decide +kernel
theorem dL_cancel_6 : decode cL_cancel 6 = .ok (.astore_n 2, 1) := by decide +kernel
theorem dL_cancel_7 : decode cL_cancel 7 = .ok (.ldc 15, 2) := by decide +kernel
theorem dL_cancel_9 : decode cL_cancel 9 = .ok (.ireturn, 1) := by decide +kernel
theorem dL_cancel_10 : decode cL_cancel 10 = .ok (.astore_n 2, 1) := by decide +kernel
theorem dL_cancel_11 : decode cL_cancel 11 = .ok (.ldc 21, 2) := by decide +kernel
theorem dL_cancel_13 : decode cL_cancel 13 = .ok (.ireturn, 1) := by decide +kernel
set_option maxRecDepth 20000 in
theorem ggL_rate_X6_rate : GoodIn wsL_rate wsX6_rate := goodIn_ca (goodIn_ca (goodIn_ca (goodIn_r _ [11, 12, 13, 14, 15, 16, 10, 17, 18, 19, 20, 21, 22, 23, 24, 25, 26, 27, 28, 29, 30, 31, 32, 33, 34, 35, 36, 37, 38, 39, 40, 41, 42, 43, 44, 45, 46, 47, 48, 49, 50, 51, 52, 53, 54, 55, 56, 57, 58, 59, 60, 61, 62, 63, 64, 65, 66, 67, 68, 69, 70, 71, 72, 73, 74, 75, 76, 77, 78, 79, 80, 81, 82, 83, 84, 85, 86, 87, 88, 89] (by decide +kernel) (by decide +kernel)) (goodIn_sub (fun _ h => List.mem_cons_of_mem _ (List.mem_append_left _ (List.mem_append_left _ (List.mem_append_right _ h)))) (by decide +kernel))) (goodIn_sub (fun _ h => List.mem_cons_of_mem _ (List.mem_append_left _ (List.mem_append_right _ h))) (by decide +kernel))) (goodIn_sub (fun _ h => List.mem_cons_of_mem _ (List.mem_append_right _ h)) (by decide +kernel))
set_option maxRecDepth 20000 in
theorem gL_rate_X6_rate : GoodIn wsL_rate (wsV RL 53 RX6 yX6_rate wsX6_rate) := goodIn_app (goodIn_of _ (by decide +kernel)) ggL_rate_X6_rate
theorem dL_rate_0 : decode cL_rate 0 = .ok (.aload_n 0, 1) := by decide +kernel
theorem dL_rate_1 : decode cL_rate 1 = .ok (.iload_n 1, 1) := by decide +kernel
theorem dL_rate_2 : decode cL_rate 2 = .ok (.iload_n 2, 1) := by decide +kernel
theorem dL_rate_3 : decode cL_rate 3 = .ok (.invokevirtual 53, 3) := by decide +kernel
theorem dL_rate_6 : decode cL_rate 6 = .ok (.ireturn, 1) := by decide +kernel
theorem dL_rate_7 : decode cL_rate 7 = .ok (.astore_n 3, 1) := by decide +kernel
theorem dL_rate_8 : decode cL_rate 8 = .ok (.ldc 15, 2) := by decide +kernel
theorem dL_rate_10 : decode cL_rate 10 = .ok (.ireturn, 1) := by decide +kernel
theorem dL_rate_11 : decode cL_rate 11 = .ok (.astore_n 3, 1) := by decide +kernel
theorem dL_rate_12 : decode cL_rate 12 = .ok (.ldc 18, 2) := by decide +kernel
theorem dL_rate_14 : decode cL_rate 14 = .ok (.ireturn, 1) := by decide +kernel
theorem dL_rate_15 : decode cL_rate 15 = .ok (.astore_n 3, 1) := by decide +kernel
theorem dL_rate_16 : decode cL_rate 16 = .ok (.ldc 21, 2) := by decide +kernel
theorem dL_rate_18 : decode cL_rate 18 = .ok (.ireturn, 1) := by decide +kernel
set_option maxRecDepth 20000 in
theorem ggL_best_X6_best : GoodIn wsL_best wsX6_best := goodIn_ca (goodIn_r _ [7, 8, 9, 10, 11, 6, 12, 13, 14, 15, 16, 17, 18, 19, 20, 21, 22, 23, 24, 25, 26, 27, 28, 29, 30, 31, 32, 33, 34, 35, 36, 37, 38, 39, 40, 41, 42, 43, 44, 45, 46, 47, 48, 49, 50, 51, 52, 53, 54, 55, 56, 57, 58, 59, 60, 61, 62, 63, 64, 65, 66, 67, 68, 69, 70, 71, 72, 73, 74, 75, 76, 77, 78, 79, 80, 81, 82, 83, 84, 85, 86, 87, 88, 89, 90, 91, 92, 93, 94, 95, 96, 97, 98, 99, 100, 101, 102, 103, 104, 105, 106, 107, 108, 109, 110, 111, 112, 113, 114, 115, 116, 117, 118, 119, 120, 121, 122, 123, 124, 125, 126, 127, 128, 129, 130] (by decide +kernel) (by decide +kernel)) (goodIn_sub (fun _ h => List.mem_cons_of_mem _ (List.mem_append_right _ h)) (by decide +kernel))
set_option maxRecDepth 20000 in
theorem gL_best_X6_best : GoodIn wsL_best (wsV RL 56 RX6 yX6_best wsX6_best) := goodIn_app (goodIn_of _ (by decide +kernel)) ggL_best_X6_best
theorem dL_best_0 : decode cL_best 0 = .ok (.aload_n 0, 1) := by decide +kernel
theorem dL_best_1 : decode cL_best 1 = .ok (.invokevirtual 56, 3) := by decide +kernel
theorem dL_best_4 : decode cL_best 4 = .ok (.ireturn, 1) := by decide +kernel
theorem dL_best_5 : decode cL_best 5 = .ok (.astore_n 1, 1) := by decide +kernel
theorem dL_best_6 : decode cL_best 6 = .ok (.ldc 21, 2) := by decide +kernel
theorem dL_best_8 : decode cL_best 8 = .ok (.ireturn, 1) := by decide +kernel
set_option maxRecDepth 20000 in
theorem ggL_anew_X6_bestAnew : GoodIn wsL_anew wsX6_bestAnew := goodIn_ca (goodIn_r _ [7, 8, 9, 10, 11, 6, 12, 13, 14, 15, 16, 17, 18, 19, 20, 21, 22, 23, 24, 25, 26, 27, 28, 29, 30, 31, 32, 33, 34, 35, 36, 37, 38, 39, 40, 41, 42, 43, 44, 45, 46, 47, 48, 49, 50, 51, 52, 53, 54, 55, 56, 57, 58, 59, 60, 61, 62, 63, 64, 65, 66, 67, 68, 69, 70, 71, 72, 73, 74, 75, 76, 77, 78, 79, 80, 81, 82, 83, 84, 85, 86, 87, 88, 89, 90, 91, 92, 93, 94, 95, 96, 97, 98, 99, 100, 101, 102, 103, 104, 105, 106, 107, 108, 109, 110, 111, 112, 113, 114, 115, 116, 117, 118, 119, 120, 121, 122] (by decide +kernel) (by decide +kernel)) (goodIn_sub (fun _ h => List.mem_cons_of_mem _ (List.mem_append_right _ h)) (by decide +kernel))
set_option maxRecDepth 20000 in
theorem gL_anew_X6_bestAnew : GoodIn wsL_anew (wsV RL 60 RX6 yX6_bestAnew wsX6_bestAnew) := goodIn_app (goodIn_of _ (by decide +kernel)) ggL_anew_X6_bestAnew
theorem dL_anew_0 : decode cL_anew 0 = .ok (.aload_n 0, 1) := by decide +kernel
theorem dL_anew_1 : decode cL_anew 1 = .ok (.invokevirtual 60, 3) := by decide +kernel
theorem dL_anew_4 : decode cL_anew 4 = .ok (.ireturn, 1) := by decide +kernel
theorem dL_anew_5 : decode cL_anew 5 = .ok (.astore_n 1, 1) := by decide +kernel
theorem dL_anew_6 : decode cL_anew 6 = .ok (.ldc 21, 2) := by decide +kernel
theorem dL_anew_8 : decode cL_anew 8 = .ok (.ireturn, 1) := by decide +kernel
set_option maxRecDepth 20000 in
theorem ggL_match_X6_match : GoodIn wsL_match wsX6_match := goodIn_ca (goodIn_r _ [7, 8, 9, 10, 11, 12, 6, 13, 14, 15, 16, 17, 18, 19, 20, 21, 22, 23, 24, 25, 26, 27, 28, 29, 30, 31, 32, 33, 34, 35, 36, 37, 38, 39, 40, 41, 42, 43, 44, 45, 46, 47, 48, 49, 50, 51, 52, 53, 54, 55, 56, 57, 58, 59, 60, 61, 62, 63, 64, 65, 66, 67, 68, 69, 70, 71, 72, 73, 74, 75, 76, 77, 78, 79, 80, 81, 82, 83, 84, 85, 86, 87, 88, 89, 90, 91, 92, 93, 94, 95, 96, 97, 98, 99, 100, 101, 102, 103, 104, 105, 106, 107, 108, 109, 110, 111, 112, 113, 114, 115, 116, 117, 118, 119, 120, 121, 122, 123, 124, 125, 126, 127, 128, 129, 130, 131, 132, 133, 134, 135, 136, 137, 138, 139, 140, 141, 142, 143, 144, 145, 146, 147, 148, 149, 150, 151, 152, 153, 154, 155, 156, 157, 158, 159, 160, 161, 162, 163, 164, 165, 166, 167, 168, 169, 170, 171, 172, 173, 174, 175, 176, 177, 178, 179, 180, 181, 182, 183, 184, 185, 186, 187, 188, 189, 190, 191, 192, 193] (by decide +kernel) (by decide +kernel)) (goodIn_sub (fun _ h => List.mem_cons_of_mem _ (List.mem_append_right _ h)) (by decide +kernel))
set_option maxRecDepth 20000 in
theorem gL_match_X6_match : GoodIn wsL_match (wsV RL 63 RX6 yX6_match wsX6_match) := goodIn_app (goodIn_of _ (by decide +kernel)) ggL_match_X6_match
theorem dL_match_0 : decode cL_match 0 = .ok (.aload_n 0, 1) := by decide +kernel
theorem dL_match_1 : decode cL_match 1 = .ok (.invokevirtual 63, 3) := by decide +kernel
theorem dL_match_4 : decode cL_match 4 = .ok (.ireturn, 1) := by decide +kernel
theorem dL_match_5 : decode cL_match 5 = .ok (.astore_n 1, 1) := by decide +kernel
theorem dL_match_6 : decode cL_match 6 = .ok (.ldc 21, 2) := by decide +kernel
theorem dL_match_8 : decode cL_match 8 = .ok (.ireturn, 1) := by decide +kernel
set_option maxRecDepth 20000 in
theorem ggL_requestIs_X6_requestIs : GoodIn wsL_requestIs wsX6_requestIs := goodIn_ca (goodIn_ca (goodIn_r _ [9, 10, 11, 12, 8, 13, 14, 15, 16, 17, 18, 19, 20, 21, 22, 23, 24, 25, 26, 27, 28, 29, 30, 31, 32, 33, 34, 35, 36, 37, 38, 39, 40, 41, 42, 43, 44, 45, 46, 47, 48, 49, 50, 51, 52, 53, 54, 55, 56, 57, 58, 59, 60, 61, 62, 63, 64] (by decide +kernel) (by decide +kernel)) (goodIn_sub (fun _ h => List.mem_cons_of_mem _ (List.mem_append_left _ (List.mem_append_right _ h))) (by decide +kernel))) (goodIn_sub (fun _ h => List.mem_cons_of_mem _ (List.mem_append_right _ h)) (by decide +kernel))
set_option maxRecDepth 20000 in
theorem gL_requestIs_X6_requestIs : GoodIn wsL_requestIs (wsV RL 66 RX6 yX6_requestIs wsX6_requestIs) := goodIn_app (goodIn_of _ (by decide +kernel)) ggL_requestIs_X6_requestIs
theorem dL_requestIs_0 : decode cL_requestIs 0 = .ok (.aload_n 0, 1) := by decide +kernel
theorem dL_requestIs_1 : decode cL_requestIs 1 = .ok (.iload_n 1, 1) := by decide +kernel
theorem dL_requestIs_2 : decode cL_requestIs 2 = .ok (.iload_n 2, 1) := by decide +kernel
theorem dL_requestIs_3 : decode cL_requestIs 3 = .ok (.invokevirtual 66, 3) := by decide +kernel
theorem dL_requestIs_6 : decode cL_requestIs 6 = .ok (.ireturn, 1) := by decide +kernel
theorem dL_requestIs_7 : decode cL_requestIs 7 = .ok (.astore_n 3, 1) := by decide +kernel
theorem dL_requestIs_8 : decode cL_requestIs 8 = .ok (.ldc 15, 2) := by decide +kernel
theorem dL_requestIs_10 : decode cL_requestIs 10 = .ok (.ireturn, 1) := by decide +kernel
theorem dL_requestIs_11 : decode cL_requestIs 11 = .ok (.astore_n 3, 1) := by decide +kernel
theorem dL_requestIs_12 : decode cL_requestIs 12 = .ok (.ldc 18, 2) := by decide +kernel
theorem dL_requestIs_14 : decode cL_requestIs 14 = .ok (.ireturn, 1) := by decide +kernel
set_option maxRecDepth 20000 in
theorem ggL_driverIs_X6_driverIs : GoodIn wsL_driverIs wsX6_driverIs := goodIn_ca (goodIn_ca (goodIn_r _ [9, 10, 11, 12, 8, 13, 14, 15, 16, 17, 18, 19, 20, 21, 22, 23, 24, 25, 26, 27, 28, 29, 30, 31, 32, 33, 34, 35, 36, 37, 38, 39, 40, 41, 42, 43, 44, 45, 46, 47, 48, 49, 50, 51, 52, 53, 54, 55, 56, 57] (by decide +kernel) (by decide +kernel)) (goodIn_sub (fun _ h => List.mem_cons_of_mem _ (List.mem_append_left _ (List.mem_append_right _ h))) (by decide +kernel))) (goodIn_sub (fun _ h => List.mem_cons_of_mem _ (List.mem_append_right _ h)) (by decide +kernel))
set_option maxRecDepth 20000 in
theorem gL_driverIs_X6_driverIs : GoodIn wsL_driverIs (wsV RL 69 RX6 yX6_driverIs wsX6_driverIs) := goodIn_app (goodIn_of _ (by decide +kernel)) ggL_driverIs_X6_driverIs
theorem dL_driverIs_0 : decode cL_driverIs 0 = .ok (.aload_n 0, 1) := by decide +kernel
theorem dL_driverIs_1 : decode cL_driverIs 1 = .ok (.iload_n 1, 1) := by decide +kernel
theorem dL_driverIs_2 : decode cL_driverIs 2 = .ok (.iload_n 2, 1) := by decide +kernel
theorem dL_driverIs_3 : decode cL_driverIs 3 = .ok (.invokevirtual 69, 3) := by decide +kernel
theorem dL_driverIs_6 : decode cL_driverIs 6 = .ok (.ireturn, 1) := by decide +kernel
theorem dL_driverIs_7 : decode cL_driverIs 7 = .ok (.astore_n 3, 1) := by decide +kernel
theorem dL_driverIs_8 : decode cL_driverIs 8 = .ok (.ldc 15, 2) := by decide +kernel
theorem dL_driverIs_10 : decode cL_driverIs 10 = .ok (.ireturn, 1) := by decide +kernel
theorem dL_driverIs_11 : decode cL_driverIs 11 = .ok (.astore_n 3, 1) := by decide +kernel
theorem dL_driverIs_12 : decode cL_driverIs 12 = .ok (.ldc 18, 2) := by decide +kernel
theorem dL_driverIs_14 : decode cL_driverIs 14 = .ok (.ireturn, 1) := by decide +kernel
set_option maxRecDepth 20000 in
theorem ggL_stop_X6_stop : GoodIn wsL_stop wsX6_stop := goodIn_ca (goodIn_r _ [7, 8, 9, 10, 11, 12, 6, 13, 14, 15, 16, 17, 18, 19, 20, 21, 22, 23, 24, 25, 26, 27, 28, 29, 30, 31, 32, 33, 34, 35, 36, 37, 38, 39, 40, 41, 42, 43, 44, 45, 46, 47, 48, 49, 50, 51, 52, 53, 54, 55, 56, 57, 58, 59, 60, 61, 62, 63, 64, 65, 66, 67, 68, 69, 70, 71, 72, 73, 74, 75] (by decide +kernel) (by decide +kernel)) (goodIn_sub (fun _ h => List.mem_cons_of_mem _ (List.mem_append_right _ h)) (by decide +kernel))
set_option maxRecDepth 20000 in
theorem gL_stop_X6_stop : GoodIn wsL_stop (wsV RL 72 RX6 yX6_stop wsX6_stop) := goodIn_app (goodIn_of _ (by decide +kernel)) ggL_stop_X6_stop
theorem dL_stop_0 : decode cL_stop 0 = .ok (.aload_n 0, 1) := by decide +kernel
theorem dL_stop_1 : decode cL_stop 1 = .ok (.iload_n 1, 1) := by decide +kernel
theorem dL_stop_2 : decode cL_stop 2 = .ok (.iload_n 2, 1) := by decide +kernel
theorem dL_stop_3 : decode cL_stop 3 = .ok (.iload_n 3, 1) := by decide +kernel
theorem dL_stop_4 : decode cL_stop 4 = .ok (.invokevirtual 72, 3) := by decide +kernel
theorem dL_stop_7 : decode cL_stop 7 = .ok (.ireturn, 1) := by decide +kernel
theorem dL_stop_8 : decode cL_stop 8 = .ok (.astore 4, 2) := by decide +kernel
theorem dL_stop_10 : decode cL_stop 10 = .ok (.ldc 15, 2) := by decide +kernel
theorem dL_stop_12 : decode cL_stop 12 = .ok (.ireturn, 1) := by decide +kernel
set_option maxRecDepth 20000 in
theorem ggL_pay_X6_pay : GoodIn wsL_pay wsX6_pay := goodIn_ca (goodIn_r _ [7, 8, 9, 10, 11, 12, 13, 14, 6, 15, 16, 17, 18, 19, 20, 21, 22, 23, 24, 25, 26, 27, 28, 29, 30, 31, 32, 33, 34, 35, 36, 37, 38, 39, 40, 41, 42] (by decide +kernel) (by decide +kernel)) (goodIn_sub (fun _ h => List.mem_cons_of_mem _ (List.mem_append_right _ h)) (by decide +kernel))
set_option maxRecDepth 20000 in
theorem gL_pay_X6_pay : GoodIn wsL_pay (wsV RL 76 RX6 yX6_pay wsX6_pay) := goodIn_app (goodIn_of _ (by decide +kernel)) ggL_pay_X6_pay
theorem dL_pay_0 : decode cL_pay 0 = .ok (.aload_n 0, 1) := by decide +kernel
theorem dL_pay_1 : decode cL_pay 1 = .ok (.iload_n 1, 1) := by decide +kernel
theorem dL_pay_2 : decode cL_pay 2 = .ok (.invokevirtual 76, 3) := by decide +kernel
theorem dL_pay_5 : decode cL_pay 5 = .ok (.ireturn, 1) := by decide +kernel
theorem dL_pay_6 : decode cL_pay 6 = .ok (.astore_n 2, 1) := by decide +kernel
theorem dL_pay_7 : decode cL_pay 7 = .ok (.ldc 15, 2) := by decide +kernel
theorem dL_pay_9 : decode cL_pay 9 = .ok (.ireturn, 1) := by decide +kernel
set_option maxRecDepth 20000 in
theorem ggL_pass_X6_pass : GoodIn wsL_pass wsX6_pass := goodIn_ca (goodIn_ca (goodIn_r _ [9, 10, 11, 12, 13, 14, 8, 15, 16, 17, 18, 19, 20, 21, 22, 23, 24, 25, 26, 27, 28, 29, 30, 31, 32, 33, 34, 35, 36, 37, 38, 39, 40, 41, 42, 43, 44, 45, 46, 47, 48, 49, 50, 51, 52, 53, 54, 55, 56, 57, 58, 59, 60, 61, 62, 63, 64, 65, 66, 67, 68, 69, 70, 71, 72, 73, 74, 75, 76, 77, 78, 79, 80, 81, 82, 83, 84, 85, 86, 87, 88, 89, 90, 91, 92, 93, 94, 95, 96, 97, 98, 99, 100, 101, 102, 103, 104, 105, 106, 107, 108, 109, 110, 111, 112, 113, 114, 115, 116, 117, 118, 119, 120, 121, 122, 123, 124, 125, 126, 127, 128, 129, 130, 131, 132, 133, 134] (by decide +kernel) (by decide +kernel)) (goodIn_sub (fun _ h => List.mem_cons_of_mem _ (List.mem_append_left _ (List.mem_append_right _ h))) (by decide +kernel))) (goodIn_sub (fun _ h => List.mem_cons_of_mem _ (List.mem_append_right _ h)) (by decide +kernel))
set_option maxRecDepth 20000 in
theorem gL_pass_X6_pass : GoodIn wsL_pass (wsV RL 79 RX6 yX6_pass wsX6_pass) := goodIn_app (goodIn_of _ (by decide +kernel)) ggL_pass_X6_pass
theorem dL_pass_0 : decode cL_pass 0 = .ok (.aload_n 0, 1) := by decide +kernel
theorem dL_pass_1 : decode cL_pass 1 = .ok (.iload_n 1, 1) := by decide +kernel
theorem dL_pass_2 : decode cL_pass 2 = .ok (.invokevirtual 79, 3) := by decide +kernel
theorem dL_pass_5 : decode cL_pass 5 = .ok (.ireturn, 1) := by decide +kernel
theorem dL_pass_6 : decode cL_pass 6 = .ok (.astore_n 2, 1) := by decide +kernel
theorem dL_pass_7 : decode cL_pass 7 = .ok (.ldc 18, 2) := by decide +kernel
theorem dL_pass_9 : decode cL_pass 9 = .ok (.ireturn, 1) := by decide +kernel
theorem dL_pass_10 : decode cL_pass 10 = .ok (.astore_n 2, 1) := by decide +kernel
theorem dL_pass_11 : decode cL_pass 11 = .ok (.ldc 21, 2) := by decide +kernel
theorem dL_pass_13 : decode cL_pass 13 = .ok (.ireturn, 1) := by decide +kernel
theorem dL_drawn_0 : decode cL_drawn 0 = .ok (.iload_n 1, 1) := by decide +kernel
theorem dL_drawn_1 : decode cL_drawn 1 = .ok (.aload_n 0, 1) := by decide +kernel
theorem dL_drawn_2 : decode cL_drawn 2 = .ok (.arraylength, 1) := by decide +kernel
theorem dL_drawn_3 : decode cL_drawn 3 = .ok (.if_icmp .ge 9, 3) := by decide +kernel
theorem dL_drawn_6 : decode cL_drawn 6 = .ok (.aload_n 0, 1) := by decide +kernel
theorem dL_drawn_7 : decode cL_drawn 7 = .ok (.iload_n 1, 1) := by decide +kernel
theorem dL_drawn_8 : decode cL_drawn 8 = .ok (.iaload, 1) := by decide +kernel
theorem dL_drawn_9 : decode cL_drawn 9 = .ok (.goto 13, 3) := by decide +kernel
theorem dL_drawn_12 : decode cL_drawn 12 = .ok (.ldc 82, 2) := by decide +kernel
theorem dL_drawn_14 : decode cL_drawn 14 = .ok (.iload_n 1, 1) := by decide +kernel
theorem dL_drawn_15 : decode cL_drawn 15 = .ok (.iconst 3, 1) := by decide +kernel
theorem dL_drawn_16 : decode cL_drawn 16 = .ok (.iadd, 1) := by decide +kernel
theorem dL_drawn_17 : decode cL_drawn 17 = .ok (.imul, 1) := by decide +kernel
theorem dL_drawn_18 : decode cL_drawn 18 = .ok (.sipush 16411, 3) := by decide +kernel
theorem dL_drawn_21 : decode cL_drawn 21 = .ok (.iadd, 1) := by decide +kernel
theorem dL_drawn_22 : decode cL_drawn 22 = .ok (.ldc 83, 2) := by decide +kernel
theorem dL_drawn_24 : decode cL_drawn 24 = .ok (.iand, 1) := by decide +kernel
theorem dL_drawn_25 : decode cL_drawn 25 = .ok (.ireturn, 1) := by decide +kernel
theorem dL_isRefused_0 : decode cL_isRefused 0 = .ok (.iload_n 0, 1) := by decide +kernel
theorem dL_isRefused_1 : decode cL_isRefused 1 = .ok (.ldc 15, 2) := by decide +kernel
theorem dL_isRefused_3 : decode cL_isRefused 3 = .ok (.if_icmp .eq 15, 3) := by decide +kernel
theorem dL_isRefused_6 : decode cL_isRefused 6 = .ok (.iload_n 0, 1) := by decide +kernel
theorem dL_isRefused_7 : decode cL_isRefused 7 = .ok (.ldc 18, 2) := by decide +kernel
theorem dL_isRefused_9 : decode cL_isRefused 9 = .ok (.if_icmp .eq 9, 3) := by decide +kernel
theorem dL_isRefused_12 : decode cL_isRefused 12 = .ok (.iload_n 0, 1) := by decide +kernel
theorem dL_isRefused_13 : decode cL_isRefused 13 = .ok (.ldc 21, 2) := by decide +kernel
theorem dL_isRefused_15 : decode cL_isRefused 15 = .ok (.if_icmp .ne 7, 3) := by decide +kernel
theorem dL_isRefused_18 : decode cL_isRefused 18 = .ok (.iconst 1, 1) := by decide +kernel
theorem dL_isRefused_19 : decode cL_isRefused 19 = .ok (.goto 4, 3) := by decide +kernel
theorem dL_isRefused_22 : decode cL_isRefused 22 = .ok (.iconst 0, 1) := by decide +kernel
theorem dL_isRefused_23 : decode cL_isRefused 23 = .ok (.ireturn, 1) := by decide +kernel
set_option maxRecDepth 20000 in
theorem ggL_sum_L_best : GoodIn wsL_sum wsL_best := goodIn_ca (goodIn_r _ [4, 5, 6, 7, 8, 9, 10, 11, 12, 13, 14, 15, 16, 17, 18, 19, 20, 21, 22, 23, 24, 25, 26, 27, 28, 29, 30, 31, 32, 33, 34, 35, 36, 37, 38, 39, 40, 41, 42, 43, 44, 45, 46, 47, 48, 49, 50, 51, 52, 53, 54, 55, 56, 57, 58, 59, 60, 61, 62, 63, 64, 65, 66, 67, 68, 69, 70, 71, 72, 73, 74, 75, 76, 77, 78, 79, 80, 81, 82, 83, 84, 190, 191, 192, 193, 194, 195, 196, 197, 198, 199, 200, 201, 202, 203, 204, 205, 206, 207, 208, 209, 210, 211, 212, 213, 214, 215, 216, 217, 218, 219, 220, 221, 222, 223, 224, 225, 226, 227, 228, 229, 230, 231, 232, 233, 234, 235, 236, 237, 238, 239] (by decide +kernel) (by decide +kernel)) (goodIn_sub (fun _ h => List.mem_cons_of_mem _ (List.mem_append_left _ (List.mem_append_left _ (List.mem_append_right _ h)))) (by decide +kernel))
set_option maxRecDepth 20000 in
theorem gL_sum_L_best : GoodIn wsL_sum (va_wsS RL 86 yL_best wsL_best) := goodIn_app (goodIn_of _ (by decide +kernel)) ggL_sum_L_best
set_option maxRecDepth 20000 in
theorem ggL_sum_L_requestIs : GoodIn wsL_sum wsL_requestIs := goodIn_ca (goodIn_ca (goodIn_r _ [87, 88, 89, 90, 91, 92, 93, 94, 10, 95, 96, 97, 98, 99, 100, 101, 20, 21, 102, 103, 104, 105, 106, 107, 108, 109, 110, 111, 112, 113, 200, 201, 202, 203, 204, 205, 206, 207, 208, 209, 210, 211, 218, 219, 220, 221, 222, 223, 224, 225, 226, 227, 228, 229, 230, 190, 191, 192, 193, 194, 195, 196, 197, 198, 199] (by decide +kernel) (by decide +kernel)) (goodIn_sub (fun _ h => List.mem_cons_of_mem _ (List.mem_append_left _ (List.mem_append_right _ h))) (by decide +kernel))) (goodIn_sub (fun _ h => List.mem_cons_of_mem _ (List.mem_append_right _ h)) (by decide +kernel))
set_option maxRecDepth 20000 in
theorem gL_sum_L_requestIs : GoodIn wsL_sum (va_wsS RL 89 yL_requestIs wsL_requestIs) := goodIn_app (goodIn_of _ (by decide +kernel)) ggL_sum_L_requestIs
set_option maxRecDepth 20000 in
theorem ggL_sum_L_driverIs : GoodIn wsL_sum wsL_driverIs := goodIn_ca (goodIn_ca (goodIn_r _ [116, 88, 89, 90, 91, 117, 118, 119, 10, 120, 121, 122, 123, 124, 100, 101, 19, 40, 102, 103, 104, 105, 106, 51, 52, 53, 54, 55, 56, 57, 58, 218, 219, 220, 221, 222, 223, 224, 225, 226, 227, 228, 229, 230, 236, 237, 238, 239, 190, 191, 192, 193, 194, 195, 196, 197, 198, 199] (by decide +kernel) (by decide +kernel)) (goodIn_sub (fun _ h => List.mem_cons_of_mem _ (List.mem_append_left _ (List.mem_append_right _ h))) (by decide +kernel))) (goodIn_sub (fun _ h => List.mem_cons_of_mem _ (List.mem_append_right _ h)) (by decide +kernel))
set_option maxRecDepth 20000 in
theorem gL_sum_L_driverIs : GoodIn wsL_sum (va_wsS RL 92 yL_driverIs wsL_driverIs) := goodIn_app (goodIn_of _ (by decide +kernel)) ggL_sum_L_driverIs
set_option maxRecDepth 20000 in
theorem ggL_sum_L_stop : GoodIn wsL_sum wsL_stop := goodIn_ca (goodIn_r _ [127, 88, 90, 128, 129, 130, 10, 131, 100, 101, 121, 122, 123, 124, 19, 40, 132, 133, 134, 135, 136, 137, 138, 139, 140, 141, 142, 143, 144, 145, 146, 147, 148, 149, 150, 151, 152, 218, 219, 220, 221, 222, 223, 224, 225, 226, 227, 228, 229, 230, 200, 201, 202, 203, 204, 205, 206, 207, 208, 209, 210, 211, 190, 191, 192, 193, 194, 195, 196, 197, 198, 199, 236, 237, 238, 239] (by decide +kernel) (by decide +kernel)) (goodIn_sub (fun _ h => List.mem_cons_of_mem _ (List.mem_append_left _ (List.mem_append_right _ h))) (by decide +kernel))
set_option maxRecDepth 20000 in
theorem gL_sum_L_stop : GoodIn wsL_sum (va_wsS RL 94 yL_stop wsL_stop) := goodIn_app (goodIn_of _ (by decide +kernel)) ggL_sum_L_stop
set_option maxRecDepth 20000 in
theorem ggL_sum_L_way : GoodIn wsL_sum wsL_way := goodIn_ca (goodIn_r _ [155, 88, 90, 156, 157, 158, 10, 159, 39, 160, 161, 162, 100, 101, 163, 49, 44, 50, 41, 42, 43, 45, 46, 47, 48, 190, 191, 192, 193, 194, 195, 196, 197, 198, 199, 231, 232, 233, 234, 235] (by decide +kernel) (by decide +kernel)) (goodIn_sub (fun _ h => List.mem_cons_of_mem _ (List.mem_append_left _ (List.mem_append_right _ h))) (by decide +kernel))
set_option maxRecDepth 20000 in
theorem gL_sum_L_way : GoodIn wsL_sum (va_wsS RL 97 yL_way wsL_way) := goodIn_app (goodIn_of _ (by decide +kernel)) ggL_sum_L_way
set_option maxRecDepth 20000 in
theorem ggL_sum_L_height : GoodIn wsL_sum wsL_height := goodIn_ca (goodIn_r _ [166, 88, 90, 167, 168, 169, 10, 170, 100, 101, 171, 172, 173, 174, 20, 21, 19, 40, 175, 74, 75, 76, 176, 177, 178, 179, 180, 181, 182, 51, 52, 53, 54, 55, 56, 57, 58, 190, 191, 192, 193, 194, 195, 196, 197, 198, 199, 200, 201, 202, 203, 204, 205, 206, 207, 208, 209, 210, 211, 218, 219, 220, 221, 222, 223, 224, 225, 226, 227, 228, 229, 230, 236, 237, 238, 239] (by decide +kernel) (by decide +kernel)) (goodIn_sub (fun _ h => List.mem_cons_of_mem _ (List.mem_append_left _ (List.mem_append_right _ h))) (by decide +kernel))
set_option maxRecDepth 20000 in
theorem gL_sum_L_height : GoodIn wsL_sum (va_wsS RL 99 yL_height wsL_height) := goodIn_app (goodIn_of _ (by decide +kernel)) ggL_sum_L_height
set_option maxRecDepth 20000 in
theorem ggL_sum_L_pay : GoodIn wsL_sum wsL_pay := goodIn_ca (goodIn_r _ [185, 88, 90, 186, 187, 188, 10, 189, 175, 74, 75, 76, 121, 122, 123, 124, 100, 101, 19, 40, 218, 219, 220, 221, 222, 223, 224, 225, 226, 227, 228, 229, 230, 190, 191, 192, 193, 194, 195, 196, 197, 198, 199] (by decide +kernel) (by decide +kernel)) (goodIn_sub (fun _ h => List.mem_cons_of_mem _ (List.mem_append_left _ (List.mem_append_right _ h))) (by decide +kernel))
set_option maxRecDepth 20000 in
theorem gL_sum_L_pay : GoodIn wsL_sum (va_wsS RL 102 yL_pay wsL_pay) := goodIn_app (goodIn_of _ (by decide +kernel)) ggL_sum_L_pay
theorem dL_sum_0 : decode cL_sum 0 = .ok (.aload_n 0, 1) := by decide +kernel
theorem dL_sum_1 : decode cL_sum 1 = .ok (.invokestatic 86, 3) := by decide +kernel
theorem dL_sum_4 : decode cL_sum 4 = .ok (.istore_n 1, 1) := by decide +kernel
theorem dL_sum_5 : decode cL_sum 5 = .ok (.iconst 0, 1) := by decide +kernel
theorem dL_sum_6 : decode cL_sum 6 = .ok (.istore_n 2, 1) := by decide +kernel
theorem dL_sum_7 : decode cL_sum 7 = .ok (.iload_n 2, 1) := by decide +kernel
theorem dL_sum_8 : decode cL_sum 8 = .ok (.bipush 56, 2) := by decide +kernel
theorem dL_sum_10 : decode cL_sum 10 = .ok (.if_icmp .ge 110, 3) := by decide +kernel
theorem dL_sum_13 : decode cL_sum 13 = .ok (.bipush 31, 2) := by decide +kernel
theorem dL_sum_15 : decode cL_sum 15 = .ok (.iload_n 1, 1) := by decide +kernel
theorem dL_sum_16 : decode cL_sum 16 = .ok (.imul, 1) := by decide +kernel
theorem dL_sum_17 : decode cL_sum 17 = .ok (.aload_n 0, 1) := by decide +kernel
theorem dL_sum_18 : decode cL_sum 18 = .ok (.iload_n 2, 1) := by decide +kernel
theorem dL_sum_19 : decode cL_sum 19 = .ok (.bipush 6, 2) := by decide +kernel
theorem dL_sum_21 : decode cL_sum 21 = .ok (.idiv, 1) := by decide +kernel
theorem dL_sum_22 : decode cL_sum 22 = .ok (.iload_n 2, 1) := by decide +kernel
theorem dL_sum_23 : decode cL_sum 23 = .ok (.bipush 7, 2) := by decide +kernel
theorem dL_sum_25 : decode cL_sum 25 = .ok (.irem, 1) := by decide +kernel
theorem dL_sum_26 : decode cL_sum 26 = .ok (.invokestatic 89, 3) := by decide +kernel
theorem dL_sum_29 : decode cL_sum 29 = .ok (.iadd, 1) := by decide +kernel
theorem dL_sum_30 : decode cL_sum 30 = .ok (.iconst 3, 1) := by decide +kernel
theorem dL_sum_31 : decode cL_sum 31 = .ok (.aload_n 0, 1) := by decide +kernel
theorem dL_sum_32 : decode cL_sum 32 = .ok (.iload_n 2, 1) := by decide +kernel
theorem dL_sum_33 : decode cL_sum 33 = .ok (.bipush 7, 2) := by decide +kernel
theorem dL_sum_35 : decode cL_sum 35 = .ok (.idiv, 1) := by decide +kernel
theorem dL_sum_36 : decode cL_sum 36 = .ok (.iconst 4, 1) := by decide +kernel
theorem dL_sum_37 : decode cL_sum 37 = .ok (.irem, 1) := by decide +kernel
theorem dL_sum_38 : decode cL_sum 38 = .ok (.iload_n 2, 1) := by decide +kernel
theorem dL_sum_39 : decode cL_sum 39 = .ok (.bipush 7, 2) := by decide +kernel
theorem dL_sum_41 : decode cL_sum 41 = .ok (.irem, 1) := by decide +kernel
theorem dL_sum_42 : decode cL_sum 42 = .ok (.invokestatic 92, 3) := by decide +kernel
theorem dL_sum_45 : decode cL_sum 45 = .ok (.imul, 1) := by decide +kernel
theorem dL_sum_46 : decode cL_sum 46 = .ok (.iadd, 1) := by decide +kernel
theorem dL_sum_47 : decode cL_sum 47 = .ok (.iconst 5, 1) := by decide +kernel
theorem dL_sum_48 : decode cL_sum 48 = .ok (.aload_n 0, 1) := by decide +kernel
theorem dL_sum_49 : decode cL_sum 49 = .ok (.iload_n 2, 1) := by decide +kernel
theorem dL_sum_50 : decode cL_sum 50 = .ok (.bipush 16, 2) := by decide +kernel
theorem dL_sum_52 : decode cL_sum 52 = .ok (.idiv, 1) := by decide +kernel
theorem dL_sum_53 : decode cL_sum 53 = .ok (.iload_n 2, 1) := by decide +kernel
theorem dL_sum_54 : decode cL_sum 54 = .ok (.iconst 2, 1) := by decide +kernel
theorem dL_sum_55 : decode cL_sum 55 = .ok (.idiv, 1) := by decide +kernel
theorem dL_sum_56 : decode cL_sum 56 = .ok (.bipush 8, 2) := by decide +kernel
theorem dL_sum_58 : decode cL_sum 58 = .ok (.irem, 1) := by decide +kernel
theorem dL_sum_59 : decode cL_sum 59 = .ok (.iload_n 2, 1) := by decide +kernel
theorem dL_sum_60 : decode cL_sum 60 = .ok (.iconst 2, 1) := by decide +kernel
theorem dL_sum_61 : decode cL_sum 61 = .ok (.irem, 1) := by decide +kernel
theorem dL_sum_62 : decode cL_sum 62 = .ok (.ifCond .ne 7, 3) := by decide +kernel
theorem dL_sum_65 : decode cL_sum 65 = .ok (.iconst 1, 1) := by decide +kernel
theorem dL_sum_66 : decode cL_sum 66 = .ok (.goto 4, 3) := by decide +kernel
theorem dL_sum_69 : decode cL_sum 69 = .ok (.iconst 0, 1) := by decide +kernel
theorem dL_sum_70 : decode cL_sum 70 = .ok (.invokestatic 94, 3) := by decide +kernel
theorem dL_sum_73 : decode cL_sum 73 = .ok (.imul, 1) := by decide +kernel
theorem dL_sum_74 : decode cL_sum 74 = .ok (.iadd, 1) := by decide +kernel
theorem dL_sum_75 : decode cL_sum 75 = .ok (.bipush 7, 2) := by decide +kernel
theorem dL_sum_77 : decode cL_sum 77 = .ok (.aload_n 0, 1) := by decide +kernel
theorem dL_sum_78 : decode cL_sum 78 = .ok (.iload_n 2, 1) := by decide +kernel
theorem dL_sum_79 : decode cL_sum 79 = .ok (.bipush 8, 2) := by decide +kernel
theorem dL_sum_81 : decode cL_sum 81 = .ok (.idiv, 1) := by decide +kernel
theorem dL_sum_82 : decode cL_sum 82 = .ok (.iload_n 2, 1) := by decide +kernel
theorem dL_sum_83 : decode cL_sum 83 = .ok (.bipush 8, 2) := by decide +kernel
theorem dL_sum_85 : decode cL_sum 85 = .ok (.irem, 1) := by decide +kernel
theorem dL_sum_86 : decode cL_sum 86 = .ok (.invokestatic 97, 3) := by decide +kernel
theorem dL_sum_89 : decode cL_sum 89 = .ok (.imul, 1) := by decide +kernel
theorem dL_sum_90 : decode cL_sum 90 = .ok (.iadd, 1) := by decide +kernel
theorem dL_sum_91 : decode cL_sum 91 = .ok (.bipush 11, 2) := by decide +kernel
theorem dL_sum_93 : decode cL_sum 93 = .ok (.aload_n 0, 1) := by decide +kernel
theorem dL_sum_94 : decode cL_sum 94 = .ok (.iload_n 2, 1) := by decide +kernel
theorem dL_sum_95 : decode cL_sum 95 = .ok (.iconst 4, 1) := by decide +kernel
theorem dL_sum_96 : decode cL_sum 96 = .ok (.irem, 1) := by decide +kernel
theorem dL_sum_97 : decode cL_sum 97 = .ok (.invokestatic 99, 3) := by decide +kernel
theorem dL_sum_100 : decode cL_sum 100 = .ok (.imul, 1) := by decide +kernel
theorem dL_sum_101 : decode cL_sum 101 = .ok (.iadd, 1) := by decide +kernel
theorem dL_sum_102 : decode cL_sum 102 = .ok (.bipush 13, 2) := by decide +kernel
theorem dL_sum_104 : decode cL_sum 104 = .ok (.aload_n 0, 1) := by decide +kernel
theorem dL_sum_105 : decode cL_sum 105 = .ok (.iload_n 2, 1) := by decide +kernel
theorem dL_sum_106 : decode cL_sum 106 = .ok (.iconst 4, 1) := by decide +kernel
theorem dL_sum_107 : decode cL_sum 107 = .ok (.irem, 1) := by decide +kernel
theorem dL_sum_108 : decode cL_sum 108 = .ok (.invokestatic 102, 3) := by decide +kernel
theorem dL_sum_111 : decode cL_sum 111 = .ok (.imul, 1) := by decide +kernel
theorem dL_sum_112 : decode cL_sum 112 = .ok (.iadd, 1) := by decide +kernel
theorem dL_sum_113 : decode cL_sum 113 = .ok (.istore_n 1, 1) := by decide +kernel
theorem dL_sum_114 : decode cL_sum 114 = .ok (.iinc 2 1, 3) := by decide +kernel
theorem dL_sum_117 : decode cL_sum 117 = .ok (.goto (-110), 3) := by decide +kernel
theorem dL_sum_120 : decode cL_sum 120 = .ok (.iload_n 1, 1) := by decide +kernel
theorem dL_sum_121 : decode cL_sum 121 = .ok (.ireturn, 1) := by decide +kernel
set_option maxRecDepth 20000 in
theorem ggL_areRows_L_driverIs : GoodIn wsL_areRows wsL_driverIs := goodIn_ca (goodIn_ca (goodIn_r _ [4, 5, 6, 7, 8, 9, 10, 11, 12, 13, 14, 15, 16, 17, 18, 19, 20, 21, 22, 23, 24, 25, 26, 27, 28, 29, 30, 31, 32, 33, 34, 83, 84, 85, 86, 87, 88, 89, 90, 91, 92, 93, 94, 95, 96, 97, 98, 99, 100, 101, 102, 103, 104, 105, 106, 107, 108, 109] (by decide +kernel) (by decide +kernel)) (goodIn_sub (fun _ h => List.mem_cons_of_mem _ (List.mem_append_left _ (List.mem_append_right _ h))) (by decide +kernel))) (goodIn_sub (fun _ h => List.mem_cons_of_mem _ (List.mem_append_right _ h)) (by decide +kernel))
set_option maxRecDepth 20000 in
theorem gL_areRows_L_driverIs : GoodIn wsL_areRows (va_wsS RL 92 yL_driverIs wsL_driverIs) := goodIn_app (goodIn_of _ (by decide +kernel)) ggL_areRows_L_driverIs
set_option maxRecDepth 20000 in
theorem ggL_areRows_L_stop : GoodIn wsL_areRows wsL_stop := goodIn_ca (goodIn_r _ [37, 5, 7, 38, 39, 40, 12, 41, 18, 19, 14, 15, 16, 17, 20, 21, 42, 43, 44, 45, 46, 47, 48, 49, 50, 51, 52, 53, 54, 55, 56, 57, 58, 59, 60, 61, 62, 83, 84, 85, 86, 87, 88, 89, 90, 91, 92, 93, 94, 95, 110, 111, 112, 113, 114, 115, 116, 117, 118, 119, 120, 121, 100, 101, 102, 103, 104, 105, 106, 107, 108, 109, 96, 97, 98, 99] (by decide +kernel) (by decide +kernel)) (goodIn_sub (fun _ h => List.mem_cons_of_mem _ (List.mem_append_left _ (List.mem_append_right _ h))) (by decide +kernel))
set_option maxRecDepth 20000 in
theorem gL_areRows_L_stop : GoodIn wsL_areRows (va_wsS RL 94 yL_stop wsL_stop) := goodIn_app (goodIn_of _ (by decide +kernel)) ggL_areRows_L_stop
set_option maxRecDepth 20000 in
theorem ggL_areRows_L_requestIs : GoodIn wsL_areRows wsL_requestIs := goodIn_ca (goodIn_ca (goodIn_r _ [65, 5, 6, 7, 8, 66, 67, 68, 12, 69, 70, 71, 72, 73, 18, 19, 74, 75, 22, 23, 24, 25, 26, 76, 77, 78, 79, 80, 81, 82, 110, 111, 112, 113, 114, 115, 116, 117, 118, 119, 120, 121, 83, 84, 85, 86, 87, 88, 89, 90, 91, 92, 93, 94, 95, 100, 101, 102, 103, 104, 105, 106, 107, 108, 109] (by decide +kernel) (by decide +kernel)) (goodIn_sub (fun _ h => List.mem_cons_of_mem _ (List.mem_append_left _ (List.mem_append_right _ h))) (by decide +kernel))) (goodIn_sub (fun _ h => List.mem_cons_of_mem _ (List.mem_append_right _ h)) (by decide +kernel))
set_option maxRecDepth 20000 in
theorem gL_areRows_L_requestIs : GoodIn wsL_areRows (va_wsS RL 89 yL_requestIs wsL_requestIs) := goodIn_app (goodIn_of _ (by decide +kernel)) ggL_areRows_L_requestIs
theorem dL_areRows_0 : decode cL_areRows 0 = .ok (.aload_n 0, 1) := by decide +kernel
theorem dL_areRows_1 : decode cL_areRows 1 = .ok (.iload_n 1, 1) := by decide +kernel
theorem dL_areRows_2 : decode cL_areRows 2 = .ok (.iconst 1, 1) := by decide +kernel
theorem dL_areRows_3 : decode cL_areRows 3 = .ok (.invokestatic 92, 3) := by decide +kernel
theorem dL_areRows_6 : decode cL_areRows 6 = .ok (.istore_n 2, 1) := by decide +kernel
theorem dL_areRows_7 : decode cL_areRows 7 = .ok (.iconst 0, 1) := by decide +kernel
theorem dL_areRows_8 : decode cL_areRows 8 = .ok (.istore_n 3, 1) := by decide +kernel
theorem dL_areRows_9 : decode cL_areRows 9 = .ok (.iload_n 2, 1) := by decide +kernel
theorem dL_areRows_10 : decode cL_areRows 10 = .ok (.bipush 8, 2) := by decide +kernel
theorem dL_areRows_12 : decode cL_areRows 12 = .ok (.if_icmp .gt 7, 3) := by decide +kernel
theorem dL_areRows_15 : decode cL_areRows 15 = .ok (.iconst 1, 1) := by decide +kernel
theorem dL_areRows_16 : decode cL_areRows 16 = .ok (.goto 4, 3) := by decide +kernel
theorem dL_areRows_19 : decode cL_areRows 19 = .ok (.iconst 0, 1) := by decide +kernel
theorem dL_areRows_20 : decode cL_areRows 20 = .ok (.istore 4, 2) := by decide +kernel
theorem dL_areRows_22 : decode cL_areRows 22 = .ok (.iconst 0, 1) := by decide +kernel
theorem dL_areRows_23 : decode cL_areRows 23 = .ok (.istore 5, 2) := by decide +kernel
theorem dL_areRows_25 : decode cL_areRows 25 = .ok (.iconst 0, 1) := by decide +kernel
theorem dL_areRows_26 : decode cL_areRows 26 = .ok (.istore 6, 2) := by decide +kernel
theorem dL_areRows_28 : decode cL_areRows 28 = .ok (.iload 6, 2) := by decide +kernel
theorem dL_areRows_30 : decode cL_areRows 30 = .ok (.iload_n 2, 1) := by decide +kernel
theorem dL_areRows_31 : decode cL_areRows 31 = .ok (.if_icmp .ge 140, 3) := by decide +kernel
theorem dL_areRows_34 : decode cL_areRows 34 = .ok (.iload 4, 2) := by decide +kernel
theorem dL_areRows_36 : decode cL_areRows 36 = .ok (.ifCond .eq 135, 3) := by decide +kernel
theorem dL_areRows_39 : decode cL_areRows 39 = .ok (.aload_n 0, 1) := by decide +kernel
theorem dL_areRows_40 : decode cL_areRows 40 = .ok (.iload_n 1, 1) := by decide +kernel
theorem dL_areRows_41 : decode cL_areRows 41 = .ok (.iload 6, 2) := by decide +kernel
theorem dL_areRows_43 : decode cL_areRows 43 = .ok (.iconst 1, 1) := by decide +kernel
theorem dL_areRows_44 : decode cL_areRows 44 = .ok (.invokestatic 94, 3) := by decide +kernel
theorem dL_areRows_47 : decode cL_areRows 47 = .ok (.istore 7, 2) := by decide +kernel
theorem dL_areRows_49 : decode cL_areRows 49 = .ok (.iload 7, 2) := by decide +kernel
theorem dL_areRows_51 : decode cL_areRows 51 = .ok (.ifCond .ge 7, 3) := by decide +kernel
theorem dL_areRows_54 : decode cL_areRows 54 = .ok (.iconst (-1), 1) := by decide +kernel
theorem dL_areRows_55 : decode cL_areRows 55 = .ok (.goto 8, 3) := by decide +kernel
theorem dL_areRows_58 : decode cL_areRows 58 = .ok (.iload 7, 2) := by decide +kernel
theorem dL_areRows_60 : decode cL_areRows 60 = .ok (.bipush 100, 2) := by decide +kernel
theorem dL_areRows_62 : decode cL_areRows 62 = .ok (.irem, 1) := by decide +kernel
theorem dL_areRows_63 : decode cL_areRows 63 = .ok (.istore 8, 2) := by decide +kernel
theorem dL_areRows_65 : decode cL_areRows 65 = .ok (.iload_n 3, 1) := by decide +kernel
theorem dL_areRows_66 : decode cL_areRows 66 = .ok (.iload 7, 2) := by decide +kernel
theorem dL_areRows_68 : decode cL_areRows 68 = .ok (.bipush 100, 2) := by decide +kernel
theorem dL_areRows_70 : decode cL_areRows 70 = .ok (.if_icmp .lt 7, 3) := by decide +kernel
theorem dL_areRows_73 : decode cL_areRows 73 = .ok (.iconst 1, 1) := by decide +kernel
theorem dL_areRows_74 : decode cL_areRows 74 = .ok (.goto 4, 3) := by decide +kernel
theorem dL_areRows_77 : decode cL_areRows 77 = .ok (.iconst 0, 1) := by decide +kernel
theorem dL_areRows_78 : decode cL_areRows 78 = .ok (.iadd, 1) := by decide +kernel
theorem dL_areRows_79 : decode cL_areRows 79 = .ok (.istore_n 3, 1) := by decide +kernel
theorem dL_areRows_80 : decode cL_areRows 80 = .ok (.iload 7, 2) := by decide +kernel
theorem dL_areRows_82 : decode cL_areRows 82 = .ok (.ifCond .lt 51, 3) := by decide +kernel
theorem dL_areRows_85 : decode cL_areRows 85 = .ok (.aload_n 0, 1) := by decide +kernel
theorem dL_areRows_86 : decode cL_areRows 86 = .ok (.iload 8, 2) := by decide +kernel
theorem dL_areRows_88 : decode cL_areRows 88 = .ok (.iconst 2, 1) := by decide +kernel
theorem dL_areRows_89 : decode cL_areRows 89 = .ok (.invokestatic 89, 3) := by decide +kernel
theorem dL_areRows_92 : decode cL_areRows 92 = .ok (.iload_n 1, 1) := by decide +kernel
theorem dL_areRows_93 : decode cL_areRows 93 = .ok (.if_icmp .ne 44, 3) := by decide +kernel
theorem dL_areRows_96 : decode cL_areRows 96 = .ok (.aload_n 0, 1) := by decide +kernel
theorem dL_areRows_97 : decode cL_areRows 97 = .ok (.iload 8, 2) := by decide +kernel
theorem dL_areRows_99 : decode cL_areRows 99 = .ok (.iconst 0, 1) := by decide +kernel
theorem dL_areRows_100 : decode cL_areRows 100 = .ok (.invokestatic 89, 3) := by decide +kernel
theorem dL_areRows_103 : decode cL_areRows 103 = .ok (.iload 7, 2) := by decide +kernel
theorem dL_areRows_105 : decode cL_areRows 105 = .ok (.bipush 100, 2) := by decide +kernel
theorem dL_areRows_107 : decode cL_areRows 107 = .ok (.if_icmp .ge 7, 3) := by decide +kernel
theorem dL_areRows_110 : decode cL_areRows 110 = .ok (.iconst 1, 1) := by decide +kernel
theorem dL_areRows_111 : decode cL_areRows 111 = .ok (.goto 19, 3) := by decide +kernel
theorem dL_areRows_114 : decode cL_areRows 114 = .ok (.iload 5, 2) := by decide +kernel
theorem dL_areRows_116 : decode cL_areRows 116 = .ok (.iload 8, 2) := by decide +kernel
theorem dL_areRows_118 : decode cL_areRows 118 = .ok (.ishr, 1) := by decide +kernel
theorem dL_areRows_119 : decode cL_areRows 119 = .ok (.iconst 1, 1) := by decide +kernel
theorem dL_areRows_120 : decode cL_areRows 120 = .ok (.iand, 1) := by decide +kernel
theorem dL_areRows_121 : decode cL_areRows 121 = .ok (.iconst 1, 1) := by decide +kernel
theorem dL_areRows_122 : decode cL_areRows 122 = .ok (.if_icmp .ne 7, 3) := by decide +kernel
theorem dL_areRows_125 : decode cL_areRows 125 = .ok (.iconst 1, 1) := by decide +kernel
theorem dL_areRows_126 : decode cL_areRows 126 = .ok (.goto 4, 3) := by decide +kernel
theorem dL_areRows_129 : decode cL_areRows 129 = .ok (.iconst 2, 1) := by decide +kernel
theorem dL_areRows_130 : decode cL_areRows 130 = .ok (.if_icmp .ne 7, 3) := by decide +kernel
theorem dL_areRows_133 : decode cL_areRows 133 = .ok (.iconst 1, 1) := by decide +kernel
theorem dL_areRows_134 : decode cL_areRows 134 = .ok (.goto 4, 3) := by decide +kernel
theorem dL_areRows_137 : decode cL_areRows 137 = .ok (.iconst 0, 1) := by decide +kernel
theorem dL_areRows_138 : decode cL_areRows 138 = .ok (.istore 4, 2) := by decide +kernel
theorem dL_areRows_140 : decode cL_areRows 140 = .ok (.iload 5, 2) := by decide +kernel
theorem dL_areRows_142 : decode cL_areRows 142 = .ok (.iload 7, 2) := by decide +kernel
theorem dL_areRows_144 : decode cL_areRows 144 = .ok (.ifCond .lt 17, 3) := by decide +kernel
theorem dL_areRows_147 : decode cL_areRows 147 = .ok (.iload 7, 2) := by decide +kernel
theorem dL_areRows_149 : decode cL_areRows 149 = .ok (.bipush 100, 2) := by decide +kernel
theorem dL_areRows_151 : decode cL_areRows 151 = .ok (.if_icmp .ge 10, 3) := by decide +kernel
theorem dL_areRows_154 : decode cL_areRows 154 = .ok (.iconst 1, 1) := by decide +kernel
theorem dL_areRows_155 : decode cL_areRows 155 = .ok (.iload 7, 2) := by decide +kernel
theorem dL_areRows_157 : decode cL_areRows 157 = .ok (.ishl, 1) := by decide +kernel
theorem dL_areRows_158 : decode cL_areRows 158 = .ok (.goto 4, 3) := by decide +kernel
theorem dL_areRows_161 : decode cL_areRows 161 = .ok (.iconst 0, 1) := by decide +kernel
theorem dL_areRows_162 : decode cL_areRows 162 = .ok (.ior, 1) := by decide +kernel
theorem dL_areRows_163 : decode cL_areRows 163 = .ok (.istore 5, 2) := by decide +kernel
theorem dL_areRows_165 : decode cL_areRows 165 = .ok (.iinc 6 1, 3) := by decide +kernel
theorem dL_areRows_168 : decode cL_areRows 168 = .ok (.goto (-140), 3) := by decide +kernel
theorem dL_areRows_171 : decode cL_areRows 171 = .ok (.iload 4, 2) := by decide +kernel
theorem dL_areRows_173 : decode cL_areRows 173 = .ok (.ifCond .eq 39, 3) := by decide +kernel
theorem dL_areRows_176 : decode cL_areRows 176 = .ok (.iload_n 3, 1) := by decide +kernel
theorem dL_areRows_177 : decode cL_areRows 177 = .ok (.iconst 4, 1) := by decide +kernel
theorem dL_areRows_178 : decode cL_areRows 178 = .ok (.if_icmp .gt 34, 3) := by decide +kernel
theorem dL_areRows_181 : decode cL_areRows 181 = .ok (.iload_n 2, 1) := by decide +kernel
theorem dL_areRows_182 : decode cL_areRows 182 = .ok (.ifCond .ne 7, 3) := by decide +kernel
theorem dL_areRows_185 : decode cL_areRows 185 = .ok (.iconst 1, 1) := by decide +kernel
theorem dL_areRows_186 : decode cL_areRows 186 = .ok (.goto 4, 3) := by decide +kernel
theorem dL_areRows_189 : decode cL_areRows 189 = .ok (.iconst 0, 1) := by decide +kernel
theorem dL_areRows_190 : decode cL_areRows 190 = .ok (.aload_n 0, 1) := by decide +kernel
theorem dL_areRows_191 : decode cL_areRows 191 = .ok (.iload_n 1, 1) := by decide +kernel
theorem dL_areRows_192 : decode cL_areRows 192 = .ok (.iconst 2, 1) := by decide +kernel
theorem dL_areRows_193 : decode cL_areRows 193 = .ok (.invokestatic 92, 3) := by decide +kernel
theorem dL_areRows_196 : decode cL_areRows 196 = .ok (.iconst (-1), 1) := by decide +kernel
theorem dL_areRows_197 : decode cL_areRows 197 = .ok (.if_icmp .ne 7, 3) := by decide +kernel
theorem dL_areRows_200 : decode cL_areRows 200 = .ok (.iconst 1, 1) := by decide +kernel
theorem dL_areRows_201 : decode cL_areRows 201 = .ok (.goto 4, 3) := by decide +kernel
theorem dL_areRows_204 : decode cL_areRows 204 = .ok (.iconst 0, 1) := by decide +kernel
theorem dL_areRows_205 : decode cL_areRows 205 = .ok (.if_icmp .ne 7, 3) := by decide +kernel
theorem dL_areRows_208 : decode cL_areRows 208 = .ok (.iconst 1, 1) := by decide +kernel
theorem dL_areRows_209 : decode cL_areRows 209 = .ok (.goto 4, 3) := by decide +kernel
theorem dL_areRows_212 : decode cL_areRows 212 = .ok (.iconst 0, 1) := by decide +kernel
theorem dL_areRows_213 : decode cL_areRows 213 = .ok (.ireturn, 1) := by decide +kernel
set_option maxRecDepth 20000 in
theorem ggL_isRight_L_driverIs : GoodIn wsL_isRight wsL_driverIs := goodIn_ca (goodIn_ca (goodIn_r _ [4, 5, 6, 7, 8, 9, 10, 11, 12, 13, 14, 15, 16, 17, 18, 19, 20, 21, 22, 23, 24, 25, 26, 27, 28, 29, 30, 31, 32, 33, 34, 97, 98, 99, 100, 101, 102, 103, 104, 105, 106, 107, 108, 109, 110, 111, 112, 113, 114, 115, 116, 117, 118, 119, 120, 121, 122, 123] (by decide +kernel) (by decide +kernel)) (goodIn_sub (fun _ h => List.mem_cons_of_mem _ (List.mem_append_left _ (List.mem_append_right _ h))) (by decide +kernel))) (goodIn_sub (fun _ h => List.mem_cons_of_mem _ (List.mem_append_right _ h)) (by decide +kernel))
set_option maxRecDepth 20000 in
theorem gL_isRight_L_driverIs : GoodIn wsL_isRight (va_wsS RL 92 yL_driverIs wsL_driverIs) := goodIn_app (goodIn_of _ (by decide +kernel)) ggL_isRight_L_driverIs
set_option maxRecDepth 20000 in
theorem ggL_isRight_L_pay : GoodIn wsL_isRight wsL_pay := goodIn_ca (goodIn_r _ [37, 5, 7, 38, 39, 40, 12, 41, 42, 43, 44, 45, 14, 15, 16, 17, 18, 19, 20, 21, 97, 98, 99, 100, 101, 102, 103, 104, 105, 106, 107, 108, 109, 114, 115, 116, 117, 118, 119, 120, 121, 122, 123] (by decide +kernel) (by decide +kernel)) (goodIn_sub (fun _ h => List.mem_cons_of_mem _ (List.mem_append_left _ (List.mem_append_right _ h))) (by decide +kernel))
set_option maxRecDepth 20000 in
theorem gL_isRight_L_pay : GoodIn wsL_isRight (va_wsS RL 102 yL_pay wsL_pay) := goodIn_app (goodIn_of _ (by decide +kernel)) ggL_isRight_L_pay
set_option maxRecDepth 20000 in
theorem ggL_isRight_L_areRows : GoodIn wsL_isRight wsL_areRows := goodIn_ca (goodIn_ca (goodIn_r _ [48, 1, 2, 3, 4, 5, 6, 7, 8, 9, 10, 11, 12, 13, 14, 15, 16, 17, 18, 19, 20, 21, 22, 23, 24, 25, 26, 27, 28, 29, 30, 31, 32, 33, 34, 49, 50, 51, 52, 53, 54, 55, 56, 57, 58, 59, 60, 61, 62, 63, 64, 65, 66, 67, 68, 69, 70, 71, 72, 73, 74, 75, 76, 77, 78, 79, 80, 81, 82, 83, 84, 85, 86, 87, 88, 89, 90, 91, 92, 93, 94, 95, 96, 97, 98, 99, 100, 101, 102, 103, 104, 105, 106, 107, 108, 109, 110, 111, 112, 113, 114, 115, 116, 117, 118, 119, 120, 121, 122, 123, 124, 125, 126, 127, 128, 129, 130, 131, 132, 133, 134, 135] (by decide +kernel) (by decide +kernel)) (goodIn_sub (fun _ h => List.mem_cons_of_mem _ (List.mem_append_left _ (List.mem_append_right _ h))) (by decide +kernel))) (goodIn_sub (fun _ h => List.mem_cons_of_mem _ (List.mem_append_right _ h)) (by decide +kernel))
set_option maxRecDepth 20000 in
theorem gL_isRight_L_areRows : GoodIn wsL_isRight (va_wsS RL 104 yL_areRows wsL_areRows) := goodIn_app (goodIn_of _ (by decide +kernel)) ggL_isRight_L_areRows
theorem dL_isRight_0 : decode cL_isRight 0 = .ok (.aload_n 0, 1) := by decide +kernel
theorem dL_isRight_1 : decode cL_isRight 1 = .ok (.iload_n 2, 1) := by decide +kernel
theorem dL_isRight_2 : decode cL_isRight 2 = .ok (.iconst 2, 1) := by decide +kernel
theorem dL_isRight_3 : decode cL_isRight 3 = .ok (.invokestatic 92, 3) := by decide +kernel
theorem dL_isRight_6 : decode cL_isRight 6 = .ok (.istore 4, 2) := by decide +kernel
theorem dL_isRight_8 : decode cL_isRight 8 = .ok (.aload_n 0, 1) := by decide +kernel
theorem dL_isRight_9 : decode cL_isRight 9 = .ok (.iload_n 2, 1) := by decide +kernel
theorem dL_isRight_10 : decode cL_isRight 10 = .ok (.iconst 4, 1) := by decide +kernel
theorem dL_isRight_11 : decode cL_isRight 11 = .ok (.invokestatic 92, 3) := by decide +kernel
theorem dL_isRight_14 : decode cL_isRight 14 = .ok (.istore 5, 2) := by decide +kernel
theorem dL_isRight_16 : decode cL_isRight 16 = .ok (.aload_n 0, 1) := by decide +kernel
theorem dL_isRight_17 : decode cL_isRight 17 = .ok (.iload_n 2, 1) := by decide +kernel
theorem dL_isRight_18 : decode cL_isRight 18 = .ok (.invokestatic 102, 3) := by decide +kernel
theorem dL_isRight_21 : decode cL_isRight 21 = .ok (.istore 6, 2) := by decide +kernel
theorem dL_isRight_23 : decode cL_isRight 23 = .ok (.aload_n 0, 1) := by decide +kernel
theorem dL_isRight_24 : decode cL_isRight 24 = .ok (.iload_n 2, 1) := by decide +kernel
theorem dL_isRight_25 : decode cL_isRight 25 = .ok (.invokestatic 104, 3) := by decide +kernel
theorem dL_isRight_28 : decode cL_isRight 28 = .ok (.ifCond .eq 85, 3) := by decide +kernel
theorem dL_isRight_31 : decode cL_isRight 31 = .ok (.iload 4, 2) := by decide +kernel
theorem dL_isRight_33 : decode cL_isRight 33 = .ok (.iconst (-1), 1) := by decide +kernel
theorem dL_isRight_34 : decode cL_isRight 34 = .ok (.if_icmp .eq 11, 3) := by decide +kernel
theorem dL_isRight_37 : decode cL_isRight 37 = .ok (.iload 4, 2) := by decide +kernel
theorem dL_isRight_39 : decode cL_isRight 39 = .ok (.aload_n 1, 1) := by decide +kernel
theorem dL_isRight_40 : decode cL_isRight 40 = .ok (.iconst 1, 1) := by decide +kernel
theorem dL_isRight_41 : decode cL_isRight 41 = .ok (.iaload, 1) := by decide +kernel
theorem dL_isRight_42 : decode cL_isRight 42 = .ok (.if_icmp .le 71, 3) := by decide +kernel
theorem dL_isRight_45 : decode cL_isRight 45 = .ok (.iload 5, 2) := by decide +kernel
theorem dL_isRight_47 : decode cL_isRight 47 = .ok (.bipush 100, 2) := by decide +kernel
theorem dL_isRight_49 : decode cL_isRight 49 = .ok (.if_icmp .lt 64, 3) := by decide +kernel
theorem dL_isRight_52 : decode cL_isRight 52 = .ok (.iload 5, 2) := by decide +kernel
theorem dL_isRight_54 : decode cL_isRight 54 = .ok (.sipush 500, 3) := by decide +kernel
theorem dL_isRight_57 : decode cL_isRight 57 = .ok (.if_icmp .gt 56, 3) := by decide +kernel
theorem dL_isRight_60 : decode cL_isRight 60 = .ok (.aload_n 0, 1) := by decide +kernel
theorem dL_isRight_61 : decode cL_isRight 61 = .ok (.iload_n 2, 1) := by decide +kernel
theorem dL_isRight_62 : decode cL_isRight 62 = .ok (.iconst 5, 1) := by decide +kernel
theorem dL_isRight_63 : decode cL_isRight 63 = .ok (.invokestatic 92, 3) := by decide +kernel
theorem dL_isRight_66 : decode cL_isRight 66 = .ok (.aload_n 1, 1) := by decide +kernel
theorem dL_isRight_67 : decode cL_isRight 67 = .ok (.iconst 1, 1) := by decide +kernel
theorem dL_isRight_68 : decode cL_isRight 68 = .ok (.iaload, 1) := by decide +kernel
theorem dL_isRight_69 : decode cL_isRight 69 = .ok (.if_icmp .gt 44, 3) := by decide +kernel
theorem dL_isRight_72 : decode cL_isRight 72 = .ok (.iload 6, 2) := by decide +kernel
theorem dL_isRight_74 : decode cL_isRight 74 = .ok (.aload_n 3, 1) := by decide +kernel
theorem dL_isRight_75 : decode cL_isRight 75 = .ok (.iload_n 2, 1) := by decide +kernel
theorem dL_isRight_76 : decode cL_isRight 76 = .ok (.iaload, 1) := by decide +kernel
theorem dL_isRight_77 : decode cL_isRight 77 = .ok (.if_icmp .lt 36, 3) := by decide +kernel
theorem dL_isRight_80 : decode cL_isRight 80 = .ok (.iload 6, 2) := by decide +kernel
theorem dL_isRight_82 : decode cL_isRight 82 = .ok (.bipush 30, 2) := by decide +kernel
theorem dL_isRight_84 : decode cL_isRight 84 = .ok (.aload_n 0, 1) := by decide +kernel
theorem dL_isRight_85 : decode cL_isRight 85 = .ok (.iload_n 2, 1) := by decide +kernel
theorem dL_isRight_86 : decode cL_isRight 86 = .ok (.iconst 5, 1) := by decide +kernel
