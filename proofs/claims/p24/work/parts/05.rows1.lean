set_option maxRecDepth 20000 in
theorem ggX0_init_X0_measure : GoodIn wsX0_init wsX0_measure := goodIn_r _ [14, 9, 15, 16, 7, 5, 6, 17, 18, 19, 20, 21, 22, 23, 13, 24, 25, 26, 27, 28, 29] (by decide +kernel) (by decide +kernel)
set_option maxRecDepth 20000 in
theorem gX0_init_X0_measure : GoodIn wsX0_init (wsV RX0 26 RX0 yX0_measure wsX0_measure) := goodIn_app (goodIn_of _ (by decide +kernel)) ggX0_init_X0_measure
theorem dX0_init_0 : decode cX0_init 0 = .ok (.aload_n 0, 1) := by decide +kernel
theorem dX0_init_1 : decode cX0_init 1 = .ok (.invokespecial 3, 3) := by decide +kernel
theorem dX0_init_4 : decode cX0_init 4 = .ok (.aload_n 0, 1) := by decide +kernel
theorem dX0_init_5 : decode cX0_init 5 = .ok (.bipush 20, 2) := by decide +kernel
theorem dX0_init_7 : decode cX0_init 7 = .ok (.newarray .int, 2) := by decide +kernel
theorem dX0_init_9 : decode cX0_init 9 = .ok (.putfield 11, 3) := by decide +kernel
theorem dX0_init_12 : decode cX0_init 12 = .ok (.aload_n 0, 1) := by decide +kernel
theorem dX0_init_13 : decode cX0_init 13 = .ok (.bipush 20, 2) := by decide +kernel
theorem dX0_init_15 : decode cX0_init 15 = .ok (.newarray .int, 2) := by decide +kernel
theorem dX0_init_17 : decode cX0_init 17 = .ok (.putfield 15, 3) := by decide +kernel
theorem dX0_init_20 : decode cX0_init 20 = .ok (.aload_n 0, 1) := by decide +kernel
theorem dX0_init_21 : decode cX0_init 21 = .ok (.bipush 20, 2) := by decide +kernel
theorem dX0_init_23 : decode cX0_init 23 = .ok (.newarray .int, 2) := by decide +kernel
theorem dX0_init_25 : decode cX0_init 25 = .ok (.putfield 18, 3) := by decide +kernel
theorem dX0_init_28 : decode cX0_init 28 = .ok (.aload_n 0, 1) := by decide +kernel
theorem dX0_init_29 : decode cX0_init 29 = .ok (.bipush 10, 2) := by decide +kernel
theorem dX0_init_31 : decode cX0_init 31 = .ok (.bipush 10, 2) := by decide +kernel
theorem dX0_init_33 : decode cX0_init 33 = .ok (.multianewarray 21 2, 4) := by decide +kernel
theorem dX0_init_37 : decode cX0_init 37 = .ok (.putfield 23, 3) := by decide +kernel
theorem dX0_init_40 : decode cX0_init 40 = .ok (.aload_n 0, 1) := by decide +kernel
theorem dX0_init_41 : decode cX0_init 41 = .ok (.invokevirtual 26, 3) := by decide +kernel
theorem dX0_init_44 : decode cX0_init 44 = .ok (.return_, 1) := by decide +kernel
theorem dX0_isPlace_0 : decode cX0_isPlace 0 = .ok (.iload_n 0, 1) := by decide +kernel
theorem dX0_isPlace_1 : decode cX0_isPlace 1 = .ok (.ifCond .lt 13, 3) := by decide +kernel
theorem dX0_isPlace_4 : decode cX0_isPlace 4 = .ok (.iload_n 0, 1) := by decide +kernel
theorem dX0_isPlace_5 : decode cX0_isPlace 5 = .ok (.bipush 10, 2) := by decide +kernel
theorem dX0_isPlace_7 : decode cX0_isPlace 7 = .ok (.if_icmp .ge 7, 3) := by decide +kernel
theorem dX0_isPlace_10 : decode cX0_isPlace 10 = .ok (.iconst 1, 1) := by decide +kernel
theorem dX0_isPlace_11 : decode cX0_isPlace 11 = .ok (.goto 4, 3) := by decide +kernel
theorem dX0_isPlace_14 : decode cX0_isPlace 14 = .ok (.iconst 0, 1) := by decide +kernel
theorem dX0_isPlace_15 : decode cX0_isPlace 15 = .ok (.ireturn, 1) := by decide +kernel
set_option maxRecDepth 20000 in
theorem ggX0_addStreet_X0_measure : GoodIn wsX0_addStreet wsX0_measure := goodIn_r _ [9, 10, 11, 1, 4, 2, 3, 12, 13, 14, 15, 16, 17, 18, 8, 19, 20, 21, 22, 23, 24] (by decide +kernel) (by decide +kernel)
set_option maxRecDepth 20000 in
theorem gX0_addStreet_X0_measure : GoodIn wsX0_addStreet (wsV RX0 26 RX0 yX0_measure wsX0_measure) := goodIn_app (goodIn_of _ (by decide +kernel)) ggX0_addStreet_X0_measure
theorem dX0_addStreet_0 : decode cX0_addStreet 0 = .ok (.aload_n 0, 1) := by decide +kernel
theorem dX0_addStreet_1 : decode cX0_addStreet 1 = .ok (.getfield 29, 3) := by decide +kernel
theorem dX0_addStreet_4 : decode cX0_addStreet 4 = .ok (.istore 4, 2) := by decide +kernel
theorem dX0_addStreet_6 : decode cX0_addStreet 6 = .ok (.aload_n 0, 1) := by decide +kernel
theorem dX0_addStreet_7 : decode cX0_addStreet 7 = .ok (.getfield 11, 3) := by decide +kernel
theorem dX0_addStreet_10 : decode cX0_addStreet 10 = .ok (.iload 4, 2) := by decide +kernel
theorem dX0_addStreet_12 : decode cX0_addStreet 12 = .ok (.iload_n 1, 1) := by decide +kernel
theorem dX0_addStreet_13 : decode cX0_addStreet 13 = .ok (.iastore, 1) := by decide +kernel
theorem dX0_addStreet_14 : decode cX0_addStreet 14 = .ok (.aload_n 0, 1) := by decide +kernel
theorem dX0_addStreet_15 : decode cX0_addStreet 15 = .ok (.getfield 15, 3) := by decide +kernel
theorem dX0_addStreet_18 : decode cX0_addStreet 18 = .ok (.iload 4, 2) := by decide +kernel
theorem dX0_addStreet_20 : decode cX0_addStreet 20 = .ok (.iload_n 2, 1) := by decide +kernel
theorem dX0_addStreet_21 : decode cX0_addStreet 21 = .ok (.iastore, 1) := by decide +kernel
theorem dX0_addStreet_22 : decode cX0_addStreet 22 = .ok (.aload_n 0, 1) := by decide +kernel
theorem dX0_addStreet_23 : decode cX0_addStreet 23 = .ok (.getfield 18, 3) := by decide +kernel
theorem dX0_addStreet_26 : decode cX0_addStreet 26 = .ok (.iload 4, 2) := by decide +kernel
theorem dX0_addStreet_28 : decode cX0_addStreet 28 = .ok (.iload_n 3, 1) := by decide +kernel
theorem dX0_addStreet_29 : decode cX0_addStreet 29 = .ok (.iastore, 1) := by decide +kernel
theorem dX0_addStreet_30 : decode cX0_addStreet 30 = .ok (.aload_n 0, 1) := by decide +kernel
theorem dX0_addStreet_31 : decode cX0_addStreet 31 = .ok (.dup, 1) := by decide +kernel
theorem dX0_addStreet_32 : decode cX0_addStreet 32 = .ok (.getfield 29, 3) := by decide +kernel
theorem dX0_addStreet_35 : decode cX0_addStreet 35 = .ok (.iconst 1, 1) := by decide +kernel
theorem dX0_addStreet_36 : decode cX0_addStreet 36 = .ok (.iadd, 1) := by decide +kernel
theorem dX0_addStreet_37 : decode cX0_addStreet 37 = .ok (.putfield 29, 3) := by decide +kernel
theorem dX0_addStreet_40 : decode cX0_addStreet 40 = .ok (.aload_n 0, 1) := by decide +kernel
theorem dX0_addStreet_41 : decode cX0_addStreet 41 = .ok (.invokevirtual 26, 3) := by decide +kernel
theorem dX0_addStreet_44 : decode cX0_addStreet 44 = .ok (.iload 4, 2) := by decide +kernel
theorem dX0_addStreet_46 : decode cX0_addStreet 46 = .ok (.ireturn, 1) := by decide +kernel
set_option maxRecDepth 20000 in
theorem ggX0_changeStreet_X0_measure : GoodIn wsX0_changeStreet wsX0_measure := goodIn_r _ [6, 7, 8, 9, 1, 10, 11, 12, 13, 14, 15, 16, 17, 18, 5, 19, 20, 21, 22, 23, 24] (by decide +kernel) (by decide +kernel)
set_option maxRecDepth 20000 in
theorem gX0_changeStreet_X0_measure : GoodIn wsX0_changeStreet (wsV RX0 26 RX0 yX0_measure wsX0_measure) := goodIn_app (goodIn_of _ (by decide +kernel)) ggX0_changeStreet_X0_measure
theorem dX0_changeStreet_0 : decode cX0_changeStreet 0 = .ok (.aload_n 0, 1) := by decide +kernel
theorem dX0_changeStreet_1 : decode cX0_changeStreet 1 = .ok (.getfield 18, 3) := by decide +kernel
theorem dX0_changeStreet_4 : decode cX0_changeStreet 4 = .ok (.iload_n 1, 1) := by decide +kernel
theorem dX0_changeStreet_5 : decode cX0_changeStreet 5 = .ok (.iaload, 1) := by decide +kernel
theorem dX0_changeStreet_6 : decode cX0_changeStreet 6 = .ok (.istore_n 3, 1) := by decide +kernel
theorem dX0_changeStreet_7 : decode cX0_changeStreet 7 = .ok (.aload_n 0, 1) := by decide +kernel
theorem dX0_changeStreet_8 : decode cX0_changeStreet 8 = .ok (.getfield 18, 3) := by decide +kernel
theorem dX0_changeStreet_11 : decode cX0_changeStreet 11 = .ok (.iload_n 1, 1) := by decide +kernel
theorem dX0_changeStreet_12 : decode cX0_changeStreet 12 = .ok (.iload_n 2, 1) := by decide +kernel
theorem dX0_changeStreet_13 : decode cX0_changeStreet 13 = .ok (.iastore, 1) := by decide +kernel
theorem dX0_changeStreet_14 : decode cX0_changeStreet 14 = .ok (.aload_n 0, 1) := by decide +kernel
theorem dX0_changeStreet_15 : decode cX0_changeStreet 15 = .ok (.invokevirtual 26, 3) := by decide +kernel
theorem dX0_changeStreet_18 : decode cX0_changeStreet 18 = .ok (.iload_n 3, 1) := by decide +kernel
theorem dX0_changeStreet_19 : decode cX0_changeStreet 19 = .ok (.ireturn, 1) := by decide +kernel
set_option maxRecDepth 20000 in
theorem ggX0_minutesBetween_X0_isPlace : GoodIn wsX0_minutesBetween wsX0_isPlace := goodIn_r _ [6] (by decide +kernel) (by decide +kernel)
set_option maxRecDepth 20000 in
theorem gX0_minutesBetween_X0_isPlace : GoodIn wsX0_minutesBetween (va_wsS RX0 33 yX0_isPlace wsX0_isPlace) := goodIn_app (goodIn_of _ (by decide +kernel)) ggX0_minutesBetween_X0_isPlace
theorem dX0_minutesBetween_0 : decode cX0_minutesBetween 0 = .ok (.iload_n 1, 1) := by decide +kernel
theorem dX0_minutesBetween_1 : decode cX0_minutesBetween 1 = .ok (.invokestatic 33, 3) := by decide +kernel
theorem dX0_minutesBetween_4 : decode cX0_minutesBetween 4 = .ok (.ifCond .eq 23, 3) := by decide +kernel
theorem dX0_minutesBetween_7 : decode cX0_minutesBetween 7 = .ok (.iload_n 2, 1) := by decide +kernel
theorem dX0_minutesBetween_8 : decode cX0_minutesBetween 8 = .ok (.invokestatic 33, 3) := by decide +kernel
theorem dX0_minutesBetween_11 : decode cX0_minutesBetween 11 = .ok (.ifCond .eq 16, 3) := by decide +kernel
theorem dX0_minutesBetween_14 : decode cX0_minutesBetween 14 = .ok (.aload_n 0, 1) := by decide +kernel
theorem dX0_minutesBetween_15 : decode cX0_minutesBetween 15 = .ok (.getfield 23, 3) := by decide +kernel
theorem dX0_minutesBetween_18 : decode cX0_minutesBetween 18 = .ok (.iload_n 1, 1) := by decide +kernel
theorem dX0_minutesBetween_19 : decode cX0_minutesBetween 19 = .ok (.aaload, 1) := by decide +kernel
theorem dX0_minutesBetween_20 : decode cX0_minutesBetween 20 = .ok (.iload_n 2, 1) := by decide +kernel
theorem dX0_minutesBetween_21 : decode cX0_minutesBetween 21 = .ok (.iaload, 1) := by decide +kernel
theorem dX0_minutesBetween_22 : decode cX0_minutesBetween 22 = .ok (.ldc 37, 2) := by decide +kernel
theorem dX0_minutesBetween_24 : decode cX0_minutesBetween 24 = .ok (.if_icmp .lt 5, 3) := by decide +kernel
theorem dX0_minutesBetween_27 : decode cX0_minutesBetween 27 = .ok (.iconst (-1), 1) := by decide +kernel
theorem dX0_minutesBetween_28 : decode cX0_minutesBetween 28 = .ok (.ireturn, 1) := by decide +kernel
theorem dX0_minutesBetween_29 : decode cX0_minutesBetween 29 = .ok (.aload_n 0, 1) := by decide +kernel
theorem dX0_minutesBetween_30 : decode cX0_minutesBetween 30 = .ok (.getfield 23, 3) := by decide +kernel
theorem dX0_minutesBetween_33 : decode cX0_minutesBetween 33 = .ok (.iload_n 1, 1) := by decide +kernel
theorem dX0_minutesBetween_34 : decode cX0_minutesBetween 34 = .ok (.aaload, 1) := by decide +kernel
theorem dX0_minutesBetween_35 : decode cX0_minutesBetween 35 = .ok (.iload_n 2, 1) := by decide +kernel
theorem dX0_minutesBetween_36 : decode cX0_minutesBetween 36 = .ok (.iaload, 1) := by decide +kernel
theorem dX0_minutesBetween_37 : decode cX0_minutesBetween 37 = .ok (.ireturn, 1) := by decide +kernel
set_option maxRecDepth 20000 in
theorem ggX0_promiseOf_X0_minutesBetween : GoodIn wsX0_promiseOf wsX0_minutesBetween := goodIn_r _ [5, 6, 7, 8, 9, 4, 10, 23, 24, 25, 26, 27] (by decide +kernel) (by decide +kernel)
set_option maxRecDepth 20000 in
theorem gX0_promiseOf_X0_minutesBetween : GoodIn wsX0_promiseOf (wsV RX0 46 RX0 yX0_minutesBetween wsX0_minutesBetween) := goodIn_app (goodIn_of _ (by decide +kernel)) ggX0_promiseOf_X0_minutesBetween
theorem dX0_promiseOf_0 : decode cX0_promiseOf 0 = .ok (.iload_n 2, 1) := by decide +kernel
theorem dX0_promiseOf_1 : decode cX0_promiseOf 1 = .ok (.aload_n 0, 1) := by decide +kernel
theorem dX0_promiseOf_2 : decode cX0_promiseOf 2 = .ok (.aload_n 1, 1) := by decide +kernel
theorem dX0_promiseOf_3 : decode cX0_promiseOf 3 = .ok (.getfield 38, 3) := by decide +kernel
theorem dX0_promiseOf_6 : decode cX0_promiseOf 6 = .ok (.aload_n 1, 1) := by decide +kernel
theorem dX0_promiseOf_7 : decode cX0_promiseOf 7 = .ok (.getfield 43, 3) := by decide +kernel
theorem dX0_promiseOf_10 : decode cX0_promiseOf 10 = .ok (.invokevirtual 46, 3) := by decide +kernel
theorem dX0_promiseOf_13 : decode cX0_promiseOf 13 = .ok (.iconst 3, 1) := by decide +kernel
theorem dX0_promiseOf_14 : decode cX0_promiseOf 14 = .ok (.imul, 1) := by decide +kernel
theorem dX0_promiseOf_15 : decode cX0_promiseOf 15 = .ok (.iconst 2, 1) := by decide +kernel
theorem dX0_promiseOf_16 : decode cX0_promiseOf 16 = .ok (.idiv, 1) := by decide +kernel
theorem dX0_promiseOf_17 : decode cX0_promiseOf 17 = .ok (.iadd, 1) := by decide +kernel
theorem dX0_promiseOf_18 : decode cX0_promiseOf 18 = .ok (.ireturn, 1) := by decide +kernel
set_option maxRecDepth 20000 in
theorem ggX0_measure_X0_goOver : GoodIn wsX0_measure wsX0_goOver := goodIn_r _ [15, 1, 7, 8, 9, 10, 16, 17, 18, 19, 20] (by decide +kernel) (by decide +kernel)
set_option maxRecDepth 20000 in
theorem gX0_measure_X0_goOver : GoodIn wsX0_measure (wsV RX0 55 RX0 yX0_goOver wsX0_goOver) := goodIn_app (goodIn_of _ (by decide +kernel)) ggX0_measure_X0_goOver
theorem dX0_measure_0 : decode cX0_measure 0 = .ok (.iconst 0, 1) := by decide +kernel
theorem dX0_measure_1 : decode cX0_measure 1 = .ok (.istore_n 1, 1) := by decide +kernel
theorem dX0_measure_2 : decode cX0_measure 2 = .ok (.iload_n 1, 1) := by decide +kernel
theorem dX0_measure_3 : decode cX0_measure 3 = .ok (.bipush 10, 2) := by decide +kernel
theorem dX0_measure_5 : decode cX0_measure 5 = .ok (.if_icmp .ge 42, 3) := by decide +kernel
theorem dX0_measure_8 : decode cX0_measure 8 = .ok (.iconst 0, 1) := by decide +kernel
theorem dX0_measure_9 : decode cX0_measure 9 = .ok (.istore_n 2, 1) := by decide +kernel
theorem dX0_measure_10 : decode cX0_measure 10 = .ok (.iload_n 2, 1) := by decide +kernel
theorem dX0_measure_11 : decode cX0_measure 11 = .ok (.bipush 10, 2) := by decide +kernel
theorem dX0_measure_13 : decode cX0_measure 13 = .ok (.if_icmp .ge 28, 3) := by decide +kernel
theorem dX0_measure_16 : decode cX0_measure 16 = .ok (.aload_n 0, 1) := by decide +kernel
theorem dX0_measure_17 : decode cX0_measure 17 = .ok (.getfield 23, 3) := by decide +kernel
theorem dX0_measure_20 : decode cX0_measure 20 = .ok (.iload_n 1, 1) := by decide +kernel
theorem dX0_measure_21 : decode cX0_measure 21 = .ok (.aaload, 1) := by decide +kernel
theorem dX0_measure_22 : decode cX0_measure 22 = .ok (.iload_n 2, 1) := by decide +kernel
theorem dX0_measure_23 : decode cX0_measure 23 = .ok (.iload_n 1, 1) := by decide +kernel
theorem dX0_measure_24 : decode cX0_measure 24 = .ok (.iload_n 2, 1) := by decide +kernel
theorem dX0_measure_25 : decode cX0_measure 25 = .ok (.if_icmp .ne 7, 3) := by decide +kernel
theorem dX0_measure_28 : decode cX0_measure 28 = .ok (.iconst 0, 1) := by decide +kernel
theorem dX0_measure_29 : decode cX0_measure 29 = .ok (.goto 5, 3) := by decide +kernel
theorem dX0_measure_32 : decode cX0_measure 32 = .ok (.ldc 37, 2) := by decide +kernel
theorem dX0_measure_34 : decode cX0_measure 34 = .ok (.iastore, 1) := by decide +kernel
theorem dX0_measure_35 : decode cX0_measure 35 = .ok (.iinc 2 1, 3) := by decide +kernel
theorem dX0_measure_38 : decode cX0_measure 38 = .ok (.goto (-28), 3) := by decide +kernel
theorem dX0_measure_41 : decode cX0_measure 41 = .ok (.iinc 1 1, 3) := by decide +kernel
theorem dX0_measure_44 : decode cX0_measure 44 = .ok (.goto (-42), 3) := by decide +kernel
theorem dX0_measure_47 : decode cX0_measure 47 = .ok (.iconst 0, 1) := by decide +kernel
theorem dX0_measure_48 : decode cX0_measure 48 = .ok (.istore_n 1, 1) := by decide +kernel
theorem dX0_measure_49 : decode cX0_measure 49 = .ok (.iload_n 1, 1) := by decide +kernel
theorem dX0_measure_50 : decode cX0_measure 50 = .ok (.aload_n 0, 1) := by decide +kernel
theorem dX0_measure_51 : decode cX0_measure 51 = .ok (.getfield 29, 3) := by decide +kernel
theorem dX0_measure_54 : decode cX0_measure 54 = .ok (.if_icmp .ge 75, 3) := by decide +kernel
theorem dX0_measure_57 : decode cX0_measure 57 = .ok (.aload_n 0, 1) := by decide +kernel
theorem dX0_measure_58 : decode cX0_measure 58 = .ok (.getfield 18, 3) := by decide +kernel
theorem dX0_measure_61 : decode cX0_measure 61 = .ok (.iload_n 1, 1) := by decide +kernel
theorem dX0_measure_62 : decode cX0_measure 62 = .ok (.iaload, 1) := by decide +kernel
theorem dX0_measure_63 : decode cX0_measure 63 = .ok (.aload_n 0, 1) := by decide +kernel
theorem dX0_measure_64 : decode cX0_measure 64 = .ok (.getfield 23, 3) := by decide +kernel
theorem dX0_measure_67 : decode cX0_measure 67 = .ok (.aload_n 0, 1) := by decide +kernel
theorem dX0_measure_68 : decode cX0_measure 68 = .ok (.getfield 11, 3) := by decide +kernel
theorem dX0_measure_71 : decode cX0_measure 71 = .ok (.iload_n 1, 1) := by decide +kernel
theorem dX0_measure_72 : decode cX0_measure 72 = .ok (.iaload, 1) := by decide +kernel
theorem dX0_measure_73 : decode cX0_measure 73 = .ok (.aaload, 1) := by decide +kernel
theorem dX0_measure_74 : decode cX0_measure 74 = .ok (.aload_n 0, 1) := by decide +kernel
theorem dX0_measure_75 : decode cX0_measure 75 = .ok (.getfield 15, 3) := by decide +kernel
theorem dX0_measure_78 : decode cX0_measure 78 = .ok (.iload_n 1, 1) := by decide +kernel
theorem dX0_measure_79 : decode cX0_measure 79 = .ok (.iaload, 1) := by decide +kernel
theorem dX0_measure_80 : decode cX0_measure 80 = .ok (.iaload, 1) := by decide +kernel
theorem dX0_measure_81 : decode cX0_measure 81 = .ok (.invokestatic 50, 3) := by decide +kernel
theorem dX0_measure_84 : decode cX0_measure 84 = .ok (.istore_n 2, 1) := by decide +kernel
theorem dX0_measure_85 : decode cX0_measure 85 = .ok (.aload_n 0, 1) := by decide +kernel
theorem dX0_measure_86 : decode cX0_measure 86 = .ok (.getfield 23, 3) := by decide +kernel
theorem dX0_measure_89 : decode cX0_measure 89 = .ok (.aload_n 0, 1) := by decide +kernel
theorem dX0_measure_90 : decode cX0_measure 90 = .ok (.getfield 11, 3) := by decide +kernel
theorem dX0_measure_93 : decode cX0_measure 93 = .ok (.iload_n 1, 1) := by decide +kernel
theorem dX0_measure_94 : decode cX0_measure 94 = .ok (.iaload, 1) := by decide +kernel
theorem dX0_measure_95 : decode cX0_measure 95 = .ok (.aaload, 1) := by decide +kernel
theorem dX0_measure_96 : decode cX0_measure 96 = .ok (.aload_n 0, 1) := by decide +kernel
theorem dX0_measure_97 : decode cX0_measure 97 = .ok (.getfield 15, 3) := by decide +kernel
theorem dX0_measure_100 : decode cX0_measure 100 = .ok (.iload_n 1, 1) := by decide +kernel
theorem dX0_measure_101 : decode cX0_measure 101 = .ok (.iaload, 1) := by decide +kernel
theorem dX0_measure_102 : decode cX0_measure 102 = .ok (.iload_n 2, 1) := by decide +kernel
theorem dX0_measure_103 : decode cX0_measure 103 = .ok (.iastore, 1) := by decide +kernel
theorem dX0_measure_104 : decode cX0_measure 104 = .ok (.aload_n 0, 1) := by decide +kernel
theorem dX0_measure_105 : decode cX0_measure 105 = .ok (.getfield 23, 3) := by decide +kernel
theorem dX0_measure_108 : decode cX0_measure 108 = .ok (.aload_n 0, 1) := by decide +kernel
theorem dX0_measure_109 : decode cX0_measure 109 = .ok (.getfield 15, 3) := by decide +kernel
theorem dX0_measure_112 : decode cX0_measure 112 = .ok (.iload_n 1, 1) := by decide +kernel
theorem dX0_measure_113 : decode cX0_measure 113 = .ok (.iaload, 1) := by decide +kernel
theorem dX0_measure_114 : decode cX0_measure 114 = .ok (.aaload, 1) := by decide +kernel
theorem dX0_measure_115 : decode cX0_measure 115 = .ok (.aload_n 0, 1) := by decide +kernel
theorem dX0_measure_116 : decode cX0_measure 116 = .ok (.getfield 11, 3) := by decide +kernel
theorem dX0_measure_119 : decode cX0_measure 119 = .ok (.iload_n 1, 1) := by decide +kernel
theorem dX0_measure_120 : decode cX0_measure 120 = .ok (.iaload, 1) := by decide +kernel
theorem dX0_measure_121 : decode cX0_measure 121 = .ok (.iload_n 2, 1) := by decide +kernel
theorem dX0_measure_122 : decode cX0_measure 122 = .ok (.iastore, 1) := by decide +kernel
theorem dX0_measure_123 : decode cX0_measure 123 = .ok (.iinc 1 1, 3) := by decide +kernel
theorem dX0_measure_126 : decode cX0_measure 126 = .ok (.goto (-77), 3) := by decide +kernel
theorem dX0_measure_129 : decode cX0_measure 129 = .ok (.iconst 0, 1) := by decide +kernel
theorem dX0_measure_130 : decode cX0_measure 130 = .ok (.istore_n 1, 1) := by decide +kernel
theorem dX0_measure_131 : decode cX0_measure 131 = .ok (.iload_n 1, 1) := by decide +kernel
theorem dX0_measure_132 : decode cX0_measure 132 = .ok (.bipush 10, 2) := by decide +kernel
theorem dX0_measure_134 : decode cX0_measure 134 = .ok (.if_icmp .ge 14, 3) := by decide +kernel
theorem dX0_measure_137 : decode cX0_measure 137 = .ok (.aload_n 0, 1) := by decide +kernel
theorem dX0_measure_138 : decode cX0_measure 138 = .ok (.iload_n 1, 1) := by decide +kernel
theorem dX0_measure_139 : decode cX0_measure 139 = .ok (.invokevirtual 55, 3) := by decide +kernel
theorem dX0_measure_142 : decode cX0_measure 142 = .ok (.iinc 1 1, 3) := by decide +kernel
theorem dX0_measure_145 : decode cX0_measure 145 = .ok (.goto (-14), 3) := by decide +kernel
theorem dX0_measure_148 : decode cX0_measure 148 = .ok (.return_, 1) := by decide +kernel
theorem dX0_goOver_0 : decode cX0_goOver 0 = .ok (.iconst 0, 1) := by decide +kernel
theorem dX0_goOver_1 : decode cX0_goOver 1 = .ok (.istore_n 2, 1) := by decide +kernel
theorem dX0_goOver_2 : decode cX0_goOver 2 = .ok (.iload_n 2, 1) := by decide +kernel
theorem dX0_goOver_3 : decode cX0_goOver 3 = .ok (.bipush 10, 2) := by decide +kernel
theorem dX0_goOver_5 : decode cX0_goOver 5 = .ok (.if_icmp .ge 59, 3) := by decide +kernel
theorem dX0_goOver_8 : decode cX0_goOver 8 = .ok (.iconst 0, 1) := by decide +kernel
theorem dX0_goOver_9 : decode cX0_goOver 9 = .ok (.istore_n 3, 1) := by decide +kernel
theorem dX0_goOver_10 : decode cX0_goOver 10 = .ok (.iload_n 3, 1) := by decide +kernel
theorem dX0_goOver_11 : decode cX0_goOver 11 = .ok (.bipush 10, 2) := by decide +kernel
theorem dX0_goOver_13 : decode cX0_goOver 13 = .ok (.if_icmp .ge 45, 3) := by decide +kernel
theorem dX0_goOver_16 : decode cX0_goOver 16 = .ok (.aload_n 0, 1) := by decide +kernel
theorem dX0_goOver_17 : decode cX0_goOver 17 = .ok (.getfield 23, 3) := by decide +kernel
theorem dX0_goOver_20 : decode cX0_goOver 20 = .ok (.iload_n 2, 1) := by decide +kernel
theorem dX0_goOver_21 : decode cX0_goOver 21 = .ok (.aaload, 1) := by decide +kernel
theorem dX0_goOver_22 : decode cX0_goOver 22 = .ok (.iload_n 3, 1) := by decide +kernel
theorem dX0_goOver_23 : decode cX0_goOver 23 = .ok (.aload_n 0, 1) := by decide +kernel
theorem dX0_goOver_24 : decode cX0_goOver 24 = .ok (.getfield 23, 3) := by decide +kernel
theorem dX0_goOver_27 : decode cX0_goOver 27 = .ok (.iload_n 2, 1) := by decide +kernel
theorem dX0_goOver_28 : decode cX0_goOver 28 = .ok (.aaload, 1) := by decide +kernel
theorem dX0_goOver_29 : decode cX0_goOver 29 = .ok (.iload_n 3, 1) := by decide +kernel
theorem dX0_goOver_30 : decode cX0_goOver 30 = .ok (.iaload, 1) := by decide +kernel
theorem dX0_goOver_31 : decode cX0_goOver 31 = .ok (.aload_n 0, 1) := by decide +kernel
theorem dX0_goOver_32 : decode cX0_goOver 32 = .ok (.getfield 23, 3) := by decide +kernel
theorem dX0_goOver_35 : decode cX0_goOver 35 = .ok (.iload_n 2, 1) := by decide +kernel
theorem dX0_goOver_36 : decode cX0_goOver 36 = .ok (.aaload, 1) := by decide +kernel
theorem dX0_goOver_37 : decode cX0_goOver 37 = .ok (.iload_n 1, 1) := by decide +kernel
theorem dX0_goOver_38 : decode cX0_goOver 38 = .ok (.iaload, 1) := by decide +kernel
theorem dX0_goOver_39 : decode cX0_goOver 39 = .ok (.aload_n 0, 1) := by decide +kernel
theorem dX0_goOver_40 : decode cX0_goOver 40 = .ok (.getfield 23, 3) := by decide +kernel
theorem dX0_goOver_43 : decode cX0_goOver 43 = .ok (.iload_n 1, 1) := by decide +kernel
theorem dX0_goOver_44 : decode cX0_goOver 44 = .ok (.aaload, 1) := by decide +kernel
theorem dX0_goOver_45 : decode cX0_goOver 45 = .ok (.iload_n 3, 1) := by decide +kernel
theorem dX0_goOver_46 : decode cX0_goOver 46 = .ok (.iaload, 1) := by decide +kernel
theorem dX0_goOver_47 : decode cX0_goOver 47 = .ok (.iadd, 1) := by decide +kernel
theorem dX0_goOver_48 : decode cX0_goOver 48 = .ok (.invokestatic 50, 3) := by decide +kernel
theorem dX0_goOver_51 : decode cX0_goOver 51 = .ok (.iastore, 1) := by decide +kernel
theorem dX0_goOver_52 : decode cX0_goOver 52 = .ok (.iinc 3 1, 3) := by decide +kernel
theorem dX0_goOver_55 : decode cX0_goOver 55 = .ok (.goto (-45), 3) := by decide +kernel
theorem dX0_goOver_58 : decode cX0_goOver 58 = .ok (.iinc 2 1, 3) := by decide +kernel
theorem dX0_goOver_61 : decode cX0_goOver 61 = .ok (.goto (-59), 3) := by decide +kernel
theorem dX0_goOver_64 : decode cX0_goOver 64 = .ok (.return_, 1) := by decide +kernel
set_option maxRecDepth 20000 in
theorem ggX1_init_X4_init : GoodIn wsX1_init wsX4_init := goodIn_r _ [15, 16, 2, 3, 10, 17, 18, 19, 20, 21, 35, 36, 37, 38] (by decide +kernel) (by decide +kernel)
set_option maxRecDepth 20000 in
theorem gX1_init_X4_init : GoodIn wsX1_init (wsX4_init) := ggX1_init_X4_init
theorem dX1_init_0 : decode cX1_init 0 = .ok (.aload_n 0, 1) := by decide +kernel
theorem dX1_init_1 : decode cX1_init 1 = .ok (.invokespecial 1, 3) := by decide +kernel
theorem dX1_init_4 : decode cX1_init 4 = .ok (.aload_n 0, 1) := by decide +kernel
theorem dX1_init_5 : decode cX1_init 5 = .ok (.iload_n 1, 1) := by decide +kernel
theorem dX1_init_6 : decode cX1_init 6 = .ok (.putfield 7, 3) := by decide +kernel
theorem dX1_init_9 : decode cX1_init 9 = .ok (.aload_n 0, 1) := by decide +kernel
theorem dX1_init_10 : decode cX1_init 10 = .ok (.iload_n 2, 1) := by decide +kernel
theorem dX1_init_11 : decode cX1_init 11 = .ok (.putfield 13, 3) := by decide +kernel
theorem dX1_init_14 : decode cX1_init 14 = .ok (.aload_n 0, 1) := by decide +kernel
theorem dX1_init_15 : decode cX1_init 15 = .ok (.new 16, 3) := by decide +kernel
theorem dX1_init_18 : decode cX1_init 18 = .ok (.dup, 1) := by decide +kernel
theorem dX1_init_19 : decode cX1_init 19 = .ok (.invokespecial 18, 3) := by decide +kernel
theorem dX1_init_22 : decode cX1_init 22 = .ok (.putfield 19, 3) := by decide +kernel
theorem dX1_init_25 : decode cX1_init 25 = .ok (.aload_n 0, 1) := by decide +kernel
theorem dX1_init_26 : decode cX1_init 26 = .ok (.bipush 10, 2) := by decide +kernel
theorem dX1_init_28 : decode cX1_init 28 = .ok (.newarray .int, 2) := by decide +kernel
theorem dX1_init_30 : decode cX1_init 30 = .ok (.putfield 23, 3) := by decide +kernel
theorem dX1_init_33 : decode cX1_init 33 = .ok (.aload_n 0, 1) := by decide +kernel
theorem dX1_init_34 : decode cX1_init 34 = .ok (.sipush 500, 3) := by decide +kernel
theorem dX1_init_37 : decode cX1_init 37 = .ok (.putfield 27, 3) := by decide +kernel
theorem dX1_init_40 : decode cX1_init 40 = .ok (.return_, 1) := by decide +kernel
theorem dX1_isFree_0 : decode cX1_isFree 0 = .ok (.aload_n 0, 1) := by decide +kernel
theorem dX1_isFree_1 : decode cX1_isFree 1 = .ok (.getfield 19, 3) := by decide +kernel
theorem dX1_isFree_4 : decode cX1_isFree 4 = .ok (.getfield 30, 3) := by decide +kernel
theorem dX1_isFree_7 : decode cX1_isFree 7 = .ok (.ifCond .ne 21, 3) := by decide +kernel
theorem dX1_isFree_10 : decode cX1_isFree 10 = .ok (.aload_n 0, 1) := by decide +kernel
theorem dX1_isFree_11 : decode cX1_isFree 11 = .ok (.getfield 33, 3) := by decide +kernel
theorem dX1_isFree_14 : decode cX1_isFree 14 = .ok (.ifCond .ne 14, 3) := by decide +kernel
theorem dX1_isFree_17 : decode cX1_isFree 17 = .ok (.aload_n 0, 1) := by decide +kernel
theorem dX1_isFree_18 : decode cX1_isFree 18 = .ok (.getfield 37, 3) := by decide +kernel
theorem dX1_isFree_21 : decode cX1_isFree 21 = .ok (.ifCond .ne 7, 3) := by decide +kernel
theorem dX1_isFree_24 : decode cX1_isFree 24 = .ok (.iconst 1, 1) := by decide +kernel
theorem dX1_isFree_25 : decode cX1_isFree 25 = .ok (.goto 4, 3) := by decide +kernel
theorem dX1_isFree_28 : decode cX1_isFree 28 = .ok (.iconst 0, 1) := by decide +kernel
theorem dX1_isFree_29 : decode cX1_isFree 29 = .ok (.ireturn, 1) := by decide +kernel
theorem dX1_addStars_0 : decode cX1_addStars 0 = .ok (.aload_n 0, 1) := by decide +kernel
theorem dX1_addStars_1 : decode cX1_addStars 1 = .ok (.getfield 23, 3) := by decide +kernel
theorem dX1_addStars_4 : decode cX1_addStars 4 = .ok (.aload_n 0, 1) := by decide +kernel
theorem dX1_addStars_5 : decode cX1_addStars 5 = .ok (.getfield 40, 3) := by decide +kernel
theorem dX1_addStars_8 : decode cX1_addStars 8 = .ok (.bipush 10, 2) := by decide +kernel
theorem dX1_addStars_10 : decode cX1_addStars 10 = .ok (.irem, 1) := by decide +kernel
theorem dX1_addStars_11 : decode cX1_addStars 11 = .ok (.iload_n 1, 1) := by decide +kernel
theorem dX1_addStars_12 : decode cX1_addStars 12 = .ok (.iastore, 1) := by decide +kernel
theorem dX1_addStars_13 : decode cX1_addStars 13 = .ok (.aload_n 0, 1) := by decide +kernel
theorem dX1_addStars_14 : decode cX1_addStars 14 = .ok (.dup, 1) := by decide +kernel
theorem dX1_addStars_15 : decode cX1_addStars 15 = .ok (.getfield 40, 3) := by decide +kernel
theorem dX1_addStars_18 : decode cX1_addStars 18 = .ok (.iconst 1, 1) := by decide +kernel
theorem dX1_addStars_19 : decode cX1_addStars 19 = .ok (.iadd, 1) := by decide +kernel
theorem dX1_addStars_20 : decode cX1_addStars 20 = .ok (.putfield 40, 3) := by decide +kernel
theorem dX1_addStars_23 : decode cX1_addStars 23 = .ok (.aload_n 0, 1) := by decide +kernel
theorem dX1_addStars_24 : decode cX1_addStars 24 = .ok (.getfield 40, 3) := by decide +kernel
theorem dX1_addStars_27 : decode cX1_addStars 27 = .ok (.bipush 10, 2) := by decide +kernel
theorem dX1_addStars_29 : decode cX1_addStars 29 = .ok (.invokestatic 43, 3) := by decide +kernel
theorem dX1_addStars_32 : decode cX1_addStars 32 = .ok (.istore_n 2, 1) := by decide +kernel
theorem dX1_addStars_33 : decode cX1_addStars 33 = .ok (.iconst 0, 1) := by decide +kernel
theorem dX1_addStars_34 : decode cX1_addStars 34 = .ok (.istore_n 3, 1) := by decide +kernel
theorem dX1_addStars_35 : decode cX1_addStars 35 = .ok (.iconst 0, 1) := by decide +kernel
theorem dX1_addStars_36 : decode cX1_addStars 36 = .ok (.istore 4, 2) := by decide +kernel
theorem dX1_addStars_38 : decode cX1_addStars 38 = .ok (.iload 4, 2) := by decide +kernel
theorem dX1_addStars_40 : decode cX1_addStars 40 = .ok (.iload_n 2, 1) := by decide +kernel
theorem dX1_addStars_41 : decode cX1_addStars 41 = .ok (.if_icmp .ge 19, 3) := by decide +kernel
theorem dX1_addStars_44 : decode cX1_addStars 44 = .ok (.iload_n 3, 1) := by decide +kernel
theorem dX1_addStars_45 : decode cX1_addStars 45 = .ok (.aload_n 0, 1) := by decide +kernel
theorem dX1_addStars_46 : decode cX1_addStars 46 = .ok (.getfield 23, 3) := by decide +kernel
theorem dX1_addStars_49 : decode cX1_addStars 49 = .ok (.iload 4, 2) := by decide +kernel
theorem dX1_addStars_51 : decode cX1_addStars 51 = .ok (.iaload, 1) := by decide +kernel
theorem dX1_addStars_52 : decode cX1_addStars 52 = .ok (.iadd, 1) := by decide +kernel
theorem dX1_addStars_53 : decode cX1_addStars 53 = .ok (.istore_n 3, 1) := by decide +kernel
theorem dX1_addStars_54 : decode cX1_addStars 54 = .ok (.iinc 4 1, 3) := by decide +kernel
theorem dX1_addStars_57 : decode cX1_addStars 57 = .ok (.goto (-19), 3) := by decide +kernel
theorem dX1_addStars_60 : decode cX1_addStars 60 = .ok (.aload_n 0, 1) := by decide +kernel
theorem dX1_addStars_61 : decode cX1_addStars 61 = .ok (.iload_n 3, 1) := by decide +kernel
theorem dX1_addStars_62 : decode cX1_addStars 62 = .ok (.bipush 100, 2) := by decide +kernel
theorem dX1_addStars_64 : decode cX1_addStars 64 = .ok (.imul, 1) := by decide +kernel
theorem dX1_addStars_65 : decode cX1_addStars 65 = .ok (.iload_n 2, 1) := by decide +kernel
theorem dX1_addStars_66 : decode cX1_addStars 66 = .ok (.idiv, 1) := by decide +kernel
theorem dX1_addStars_67 : decode cX1_addStars 67 = .ok (.putfield 27, 3) := by decide +kernel
theorem dX1_addStars_70 : decode cX1_addStars 70 = .ok (.aload_n 0, 1) := by decide +kernel
theorem dX1_addStars_71 : decode cX1_addStars 71 = .ok (.aload_n 0, 1) := by decide +kernel
theorem dX1_addStars_72 : decode cX1_addStars 72 = .ok (.getfield 40, 3) := by decide +kernel
theorem dX1_addStars_75 : decode cX1_addStars 75 = .ok (.iconst 5, 1) := by decide +kernel
theorem dX1_addStars_76 : decode cX1_addStars 76 = .ok (.if_icmp .lt 17, 3) := by decide +kernel
theorem dX1_addStars_79 : decode cX1_addStars 79 = .ok (.aload_n 0, 1) := by decide +kernel
theorem dX1_addStars_80 : decode cX1_addStars 80 = .ok (.getfield 27, 3) := by decide +kernel
theorem dX1_addStars_83 : decode cX1_addStars 83 = .ok (.sipush 350, 3) := by decide +kernel
theorem dX1_addStars_86 : decode cX1_addStars 86 = .ok (.if_icmp .ge 7, 3) := by decide +kernel
theorem dX1_addStars_89 : decode cX1_addStars 89 = .ok (.iconst 1, 1) := by decide +kernel
theorem dX1_addStars_90 : decode cX1_addStars 90 = .ok (.goto 4, 3) := by decide +kernel
theorem dX1_addStars_93 : decode cX1_addStars 93 = .ok (.iconst 0, 1) := by decide +kernel
theorem dX1_addStars_94 : decode cX1_addStars 94 = .ok (.putfield 37, 3) := by decide +kernel
theorem dX1_addStars_97 : decode cX1_addStars 97 = .ok (.return_, 1) := by decide +kernel
theorem dX2_init_0 : decode cX2_init 0 = .ok (.aload_n 0, 1) := by decide +kernel
theorem dX2_init_1 : decode cX2_init 1 = .ok (.invokespecial 3, 3) := by decide +kernel
theorem dX2_init_4 : decode cX2_init 4 = .ok (.aload_n 0, 1) := by decide +kernel
theorem dX2_init_5 : decode cX2_init 5 = .ok (.iconst 5, 1) := by decide +kernel
theorem dX2_init_6 : decode cX2_init 6 = .ok (.anewarray 9, 3) := by decide +kernel
theorem dX2_init_9 : decode cX2_init 9 = .ok (.putfield 11, 3) := by decide +kernel
theorem dX2_init_12 : decode cX2_init 12 = .ok (.aload_n 0, 1) := by decide +kernel
theorem dX2_init_13 : decode cX2_init 13 = .ok (.iconst 5, 1) := by decide +kernel
theorem dX2_init_14 : decode cX2_init 14 = .ok (.bipush 8, 2) := by decide +kernel
theorem dX2_init_16 : decode cX2_init 16 = .ok (.multianewarray 17 2, 4) := by decide +kernel
theorem dX2_init_20 : decode cX2_init 20 = .ok (.putfield 19, 3) := by decide +kernel
theorem dX2_init_23 : decode cX2_init 23 = .ok (.aload_n 0, 1) := by decide +kernel
theorem dX2_init_24 : decode cX2_init 24 = .ok (.bipush 6, 2) := by decide +kernel
theorem dX2_init_26 : decode cX2_init 26 = .ok (.sipush 256, 3) := by decide +kernel
theorem dX2_init_29 : decode cX2_init 29 = .ok (.multianewarray 17 2, 4) := by decide +kernel
theorem dX2_init_33 : decode cX2_init 33 = .ok (.putfield 22, 3) := by decide +kernel
theorem dX2_init_36 : decode cX2_init 36 = .ok (.aload_n 0, 1) := by decide +kernel
theorem dX2_init_37 : decode cX2_init 37 = .ok (.bipush 32, 2) := by decide +kernel
theorem dX2_init_39 : decode cX2_init 39 = .ok (.newarray .int, 2) := by decide +kernel
theorem dX2_init_41 : decode cX2_init 41 = .ok (.putfield 25, 3) := by decide +kernel
theorem dX2_init_44 : decode cX2_init 44 = .ok (.return_, 1) := by decide +kernel
theorem dX2_clear_0 : decode cX2_clear 0 = .ok (.aload_n 0, 1) := by decide +kernel
theorem dX2_clear_1 : decode cX2_clear 1 = .ok (.iload_n 1, 1) := by decide +kernel
theorem dX2_clear_2 : decode cX2_clear 2 = .ok (.putfield 29, 3) := by decide +kernel
theorem dX2_clear_5 : decode cX2_clear 5 = .ok (.aload_n 0, 1) := by decide +kernel
theorem dX2_clear_6 : decode cX2_clear 6 = .ok (.iconst 0, 1) := by decide +kernel
theorem dX2_clear_7 : decode cX2_clear 7 = .ok (.putfield 33, 3) := by decide +kernel
theorem dX2_clear_10 : decode cX2_clear 10 = .ok (.return_, 1) := by decide +kernel
theorem dX2_addRequest_0 : decode cX2_addRequest 0 = .ok (.aload_n 0, 1) := by decide +kernel
theorem dX2_addRequest_1 : decode cX2_addRequest 1 = .ok (.getfield 11, 3) := by decide +kernel
theorem dX2_addRequest_4 : decode cX2_addRequest 4 = .ok (.aload_n 0, 1) := by decide +kernel
theorem dX2_addRequest_5 : decode cX2_addRequest 5 = .ok (.getfield 33, 3) := by decide +kernel
theorem dX2_addRequest_8 : decode cX2_addRequest 8 = .ok (.aload_n 1, 1) := by decide +kernel
theorem dX2_addRequest_9 : decode cX2_addRequest 9 = .ok (.aastore, 1) := by decide +kernel
theorem dX2_addRequest_10 : decode cX2_addRequest 10 = .ok (.aload_n 0, 1) := by decide +kernel
theorem dX2_addRequest_11 : decode cX2_addRequest 11 = .ok (.dup, 1) := by decide +kernel
theorem dX2_addRequest_12 : decode cX2_addRequest 12 = .ok (.getfield 33, 3) := by decide +kernel
theorem dX2_addRequest_15 : decode cX2_addRequest 15 = .ok (.iconst 1, 1) := by decide +kernel
theorem dX2_addRequest_16 : decode cX2_addRequest 16 = .ok (.iadd, 1) := by decide +kernel
theorem dX2_addRequest_17 : decode cX2_addRequest 17 = .ok (.putfield 33, 3) := by decide +kernel
theorem dX2_addRequest_20 : decode cX2_addRequest 20 = .ok (.return_, 1) := by decide +kernel
theorem dX2_setMinutes_0 : decode cX2_setMinutes 0 = .ok (.aload_n 0, 1) := by decide +kernel
theorem dX2_setMinutes_1 : decode cX2_setMinutes 1 = .ok (.getfield 19, 3) := by decide +kernel
theorem dX2_setMinutes_4 : decode cX2_setMinutes 4 = .ok (.aload_n 0, 1) := by decide +kernel
theorem dX2_setMinutes_5 : decode cX2_setMinutes 5 = .ok (.getfield 33, 3) := by decide +kernel
theorem dX2_setMinutes_8 : decode cX2_setMinutes 8 = .ok (.iconst 1, 1) := by decide +kernel
theorem dX2_setMinutes_9 : decode cX2_setMinutes 9 = .ok (.isub, 1) := by decide +kernel
theorem dX2_setMinutes_10 : decode cX2_setMinutes 10 = .ok (.aaload, 1) := by decide +kernel
theorem dX2_setMinutes_11 : decode cX2_setMinutes 11 = .ok (.iload_n 1, 1) := by decide +kernel
theorem dX2_setMinutes_12 : decode cX2_setMinutes 12 = .ok (.iload_n 2, 1) := by decide +kernel
theorem dX2_setMinutes_13 : decode cX2_setMinutes 13 = .ok (.iastore, 1) := by decide +kernel
theorem dX2_setMinutes_14 : decode cX2_setMinutes 14 = .ok (.return_, 1) := by decide +kernel
set_option maxRecDepth 20000 in
theorem ggX2_mostByRequests_X2_mostWith : GoodIn wsX2_mostByRequests wsX2_mostWith := goodIn_r _ [8, 2, 1, 9, 10, 11, 12, 13, 14, 15, 7, 16, 17, 18, 19, 20, 21, 22, 23, 24, 25, 26, 27] (by decide +kernel) (by decide +kernel)
set_option maxRecDepth 20000 in
theorem gX2_mostByRequests_X2_mostWith : GoodIn wsX2_mostByRequests (wsV RX2 36 RX2 yX2_mostWith wsX2_mostWith) := goodIn_app (goodIn_of _ (by decide +kernel)) ggX2_mostByRequests_X2_mostWith
theorem dX2_mostByRequests_0 : decode cX2_mostByRequests 0 = .ok (.iconst 1, 1) := by decide +kernel
theorem dX2_mostByRequests_1 : decode cX2_mostByRequests 1 = .ok (.aload_n 0, 1) := by decide +kernel
theorem dX2_mostByRequests_2 : decode cX2_mostByRequests 2 = .ok (.getfield 29, 3) := by decide +kernel
theorem dX2_mostByRequests_5 : decode cX2_mostByRequests 5 = .ok (.ishl, 1) := by decide +kernel
theorem dX2_mostByRequests_6 : decode cX2_mostByRequests 6 = .ok (.istore_n 1, 1) := by decide +kernel
theorem dX2_mostByRequests_7 : decode cX2_mostByRequests 7 = .ok (.iconst 0, 1) := by decide +kernel
theorem dX2_mostByRequests_8 : decode cX2_mostByRequests 8 = .ok (.istore_n 2, 1) := by decide +kernel
theorem dX2_mostByRequests_9 : decode cX2_mostByRequests 9 = .ok (.iload_n 2, 1) := by decide +kernel
theorem dX2_mostByRequests_10 : decode cX2_mostByRequests 10 = .ok (.iload_n 1, 1) := by decide +kernel
theorem dX2_mostByRequests_11 : decode cX2_mostByRequests 11 = .ok (.if_icmp .ge 21, 3) := by decide +kernel
theorem dX2_mostByRequests_14 : decode cX2_mostByRequests 14 = .ok (.aload_n 0, 1) := by decide +kernel
theorem dX2_mostByRequests_15 : decode cX2_mostByRequests 15 = .ok (.getfield 22, 3) := by decide +kernel
theorem dX2_mostByRequests_18 : decode cX2_mostByRequests 18 = .ok (.aload_n 0, 1) := by decide +kernel
theorem dX2_mostByRequests_19 : decode cX2_mostByRequests 19 = .ok (.getfield 33, 3) := by decide +kernel
theorem dX2_mostByRequests_22 : decode cX2_mostByRequests 22 = .ok (.aaload, 1) := by decide +kernel
theorem dX2_mostByRequests_23 : decode cX2_mostByRequests 23 = .ok (.iload_n 2, 1) := by decide +kernel
theorem dX2_mostByRequests_24 : decode cX2_mostByRequests 24 = .ok (.iconst 0, 1) := by decide +kernel
theorem dX2_mostByRequests_25 : decode cX2_mostByRequests 25 = .ok (.iastore, 1) := by decide +kernel
theorem dX2_mostByRequests_26 : decode cX2_mostByRequests 26 = .ok (.iinc 2 1, 3) := by decide +kernel
theorem dX2_mostByRequests_29 : decode cX2_mostByRequests 29 = .ok (.goto (-20), 3) := by decide +kernel
theorem dX2_mostByRequests_32 : decode cX2_mostByRequests 32 = .ok (.aload_n 0, 1) := by decide +kernel
theorem dX2_mostByRequests_33 : decode cX2_mostByRequests 33 = .ok (.getfield 33, 3) := by decide +kernel
theorem dX2_mostByRequests_36 : decode cX2_mostByRequests 36 = .ok (.iconst 1, 1) := by decide +kernel
theorem dX2_mostByRequests_37 : decode cX2_mostByRequests 37 = .ok (.isub, 1) := by decide +kernel
theorem dX2_mostByRequests_38 : decode cX2_mostByRequests 38 = .ok (.istore_n 2, 1) := by decide +kernel
theorem dX2_mostByRequests_39 : decode cX2_mostByRequests 39 = .ok (.iload_n 2, 1) := by decide +kernel
theorem dX2_mostByRequests_40 : decode cX2_mostByRequests 40 = .ok (.ifCond .lt 36, 3) := by decide +kernel
theorem dX2_mostByRequests_43 : decode cX2_mostByRequests 43 = .ok (.iconst 0, 1) := by decide +kernel
theorem dX2_mostByRequests_44 : decode cX2_mostByRequests 44 = .ok (.istore_n 3, 1) := by decide +kernel
theorem dX2_mostByRequests_45 : decode cX2_mostByRequests 45 = .ok (.iload_n 3, 1) := by decide +kernel
theorem dX2_mostByRequests_46 : decode cX2_mostByRequests 46 = .ok (.iload_n 1, 1) := by decide +kernel
theorem dX2_mostByRequests_47 : decode cX2_mostByRequests 47 = .ok (.if_icmp .ge 23, 3) := by decide +kernel
theorem dX2_mostByRequests_50 : decode cX2_mostByRequests 50 = .ok (.aload_n 0, 1) := by decide +kernel
theorem dX2_mostByRequests_51 : decode cX2_mostByRequests 51 = .ok (.getfield 22, 3) := by decide +kernel
theorem dX2_mostByRequests_54 : decode cX2_mostByRequests 54 = .ok (.iload_n 2, 1) := by decide +kernel
theorem dX2_mostByRequests_55 : decode cX2_mostByRequests 55 = .ok (.aaload, 1) := by decide +kernel
theorem dX2_mostByRequests_56 : decode cX2_mostByRequests 56 = .ok (.iload_n 3, 1) := by decide +kernel
theorem dX2_mostByRequests_57 : decode cX2_mostByRequests 57 = .ok (.aload_n 0, 1) := by decide +kernel
theorem dX2_mostByRequests_58 : decode cX2_mostByRequests 58 = .ok (.iload_n 2, 1) := by decide +kernel
theorem dX2_mostByRequests_59 : decode cX2_mostByRequests 59 = .ok (.iload_n 3, 1) := by decide +kernel
theorem dX2_mostByRequests_60 : decode cX2_mostByRequests 60 = .ok (.invokevirtual 36, 3) := by decide +kernel
theorem dX2_mostByRequests_63 : decode cX2_mostByRequests 63 = .ok (.iastore, 1) := by decide +kernel
theorem dX2_mostByRequests_64 : decode cX2_mostByRequests 64 = .ok (.iinc 3 1, 3) := by decide +kernel
theorem dX2_mostByRequests_67 : decode cX2_mostByRequests 67 = .ok (.goto (-22), 3) := by decide +kernel
theorem dX2_mostByRequests_70 : decode cX2_mostByRequests 70 = .ok (.iinc 2 (-1), 3) := by decide +kernel
theorem dX2_mostByRequests_73 : decode cX2_mostByRequests 73 = .ok (.goto (-34), 3) := by decide +kernel
theorem dX2_mostByRequests_76 : decode cX2_mostByRequests 76 = .ok (.aload_n 0, 1) := by decide +kernel
theorem dX2_mostByRequests_77 : decode cX2_mostByRequests 77 = .ok (.getfield 22, 3) := by decide +kernel
theorem dX2_mostByRequests_80 : decode cX2_mostByRequests 80 = .ok (.iconst 0, 1) := by decide +kernel
theorem dX2_mostByRequests_81 : decode cX2_mostByRequests 81 = .ok (.aaload, 1) := by decide +kernel
theorem dX2_mostByRequests_82 : decode cX2_mostByRequests 82 = .ok (.iconst 0, 1) := by decide +kernel
theorem dX2_mostByRequests_83 : decode cX2_mostByRequests 83 = .ok (.iaload, 1) := by decide +kernel
theorem dX2_mostByRequests_84 : decode cX2_mostByRequests 84 = .ok (.ireturn, 1) := by decide +kernel
set_option maxRecDepth 20000 in
theorem ggX2_mostWith_X2_canGive : GoodIn wsX2_mostWith wsX2_canGive := goodIn_r _ [11, 12, 17, 18, 19, 20, 21, 22] (by decide +kernel) (by decide +kernel)
set_option maxRecDepth 20000 in
theorem gX2_mostWith_X2_canGive : GoodIn wsX2_mostWith (wsV RX2 40 RX2 yX2_canGive wsX2_canGive) := goodIn_app (goodIn_of _ (by decide +kernel)) ggX2_mostWith_X2_canGive
set_option maxRecDepth 20000 in
theorem ggX2_mostWith_X2_mostGiving : GoodIn wsX2_mostWith wsX2_mostGiving := goodIn_r _ [16, 12, 1, 17, 18, 19, 20, 21, 22] (by decide +kernel) (by decide +kernel)
set_option maxRecDepth 20000 in
theorem gX2_mostWith_X2_mostGiving : GoodIn wsX2_mostWith (wsV RX2 44 RX2 yX2_mostGiving wsX2_mostGiving) := goodIn_app (goodIn_of _ (by decide +kernel)) ggX2_mostWith_X2_mostGiving
theorem dX2_mostWith_0 : decode cX2_mostWith 0 = .ok (.aload_n 0, 1) := by decide +kernel
theorem dX2_mostWith_1 : decode cX2_mostWith 1 = .ok (.getfield 22, 3) := by decide +kernel
theorem dX2_mostWith_4 : decode cX2_mostWith 4 = .ok (.iload_n 1, 1) := by decide +kernel
theorem dX2_mostWith_5 : decode cX2_mostWith 5 = .ok (.iconst 1, 1) := by decide +kernel
theorem dX2_mostWith_6 : decode cX2_mostWith 6 = .ok (.iadd, 1) := by decide +kernel
theorem dX2_mostWith_7 : decode cX2_mostWith 7 = .ok (.aaload, 1) := by decide +kernel
theorem dX2_mostWith_8 : decode cX2_mostWith 8 = .ok (.iload_n 2, 1) := by decide +kernel
theorem dX2_mostWith_9 : decode cX2_mostWith 9 = .ok (.iaload, 1) := by decide +kernel
theorem dX2_mostWith_10 : decode cX2_mostWith 10 = .ok (.istore_n 3, 1) := by decide +kernel
theorem dX2_mostWith_11 : decode cX2_mostWith 11 = .ok (.iconst 0, 1) := by decide +kernel
theorem dX2_mostWith_12 : decode cX2_mostWith 12 = .ok (.istore 4, 2) := by decide +kernel
theorem dX2_mostWith_14 : decode cX2_mostWith 14 = .ok (.iload 4, 2) := by decide +kernel
theorem dX2_mostWith_16 : decode cX2_mostWith 16 = .ok (.aload_n 0, 1) := by decide +kernel
theorem dX2_mostWith_17 : decode cX2_mostWith 17 = .ok (.getfield 29, 3) := by decide +kernel
theorem dX2_mostWith_20 : decode cX2_mostWith 20 = .ok (.if_icmp .ge 33, 3) := by decide +kernel
theorem dX2_mostWith_23 : decode cX2_mostWith 23 = .ok (.aload_n 0, 1) := by decide +kernel
theorem dX2_mostWith_24 : decode cX2_mostWith 24 = .ok (.iload_n 1, 1) := by decide +kernel
theorem dX2_mostWith_25 : decode cX2_mostWith 25 = .ok (.iload 4, 2) := by decide +kernel
theorem dX2_mostWith_27 : decode cX2_mostWith 27 = .ok (.iload_n 2, 1) := by decide +kernel
theorem dX2_mostWith_28 : decode cX2_mostWith 28 = .ok (.invokevirtual 40, 3) := by decide +kernel
theorem dX2_mostWith_31 : decode cX2_mostWith 31 = .ok (.ifCond .eq 16, 3) := by decide +kernel
theorem dX2_mostWith_34 : decode cX2_mostWith 34 = .ok (.iload_n 3, 1) := by decide +kernel
theorem dX2_mostWith_35 : decode cX2_mostWith 35 = .ok (.aload_n 0, 1) := by decide +kernel
theorem dX2_mostWith_36 : decode cX2_mostWith 36 = .ok (.iload_n 1, 1) := by decide +kernel
theorem dX2_mostWith_37 : decode cX2_mostWith 37 = .ok (.iload 4, 2) := by decide +kernel
theorem dX2_mostWith_39 : decode cX2_mostWith 39 = .ok (.iload_n 2, 1) := by decide +kernel
theorem dX2_mostWith_40 : decode cX2_mostWith 40 = .ok (.invokevirtual 44, 3) := by decide +kernel
theorem dX2_mostWith_43 : decode cX2_mostWith 43 = .ok (.invokestatic 48, 3) := by decide +kernel
theorem dX2_mostWith_46 : decode cX2_mostWith 46 = .ok (.istore_n 3, 1) := by decide +kernel
theorem dX2_mostWith_47 : decode cX2_mostWith 47 = .ok (.iinc 4 1, 3) := by decide +kernel
theorem dX2_mostWith_50 : decode cX2_mostWith 50 = .ok (.goto (-36), 3) := by decide +kernel
theorem dX2_mostWith_53 : decode cX2_mostWith 53 = .ok (.iload_n 3, 1) := by decide +kernel
theorem dX2_mostWith_54 : decode cX2_mostWith 54 = .ok (.ireturn, 1) := by decide +kernel
theorem dX2_canGive_0 : decode cX2_canGive 0 = .ok (.iload_n 3, 1) := by decide +kernel
theorem dX2_canGive_1 : decode cX2_canGive 1 = .ok (.iconst 1, 1) := by decide +kernel
theorem dX2_canGive_2 : decode cX2_canGive 2 = .ok (.iload_n 2, 1) := by decide +kernel
theorem dX2_canGive_3 : decode cX2_canGive 3 = .ok (.ishl, 1) := by decide +kernel
theorem dX2_canGive_4 : decode cX2_canGive 4 = .ok (.iand, 1) := by decide +kernel
theorem dX2_canGive_5 : decode cX2_canGive 5 = .ok (.ifCond .ne 19, 3) := by decide +kernel
theorem dX2_canGive_8 : decode cX2_canGive 8 = .ok (.aload_n 0, 1) := by decide +kernel
theorem dX2_canGive_9 : decode cX2_canGive 9 = .ok (.getfield 19, 3) := by decide +kernel
theorem dX2_canGive_12 : decode cX2_canGive 12 = .ok (.iload_n 1, 1) := by decide +kernel
theorem dX2_canGive_13 : decode cX2_canGive 13 = .ok (.aaload, 1) := by decide +kernel
theorem dX2_canGive_14 : decode cX2_canGive 14 = .ok (.iload_n 2, 1) := by decide +kernel
theorem dX2_canGive_15 : decode cX2_canGive 15 = .ok (.iaload, 1) := by decide +kernel
theorem dX2_canGive_16 : decode cX2_canGive 16 = .ok (.iconst (-1), 1) := by decide +kernel
theorem dX2_canGive_17 : decode cX2_canGive 17 = .ok (.if_icmp .eq 7, 3) := by decide +kernel
theorem dX2_canGive_20 : decode cX2_canGive 20 = .ok (.iconst 1, 1) := by decide +kernel
theorem dX2_canGive_21 : decode cX2_canGive 21 = .ok (.goto 4, 3) := by decide +kernel
theorem dX2_canGive_24 : decode cX2_canGive 24 = .ok (.iconst 0, 1) := by decide +kernel
theorem dX2_canGive_25 : decode cX2_canGive 25 = .ok (.ireturn, 1) := by decide +kernel
theorem dX2_mostGiving_0 : decode cX2_mostGiving 0 = .ok (.sipush 10000, 3) := by decide +kernel
theorem dX2_mostGiving_3 : decode cX2_mostGiving 3 = .ok (.aload_n 0, 1) := by decide +kernel
theorem dX2_mostGiving_4 : decode cX2_mostGiving 4 = .ok (.getfield 19, 3) := by decide +kernel
theorem dX2_mostGiving_7 : decode cX2_mostGiving 7 = .ok (.iload_n 1, 1) := by decide +kernel
theorem dX2_mostGiving_8 : decode cX2_mostGiving 8 = .ok (.aaload, 1) := by decide +kernel
theorem dX2_mostGiving_9 : decode cX2_mostGiving 9 = .ok (.iload_n 2, 1) := by decide +kernel
theorem dX2_mostGiving_10 : decode cX2_mostGiving 10 = .ok (.iaload, 1) := by decide +kernel
theorem dX2_mostGiving_11 : decode cX2_mostGiving 11 = .ok (.isub, 1) := by decide +kernel
theorem dX2_mostGiving_12 : decode cX2_mostGiving 12 = .ok (.aload_n 0, 1) := by decide +kernel
theorem dX2_mostGiving_13 : decode cX2_mostGiving 13 = .ok (.getfield 22, 3) := by decide +kernel
theorem dX2_mostGiving_16 : decode cX2_mostGiving 16 = .ok (.iload_n 1, 1) := by decide +kernel
theorem dX2_mostGiving_17 : decode cX2_mostGiving 17 = .ok (.iconst 1, 1) := by decide +kernel
theorem dX2_mostGiving_18 : decode cX2_mostGiving 18 = .ok (.iadd, 1) := by decide +kernel
theorem dX2_mostGiving_19 : decode cX2_mostGiving 19 = .ok (.aaload, 1) := by decide +kernel
theorem dX2_mostGiving_20 : decode cX2_mostGiving 20 = .ok (.iload_n 3, 1) := by decide +kernel
theorem dX2_mostGiving_21 : decode cX2_mostGiving 21 = .ok (.iconst 1, 1) := by decide +kernel
theorem dX2_mostGiving_22 : decode cX2_mostGiving 22 = .ok (.iload_n 2, 1) := by decide +kernel
theorem dX2_mostGiving_23 : decode cX2_mostGiving 23 = .ok (.ishl, 1) := by decide +kernel
theorem dX2_mostGiving_24 : decode cX2_mostGiving 24 = .ok (.ior, 1) := by decide +kernel
theorem dX2_mostGiving_25 : decode cX2_mostGiving 25 = .ok (.iaload, 1) := by decide +kernel
theorem dX2_mostGiving_26 : decode cX2_mostGiving 26 = .ok (.iadd, 1) := by decide +kernel
theorem dX2_mostGiving_27 : decode cX2_mostGiving 27 = .ok (.ireturn, 1) := by decide +kernel
set_option maxRecDepth 20000 in
theorem ggX2_chosenDriver_X2_canGive : GoodIn wsX2_chosenDriver wsX2_canGive := goodIn_r _ [7, 8, 13, 14, 15, 16, 17, 18] (by decide +kernel) (by decide +kernel)
set_option maxRecDepth 20000 in
theorem gX2_chosenDriver_X2_canGive : GoodIn wsX2_chosenDriver (wsV RX2 40 RX2 yX2_canGive wsX2_canGive) := goodIn_app (goodIn_of _ (by decide +kernel)) ggX2_chosenDriver_X2_canGive
set_option maxRecDepth 20000 in
theorem ggX2_chosenDriver_X2_mostGiving : GoodIn wsX2_chosenDriver wsX2_mostGiving := goodIn_r _ [12, 8, 2, 13, 14, 15, 16, 17, 18] (by decide +kernel) (by decide +kernel)
set_option maxRecDepth 20000 in
theorem gX2_chosenDriver_X2_mostGiving : GoodIn wsX2_chosenDriver (wsV RX2 44 RX2 yX2_mostGiving wsX2_mostGiving) := goodIn_app (goodIn_of _ (by decide +kernel)) ggX2_chosenDriver_X2_mostGiving
theorem dX2_chosenDriver_0 : decode cX2_chosenDriver 0 = .ok (.iconst 0, 1) := by decide +kernel
theorem dX2_chosenDriver_1 : decode cX2_chosenDriver 1 = .ok (.istore_n 3, 1) := by decide +kernel
theorem dX2_chosenDriver_2 : decode cX2_chosenDriver 2 = .ok (.iload_n 3, 1) := by decide +kernel
theorem dX2_chosenDriver_3 : decode cX2_chosenDriver 3 = .ok (.aload_n 0, 1) := by decide +kernel
theorem dX2_chosenDriver_4 : decode cX2_chosenDriver 4 = .ok (.getfield 29, 3) := by decide +kernel
theorem dX2_chosenDriver_7 : decode cX2_chosenDriver 7 = .ok (.if_icmp .ge 39, 3) := by decide +kernel
theorem dX2_chosenDriver_10 : decode cX2_chosenDriver 10 = .ok (.aload_n 0, 1) := by decide +kernel
theorem dX2_chosenDriver_11 : decode cX2_chosenDriver 11 = .ok (.iload_n 1, 1) := by decide +kernel
theorem dX2_chosenDriver_12 : decode cX2_chosenDriver 12 = .ok (.iload_n 3, 1) := by decide +kernel
theorem dX2_chosenDriver_13 : decode cX2_chosenDriver 13 = .ok (.iload_n 2, 1) := by decide +kernel
theorem dX2_chosenDriver_14 : decode cX2_chosenDriver 14 = .ok (.invokevirtual 40, 3) := by decide +kernel
theorem dX2_chosenDriver_17 : decode cX2_chosenDriver 17 = .ok (.ifCond .eq 23, 3) := by decide +kernel
theorem dX2_chosenDriver_20 : decode cX2_chosenDriver 20 = .ok (.aload_n 0, 1) := by decide +kernel
theorem dX2_chosenDriver_21 : decode cX2_chosenDriver 21 = .ok (.iload_n 1, 1) := by decide +kernel
theorem dX2_chosenDriver_22 : decode cX2_chosenDriver 22 = .ok (.iload_n 3, 1) := by decide +kernel
theorem dX2_chosenDriver_23 : decode cX2_chosenDriver 23 = .ok (.iload_n 2, 1) := by decide +kernel
theorem dX2_chosenDriver_24 : decode cX2_chosenDriver 24 = .ok (.invokevirtual 44, 3) := by decide +kernel
theorem dX2_chosenDriver_27 : decode cX2_chosenDriver 27 = .ok (.aload_n 0, 1) := by decide +kernel
theorem dX2_chosenDriver_28 : decode cX2_chosenDriver 28 = .ok (.getfield 22, 3) := by decide +kernel
theorem dX2_chosenDriver_31 : decode cX2_chosenDriver 31 = .ok (.iload_n 1, 1) := by decide +kernel
theorem dX2_chosenDriver_32 : decode cX2_chosenDriver 32 = .ok (.aaload, 1) := by decide +kernel
theorem dX2_chosenDriver_33 : decode cX2_chosenDriver 33 = .ok (.iload_n 2, 1) := by decide +kernel
theorem dX2_chosenDriver_34 : decode cX2_chosenDriver 34 = .ok (.iaload, 1) := by decide +kernel
theorem dX2_chosenDriver_35 : decode cX2_chosenDriver 35 = .ok (.if_icmp .ne 5, 3) := by decide +kernel
theorem dX2_chosenDriver_38 : decode cX2_chosenDriver 38 = .ok (.iload_n 3, 1) := by decide +kernel
theorem dX2_chosenDriver_39 : decode cX2_chosenDriver 39 = .ok (.ireturn, 1) := by decide +kernel
theorem dX2_chosenDriver_40 : decode cX2_chosenDriver 40 = .ok (.iinc 3 1, 3) := by decide +kernel
theorem dX2_chosenDriver_43 : decode cX2_chosenDriver 43 = .ok (.goto (-41), 3) := by decide +kernel
theorem dX2_chosenDriver_46 : decode cX2_chosenDriver 46 = .ok (.iconst (-1), 1) := by decide +kernel
theorem dX2_chosenDriver_47 : decode cX2_chosenDriver 47 = .ok (.ireturn, 1) := by decide +kernel
set_option maxRecDepth 20000 in
theorem ggX2_mostByDrivers_X2_mostOfWith : GoodIn wsX2_mostByDrivers wsX2_mostOfWith := goodIn_r _ [12, 2, 1, 13, 4, 5, 6, 7, 14, 15, 16, 17, 18, 19] (by decide +kernel) (by decide +kernel)
set_option maxRecDepth 20000 in
theorem gX2_mostByDrivers_X2_mostOfWith : GoodIn wsX2_mostByDrivers (wsV RX2 53 RX2 yX2_mostOfWith wsX2_mostOfWith) := goodIn_app (goodIn_of _ (by decide +kernel)) ggX2_mostByDrivers_X2_mostOfWith
theorem dX2_mostByDrivers_0 : decode cX2_mostByDrivers 0 = .ok (.iconst 1, 1) := by decide +kernel
theorem dX2_mostByDrivers_1 : decode cX2_mostByDrivers 1 = .ok (.aload_n 0, 1) := by decide +kernel
theorem dX2_mostByDrivers_2 : decode cX2_mostByDrivers 2 = .ok (.getfield 33, 3) := by decide +kernel
theorem dX2_mostByDrivers_5 : decode cX2_mostByDrivers 5 = .ok (.ishl, 1) := by decide +kernel
theorem dX2_mostByDrivers_6 : decode cX2_mostByDrivers 6 = .ok (.istore_n 1, 1) := by decide +kernel
theorem dX2_mostByDrivers_7 : decode cX2_mostByDrivers 7 = .ok (.iconst 0, 1) := by decide +kernel
theorem dX2_mostByDrivers_8 : decode cX2_mostByDrivers 8 = .ok (.istore_n 2, 1) := by decide +kernel
theorem dX2_mostByDrivers_9 : decode cX2_mostByDrivers 9 = .ok (.iload_n 2, 1) := by decide +kernel
theorem dX2_mostByDrivers_10 : decode cX2_mostByDrivers 10 = .ok (.iload_n 1, 1) := by decide +kernel
theorem dX2_mostByDrivers_11 : decode cX2_mostByDrivers 11 = .ok (.if_icmp .ge 24, 3) := by decide +kernel
theorem dX2_mostByDrivers_14 : decode cX2_mostByDrivers 14 = .ok (.aload_n 0, 1) := by decide +kernel
theorem dX2_mostByDrivers_15 : decode cX2_mostByDrivers 15 = .ok (.getfield 25, 3) := by decide +kernel
theorem dX2_mostByDrivers_18 : decode cX2_mostByDrivers 18 = .ok (.iload_n 2, 1) := by decide +kernel
theorem dX2_mostByDrivers_19 : decode cX2_mostByDrivers 19 = .ok (.iload_n 2, 1) := by decide +kernel
theorem dX2_mostByDrivers_20 : decode cX2_mostByDrivers 20 = .ok (.ifCond .ne 7, 3) := by decide +kernel
theorem dX2_mostByDrivers_23 : decode cX2_mostByDrivers 23 = .ok (.iconst 0, 1) := by decide +kernel
theorem dX2_mostByDrivers_24 : decode cX2_mostByDrivers 24 = .ok (.goto 4, 3) := by decide +kernel
theorem dX2_mostByDrivers_27 : decode cX2_mostByDrivers 27 = .ok (.iconst (-1), 1) := by decide +kernel
theorem dX2_mostByDrivers_28 : decode cX2_mostByDrivers 28 = .ok (.iastore, 1) := by decide +kernel
theorem dX2_mostByDrivers_29 : decode cX2_mostByDrivers 29 = .ok (.iinc 2 1, 3) := by decide +kernel
theorem dX2_mostByDrivers_32 : decode cX2_mostByDrivers 32 = .ok (.goto (-23), 3) := by decide +kernel
theorem dX2_mostByDrivers_35 : decode cX2_mostByDrivers 35 = .ok (.iconst 0, 1) := by decide +kernel
theorem dX2_mostByDrivers_36 : decode cX2_mostByDrivers 36 = .ok (.istore_n 2, 1) := by decide +kernel
theorem dX2_mostByDrivers_37 : decode cX2_mostByDrivers 37 = .ok (.iload_n 2, 1) := by decide +kernel
theorem dX2_mostByDrivers_38 : decode cX2_mostByDrivers 38 = .ok (.aload_n 0, 1) := by decide +kernel
theorem dX2_mostByDrivers_39 : decode cX2_mostByDrivers 39 = .ok (.getfield 29, 3) := by decide +kernel
theorem dX2_mostByDrivers_42 : decode cX2_mostByDrivers 42 = .ok (.if_icmp .ge 35, 3) := by decide +kernel
theorem dX2_mostByDrivers_45 : decode cX2_mostByDrivers 45 = .ok (.iload_n 1, 1) := by decide +kernel
theorem dX2_mostByDrivers_46 : decode cX2_mostByDrivers 46 = .ok (.iconst 1, 1) := by decide +kernel
theorem dX2_mostByDrivers_47 : decode cX2_mostByDrivers 47 = .ok (.isub, 1) := by decide +kernel
theorem dX2_mostByDrivers_48 : decode cX2_mostByDrivers 48 = .ok (.istore_n 3, 1) := by decide +kernel
theorem dX2_mostByDrivers_49 : decode cX2_mostByDrivers 49 = .ok (.iload_n 3, 1) := by decide +kernel
theorem dX2_mostByDrivers_50 : decode cX2_mostByDrivers 50 = .ok (.ifCond .le 21, 3) := by decide +kernel
theorem dX2_mostByDrivers_53 : decode cX2_mostByDrivers 53 = .ok (.aload_n 0, 1) := by decide +kernel
theorem dX2_mostByDrivers_54 : decode cX2_mostByDrivers 54 = .ok (.getfield 25, 3) := by decide +kernel
theorem dX2_mostByDrivers_57 : decode cX2_mostByDrivers 57 = .ok (.iload_n 3, 1) := by decide +kernel
theorem dX2_mostByDrivers_58 : decode cX2_mostByDrivers 58 = .ok (.aload_n 0, 1) := by decide +kernel
theorem dX2_mostByDrivers_59 : decode cX2_mostByDrivers 59 = .ok (.iload_n 3, 1) := by decide +kernel
theorem dX2_mostByDrivers_60 : decode cX2_mostByDrivers 60 = .ok (.iload_n 2, 1) := by decide +kernel
theorem dX2_mostByDrivers_61 : decode cX2_mostByDrivers 61 = .ok (.invokevirtual 53, 3) := by decide +kernel
theorem dX2_mostByDrivers_64 : decode cX2_mostByDrivers 64 = .ok (.iastore, 1) := by decide +kernel
theorem dX2_mostByDrivers_65 : decode cX2_mostByDrivers 65 = .ok (.iinc 3 (-1), 3) := by decide +kernel
theorem dX2_mostByDrivers_68 : decode cX2_mostByDrivers 68 = .ok (.goto (-19), 3) := by decide +kernel
theorem dX2_mostByDrivers_71 : decode cX2_mostByDrivers 71 = .ok (.iinc 2 1, 3) := by decide +kernel
theorem dX2_mostByDrivers_74 : decode cX2_mostByDrivers 74 = .ok (.goto (-37), 3) := by decide +kernel
theorem dX2_mostByDrivers_77 : decode cX2_mostByDrivers 77 = .ok (.iconst 0, 1) := by decide +kernel
theorem dX2_mostByDrivers_78 : decode cX2_mostByDrivers 78 = .ok (.istore_n 2, 1) := by decide +kernel
theorem dX2_mostByDrivers_79 : decode cX2_mostByDrivers 79 = .ok (.iconst 0, 1) := by decide +kernel
theorem dX2_mostByDrivers_80 : decode cX2_mostByDrivers 80 = .ok (.istore_n 3, 1) := by decide +kernel
theorem dX2_mostByDrivers_81 : decode cX2_mostByDrivers 81 = .ok (.iload_n 3, 1) := by decide +kernel
theorem dX2_mostByDrivers_82 : decode cX2_mostByDrivers 82 = .ok (.iload_n 1, 1) := by decide +kernel
theorem dX2_mostByDrivers_83 : decode cX2_mostByDrivers 83 = .ok (.if_icmp .ge 20, 3) := by decide +kernel
theorem dX2_mostByDrivers_86 : decode cX2_mostByDrivers 86 = .ok (.iload_n 2, 1) := by decide +kernel
theorem dX2_mostByDrivers_87 : decode cX2_mostByDrivers 87 = .ok (.aload_n 0, 1) := by decide +kernel
theorem dX2_mostByDrivers_88 : decode cX2_mostByDrivers 88 = .ok (.getfield 25, 3) := by decide +kernel
theorem dX2_mostByDrivers_91 : decode cX2_mostByDrivers 91 = .ok (.iload_n 3, 1) := by decide +kernel
theorem dX2_mostByDrivers_92 : decode cX2_mostByDrivers 92 = .ok (.iaload, 1) := by decide +kernel
theorem dX2_mostByDrivers_93 : decode cX2_mostByDrivers 93 = .ok (.invokestatic 48, 3) := by decide +kernel
theorem dX2_mostByDrivers_96 : decode cX2_mostByDrivers 96 = .ok (.istore_n 2, 1) := by decide +kernel
theorem dX2_mostByDrivers_97 : decode cX2_mostByDrivers 97 = .ok (.iinc 3 1, 3) := by decide +kernel
theorem dX2_mostByDrivers_100 : decode cX2_mostByDrivers 100 = .ok (.goto (-19), 3) := by decide +kernel
theorem dX2_mostByDrivers_103 : decode cX2_mostByDrivers 103 = .ok (.iload_n 2, 1) := by decide +kernel
theorem dX2_mostByDrivers_104 : decode cX2_mostByDrivers 104 = .ok (.ireturn, 1) := by decide +kernel
theorem dX2_mostOfWith_0 : decode cX2_mostOfWith 0 = .ok (.aload_n 0, 1) := by decide +kernel
theorem dX2_mostOfWith_1 : decode cX2_mostOfWith 1 = .ok (.getfield 25, 3) := by decide +kernel
theorem dX2_mostOfWith_4 : decode cX2_mostOfWith 4 = .ok (.iload_n 1, 1) := by decide +kernel
theorem dX2_mostOfWith_5 : decode cX2_mostOfWith 5 = .ok (.iaload, 1) := by decide +kernel
theorem dX2_mostOfWith_6 : decode cX2_mostOfWith 6 = .ok (.istore_n 3, 1) := by decide +kernel
theorem dX2_mostOfWith_7 : decode cX2_mostOfWith 7 = .ok (.iconst 0, 1) := by decide +kernel
theorem dX2_mostOfWith_8 : decode cX2_mostOfWith 8 = .ok (.istore 4, 2) := by decide +kernel
theorem dX2_mostOfWith_10 : decode cX2_mostOfWith 10 = .ok (.iload 4, 2) := by decide +kernel
theorem dX2_mostOfWith_12 : decode cX2_mostOfWith 12 = .ok (.aload_n 0, 1) := by decide +kernel
theorem dX2_mostOfWith_13 : decode cX2_mostOfWith 13 = .ok (.getfield 33, 3) := by decide +kernel
theorem dX2_mostOfWith_16 : decode cX2_mostOfWith 16 = .ok (.if_icmp .ge 75, 3) := by decide +kernel
theorem dX2_mostOfWith_19 : decode cX2_mostOfWith 19 = .ok (.iload_n 1, 1) := by decide +kernel
theorem dX2_mostOfWith_20 : decode cX2_mostOfWith 20 = .ok (.iconst 1, 1) := by decide +kernel
theorem dX2_mostOfWith_21 : decode cX2_mostOfWith 21 = .ok (.iload 4, 2) := by decide +kernel
theorem dX2_mostOfWith_23 : decode cX2_mostOfWith 23 = .ok (.ishl, 1) := by decide +kernel
theorem dX2_mostOfWith_24 : decode cX2_mostOfWith 24 = .ok (.iconst (-1), 1) := by decide +kernel
theorem dX2_mostOfWith_25 : decode cX2_mostOfWith 25 = .ok (.ixor, 1) := by decide +kernel
theorem dX2_mostOfWith_26 : decode cX2_mostOfWith 26 = .ok (.iand, 1) := by decide +kernel
theorem dX2_mostOfWith_27 : decode cX2_mostOfWith 27 = .ok (.istore 5, 2) := by decide +kernel
theorem dX2_mostOfWith_29 : decode cX2_mostOfWith 29 = .ok (.iload 5, 2) := by decide +kernel
theorem dX2_mostOfWith_31 : decode cX2_mostOfWith 31 = .ok (.iload_n 1, 1) := by decide +kernel
theorem dX2_mostOfWith_32 : decode cX2_mostOfWith 32 = .ok (.if_icmp .eq 53, 3) := by decide +kernel
theorem dX2_mostOfWith_35 : decode cX2_mostOfWith 35 = .ok (.aload_n 0, 1) := by decide +kernel
theorem dX2_mostOfWith_36 : decode cX2_mostOfWith 36 = .ok (.getfield 25, 3) := by decide +kernel
theorem dX2_mostOfWith_39 : decode cX2_mostOfWith 39 = .ok (.iload 5, 2) := by decide +kernel
theorem dX2_mostOfWith_41 : decode cX2_mostOfWith 41 = .ok (.iaload, 1) := by decide +kernel
theorem dX2_mostOfWith_42 : decode cX2_mostOfWith 42 = .ok (.iconst (-1), 1) := by decide +kernel
theorem dX2_mostOfWith_43 : decode cX2_mostOfWith 43 = .ok (.if_icmp .eq 42, 3) := by decide +kernel
theorem dX2_mostOfWith_46 : decode cX2_mostOfWith 46 = .ok (.aload_n 0, 1) := by decide +kernel
theorem dX2_mostOfWith_47 : decode cX2_mostOfWith 47 = .ok (.getfield 19, 3) := by decide +kernel
theorem dX2_mostOfWith_50 : decode cX2_mostOfWith 50 = .ok (.iload 4, 2) := by decide +kernel
theorem dX2_mostOfWith_52 : decode cX2_mostOfWith 52 = .ok (.aaload, 1) := by decide +kernel
theorem dX2_mostOfWith_53 : decode cX2_mostOfWith 53 = .ok (.iload_n 2, 1) := by decide +kernel
theorem dX2_mostOfWith_54 : decode cX2_mostOfWith 54 = .ok (.iaload, 1) := by decide +kernel
theorem dX2_mostOfWith_55 : decode cX2_mostOfWith 55 = .ok (.iconst (-1), 1) := by decide +kernel
theorem dX2_mostOfWith_56 : decode cX2_mostOfWith 56 = .ok (.if_icmp .eq 29, 3) := by decide +kernel
theorem dX2_mostOfWith_59 : decode cX2_mostOfWith 59 = .ok (.iload_n 3, 1) := by decide +kernel
theorem dX2_mostOfWith_60 : decode cX2_mostOfWith 60 = .ok (.aload_n 0, 1) := by decide +kernel
theorem dX2_mostOfWith_61 : decode cX2_mostOfWith 61 = .ok (.getfield 25, 3) := by decide +kernel
theorem dX2_mostOfWith_64 : decode cX2_mostOfWith 64 = .ok (.iload 5, 2) := by decide +kernel
theorem dX2_mostOfWith_66 : decode cX2_mostOfWith 66 = .ok (.iaload, 1) := by decide +kernel
theorem dX2_mostOfWith_67 : decode cX2_mostOfWith 67 = .ok (.sipush 10000, 3) := by decide +kernel
theorem dX2_mostOfWith_70 : decode cX2_mostOfWith 70 = .ok (.iadd, 1) := by decide +kernel
theorem dX2_mostOfWith_71 : decode cX2_mostOfWith 71 = .ok (.aload_n 0, 1) := by decide +kernel
theorem dX2_mostOfWith_72 : decode cX2_mostOfWith 72 = .ok (.getfield 19, 3) := by decide +kernel
theorem dX2_mostOfWith_75 : decode cX2_mostOfWith 75 = .ok (.iload 4, 2) := by decide +kernel
theorem dX2_mostOfWith_77 : decode cX2_mostOfWith 77 = .ok (.aaload, 1) := by decide +kernel
theorem dX2_mostOfWith_78 : decode cX2_mostOfWith 78 = .ok (.iload_n 2, 1) := by decide +kernel
theorem dX2_mostOfWith_79 : decode cX2_mostOfWith 79 = .ok (.iaload, 1) := by decide +kernel
theorem dX2_mostOfWith_80 : decode cX2_mostOfWith 80 = .ok (.isub, 1) := by decide +kernel
theorem dX2_mostOfWith_81 : decode cX2_mostOfWith 81 = .ok (.invokestatic 48, 3) := by decide +kernel
theorem dX2_mostOfWith_84 : decode cX2_mostOfWith 84 = .ok (.istore_n 3, 1) := by decide +kernel
theorem dX2_mostOfWith_85 : decode cX2_mostOfWith 85 = .ok (.iinc 4 1, 3) := by decide +kernel
theorem dX2_mostOfWith_88 : decode cX2_mostOfWith 88 = .ok (.goto (-78), 3) := by decide +kernel
theorem dX2_mostOfWith_91 : decode cX2_mostOfWith 91 = .ok (.iload_n 3, 1) := by decide +kernel
theorem dX2_mostOfWith_92 : decode cX2_mostOfWith 92 = .ok (.ireturn, 1) := by decide +kernel
theorem dX3_init_0 : decode cX3_init 0 = .ok (.aload_n 0, 1) := by decide +kernel
theorem dX3_init_1 : decode cX3_init 1 = .ok (.invokespecial 3, 3) := by decide +kernel
theorem dX3_init_4 : decode cX3_init 4 = .ok (.aload_n 0, 1) := by decide +kernel
theorem dX3_init_5 : decode cX3_init 5 = .ok (.iload_n 1, 1) := by decide +kernel
theorem dX3_init_6 : decode cX3_init 6 = .ok (.putfield 9, 3) := by decide +kernel
theorem dX3_init_9 : decode cX3_init 9 = .ok (.aload_n 0, 1) := by decide +kernel
theorem dX3_init_10 : decode cX3_init 10 = .ok (.iload_n 2, 1) := by decide +kernel
theorem dX3_init_11 : decode cX3_init 11 = .ok (.putfield 15, 3) := by decide +kernel
theorem dX3_init_14 : decode cX3_init 14 = .ok (.aload_n 0, 1) := by decide +kernel
theorem dX3_init_15 : decode cX3_init 15 = .ok (.iload_n 3, 1) := by decide +kernel
theorem dX3_init_16 : decode cX3_init 16 = .ok (.putfield 18, 3) := by decide +kernel
theorem dX3_init_19 : decode cX3_init 19 = .ok (.aload_n 0, 1) := by decide +kernel
theorem dX3_init_20 : decode cX3_init 20 = .ok (.iload 4, 2) := by decide +kernel
theorem dX3_init_22 : decode cX3_init 22 = .ok (.putfield 21, 3) := by decide +kernel
theorem dX3_init_25 : decode cX3_init 25 = .ok (.aload_n 0, 1) := by decide +kernel
theorem dX3_init_26 : decode cX3_init 26 = .ok (.iconst 0, 1) := by decide +kernel
theorem dX3_init_27 : decode cX3_init 27 = .ok (.putfield 25, 3) := by decide +kernel
theorem dX3_init_30 : decode cX3_init 30 = .ok (.aload_n 0, 1) := by decide +kernel
theorem dX3_init_31 : decode cX3_init 31 = .ok (.iconst (-1), 1) := by decide +kernel
theorem dX3_init_32 : decode cX3_init 32 = .ok (.putfield 28, 3) := by decide +kernel
theorem dX3_init_35 : decode cX3_init 35 = .ok (.aload_n 0, 1) := by decide +kernel
theorem dX3_init_36 : decode cX3_init 36 = .ok (.iconst (-1), 1) := by decide +kernel
theorem dX3_init_37 : decode cX3_init 37 = .ok (.putfield 31, 3) := by decide +kernel
theorem dX3_init_40 : decode cX3_init 40 = .ok (.return_, 1) := by decide +kernel
theorem dX3_isPromiseBroken_0 : decode cX3_isPromiseBroken 0 = .ok (.aload_n 0, 1) := by decide +kernel
theorem dX3_isPromiseBroken_1 : decode cX3_isPromiseBroken 1 = .ok (.getfield 31, 3) := by decide +kernel
theorem dX3_isPromiseBroken_4 : decode cX3_isPromiseBroken 4 = .ok (.iconst (-1), 1) := by decide +kernel
theorem dX3_isPromiseBroken_5 : decode cX3_isPromiseBroken 5 = .ok (.if_icmp .eq 18, 3) := by decide +kernel
theorem dX3_isPromiseBroken_8 : decode cX3_isPromiseBroken 8 = .ok (.aload_n 0, 1) := by decide +kernel
theorem dX3_isPromiseBroken_9 : decode cX3_isPromiseBroken 9 = .ok (.getfield 31, 3) := by decide +kernel
theorem dX3_isPromiseBroken_12 : decode cX3_isPromiseBroken 12 = .ok (.aload_n 0, 1) := by decide +kernel
theorem dX3_isPromiseBroken_13 : decode cX3_isPromiseBroken 13 = .ok (.getfield 28, 3) := by decide +kernel
theorem dX3_isPromiseBroken_16 : decode cX3_isPromiseBroken 16 = .ok (.if_icmp .le 7, 3) := by decide +kernel
theorem dX3_isPromiseBroken_19 : decode cX3_isPromiseBroken 19 = .ok (.iconst 1, 1) := by decide +kernel
theorem dX3_isPromiseBroken_20 : decode cX3_isPromiseBroken 20 = .ok (.goto 4, 3) := by decide +kernel
theorem dX3_isPromiseBroken_23 : decode cX3_isPromiseBroken 23 = .ok (.iconst 0, 1) := by decide +kernel
theorem dX3_isPromiseBroken_24 : decode cX3_isPromiseBroken 24 = .ok (.ireturn, 1) := by decide +kernel
theorem dX4_init_0 : decode cX4_init 0 = .ok (.aload_n 0, 1) := by decide +kernel
theorem dX4_init_1 : decode cX4_init 1 = .ok (.invokespecial 3, 3) := by decide +kernel
theorem dX4_init_4 : decode cX4_init 4 = .ok (.aload_n 0, 1) := by decide +kernel
theorem dX4_init_5 : decode cX4_init 5 = .ok (.bipush 8, 2) := by decide +kernel
theorem dX4_init_7 : decode cX4_init 7 = .ok (.newarray .int, 2) := by decide +kernel
theorem dX4_init_9 : decode cX4_init 9 = .ok (.putfield 11, 3) := by decide +kernel
theorem dX4_init_12 : decode cX4_init 12 = .ok (.aload_n 0, 1) := by decide +kernel
theorem dX4_init_13 : decode cX4_init 13 = .ok (.bipush 8, 2) := by decide +kernel
theorem dX4_init_15 : decode cX4_init 15 = .ok (.anewarray 15, 3) := by decide +kernel
theorem dX4_init_18 : decode cX4_init 18 = .ok (.putfield 17, 3) := by decide +kernel
theorem dX4_init_21 : decode cX4_init 21 = .ok (.aload_n 0, 1) := by decide +kernel
theorem dX4_init_22 : decode cX4_init 22 = .ok (.bipush 8, 2) := by decide +kernel
theorem dX4_init_24 : decode cX4_init 24 = .ok (.newarray .boolean, 2) := by decide +kernel
theorem dX4_init_26 : decode cX4_init 26 = .ok (.putfield 21, 3) := by decide +kernel
theorem dX4_init_29 : decode cX4_init 29 = .ok (.return_, 1) := by decide +kernel
theorem dX4_holds_0 : decode cX4_holds 0 = .ok (.iload_n 1, 1) := by decide +kernel
theorem dX4_holds_1 : decode cX4_holds 1 = .ok (.ifCond .lt 15, 3) := by decide +kernel
theorem dX4_holds_4 : decode cX4_holds 4 = .ok (.iload_n 1, 1) := by decide +kernel
theorem dX4_holds_5 : decode cX4_holds 5 = .ok (.aload_n 0, 1) := by decide +kernel
theorem dX4_holds_6 : decode cX4_holds 6 = .ok (.getfield 25, 3) := by decide +kernel
theorem dX4_holds_9 : decode cX4_holds 9 = .ok (.if_icmp .ge 7, 3) := by decide +kernel
theorem dX4_holds_12 : decode cX4_holds 12 = .ok (.iconst 1, 1) := by decide +kernel
theorem dX4_holds_13 : decode cX4_holds 13 = .ok (.goto 4, 3) := by decide +kernel
theorem dX4_holds_16 : decode cX4_holds 16 = .ok (.iconst 0, 1) := by decide +kernel
theorem dX4_holds_17 : decode cX4_holds 17 = .ok (.ireturn, 1) := by decide +kernel
set_option maxRecDepth 20000 in
theorem ggX4_placeAt_X4_holds : GoodIn wsX4_placeAt wsX4_holds := goodIn_r _ [6, 7, 8, 9, 10, 11] (by decide +kernel) (by decide +kernel)
set_option maxRecDepth 20000 in
theorem gX4_placeAt_X4_holds : GoodIn wsX4_placeAt (wsV RX4 29 RX4 yX4_holds wsX4_holds) := goodIn_app (goodIn_of _ (by decide +kernel)) ggX4_placeAt_X4_holds
theorem dX4_placeAt_0 : decode cX4_placeAt 0 = .ok (.aload_n 0, 1) := by decide +kernel
theorem dX4_placeAt_1 : decode cX4_placeAt 1 = .ok (.iload_n 1, 1) := by decide +kernel
theorem dX4_placeAt_2 : decode cX4_placeAt 2 = .ok (.invokevirtual 29, 3) := by decide +kernel
theorem dX4_placeAt_5 : decode cX4_placeAt 5 = .ok (.ifCond .eq 12, 3) := by decide +kernel
theorem dX4_placeAt_8 : decode cX4_placeAt 8 = .ok (.aload_n 0, 1) := by decide +kernel
theorem dX4_placeAt_9 : decode cX4_placeAt 9 = .ok (.getfield 11, 3) := by decide +kernel
theorem dX4_placeAt_12 : decode cX4_placeAt 12 = .ok (.iload_n 1, 1) := by decide +kernel
theorem dX4_placeAt_13 : decode cX4_placeAt 13 = .ok (.iaload, 1) := by decide +kernel
theorem dX4_placeAt_14 : decode cX4_placeAt 14 = .ok (.goto 4, 3) := by decide +kernel
theorem dX4_placeAt_17 : decode cX4_placeAt 17 = .ok (.iconst (-1), 1) := by decide +kernel
theorem dX4_placeAt_18 : decode cX4_placeAt 18 = .ok (.ireturn, 1) := by decide +kernel
set_option maxRecDepth 20000 in
theorem ggX4_riderAt_X4_holds : GoodIn wsX4_riderAt wsX4_holds := goodIn_r _ [6, 7, 8, 9, 10, 11] (by decide +kernel) (by decide +kernel)
set_option maxRecDepth 20000 in
theorem gX4_riderAt_X4_holds : GoodIn wsX4_riderAt (wsV RX4 29 RX4 yX4_holds wsX4_holds) := goodIn_app (goodIn_of _ (by decide +kernel)) ggX4_riderAt_X4_holds
theorem dX4_riderAt_0 : decode cX4_riderAt 0 = .ok (.aload_n 0, 1) := by decide +kernel
theorem dX4_riderAt_1 : decode cX4_riderAt 1 = .ok (.iload_n 1, 1) := by decide +kernel
theorem dX4_riderAt_2 : decode cX4_riderAt 2 = .ok (.invokevirtual 29, 3) := by decide +kernel
theorem dX4_riderAt_5 : decode cX4_riderAt 5 = .ok (.ifCond .eq 12, 3) := by decide +kernel
theorem dX4_riderAt_8 : decode cX4_riderAt 8 = .ok (.aload_n 0, 1) := by decide +kernel
theorem dX4_riderAt_9 : decode cX4_riderAt 9 = .ok (.getfield 17, 3) := by decide +kernel
theorem dX4_riderAt_12 : decode cX4_riderAt 12 = .ok (.iload_n 1, 1) := by decide +kernel
theorem dX4_riderAt_13 : decode cX4_riderAt 13 = .ok (.aaload, 1) := by decide +kernel
theorem dX4_riderAt_14 : decode cX4_riderAt 14 = .ok (.goto 4, 3) := by decide +kernel
theorem dX4_riderAt_17 : decode cX4_riderAt 17 = .ok (.aconst_null, 1) := by decide +kernel
theorem dX4_riderAt_18 : decode cX4_riderAt 18 = .ok (.areturn, 1) := by decide +kernel
set_option maxRecDepth 20000 in
theorem ggX4_isLetOutAt_X4_holds : GoodIn wsX4_isLetOutAt wsX4_holds := goodIn_r _ [6, 7, 8, 9, 10, 11] (by decide +kernel) (by decide +kernel)
set_option maxRecDepth 20000 in
theorem gX4_isLetOutAt_X4_holds : GoodIn wsX4_isLetOutAt (wsV RX4 29 RX4 yX4_holds wsX4_holds) := goodIn_app (goodIn_of _ (by decide +kernel)) ggX4_isLetOutAt_X4_holds
theorem dX4_isLetOutAt_0 : decode cX4_isLetOutAt 0 = .ok (.aload_n 0, 1) := by decide +kernel
theorem dX4_isLetOutAt_1 : decode cX4_isLetOutAt 1 = .ok (.iload_n 1, 1) := by decide +kernel
theorem dX4_isLetOutAt_2 : decode cX4_isLetOutAt 2 = .ok (.invokevirtual 29, 3) := by decide +kernel
theorem dX4_isLetOutAt_5 : decode cX4_isLetOutAt 5 = .ok (.ifCond .eq 16, 3) := by decide +kernel
theorem dX4_isLetOutAt_8 : decode cX4_isLetOutAt 8 = .ok (.aload_n 0, 1) := by decide +kernel
theorem dX4_isLetOutAt_9 : decode cX4_isLetOutAt 9 = .ok (.getfield 21, 3) := by decide +kernel
theorem dX4_isLetOutAt_12 : decode cX4_isLetOutAt 12 = .ok (.iload_n 1, 1) := by decide +kernel
theorem dX4_isLetOutAt_13 : decode cX4_isLetOutAt 13 = .ok (.baload, 1) := by decide +kernel
theorem dX4_isLetOutAt_14 : decode cX4_isLetOutAt 14 = .ok (.ifCond .eq 7, 3) := by decide +kernel
theorem dX4_isLetOutAt_17 : decode cX4_isLetOutAt 17 = .ok (.iconst 1, 1) := by decide +kernel
theorem dX4_isLetOutAt_18 : decode cX4_isLetOutAt 18 = .ok (.goto 4, 3) := by decide +kernel
theorem dX4_isLetOutAt_21 : decode cX4_isLetOutAt 21 = .ok (.iconst 0, 1) := by decide +kernel
theorem dX4_isLetOutAt_22 : decode cX4_isLetOutAt 22 = .ok (.ireturn, 1) := by decide +kernel
set_option maxRecDepth 20000 in
theorem ggX4_put_X4_copyStop : GoodIn wsX4_put wsX4_copyStop := goodIn_r _ [9, 2, 3, 4, 10, 11, 12, 13] (by decide +kernel) (by decide +kernel)
set_option maxRecDepth 20000 in
theorem gX4_put_X4_copyStop : GoodIn wsX4_put (wsV RX4 33 RX4 yX4_copyStop wsX4_copyStop) := goodIn_app (goodIn_of _ (by decide +kernel)) ggX4_put_X4_copyStop
theorem dX4_put_0 : decode cX4_put 0 = .ok (.iload_n 1, 1) := by decide +kernel
theorem dX4_put_1 : decode cX4_put 1 = .ok (.ifCond .lt 20, 3) := by decide +kernel
theorem dX4_put_4 : decode cX4_put 4 = .ok (.iload_n 1, 1) := by decide +kernel
theorem dX4_put_5 : decode cX4_put 5 = .ok (.aload_n 0, 1) := by decide +kernel
theorem dX4_put_6 : decode cX4_put 6 = .ok (.getfield 25, 3) := by decide +kernel
theorem dX4_put_9 : decode cX4_put 9 = .ok (.if_icmp .gt 12, 3) := by decide +kernel
theorem dX4_put_12 : decode cX4_put 12 = .ok (.aload_n 0, 1) := by decide +kernel
theorem dX4_put_13 : decode cX4_put 13 = .ok (.getfield 25, 3) := by decide +kernel
theorem dX4_put_16 : decode cX4_put 16 = .ok (.bipush 8, 2) := by decide +kernel
theorem dX4_put_18 : decode cX4_put 18 = .ok (.if_icmp .lt 4, 3) := by decide +kernel
theorem dX4_put_21 : decode cX4_put 21 = .ok (.return_, 1) := by decide +kernel
theorem dX4_put_22 : decode cX4_put 22 = .ok (.aload_n 0, 1) := by decide +kernel
theorem dX4_put_23 : decode cX4_put 23 = .ok (.getfield 25, 3) := by decide +kernel
theorem dX4_put_26 : decode cX4_put 26 = .ok (.istore 5, 2) := by decide +kernel
theorem dX4_put_28 : decode cX4_put 28 = .ok (.iload 5, 2) := by decide +kernel
theorem dX4_put_30 : decode cX4_put 30 = .ok (.iload_n 1, 1) := by decide +kernel
theorem dX4_put_31 : decode cX4_put 31 = .ok (.if_icmp .le 19, 3) := by decide +kernel
theorem dX4_put_34 : decode cX4_put 34 = .ok (.aload_n 0, 1) := by decide +kernel
theorem dX4_put_35 : decode cX4_put 35 = .ok (.iload 5, 2) := by decide +kernel
theorem dX4_put_37 : decode cX4_put 37 = .ok (.iconst 1, 1) := by decide +kernel
theorem dX4_put_38 : decode cX4_put 38 = .ok (.isub, 1) := by decide +kernel
theorem dX4_put_39 : decode cX4_put 39 = .ok (.iload 5, 2) := by decide +kernel
theorem dX4_put_41 : decode cX4_put 41 = .ok (.invokevirtual 33, 3) := by decide +kernel
theorem dX4_put_44 : decode cX4_put 44 = .ok (.iinc 5 (-1), 3) := by decide +kernel
theorem dX4_put_47 : decode cX4_put 47 = .ok (.goto (-19), 3) := by decide +kernel
theorem dX4_put_50 : decode cX4_put 50 = .ok (.aload_n 0, 1) := by decide +kernel
theorem dX4_put_51 : decode cX4_put 51 = .ok (.getfield 11, 3) := by decide +kernel
theorem dX4_put_54 : decode cX4_put 54 = .ok (.iload_n 1, 1) := by decide +kernel
theorem dX4_put_55 : decode cX4_put 55 = .ok (.iload_n 2, 1) := by decide +kernel
theorem dX4_put_56 : decode cX4_put 56 = .ok (.iastore, 1) := by decide +kernel
theorem dX4_put_57 : decode cX4_put 57 = .ok (.aload_n 0, 1) := by decide +kernel
theorem dX4_put_58 : decode cX4_put 58 = .ok (.getfield 17, 3) := by decide +kernel
theorem dX4_put_61 : decode cX4_put 61 = .ok (.iload_n 1, 1) := by decide +kernel
theorem dX4_put_62 : decode cX4_put 62 = .ok (.aload_n 3, 1) := by decide +kernel
theorem dX4_put_63 : decode cX4_put 63 = .ok (.aastore, 1) := by decide +kernel
theorem dX4_put_64 : decode cX4_put 64 = .ok (.aload_n 0, 1) := by decide +kernel
theorem dX4_put_65 : decode cX4_put 65 = .ok (.getfield 21, 3) := by decide +kernel
theorem dX4_put_68 : decode cX4_put 68 = .ok (.iload_n 1, 1) := by decide +kernel
theorem dX4_put_69 : decode cX4_put 69 = .ok (.iload 4, 2) := by decide +kernel
theorem dX4_put_71 : decode cX4_put 71 = .ok (.bastore, 1) := by decide +kernel
theorem dX4_put_72 : decode cX4_put 72 = .ok (.aload_n 0, 1) := by decide +kernel
theorem dX4_put_73 : decode cX4_put 73 = .ok (.dup, 1) := by decide +kernel
theorem dX4_put_74 : decode cX4_put 74 = .ok (.getfield 25, 3) := by decide +kernel
theorem dX4_put_77 : decode cX4_put 77 = .ok (.iconst 1, 1) := by decide +kernel
theorem dX4_put_78 : decode cX4_put 78 = .ok (.iadd, 1) := by decide +kernel
theorem dX4_put_79 : decode cX4_put 79 = .ok (.putfield 25, 3) := by decide +kernel
theorem dX4_put_82 : decode cX4_put 82 = .ok (.return_, 1) := by decide +kernel
set_option maxRecDepth 20000 in
theorem ggX4_take_X4_holds : GoodIn wsX4_take wsX4_holds := goodIn_r _ [6, 1, 14, 15, 16, 17] (by decide +kernel) (by decide +kernel)
set_option maxRecDepth 20000 in
theorem gX4_take_X4_holds : GoodIn wsX4_take (wsV RX4 29 RX4 yX4_holds wsX4_holds) := goodIn_app (goodIn_of _ (by decide +kernel)) ggX4_take_X4_holds
set_option maxRecDepth 20000 in
theorem ggX4_take_X4_copyStop : GoodIn wsX4_take wsX4_copyStop := goodIn_r _ [10, 11, 12, 13, 14, 15, 16, 17] (by decide +kernel) (by decide +kernel)
set_option maxRecDepth 20000 in
theorem gX4_take_X4_copyStop : GoodIn wsX4_take (wsV RX4 33 RX4 yX4_copyStop wsX4_copyStop) := goodIn_app (goodIn_of _ (by decide +kernel)) ggX4_take_X4_copyStop
theorem dX4_take_0 : decode cX4_take 0 = .ok (.aload_n 0, 1) := by decide +kernel
theorem dX4_take_1 : decode cX4_take 1 = .ok (.iload_n 1, 1) := by decide +kernel
theorem dX4_take_2 : decode cX4_take 2 = .ok (.invokevirtual 29, 3) := by decide +kernel
theorem dX4_take_5 : decode cX4_take 5 = .ok (.ifCond .ne 4, 3) := by decide +kernel
theorem dX4_take_8 : decode cX4_take 8 = .ok (.return_, 1) := by decide +kernel
theorem dX4_take_9 : decode cX4_take 9 = .ok (.iload_n 1, 1) := by decide +kernel
theorem dX4_take_10 : decode cX4_take 10 = .ok (.iconst 1, 1) := by decide +kernel
theorem dX4_take_11 : decode cX4_take 11 = .ok (.iadd, 1) := by decide +kernel
theorem dX4_take_12 : decode cX4_take 12 = .ok (.istore_n 2, 1) := by decide +kernel
