theorem dX6_cancel_0 : decode cX6_cancel 0 = .ok (.aload_n 0, 1) := by decide +kernel
theorem dX6_cancel_1 : decode cX6_cancel 1 = .ok (.iload_n 1, 1) := by decide +kernel
theorem dX6_cancel_2 : decode cX6_cancel 2 = .ok (.invokevirtual 164, 3) := by decide +kernel
theorem dX6_cancel_5 : decode cX6_cancel 5 = .ok (.astore_n 2, 1) := by decide +kernel
theorem dX6_cancel_6 : decode cX6_cancel 6 = .ok (.aload_n 2, 1) := by decide +kernel
theorem dX6_cancel_7 : decode cX6_cancel 7 = .ok (.getfield 168, 3) := by decide +kernel
theorem dX6_cancel_10 : decode cX6_cancel 10 = .ok (.ifCond .eq 21, 3) := by decide +kernel
theorem dX6_cancel_13 : decode cX6_cancel 13 = .ok (.aload_n 2, 1) := by decide +kernel
theorem dX6_cancel_14 : decode cX6_cancel 14 = .ok (.getfield 168, 3) := by decide +kernel
theorem dX6_cancel_17 : decode cX6_cancel 17 = .ok (.iconst 1, 1) := by decide +kernel
theorem dX6_cancel_18 : decode cX6_cancel 18 = .ok (.if_icmp .eq 13, 3) := by decide +kernel
theorem dX6_cancel_21 : decode cX6_cancel 21 = .ok (.new 66, 3) := by decide +kernel
theorem dX6_cancel_24 : decode cX6_cancel 24 = .ok (.dup, 1) := by decide +kernel
theorem dX6_cancel_25 : decode cX6_cancel 25 = .ok (.ldc 171, 2) := by decide +kernel
theorem dX6_cancel_27 : decode cX6_cancel 27 = .ok (.invokespecial 70, 3) := by decide +kernel
theorem dX6_cancel_30 : decode cX6_cancel 30 = .ok (.athrow, 1) := by decide +kernel
theorem dX6_cancel_31 : decode cX6_cancel 31 = .ok (.aload_n 2, 1) := by decide +kernel
theorem dX6_cancel_32 : decode cX6_cancel 32 = .ok (.getfield 168, 3) := by decide +kernel
theorem dX6_cancel_35 : decode cX6_cancel 35 = .ok (.iconst 1, 1) := by decide +kernel
theorem dX6_cancel_36 : decode cX6_cancel 36 = .ok (.if_icmp .ne 7, 3) := by decide +kernel
theorem dX6_cancel_39 : decode cX6_cancel 39 = .ok (.iconst 1, 1) := by decide +kernel
theorem dX6_cancel_40 : decode cX6_cancel 40 = .ok (.goto 4, 3) := by decide +kernel
theorem dX6_cancel_43 : decode cX6_cancel 43 = .ok (.iconst 0, 1) := by decide +kernel
theorem dX6_cancel_44 : decode cX6_cancel 44 = .ok (.istore_n 3, 1) := by decide +kernel
theorem dX6_cancel_45 : decode cX6_cancel 45 = .ok (.aload_n 2, 1) := by decide +kernel
theorem dX6_cancel_46 : decode cX6_cancel 46 = .ok (.iconst 4, 1) := by decide +kernel
theorem dX6_cancel_47 : decode cX6_cancel 47 = .ok (.putfield 168, 3) := by decide +kernel
theorem dX6_cancel_50 : decode cX6_cancel 50 = .ok (.iload_n 3, 1) := by decide +kernel
theorem dX6_cancel_51 : decode cX6_cancel 51 = .ok (.ifCond .eq 21, 3) := by decide +kernel
theorem dX6_cancel_54 : decode cX6_cancel 54 = .ok (.aload_n 2, 1) := by decide +kernel
theorem dX6_cancel_55 : decode cX6_cancel 55 = .ok (.getfield 173, 3) := by decide +kernel
theorem dX6_cancel_58 : decode cX6_cancel 58 = .ok (.ifnull 14, 3) := by decide +kernel
theorem dX6_cancel_61 : decode cX6_cancel 61 = .ok (.aload_n 2, 1) := by decide +kernel
theorem dX6_cancel_62 : decode cX6_cancel 62 = .ok (.getfield 173, 3) := by decide +kernel
theorem dX6_cancel_65 : decode cX6_cancel 65 = .ok (.getfield 106, 3) := by decide +kernel
theorem dX6_cancel_68 : decode cX6_cancel 68 = .ok (.aload_n 2, 1) := by decide +kernel
theorem dX6_cancel_69 : decode cX6_cancel 69 = .ok (.invokevirtual 177, 3) := by decide +kernel
theorem dX6_cancel_72 : decode cX6_cancel 72 = .ok (.iload_n 3, 1) := by decide +kernel
theorem dX6_cancel_73 : decode cX6_cancel 73 = .ok (.ifCond .eq 22, 3) := by decide +kernel
theorem dX6_cancel_76 : decode cX6_cancel 76 = .ok (.aload_n 0, 1) := by decide +kernel
theorem dX6_cancel_77 : decode cX6_cancel 77 = .ok (.getfield 134, 3) := by decide +kernel
theorem dX6_cancel_80 : decode cX6_cancel 80 = .ok (.aload_n 2, 1) := by decide +kernel
theorem dX6_cancel_81 : decode cX6_cancel 81 = .ok (.getfield 181, 3) := by decide +kernel
theorem dX6_cancel_84 : decode cX6_cancel 84 = .ok (.isub, 1) := by decide +kernel
theorem dX6_cancel_85 : decode cX6_cancel 85 = .ok (.iconst 2, 1) := by decide +kernel
theorem dX6_cancel_86 : decode cX6_cancel 86 = .ok (.if_icmp .le 9, 3) := by decide +kernel
theorem dX6_cancel_89 : decode cX6_cancel 89 = .ok (.sipush 500, 3) := by decide +kernel
theorem dX6_cancel_92 : decode cX6_cancel 92 = .ok (.goto 4, 3) := by decide +kernel
theorem dX6_cancel_95 : decode cX6_cancel 95 = .ok (.iconst 0, 1) := by decide +kernel
theorem dX6_cancel_96 : decode cX6_cancel 96 = .ok (.ireturn, 1) := by decide +kernel
set_option maxRecDepth 20000 in
theorem ggX6_rate_X6_knownRequest : GoodIn wsX6_rate wsX6_knownRequest := goodIn_ca (goodIn_r _ [7, 8, 9, 10, 11, 66, 67, 68, 69, 70, 71, 72, 73, 74, 75] (by decide +kernel) (by decide +kernel)) (goodIn_sub (fun _ h => List.mem_cons_of_mem _ (List.mem_append_left _ (List.mem_append_right _ h))) (by decide +kernel))
set_option maxRecDepth 20000 in
theorem gX6_rate_X6_knownRequest : GoodIn wsX6_rate (wsV RX6 164 RX6 yX6_knownRequest wsX6_knownRequest) := goodIn_app (goodIn_of _ (by decide +kernel)) ggX6_rate_X6_knownRequest
set_option maxRecDepth 20000 in
theorem ggX6_rate_X6_checkRange : GoodIn wsX6_rate wsX6_checkRange := goodIn_ca (goodIn_r _ [14, 15, 16] (by decide +kernel) (by decide +kernel)) (goodIn_sub (fun _ h => List.mem_cons_of_mem _ (List.mem_append_right _ h)) (by decide +kernel))
set_option maxRecDepth 20000 in
theorem gX6_rate_X6_checkRange : GoodIn wsX6_rate (va_wsS RX6 59 yX6_checkRange wsX6_checkRange) := goodIn_app (goodIn_of _ (by decide +kernel)) ggX6_rate_X6_checkRange
set_option maxRecDepth 20000 in
theorem ggX6_rate_X1_isFree : GoodIn wsX6_rate wsX1_isFree := goodIn_r _ [21, 22, 23, 24, 53, 54, 55, 56, 57, 58, 59, 60, 61, 62, 63, 64, 65, 76, 77, 78, 79] (by decide +kernel) (by decide +kernel)
set_option maxRecDepth 20000 in
theorem gX6_rate_X1_isFree : GoodIn wsX6_rate (wsV RX6 121 RX1 yX1_isFree wsX1_isFree) := goodIn_app (goodIn_of _ (by decide +kernel)) ggX6_rate_X1_isFree
set_option maxRecDepth 20000 in
theorem ggX6_rate_X1_addStars : GoodIn wsX6_rate wsX1_addStars := goodIn_r _ [28, 29, 30, 31, 32, 33, 34, 35, 24, 53, 54, 55, 56, 57, 58, 59, 60, 61, 62, 63, 64, 65] (by decide +kernel) (by decide +kernel)
set_option maxRecDepth 20000 in
theorem gX6_rate_X1_addStars : GoodIn wsX6_rate (wsV RX6 189 RX1 yX1_addStars wsX1_addStars) := goodIn_app (goodIn_of _ (by decide +kernel)) ggX6_rate_X1_addStars
set_option maxRecDepth 20000 in
theorem ggX6_rate_X6_queueIfNowFree : GoodIn wsX6_rate wsX6_queueIfNowFree := goodIn_r _ [39, 40, 17, 18, 19, 20, 21, 22, 23, 24, 66, 67, 68, 69, 70, 71, 72, 73, 74, 75, 53, 54, 55, 56, 57, 58, 59, 60, 61, 62, 63, 64, 65, 76, 77, 78, 79] (by decide +kernel) (by decide +kernel)
set_option maxRecDepth 20000 in
theorem gX6_rate_X6_queueIfNowFree : GoodIn wsX6_rate (wsV RX6 95 RX6 yX6_queueIfNowFree wsX6_queueIfNowFree) := goodIn_app (goodIn_of _ (by decide +kernel)) ggX6_rate_X6_queueIfNowFree
theorem dX6_rate_0 : decode cX6_rate 0 = .ok (.aload_n 0, 1) := by decide +kernel
theorem dX6_rate_1 : decode cX6_rate 1 = .ok (.iload_n 1, 1) := by decide +kernel
theorem dX6_rate_2 : decode cX6_rate 2 = .ok (.invokevirtual 164, 3) := by decide +kernel
theorem dX6_rate_5 : decode cX6_rate 5 = .ok (.astore_n 3, 1) := by decide +kernel
theorem dX6_rate_6 : decode cX6_rate 6 = .ok (.iload_n 2, 1) := by decide +kernel
theorem dX6_rate_7 : decode cX6_rate 7 = .ok (.iconst 1, 1) := by decide +kernel
theorem dX6_rate_8 : decode cX6_rate 8 = .ok (.iconst 5, 1) := by decide +kernel
theorem dX6_rate_9 : decode cX6_rate 9 = .ok (.invokestatic 59, 3) := by decide +kernel
theorem dX6_rate_12 : decode cX6_rate 12 = .ok (.aload_n 3, 1) := by decide +kernel
theorem dX6_rate_13 : decode cX6_rate 13 = .ok (.getfield 173, 3) := by decide +kernel
theorem dX6_rate_16 : decode cX6_rate 16 = .ok (.astore 4, 2) := by decide +kernel
theorem dX6_rate_18 : decode cX6_rate 18 = .ok (.aload_n 3, 1) := by decide +kernel
theorem dX6_rate_19 : decode cX6_rate 19 = .ok (.getfield 168, 3) := by decide +kernel
theorem dX6_rate_22 : decode cX6_rate 22 = .ok (.iconst 3, 1) := by decide +kernel
theorem dX6_rate_23 : decode cX6_rate 23 = .ok (.if_icmp .ne 15, 3) := by decide +kernel
theorem dX6_rate_26 : decode cX6_rate 26 = .ok (.aload_n 3, 1) := by decide +kernel
theorem dX6_rate_27 : decode cX6_rate 27 = .ok (.getfield 184, 3) := by decide +kernel
theorem dX6_rate_30 : decode cX6_rate 30 = .ok (.ifCond .ne 8, 3) := by decide +kernel
theorem dX6_rate_33 : decode cX6_rate 33 = .ok (.aload 4, 2) := by decide +kernel
theorem dX6_rate_35 : decode cX6_rate 35 = .ok (.ifnonnull 13, 3) := by decide +kernel
theorem dX6_rate_38 : decode cX6_rate 38 = .ok (.new 66, 3) := by decide +kernel
theorem dX6_rate_41 : decode cX6_rate 41 = .ok (.dup, 1) := by decide +kernel
theorem dX6_rate_42 : decode cX6_rate 42 = .ok (.ldc 187, 2) := by decide +kernel
theorem dX6_rate_44 : decode cX6_rate 44 = .ok (.invokespecial 70, 3) := by decide +kernel
theorem dX6_rate_47 : decode cX6_rate 47 = .ok (.athrow, 1) := by decide +kernel
theorem dX6_rate_48 : decode cX6_rate 48 = .ok (.aload 4, 2) := by decide +kernel
theorem dX6_rate_50 : decode cX6_rate 50 = .ok (.invokevirtual 121, 3) := by decide +kernel
theorem dX6_rate_53 : decode cX6_rate 53 = .ok (.istore 5, 2) := by decide +kernel
theorem dX6_rate_55 : decode cX6_rate 55 = .ok (.aload_n 3, 1) := by decide +kernel
theorem dX6_rate_56 : decode cX6_rate 56 = .ok (.iconst 1, 1) := by decide +kernel
theorem dX6_rate_57 : decode cX6_rate 57 = .ok (.putfield 184, 3) := by decide +kernel
theorem dX6_rate_60 : decode cX6_rate 60 = .ok (.aload 4, 2) := by decide +kernel
theorem dX6_rate_62 : decode cX6_rate 62 = .ok (.iload_n 2, 1) := by decide +kernel
theorem dX6_rate_63 : decode cX6_rate 63 = .ok (.invokevirtual 189, 3) := by decide +kernel
theorem dX6_rate_66 : decode cX6_rate 66 = .ok (.aload_n 0, 1) := by decide +kernel
theorem dX6_rate_67 : decode cX6_rate 67 = .ok (.aload 4, 2) := by decide +kernel
theorem dX6_rate_69 : decode cX6_rate 69 = .ok (.iload 5, 2) := by decide +kernel
theorem dX6_rate_71 : decode cX6_rate 71 = .ok (.invokevirtual 95, 3) := by decide +kernel
theorem dX6_rate_74 : decode cX6_rate 74 = .ok (.aload 4, 2) := by decide +kernel
theorem dX6_rate_76 : decode cX6_rate 76 = .ok (.getfield 192, 3) := by decide +kernel
theorem dX6_rate_79 : decode cX6_rate 79 = .ok (.ireturn, 1) := by decide +kernel
set_option maxRecDepth 20000 in
theorem ggX6_airport_X6_firstInQueue : GoodIn wsX6_airport wsX6_firstInQueue := goodIn_r _ [7, 8, 9, 10, 11, 12, 13, 14, 15, 16, 17, 89, 90, 91, 92, 93, 94, 95, 96, 97, 98, 111, 112, 113, 114, 115, 116, 117, 118, 119, 120, 121, 122, 123, 124, 125, 126, 127] (by decide +kernel) (by decide +kernel)
set_option maxRecDepth 20000 in
theorem gX6_airport_X6_firstInQueue : GoodIn wsX6_airport (wsV RX6 198 RX6 yX6_firstInQueue wsX6_firstInQueue) := goodIn_app (goodIn_of _ (by decide +kernel)) ggX6_airport_X6_firstInQueue
set_option maxRecDepth 20000 in
theorem ggX6_airport_X6_send : GoodIn wsX6_airport wsX6_send := goodIn_r _ [21, 22, 23, 24, 25, 26, 27, 28, 29, 30, 31, 32, 33, 34, 35, 36, 6, 37, 38, 39, 40, 41, 42, 43, 44, 45, 46, 47, 48, 49, 50, 51, 52, 53, 54, 55, 56, 57, 58, 59, 60, 61, 62, 63, 64, 65, 66, 67, 68, 69, 70, 71, 72, 73, 74, 75, 76, 77, 78, 79, 80, 81, 82, 83, 84, 85, 86, 87, 88, 10, 11, 12, 13, 14, 15, 16, 17, 89, 90, 91, 92, 93, 94, 95, 96, 97, 98, 111, 112, 113, 114, 115, 116, 117, 118, 119, 120, 121, 122, 123, 99, 100, 101, 102, 103, 104, 105, 106, 107, 108, 109, 110, 128, 129, 130, 131, 132, 124, 125, 126, 127] (by decide +kernel) (by decide +kernel)
set_option maxRecDepth 20000 in
theorem gX6_airport_X6_send : GoodIn wsX6_airport (wsV RX6 202 RX6 yX6_send wsX6_send) := goodIn_app (goodIn_of _ (by decide +kernel)) ggX6_airport_X6_send
theorem dX6_airport_0 : decode cX6_airport 0 = .ok (.iconst 0, 1) := by decide +kernel
theorem dX6_airport_1 : decode cX6_airport 1 = .ok (.istore_n 1, 1) := by decide +kernel
theorem dX6_airport_2 : decode cX6_airport 2 = .ok (.iconst 0, 1) := by decide +kernel
theorem dX6_airport_3 : decode cX6_airport 3 = .ok (.istore_n 2, 1) := by decide +kernel
theorem dX6_airport_4 : decode cX6_airport 4 = .ok (.iload_n 2, 1) := by decide +kernel
theorem dX6_airport_5 : decode cX6_airport 5 = .ok (.aload_n 0, 1) := by decide +kernel
theorem dX6_airport_6 : decode cX6_airport 6 = .ok (.getfield 146, 3) := by decide +kernel
theorem dX6_airport_9 : decode cX6_airport 9 = .ok (.if_icmp .ge 53, 3) := by decide +kernel
theorem dX6_airport_12 : decode cX6_airport 12 = .ok (.aload_n 0, 1) := by decide +kernel
theorem dX6_airport_13 : decode cX6_airport 13 = .ok (.getfield 24, 3) := by decide +kernel
theorem dX6_airport_16 : decode cX6_airport 16 = .ok (.iload_n 2, 1) := by decide +kernel
theorem dX6_airport_17 : decode cX6_airport 17 = .ok (.aaload, 1) := by decide +kernel
theorem dX6_airport_18 : decode cX6_airport 18 = .ok (.astore_n 3, 1) := by decide +kernel
theorem dX6_airport_19 : decode cX6_airport 19 = .ok (.aload_n 3, 1) := by decide +kernel
theorem dX6_airport_20 : decode cX6_airport 20 = .ok (.getfield 168, 3) := by decide +kernel
theorem dX6_airport_23 : decode cX6_airport 23 = .ok (.ifCond .ne 33, 3) := by decide +kernel
theorem dX6_airport_26 : decode cX6_airport 26 = .ok (.aload_n 3, 1) := by decide +kernel
theorem dX6_airport_27 : decode cX6_airport 27 = .ok (.getfield 195, 3) := by decide +kernel
theorem dX6_airport_30 : decode cX6_airport 30 = .ok (.ifCond .ne 26, 3) := by decide +kernel
theorem dX6_airport_33 : decode cX6_airport 33 = .ok (.aload_n 0, 1) := by decide +kernel
theorem dX6_airport_34 : decode cX6_airport 34 = .ok (.invokevirtual 198, 3) := by decide +kernel
theorem dX6_airport_37 : decode cX6_airport 37 = .ok (.astore 4, 2) := by decide +kernel
theorem dX6_airport_39 : decode cX6_airport 39 = .ok (.aload 4, 2) := by decide +kernel
theorem dX6_airport_41 : decode cX6_airport 41 = .ok (.ifnonnull 5, 3) := by decide +kernel
theorem dX6_airport_44 : decode cX6_airport 44 = .ok (.iload_n 1, 1) := by decide +kernel
theorem dX6_airport_45 : decode cX6_airport 45 = .ok (.ireturn, 1) := by decide +kernel
theorem dX6_airport_46 : decode cX6_airport 46 = .ok (.aload_n 0, 1) := by decide +kernel
theorem dX6_airport_47 : decode cX6_airport 47 = .ok (.aload 4, 2) := by decide +kernel
theorem dX6_airport_49 : decode cX6_airport 49 = .ok (.aload_n 3, 1) := by decide +kernel
theorem dX6_airport_50 : decode cX6_airport 50 = .ok (.invokevirtual 202, 3) := by decide +kernel
theorem dX6_airport_53 : decode cX6_airport 53 = .ok (.iinc 1 1, 3) := by decide +kernel
theorem dX6_airport_56 : decode cX6_airport 56 = .ok (.iinc 2 1, 3) := by decide +kernel
theorem dX6_airport_59 : decode cX6_airport 59 = .ok (.goto (-55), 3) := by decide +kernel
theorem dX6_airport_62 : decode cX6_airport 62 = .ok (.iload_n 1, 1) := by decide +kernel
theorem dX6_airport_63 : decode cX6_airport 63 = .ok (.ireturn, 1) := by decide +kernel
set_option maxRecDepth 20000 in
theorem ggX6_best_X6_prepareMatching : GoodIn wsX6_best wsX6_prepareMatching := goodIn_ca (goodIn_r _ [6, 7, 8, 1, 9, 10, 11, 12, 13, 14, 15, 16, 17, 18, 19, 20, 21, 22, 23, 24, 25, 26, 5, 27, 28, 29, 30, 31, 32, 33, 34, 35, 36, 37, 38, 39, 40, 41, 42, 43, 44, 45, 46, 47, 48, 49, 50, 51, 52, 53, 75, 76, 77, 78, 79, 80, 81, 82, 83, 84, 85, 86, 87, 88, 89, 90, 91, 92, 93, 94, 95, 96, 97, 98, 99, 100, 101, 102, 103, 104, 105, 106, 107, 108, 109, 110, 111, 112, 113, 114, 115, 116, 117, 118, 119, 120, 121, 122, 123, 124] (by decide +kernel) (by decide +kernel)) (goodIn_sub (fun _ h => List.mem_cons_of_mem _ (List.mem_append_right _ h)) (by decide +kernel))
set_option maxRecDepth 20000 in
theorem gX6_best_X6_prepareMatching : GoodIn wsX6_best (wsV RX6 206 RX6 yX6_prepareMatching wsX6_prepareMatching) := goodIn_app (goodIn_of _ (by decide +kernel)) ggX6_best_X6_prepareMatching
set_option maxRecDepth 20000 in
theorem ggX6_best_X2_mostByRequests : GoodIn wsX6_best wsX2_mostByRequests := goodIn_r _ [57, 17, 58, 18, 59, 60, 61, 15, 62, 63, 64, 65, 66, 67, 68, 69, 70, 53, 71, 72, 73, 74, 97, 98, 99, 100, 101, 102] (by decide +kernel) (by decide +kernel)
set_option maxRecDepth 20000 in
theorem gX6_best_X2_mostByRequests : GoodIn wsX6_best (wsV RX6 209 RX2 yX2_mostByRequests wsX2_mostByRequests) := goodIn_app (goodIn_of _ (by decide +kernel)) ggX6_best_X2_mostByRequests
theorem dX6_best_0 : decode cX6_best 0 = .ok (.aload_n 0, 1) := by decide +kernel
theorem dX6_best_1 : decode cX6_best 1 = .ok (.invokevirtual 206, 3) := by decide +kernel
theorem dX6_best_4 : decode cX6_best 4 = .ok (.aload_n 0, 1) := by decide +kernel
theorem dX6_best_5 : decode cX6_best 5 = .ok (.getfield 31, 3) := by decide +kernel
theorem dX6_best_8 : decode cX6_best 8 = .ok (.invokevirtual 209, 3) := by decide +kernel
theorem dX6_best_11 : decode cX6_best 11 = .ok (.ireturn, 1) := by decide +kernel
set_option maxRecDepth 20000 in
theorem ggX6_bestAnew_X6_prepareMatching : GoodIn wsX6_bestAnew wsX6_prepareMatching := goodIn_ca (goodIn_r _ [6, 7, 8, 1, 9, 10, 11, 12, 13, 14, 15, 16, 17, 18, 19, 20, 21, 22, 23, 24, 25, 26, 5, 27, 28, 29, 30, 31, 32, 33, 34, 35, 36, 37, 38, 39, 40, 41, 42, 43, 44, 45, 46, 47, 48, 49, 50, 51, 52, 53, 67, 68, 69, 70, 71, 72, 73, 74, 75, 76, 77, 78, 79, 80, 81, 82, 83, 84, 85, 86, 87, 88, 89, 90, 91, 92, 93, 94, 95, 96, 97, 98, 99, 100, 101, 102, 103, 104, 105, 106, 107, 108, 109, 110, 111, 112, 113, 114, 115, 116] (by decide +kernel) (by decide +kernel)) (goodIn_sub (fun _ h => List.mem_cons_of_mem _ (List.mem_append_right _ h)) (by decide +kernel))
set_option maxRecDepth 20000 in
theorem gX6_bestAnew_X6_prepareMatching : GoodIn wsX6_bestAnew (wsV RX6 206 RX6 yX6_prepareMatching wsX6_prepareMatching) := goodIn_app (goodIn_of _ (by decide +kernel)) ggX6_bestAnew_X6_prepareMatching
set_option maxRecDepth 20000 in
theorem ggX6_bestAnew_X2_mostByDrivers : GoodIn wsX6_bestAnew wsX2_mostByDrivers := goodIn_r _ [57, 18, 58, 17, 59, 60, 61, 62, 63, 64, 65, 15, 66, 53, 89, 90, 91, 92, 93, 94] (by decide +kernel) (by decide +kernel)
set_option maxRecDepth 20000 in
theorem gX6_bestAnew_X2_mostByDrivers : GoodIn wsX6_bestAnew (wsV RX6 213 RX2 yX2_mostByDrivers wsX2_mostByDrivers) := goodIn_app (goodIn_of _ (by decide +kernel)) ggX6_bestAnew_X2_mostByDrivers
theorem dX6_bestAnew_0 : decode cX6_bestAnew 0 = .ok (.aload_n 0, 1) := by decide +kernel
theorem dX6_bestAnew_1 : decode cX6_bestAnew 1 = .ok (.invokevirtual 206, 3) := by decide +kernel
theorem dX6_bestAnew_4 : decode cX6_bestAnew 4 = .ok (.aload_n 0, 1) := by decide +kernel
theorem dX6_bestAnew_5 : decode cX6_bestAnew 5 = .ok (.getfield 31, 3) := by decide +kernel
theorem dX6_bestAnew_8 : decode cX6_bestAnew 8 = .ok (.invokevirtual 213, 3) := by decide +kernel
theorem dX6_bestAnew_11 : decode cX6_bestAnew 11 = .ok (.ireturn, 1) := by decide +kernel
set_option maxRecDepth 20000 in
theorem ggX6_match_X6_prepareMatching : GoodIn wsX6_match wsX6_prepareMatching := goodIn_ca (goodIn_r _ [7, 8, 9, 1, 10, 11, 12, 13, 14, 15, 16, 17, 18, 19, 20, 21, 22, 23, 24, 25, 26, 27, 6, 28, 29, 30, 2, 31, 32, 33, 34, 35, 36, 37, 38, 39, 40, 41, 42, 43, 44, 45, 46, 47, 48, 49, 50, 51, 52, 53, 138, 139, 140, 141, 142, 143, 144, 145, 146, 147, 154, 155, 156, 157, 158, 159, 160, 161, 162, 163, 164, 165, 148, 149, 150, 151, 152, 153, 166, 167, 168, 169, 170, 171, 172, 173, 174, 175, 176, 177, 178, 179, 180, 181, 182, 183, 184, 185, 186, 187] (by decide +kernel) (by decide +kernel)) (goodIn_sub (fun _ h => List.mem_cons_of_mem _ (List.mem_append_right _ h)) (by decide +kernel))
set_option maxRecDepth 20000 in
theorem gX6_match_X6_prepareMatching : GoodIn wsX6_match (wsV RX6 206 RX6 yX6_prepareMatching wsX6_prepareMatching) := goodIn_app (goodIn_of _ (by decide +kernel)) ggX6_match_X6_prepareMatching
set_option maxRecDepth 20000 in
theorem ggX6_match_X2_mostByRequests : GoodIn wsX6_match wsX2_mostByRequests := goodIn_r _ [57, 18, 58, 19, 59, 60, 61, 16, 62, 63, 64, 65, 66, 67, 68, 69, 70, 53, 71, 72, 73, 74, 148, 149, 150, 151, 152, 153] (by decide +kernel) (by decide +kernel)
set_option maxRecDepth 20000 in
theorem gX6_match_X2_mostByRequests : GoodIn wsX6_match (wsV RX6 209 RX2 yX2_mostByRequests wsX2_mostByRequests) := goodIn_app (goodIn_of _ (by decide +kernel)) ggX6_match_X2_mostByRequests
set_option maxRecDepth 20000 in
theorem ggX6_match_X2_chosenDriver : GoodIn wsX6_match wsX2_chosenDriver := goodIn_r _ [78, 18, 58, 67, 68, 69, 16, 70, 53, 71, 72, 73, 74, 148, 149, 150, 151, 152, 153] (by decide +kernel) (by decide +kernel)
set_option maxRecDepth 20000 in
theorem gX6_match_X2_chosenDriver : GoodIn wsX6_match (wsV RX6 219 RX2 yX2_chosenDriver wsX2_chosenDriver) := goodIn_app (goodIn_of _ (by decide +kernel)) ggX6_match_X2_chosenDriver
set_option maxRecDepth 20000 in
theorem ggX6_match_X6_send : GoodIn wsX6_match wsX6_send := goodIn_r _ [82, 29, 30, 31, 32, 33, 34, 35, 36, 37, 38, 39, 40, 83, 84, 85, 6, 86, 87, 88, 89, 90, 91, 92, 93, 94, 95, 96, 97, 98, 99, 100, 101, 102, 103, 104, 105, 106, 107, 108, 109, 110, 111, 112, 113, 114, 115, 116, 117, 118, 119, 120, 121, 122, 123, 124, 125, 126, 127, 128, 129, 130, 131, 132, 133, 134, 135, 136, 137, 41, 42, 43, 44, 45, 46, 47, 48, 138, 139, 140, 141, 142, 143, 144, 145, 146, 147, 166, 167, 168, 169, 170, 171, 172, 173, 174, 175, 176, 177, 178, 154, 155, 156, 157, 158, 159, 160, 161, 162, 163, 164, 165, 179, 180, 181, 182, 183, 184, 185, 186, 187] (by decide +kernel) (by decide +kernel)
set_option maxRecDepth 20000 in
theorem gX6_match_X6_send : GoodIn wsX6_match (wsV RX6 202 RX6 yX6_send wsX6_send) := goodIn_app (goodIn_of _ (by decide +kernel)) ggX6_match_X6_send
theorem dX6_match_0 : decode cX6_match 0 = .ok (.aload_n 0, 1) := by decide +kernel
theorem dX6_match_1 : decode cX6_match 1 = .ok (.invokevirtual 206, 3) := by decide +kernel
theorem dX6_match_4 : decode cX6_match 4 = .ok (.aload_n 0, 1) := by decide +kernel
theorem dX6_match_5 : decode cX6_match 5 = .ok (.getfield 31, 3) := by decide +kernel
theorem dX6_match_8 : decode cX6_match 8 = .ok (.invokevirtual 209, 3) := by decide +kernel
theorem dX6_match_11 : decode cX6_match 11 = .ok (.pop, 1) := by decide +kernel
theorem dX6_match_12 : decode cX6_match 12 = .ok (.iconst 0, 1) := by decide +kernel
theorem dX6_match_13 : decode cX6_match 13 = .ok (.istore_n 1, 1) := by decide +kernel
theorem dX6_match_14 : decode cX6_match 14 = .ok (.iconst 0, 1) := by decide +kernel
theorem dX6_match_15 : decode cX6_match 15 = .ok (.istore_n 2, 1) := by decide +kernel
theorem dX6_match_16 : decode cX6_match 16 = .ok (.iconst 0, 1) := by decide +kernel
theorem dX6_match_17 : decode cX6_match 17 = .ok (.istore_n 3, 1) := by decide +kernel
theorem dX6_match_18 : decode cX6_match 18 = .ok (.iload_n 3, 1) := by decide +kernel
theorem dX6_match_19 : decode cX6_match 19 = .ok (.aload_n 0, 1) := by decide +kernel
theorem dX6_match_20 : decode cX6_match 20 = .ok (.getfield 31, 3) := by decide +kernel
theorem dX6_match_23 : decode cX6_match 23 = .ok (.getfield 216, 3) := by decide +kernel
theorem dX6_match_26 : decode cX6_match 26 = .ok (.if_icmp .ge 56, 3) := by decide +kernel
theorem dX6_match_29 : decode cX6_match 29 = .ok (.aload_n 0, 1) := by decide +kernel
theorem dX6_match_30 : decode cX6_match 30 = .ok (.getfield 31, 3) := by decide +kernel
theorem dX6_match_33 : decode cX6_match 33 = .ok (.iload_n 3, 1) := by decide +kernel
theorem dX6_match_34 : decode cX6_match 34 = .ok (.iload_n 1, 1) := by decide +kernel
theorem dX6_match_35 : decode cX6_match 35 = .ok (.invokevirtual 219, 3) := by decide +kernel
theorem dX6_match_38 : decode cX6_match 38 = .ok (.istore 4, 2) := by decide +kernel
theorem dX6_match_40 : decode cX6_match 40 = .ok (.iload 4, 2) := by decide +kernel
theorem dX6_match_42 : decode cX6_match 42 = .ok (.iconst (-1), 1) := by decide +kernel
theorem dX6_match_43 : decode cX6_match 43 = .ok (.if_icmp .eq 33, 3) := by decide +kernel
theorem dX6_match_46 : decode cX6_match 46 = .ok (.iload_n 1, 1) := by decide +kernel
theorem dX6_match_47 : decode cX6_match 47 = .ok (.iconst 1, 1) := by decide +kernel
theorem dX6_match_48 : decode cX6_match 48 = .ok (.iload 4, 2) := by decide +kernel
theorem dX6_match_50 : decode cX6_match 50 = .ok (.ishl, 1) := by decide +kernel
theorem dX6_match_51 : decode cX6_match 51 = .ok (.ior, 1) := by decide +kernel
theorem dX6_match_52 : decode cX6_match 52 = .ok (.istore_n 1, 1) := by decide +kernel
theorem dX6_match_53 : decode cX6_match 53 = .ok (.iinc 2 1, 3) := by decide +kernel
theorem dX6_match_56 : decode cX6_match 56 = .ok (.aload_n 0, 1) := by decide +kernel
theorem dX6_match_57 : decode cX6_match 57 = .ok (.aload_n 0, 1) := by decide +kernel
theorem dX6_match_58 : decode cX6_match 58 = .ok (.getfield 18, 3) := by decide +kernel
theorem dX6_match_61 : decode cX6_match 61 = .ok (.iload 4, 2) := by decide +kernel
theorem dX6_match_63 : decode cX6_match 63 = .ok (.aaload, 1) := by decide +kernel
theorem dX6_match_64 : decode cX6_match 64 = .ok (.aload_n 0, 1) := by decide +kernel
theorem dX6_match_65 : decode cX6_match 65 = .ok (.getfield 31, 3) := by decide +kernel
theorem dX6_match_68 : decode cX6_match 68 = .ok (.getfield 222, 3) := by decide +kernel
theorem dX6_match_71 : decode cX6_match 71 = .ok (.iload_n 3, 1) := by decide +kernel
theorem dX6_match_72 : decode cX6_match 72 = .ok (.aaload, 1) := by decide +kernel
theorem dX6_match_73 : decode cX6_match 73 = .ok (.invokevirtual 202, 3) := by decide +kernel
theorem dX6_match_76 : decode cX6_match 76 = .ok (.iinc 3 1, 3) := by decide +kernel
theorem dX6_match_79 : decode cX6_match 79 = .ok (.goto (-61), 3) := by decide +kernel
theorem dX6_match_82 : decode cX6_match 82 = .ok (.iload_n 2, 1) := by decide +kernel
theorem dX6_match_83 : decode cX6_match 83 = .ok (.ireturn, 1) := by decide +kernel
set_option maxRecDepth 20000 in
theorem ggX6_share_X6_putIntoRow : GoodIn wsX6_share wsX6_putIntoRow := goodIn_r _ [7, 8, 9, 10, 11, 12, 13, 14, 15, 16, 17, 18, 19, 20, 21, 22, 23, 24, 25, 26, 27, 28, 29, 30, 31, 32, 33, 34, 35, 36, 37, 38, 39, 40, 41, 42, 43, 44, 45, 46, 47, 48, 49, 50, 51, 52, 53, 54, 55, 56, 57, 58, 59, 60, 61, 62, 63, 64, 65, 66, 67, 68, 69, 70, 71, 72, 73, 74, 75, 76, 77, 78, 79, 80, 81, 82, 83, 84, 85, 86, 87, 88, 89, 90, 91, 92, 93, 94, 95, 96, 97, 98, 99, 100, 101, 102, 6, 103, 104, 105, 106, 107, 108, 109, 110, 111, 112, 113, 114, 115, 116, 129, 130, 131, 132, 133, 134, 135, 136, 137, 138, 139, 140, 141, 142, 143, 144, 145, 146, 147, 148, 149, 150, 117, 118, 119, 120, 121, 122, 123, 124, 125, 126, 127, 128, 151, 152, 153, 154, 155, 156, 157, 158, 159] (by decide +kernel) (by decide +kernel)
set_option maxRecDepth 20000 in
theorem gX6_share_X6_putIntoRow : GoodIn wsX6_share (wsV RX6 226 RX6 yX6_putIntoRow wsX6_putIntoRow) := goodIn_app (goodIn_of _ (by decide +kernel)) ggX6_share_X6_putIntoRow
theorem dX6_share_0 : decode cX6_share 0 = .ok (.iconst 0, 1) := by decide +kernel
theorem dX6_share_1 : decode cX6_share 1 = .ok (.istore_n 1, 1) := by decide +kernel
theorem dX6_share_2 : decode cX6_share 2 = .ok (.iconst 0, 1) := by decide +kernel
theorem dX6_share_3 : decode cX6_share 3 = .ok (.istore_n 2, 1) := by decide +kernel
theorem dX6_share_4 : decode cX6_share 4 = .ok (.iload_n 2, 1) := by decide +kernel
theorem dX6_share_5 : decode cX6_share 5 = .ok (.aload_n 0, 1) := by decide +kernel
theorem dX6_share_6 : decode cX6_share 6 = .ok (.getfield 146, 3) := by decide +kernel
theorem dX6_share_9 : decode cX6_share 9 = .ok (.if_icmp .ge 41, 3) := by decide +kernel
theorem dX6_share_12 : decode cX6_share 12 = .ok (.aload_n 0, 1) := by decide +kernel
theorem dX6_share_13 : decode cX6_share 13 = .ok (.getfield 24, 3) := by decide +kernel
theorem dX6_share_16 : decode cX6_share 16 = .ok (.iload_n 2, 1) := by decide +kernel
theorem dX6_share_17 : decode cX6_share 17 = .ok (.aaload, 1) := by decide +kernel
theorem dX6_share_18 : decode cX6_share 18 = .ok (.astore_n 3, 1) := by decide +kernel
theorem dX6_share_19 : decode cX6_share 19 = .ok (.aload_n 3, 1) := by decide +kernel
theorem dX6_share_20 : decode cX6_share 20 = .ok (.getfield 168, 3) := by decide +kernel
theorem dX6_share_23 : decode cX6_share 23 = .ok (.ifCond .ne 21, 3) := by decide +kernel
theorem dX6_share_26 : decode cX6_share 26 = .ok (.aload_n 3, 1) := by decide +kernel
theorem dX6_share_27 : decode cX6_share 27 = .ok (.getfield 223, 3) := by decide +kernel
theorem dX6_share_30 : decode cX6_share 30 = .ok (.ifCond .eq 14, 3) := by decide +kernel
theorem dX6_share_33 : decode cX6_share 33 = .ok (.aload_n 0, 1) := by decide +kernel
theorem dX6_share_34 : decode cX6_share 34 = .ok (.aload_n 3, 1) := by decide +kernel
theorem dX6_share_35 : decode cX6_share 35 = .ok (.invokevirtual 226, 3) := by decide +kernel
theorem dX6_share_38 : decode cX6_share 38 = .ok (.ifCond .eq 6, 3) := by decide +kernel
theorem dX6_share_41 : decode cX6_share 41 = .ok (.iinc 1 1, 3) := by decide +kernel
theorem dX6_share_44 : decode cX6_share 44 = .ok (.iinc 2 1, 3) := by decide +kernel
theorem dX6_share_47 : decode cX6_share 47 = .ok (.goto (-43), 3) := by decide +kernel
theorem dX6_share_50 : decode cX6_share 50 = .ok (.iload_n 1, 1) := by decide +kernel
theorem dX6_share_51 : decode cX6_share 51 = .ok (.ireturn, 1) := by decide +kernel
set_option maxRecDepth 20000 in
theorem ggX6_requestIs_X6_knownRequest : GoodIn wsX6_requestIs wsX6_knownRequest := goodIn_ca (goodIn_r _ [5, 6, 7, 8, 9, 47, 48, 49, 50, 51, 52, 53, 54, 55, 56] (by decide +kernel) (by decide +kernel)) (goodIn_sub (fun _ h => List.mem_cons_of_mem _ (List.mem_append_left _ (List.mem_append_right _ h))) (by decide +kernel))
set_option maxRecDepth 20000 in
theorem gX6_requestIs_X6_knownRequest : GoodIn wsX6_requestIs (wsV RX6 164 RX6 yX6_knownRequest wsX6_knownRequest) := goodIn_app (goodIn_of _ (by decide +kernel)) ggX6_requestIs_X6_knownRequest
set_option maxRecDepth 20000 in
theorem ggX6_requestIs_X6_checkRange : GoodIn wsX6_requestIs wsX6_checkRange := goodIn_ca (goodIn_r _ [12, 13, 14] (by decide +kernel) (by decide +kernel)) (goodIn_sub (fun _ h => List.mem_cons_of_mem _ (List.mem_append_right _ h)) (by decide +kernel))
set_option maxRecDepth 20000 in
theorem gX6_requestIs_X6_checkRange : GoodIn wsX6_requestIs (va_wsS RX6 59 yX6_checkRange wsX6_checkRange) := goodIn_app (goodIn_of _ (by decide +kernel)) ggX6_requestIs_X6_checkRange
set_option maxRecDepth 20000 in
theorem ggX6_requestIs_X3_isPromiseBroken : GoodIn wsX6_requestIs wsX3_isPromiseBroken := goodIn_r _ [19, 20, 21, 22, 23, 24, 25, 26, 27, 28, 29, 30, 31, 32, 33] (by decide +kernel) (by decide +kernel)
set_option maxRecDepth 20000 in
theorem gX6_requestIs_X3_isPromiseBroken : GoodIn wsX6_requestIs (wsV RX6 236 RX3 yX3_isPromiseBroken wsX3_isPromiseBroken) := goodIn_app (goodIn_of _ (by decide +kernel)) ggX6_requestIs_X3_isPromiseBroken
theorem dX6_requestIs_0 : decode cX6_requestIs 0 = .ok (.aload_n 0, 1) := by decide +kernel
theorem dX6_requestIs_1 : decode cX6_requestIs 1 = .ok (.iload_n 1, 1) := by decide +kernel
theorem dX6_requestIs_2 : decode cX6_requestIs 2 = .ok (.invokevirtual 164, 3) := by decide +kernel
theorem dX6_requestIs_5 : decode cX6_requestIs 5 = .ok (.astore_n 3, 1) := by decide +kernel
theorem dX6_requestIs_6 : decode cX6_requestIs 6 = .ok (.iload_n 2, 1) := by decide +kernel
theorem dX6_requestIs_7 : decode cX6_requestIs 7 = .ok (.iconst 0, 1) := by decide +kernel
theorem dX6_requestIs_8 : decode cX6_requestIs 8 = .ok (.bipush 6, 2) := by decide +kernel
theorem dX6_requestIs_10 : decode cX6_requestIs 10 = .ok (.invokestatic 59, 3) := by decide +kernel
theorem dX6_requestIs_13 : decode cX6_requestIs 13 = .ok (.iload_n 2, 1) := by decide +kernel
theorem dX6_requestIs_14 : decode cX6_requestIs 14 = .ok (.tableswitch 90 0 5 #[38, 43, 48, 67, 72, 77], 38) := by decide +kernel
theorem dX6_requestIs_52 : decode cX6_requestIs 52 = .ok (.aload_n 3, 1) := by decide +kernel
theorem dX6_requestIs_53 : decode cX6_requestIs 53 = .ok (.getfield 168, 3) := by decide +kernel
theorem dX6_requestIs_56 : decode cX6_requestIs 56 = .ok (.ireturn, 1) := by decide +kernel
theorem dX6_requestIs_57 : decode cX6_requestIs 57 = .ok (.aload_n 3, 1) := by decide +kernel
theorem dX6_requestIs_58 : decode cX6_requestIs 58 = .ok (.getfield 160, 3) := by decide +kernel
theorem dX6_requestIs_61 : decode cX6_requestIs 61 = .ok (.ireturn, 1) := by decide +kernel
theorem dX6_requestIs_62 : decode cX6_requestIs 62 = .ok (.aload_n 3, 1) := by decide +kernel
theorem dX6_requestIs_63 : decode cX6_requestIs 63 = .ok (.getfield 173, 3) := by decide +kernel
theorem dX6_requestIs_66 : decode cX6_requestIs 66 = .ok (.ifnonnull 7, 3) := by decide +kernel
theorem dX6_requestIs_69 : decode cX6_requestIs 69 = .ok (.iconst (-1), 1) := by decide +kernel
theorem dX6_requestIs_70 : decode cX6_requestIs 70 = .ok (.goto 10, 3) := by decide +kernel
theorem dX6_requestIs_73 : decode cX6_requestIs 73 = .ok (.aload_n 3, 1) := by decide +kernel
theorem dX6_requestIs_74 : decode cX6_requestIs 74 = .ok (.getfield 173, 3) := by decide +kernel
theorem dX6_requestIs_77 : decode cX6_requestIs 77 = .ok (.getfield 99, 3) := by decide +kernel
theorem dX6_requestIs_80 : decode cX6_requestIs 80 = .ok (.ireturn, 1) := by decide +kernel
theorem dX6_requestIs_81 : decode cX6_requestIs 81 = .ok (.aload_n 3, 1) := by decide +kernel
theorem dX6_requestIs_82 : decode cX6_requestIs 82 = .ok (.getfield 230, 3) := by decide +kernel
theorem dX6_requestIs_85 : decode cX6_requestIs 85 = .ok (.ireturn, 1) := by decide +kernel
theorem dX6_requestIs_86 : decode cX6_requestIs 86 = .ok (.aload_n 3, 1) := by decide +kernel
theorem dX6_requestIs_87 : decode cX6_requestIs 87 = .ok (.getfield 233, 3) := by decide +kernel
theorem dX6_requestIs_90 : decode cX6_requestIs 90 = .ok (.ireturn, 1) := by decide +kernel
theorem dX6_requestIs_91 : decode cX6_requestIs 91 = .ok (.aload_n 3, 1) := by decide +kernel
theorem dX6_requestIs_92 : decode cX6_requestIs 92 = .ok (.invokevirtual 236, 3) := by decide +kernel
theorem dX6_requestIs_95 : decode cX6_requestIs 95 = .ok (.ifCond .eq 7, 3) := by decide +kernel
theorem dX6_requestIs_98 : decode cX6_requestIs 98 = .ok (.iconst 1, 1) := by decide +kernel
theorem dX6_requestIs_99 : decode cX6_requestIs 99 = .ok (.goto 4, 3) := by decide +kernel
theorem dX6_requestIs_102 : decode cX6_requestIs 102 = .ok (.iconst 0, 1) := by decide +kernel
theorem dX6_requestIs_103 : decode cX6_requestIs 103 = .ok (.ireturn, 1) := by decide +kernel
theorem dX6_requestIs_104 : decode cX6_requestIs 104 = .ok (.aload_n 3, 1) := by decide +kernel
theorem dX6_requestIs_105 : decode cX6_requestIs 105 = .ok (.getfield 157, 3) := by decide +kernel
theorem dX6_requestIs_108 : decode cX6_requestIs 108 = .ok (.ireturn, 1) := by decide +kernel
set_option maxRecDepth 20000 in
theorem ggX6_driverIs_X6_knownDriver : GoodIn wsX6_driverIs wsX6_knownDriver := goodIn_ca (goodIn_r _ [5, 6, 7, 8, 9, 40, 41, 42, 43, 44, 45, 46, 47, 48, 49] (by decide +kernel) (by decide +kernel)) (goodIn_sub (fun _ h => List.mem_cons_of_mem _ (List.mem_append_left _ (List.mem_append_right _ h))) (by decide +kernel))
set_option maxRecDepth 20000 in
theorem gX6_driverIs_X6_knownDriver : GoodIn wsX6_driverIs (wsV RX6 102 RX6 yX6_knownDriver wsX6_knownDriver) := goodIn_app (goodIn_of _ (by decide +kernel)) ggX6_driverIs_X6_knownDriver
set_option maxRecDepth 20000 in
theorem ggX6_driverIs_X6_checkRange : GoodIn wsX6_driverIs wsX6_checkRange := goodIn_ca (goodIn_r _ [12, 13, 14] (by decide +kernel) (by decide +kernel)) (goodIn_sub (fun _ h => List.mem_cons_of_mem _ (List.mem_append_right _ h)) (by decide +kernel))
set_option maxRecDepth 20000 in
theorem gX6_driverIs_X6_checkRange : GoodIn wsX6_driverIs (va_wsS RX6 59 yX6_checkRange wsX6_checkRange) := goodIn_app (goodIn_of _ (by decide +kernel)) ggX6_driverIs_X6_checkRange
set_option maxRecDepth 20000 in
theorem ggX6_driverIs_X1_isFree : GoodIn wsX6_driverIs wsX1_isFree := goodIn_r _ [19, 20, 21, 22, 23, 24, 25, 26, 27, 28, 29, 30, 31, 32, 33, 34, 35, 36, 37, 38, 39] (by decide +kernel) (by decide +kernel)
set_option maxRecDepth 20000 in
theorem gX6_driverIs_X1_isFree : GoodIn wsX6_driverIs (wsV RX6 121 RX1 yX1_isFree wsX1_isFree) := goodIn_app (goodIn_of _ (by decide +kernel)) ggX6_driverIs_X1_isFree
theorem dX6_driverIs_0 : decode cX6_driverIs 0 = .ok (.aload_n 0, 1) := by decide +kernel
theorem dX6_driverIs_1 : decode cX6_driverIs 1 = .ok (.iload_n 1, 1) := by decide +kernel
theorem dX6_driverIs_2 : decode cX6_driverIs 2 = .ok (.invokevirtual 102, 3) := by decide +kernel
theorem dX6_driverIs_5 : decode cX6_driverIs 5 = .ok (.astore_n 3, 1) := by decide +kernel
theorem dX6_driverIs_6 : decode cX6_driverIs 6 = .ok (.iload_n 2, 1) := by decide +kernel
theorem dX6_driverIs_7 : decode cX6_driverIs 7 = .ok (.iconst 0, 1) := by decide +kernel
theorem dX6_driverIs_8 : decode cX6_driverIs 8 = .ok (.bipush 6, 2) := by decide +kernel
theorem dX6_driverIs_10 : decode cX6_driverIs 10 = .ok (.invokestatic 59, 3) := by decide +kernel
theorem dX6_driverIs_13 : decode cX6_driverIs 13 = .ok (.iload_n 2, 1) := by decide +kernel
theorem dX6_driverIs_14 : decode cX6_driverIs 14 = .ok (.tableswitch 93 0 5 #[38, 43, 51, 70, 83, 88], 38) := by decide +kernel
theorem dX6_driverIs_52 : decode cX6_driverIs 52 = .ok (.aload_n 3, 1) := by decide +kernel
theorem dX6_driverIs_53 : decode cX6_driverIs 53 = .ok (.getfield 125, 3) := by decide +kernel
theorem dX6_driverIs_56 : decode cX6_driverIs 56 = .ok (.ireturn, 1) := by decide +kernel
theorem dX6_driverIs_57 : decode cX6_driverIs 57 = .ok (.aload_n 3, 1) := by decide +kernel
theorem dX6_driverIs_58 : decode cX6_driverIs 58 = .ok (.getfield 106, 3) := by decide +kernel
theorem dX6_driverIs_61 : decode cX6_driverIs 61 = .ok (.getfield 110, 3) := by decide +kernel
theorem dX6_driverIs_64 : decode cX6_driverIs 64 = .ok (.ireturn, 1) := by decide +kernel
theorem dX6_driverIs_65 : decode cX6_driverIs 65 = .ok (.aload_n 3, 1) := by decide +kernel
theorem dX6_driverIs_66 : decode cX6_driverIs 66 = .ok (.getfield 106, 3) := by decide +kernel
theorem dX6_driverIs_69 : decode cX6_driverIs 69 = .ok (.getfield 110, 3) := by decide +kernel
theorem dX6_driverIs_72 : decode cX6_driverIs 72 = .ok (.ifCond .ne 7, 3) := by decide +kernel
theorem dX6_driverIs_75 : decode cX6_driverIs 75 = .ok (.iconst (-1), 1) := by decide +kernel
theorem dX6_driverIs_76 : decode cX6_driverIs 76 = .ok (.goto 7, 3) := by decide +kernel
theorem dX6_driverIs_79 : decode cX6_driverIs 79 = .ok (.aload_n 3, 1) := by decide +kernel
theorem dX6_driverIs_80 : decode cX6_driverIs 80 = .ok (.getfield 137, 3) := by decide +kernel
theorem dX6_driverIs_83 : decode cX6_driverIs 83 = .ok (.ireturn, 1) := by decide +kernel
theorem dX6_driverIs_84 : decode cX6_driverIs 84 = .ok (.aload_n 3, 1) := by decide +kernel
theorem dX6_driverIs_85 : decode cX6_driverIs 85 = .ok (.invokevirtual 121, 3) := by decide +kernel
theorem dX6_driverIs_88 : decode cX6_driverIs 88 = .ok (.ifCond .eq 7, 3) := by decide +kernel
theorem dX6_driverIs_91 : decode cX6_driverIs 91 = .ok (.iconst 1, 1) := by decide +kernel
theorem dX6_driverIs_92 : decode cX6_driverIs 92 = .ok (.goto 4, 3) := by decide +kernel
theorem dX6_driverIs_95 : decode cX6_driverIs 95 = .ok (.iconst 0, 1) := by decide +kernel
theorem dX6_driverIs_96 : decode cX6_driverIs 96 = .ok (.ireturn, 1) := by decide +kernel
theorem dX6_driverIs_97 : decode cX6_driverIs 97 = .ok (.aload_n 3, 1) := by decide +kernel
theorem dX6_driverIs_98 : decode cX6_driverIs 98 = .ok (.getfield 192, 3) := by decide +kernel
theorem dX6_driverIs_101 : decode cX6_driverIs 101 = .ok (.ireturn, 1) := by decide +kernel
theorem dX6_driverIs_102 : decode cX6_driverIs 102 = .ok (.aload_n 3, 1) := by decide +kernel
theorem dX6_driverIs_103 : decode cX6_driverIs 103 = .ok (.getfield 239, 3) := by decide +kernel
theorem dX6_driverIs_106 : decode cX6_driverIs 106 = .ok (.ireturn, 1) := by decide +kernel
theorem dX6_driverIs_107 : decode cX6_driverIs 107 = .ok (.aload_n 3, 1) := by decide +kernel
theorem dX6_driverIs_108 : decode cX6_driverIs 108 = .ok (.getfield 242, 3) := by decide +kernel
theorem dX6_driverIs_111 : decode cX6_driverIs 111 = .ok (.ireturn, 1) := by decide +kernel
set_option maxRecDepth 20000 in
theorem ggX6_stop_X6_knownDriver : GoodIn wsX6_stop wsX6_knownDriver := goodIn_ca (goodIn_r _ [7, 1, 2, 8, 9, 56, 57, 58, 59, 60, 61, 62, 63, 64, 65] (by decide +kernel) (by decide +kernel)) (goodIn_sub (fun _ h => List.mem_cons_of_mem _ (List.mem_append_right _ h)) (by decide +kernel))
set_option maxRecDepth 20000 in
theorem gX6_stop_X6_knownDriver : GoodIn wsX6_stop (wsV RX6 102 RX6 yX6_knownDriver wsX6_knownDriver) := goodIn_app (goodIn_of _ (by decide +kernel)) ggX6_stop_X6_knownDriver
set_option maxRecDepth 20000 in
theorem ggX6_stop_X4_placeAt : GoodIn wsX6_stop wsX4_placeAt := goodIn_r _ [14, 15, 16, 17, 18, 13, 19, 20, 66, 67, 68, 69] (by decide +kernel) (by decide +kernel)
set_option maxRecDepth 20000 in
theorem gX6_stop_X4_placeAt : GoodIn wsX6_stop (wsV RX6 247 RX4 yX4_placeAt wsX4_placeAt) := goodIn_app (goodIn_of _ (by decide +kernel)) ggX6_stop_X4_placeAt
set_option maxRecDepth 20000 in
theorem ggX6_stop_X4_riderAt : GoodIn wsX6_stop wsX4_riderAt := goodIn_r _ [24, 25, 16, 17, 18, 13, 19, 20, 66, 67, 68, 69] (by decide +kernel) (by decide +kernel)
set_option maxRecDepth 20000 in
theorem gX6_stop_X4_riderAt : GoodIn wsX6_stop (wsV RX6 250 RX4 yX4_riderAt wsX4_riderAt) := goodIn_app (goodIn_of _ (by decide +kernel)) ggX6_stop_X4_riderAt
set_option maxRecDepth 20000 in
theorem ggX6_stop_X4_isLetOutAt : GoodIn wsX6_stop wsX4_isLetOutAt := goodIn_r _ [29, 30, 16, 17, 18, 13, 19, 20, 66, 67, 68, 69] (by decide +kernel) (by decide +kernel)
set_option maxRecDepth 20000 in
theorem gX6_stop_X4_isLetOutAt : GoodIn wsX6_stop (wsV RX6 253 RX4 yX4_isLetOutAt wsX4_isLetOutAt) := goodIn_app (goodIn_of _ (by decide +kernel)) ggX6_stop_X4_isLetOutAt
theorem dX6_stop_0 : decode cX6_stop 0 = .ok (.aload_n 0, 1) := by decide +kernel
theorem dX6_stop_1 : decode cX6_stop 1 = .ok (.iload_n 1, 1) := by decide +kernel
theorem dX6_stop_2 : decode cX6_stop 2 = .ok (.invokevirtual 102, 3) := by decide +kernel
theorem dX6_stop_5 : decode cX6_stop 5 = .ok (.astore 4, 2) := by decide +kernel
theorem dX6_stop_7 : decode cX6_stop 7 = .ok (.iload_n 2, 1) := by decide +kernel
theorem dX6_stop_8 : decode cX6_stop 8 = .ok (.ifCond .ge 13, 3) := by decide +kernel
theorem dX6_stop_11 : decode cX6_stop 11 = .ok (.new 75, 3) := by decide +kernel
theorem dX6_stop_14 : decode cX6_stop 14 = .ok (.dup, 1) := by decide +kernel
theorem dX6_stop_15 : decode cX6_stop 15 = .ok (.ldc 245, 2) := by decide +kernel
theorem dX6_stop_17 : decode cX6_stop 17 = .ok (.invokespecial 79, 3) := by decide +kernel
theorem dX6_stop_20 : decode cX6_stop 20 = .ok (.athrow, 1) := by decide +kernel
theorem dX6_stop_21 : decode cX6_stop 21 = .ok (.iload_n 3, 1) := by decide +kernel
theorem dX6_stop_22 : decode cX6_stop 22 = .ok (.ifCond .ne 13, 3) := by decide +kernel
theorem dX6_stop_25 : decode cX6_stop 25 = .ok (.aload 4, 2) := by decide +kernel
theorem dX6_stop_27 : decode cX6_stop 27 = .ok (.getfield 106, 3) := by decide +kernel
theorem dX6_stop_30 : decode cX6_stop 30 = .ok (.iload_n 2, 1) := by decide +kernel
theorem dX6_stop_31 : decode cX6_stop 31 = .ok (.invokevirtual 247, 3) := by decide +kernel
theorem dX6_stop_34 : decode cX6_stop 34 = .ok (.ireturn, 1) := by decide +kernel
theorem dX6_stop_35 : decode cX6_stop 35 = .ok (.aload 4, 2) := by decide +kernel
theorem dX6_stop_37 : decode cX6_stop 37 = .ok (.getfield 106, 3) := by decide +kernel
theorem dX6_stop_40 : decode cX6_stop 40 = .ok (.iload_n 2, 1) := by decide +kernel
theorem dX6_stop_41 : decode cX6_stop 41 = .ok (.invokevirtual 250, 3) := by decide +kernel
theorem dX6_stop_44 : decode cX6_stop 44 = .ok (.astore 5, 2) := by decide +kernel
theorem dX6_stop_46 : decode cX6_stop 46 = .ok (.aload 5, 2) := by decide +kernel
theorem dX6_stop_48 : decode cX6_stop 48 = .ok (.ifnonnull 5, 3) := by decide +kernel
theorem dX6_stop_51 : decode cX6_stop 51 = .ok (.iconst (-1), 1) := by decide +kernel
theorem dX6_stop_52 : decode cX6_stop 52 = .ok (.ireturn, 1) := by decide +kernel
theorem dX6_stop_53 : decode cX6_stop 53 = .ok (.aload 4, 2) := by decide +kernel
theorem dX6_stop_55 : decode cX6_stop 55 = .ok (.getfield 106, 3) := by decide +kernel
theorem dX6_stop_58 : decode cX6_stop 58 = .ok (.iload_n 2, 1) := by decide +kernel
theorem dX6_stop_59 : decode cX6_stop 59 = .ok (.invokevirtual 253, 3) := by decide +kernel
theorem dX6_stop_62 : decode cX6_stop 62 = .ok (.ifCond .eq 14, 3) := by decide +kernel
theorem dX6_stop_65 : decode cX6_stop 65 = .ok (.aload 5, 2) := by decide +kernel
theorem dX6_stop_67 : decode cX6_stop 67 = .ok (.getfield 163, 3) := by decide +kernel
theorem dX6_stop_70 : decode cX6_stop 70 = .ok (.bipush 100, 2) := by decide +kernel
theorem dX6_stop_72 : decode cX6_stop 72 = .ok (.iadd, 1) := by decide +kernel
theorem dX6_stop_73 : decode cX6_stop 73 = .ok (.goto 8, 3) := by decide +kernel
theorem dX6_stop_76 : decode cX6_stop 76 = .ok (.aload 5, 2) := by decide +kernel
theorem dX6_stop_78 : decode cX6_stop 78 = .ok (.getfield 163, 3) := by decide +kernel
theorem dX6_stop_81 : decode cX6_stop 81 = .ok (.ireturn, 1) := by decide +kernel
set_option maxRecDepth 20000 in
theorem ggX6_pay_X6_knownDriver : GoodIn wsX6_pay wsX6_knownDriver := goodIn_ca (goodIn_r _ [9, 10, 11, 12, 13, 27, 28, 29, 30, 31, 32, 33, 34, 35, 36] (by decide +kernel) (by decide +kernel)) (goodIn_sub (fun _ h => List.mem_cons_of_mem _ (List.mem_append_right _ h)) (by decide +kernel))
set_option maxRecDepth 20000 in
theorem gX6_pay_X6_knownDriver : GoodIn wsX6_pay (wsV RX6 102 RX6 yX6_knownDriver wsX6_knownDriver) := goodIn_app (goodIn_of _ (by decide +kernel)) ggX6_pay_X6_knownDriver
theorem dX6_pay_0 : decode cX6_pay 0 = .ok (.aload_n 0, 1) := by decide +kernel
theorem dX6_pay_1 : decode cX6_pay 1 = .ok (.iload_n 1, 1) := by decide +kernel
theorem dX6_pay_2 : decode cX6_pay 2 = .ok (.invokevirtual 102, 3) := by decide +kernel
theorem dX6_pay_5 : decode cX6_pay 5 = .ok (.astore_n 2, 1) := by decide +kernel
theorem dX6_pay_6 : decode cX6_pay 6 = .ok (.aload_n 2, 1) := by decide +kernel
theorem dX6_pay_7 : decode cX6_pay 7 = .ok (.getfield 257, 3) := by decide +kernel
theorem dX6_pay_10 : decode cX6_pay 10 = .ok (.bipush 75, 2) := by decide +kernel
theorem dX6_pay_12 : decode cX6_pay 12 = .ok (.imul, 1) := by decide +kernel
theorem dX6_pay_13 : decode cX6_pay 13 = .ok (.bipush 100, 2) := by decide +kernel
theorem dX6_pay_15 : decode cX6_pay 15 = .ok (.idiv, 1) := by decide +kernel
theorem dX6_pay_16 : decode cX6_pay 16 = .ok (.aload_n 2, 1) := by decide +kernel
theorem dX6_pay_17 : decode cX6_pay 17 = .ok (.getfield 239, 3) := by decide +kernel
theorem dX6_pay_20 : decode cX6_pay 20 = .ok (.bipush 30, 2) := by decide +kernel
theorem dX6_pay_22 : decode cX6_pay 22 = .ok (.imul, 1) := by decide +kernel
theorem dX6_pay_23 : decode cX6_pay 23 = .ok (.invokestatic 260, 3) := by decide +kernel
theorem dX6_pay_26 : decode cX6_pay 26 = .ok (.ireturn, 1) := by decide +kernel
set_option maxRecDepth 20000 in
theorem ggX6_pass_X6_checkRange : GoodIn wsX6_pass wsX6_checkRange := goodIn_ca (goodIn_r _ [7, 8, 9] (by decide +kernel) (by decide +kernel)) (goodIn_sub (fun _ h => List.mem_cons_of_mem _ (List.mem_append_right _ h)) (by decide +kernel))
set_option maxRecDepth 20000 in
theorem gX6_pass_X6_checkRange : GoodIn wsX6_pass (va_wsS RX6 59 yX6_checkRange wsX6_checkRange) := goodIn_app (goodIn_of _ (by decide +kernel)) ggX6_pass_X6_checkRange
set_option maxRecDepth 20000 in
theorem ggX6_pass_X6_passOneMinute : GoodIn wsX6_pass wsX6_passOneMinute := goodIn_r _ [13, 14, 15, 3, 16, 17, 18, 19, 20, 21, 22, 23, 24, 25, 26, 27, 6, 28, 29, 30, 31, 32, 33, 34, 35, 36, 37, 38, 39, 40, 41, 42, 43, 44, 45, 46, 47, 48, 49, 50, 51, 52, 53, 54, 55, 56, 57, 58, 59, 60, 61, 62, 63, 64, 65, 66, 67, 68, 69, 70, 71, 72, 73, 74, 75, 76, 77, 78, 79, 80, 81, 82, 83, 84, 85, 86, 87, 88, 89, 90, 91, 92, 93, 94, 95, 96, 97, 98, 99, 100, 101, 102, 103, 104, 105, 106, 107, 108, 109, 110, 111, 112, 113, 114, 115, 116, 117, 118, 119, 120, 121, 122, 123, 124, 125, 126] (by decide +kernel) (by decide +kernel)
set_option maxRecDepth 20000 in
theorem gX6_pass_X6_passOneMinute : GoodIn wsX6_pass (wsV RX6 267 RX6 yX6_passOneMinute wsX6_passOneMinute) := goodIn_app (goodIn_of _ (by decide +kernel)) ggX6_pass_X6_passOneMinute
theorem dX6_pass_0 : decode cX6_pass 0 = .ok (.iload_n 1, 1) := by decide +kernel
theorem dX6_pass_1 : decode cX6_pass 1 = .ok (.iconst 1, 1) := by decide +kernel
theorem dX6_pass_2 : decode cX6_pass 2 = .ok (.bipush 120, 2) := by decide +kernel
theorem dX6_pass_4 : decode cX6_pass 4 = .ok (.invokestatic 59, 3) := by decide +kernel
theorem dX6_pass_7 : decode cX6_pass 7 = .ok (.aload_n 0, 1) := by decide +kernel
theorem dX6_pass_8 : decode cX6_pass 8 = .ok (.getfield 134, 3) := by decide +kernel
theorem dX6_pass_11 : decode cX6_pass 11 = .ok (.iload_n 1, 1) := by decide +kernel
theorem dX6_pass_12 : decode cX6_pass 12 = .ok (.iadd, 1) := by decide +kernel
theorem dX6_pass_13 : decode cX6_pass 13 = .ok (.sipush 20000, 3) := by decide +kernel
theorem dX6_pass_16 : decode cX6_pass 16 = .ok (.if_icmp .le 14, 3) := by decide +kernel
theorem dX6_pass_19 : decode cX6_pass 19 = .ok (.new 66, 3) := by decide +kernel
theorem dX6_pass_22 : decode cX6_pass 22 = .ok (.dup, 1) := by decide +kernel
theorem dX6_pass_23 : decode cX6_pass 23 = .ok (.ldc_w 265, 3) := by decide +kernel
theorem dX6_pass_26 : decode cX6_pass 26 = .ok (.invokespecial 70, 3) := by decide +kernel
theorem dX6_pass_29 : decode cX6_pass 29 = .ok (.athrow, 1) := by decide +kernel
theorem dX6_pass_30 : decode cX6_pass 30 = .ok (.iconst 0, 1) := by decide +kernel
theorem dX6_pass_31 : decode cX6_pass 31 = .ok (.istore_n 2, 1) := by decide +kernel
theorem dX6_pass_32 : decode cX6_pass 32 = .ok (.iload_n 2, 1) := by decide +kernel
theorem dX6_pass_33 : decode cX6_pass 33 = .ok (.iload_n 1, 1) := by decide +kernel
theorem dX6_pass_34 : decode cX6_pass 34 = .ok (.if_icmp .ge 13, 3) := by decide +kernel
theorem dX6_pass_37 : decode cX6_pass 37 = .ok (.aload_n 0, 1) := by decide +kernel
theorem dX6_pass_38 : decode cX6_pass 38 = .ok (.invokevirtual 267, 3) := by decide +kernel
theorem dX6_pass_41 : decode cX6_pass 41 = .ok (.iinc 2 1, 3) := by decide +kernel
theorem dX6_pass_44 : decode cX6_pass 44 = .ok (.goto (-12), 3) := by decide +kernel
theorem dX6_pass_47 : decode cX6_pass 47 = .ok (.aload_n 0, 1) := by decide +kernel
theorem dX6_pass_48 : decode cX6_pass 48 = .ok (.getfield 134, 3) := by decide +kernel
theorem dX6_pass_51 : decode cX6_pass 51 = .ok (.ireturn, 1) := by decide +kernel
set_option maxRecDepth 20000 in
theorem ggX6_checkPlace_X0_isPlace : GoodIn wsX6_checkPlace wsX0_isPlace := goodIn_r _ [6] (by decide +kernel) (by decide +kernel)
set_option maxRecDepth 20000 in
theorem gX6_checkPlace_X0_isPlace : GoodIn wsX6_checkPlace (va_wsS RX6 270 yX0_isPlace wsX0_isPlace) := goodIn_app (goodIn_of _ (by decide +kernel)) ggX6_checkPlace_X0_isPlace
theorem dX6_checkPlace_0 : decode cX6_checkPlace 0 = .ok (.iload_n 0, 1) := by decide +kernel
theorem dX6_checkPlace_1 : decode cX6_checkPlace 1 = .ok (.invokestatic 270, 3) := by decide +kernel
theorem dX6_checkPlace_4 : decode cX6_checkPlace 4 = .ok (.ifCond .ne 14, 3) := by decide +kernel
theorem dX6_checkPlace_7 : decode cX6_checkPlace 7 = .ok (.new 75, 3) := by decide +kernel
theorem dX6_checkPlace_10 : decode cX6_checkPlace 10 = .ok (.dup, 1) := by decide +kernel
theorem dX6_checkPlace_11 : decode cX6_checkPlace 11 = .ok (.ldc_w 273, 3) := by decide +kernel
theorem dX6_checkPlace_14 : decode cX6_checkPlace 14 = .ok (.invokespecial 79, 3) := by decide +kernel
theorem dX6_checkPlace_17 : decode cX6_checkPlace 17 = .ok (.athrow, 1) := by decide +kernel
theorem dX6_checkPlace_18 : decode cX6_checkPlace 18 = .ok (.return_, 1) := by decide +kernel
theorem dX6_checkRange_0 : decode cX6_checkRange 0 = .ok (.iload_n 0, 1) := by decide +kernel
theorem dX6_checkRange_1 : decode cX6_checkRange 1 = .ok (.iload_n 1, 1) := by decide +kernel
theorem dX6_checkRange_2 : decode cX6_checkRange 2 = .ok (.if_icmp .lt 8, 3) := by decide +kernel
theorem dX6_checkRange_5 : decode cX6_checkRange 5 = .ok (.iload_n 0, 1) := by decide +kernel
theorem dX6_checkRange_6 : decode cX6_checkRange 6 = .ok (.iload_n 2, 1) := by decide +kernel
theorem dX6_checkRange_7 : decode cX6_checkRange 7 = .ok (.if_icmp .le 14, 3) := by decide +kernel
theorem dX6_checkRange_10 : decode cX6_checkRange 10 = .ok (.new 52, 3) := by decide +kernel
theorem dX6_checkRange_13 : decode cX6_checkRange 13 = .ok (.dup, 1) := by decide +kernel
theorem dX6_checkRange_14 : decode cX6_checkRange 14 = .ok (.ldc_w 275, 3) := by decide +kernel
theorem dX6_checkRange_17 : decode cX6_checkRange 17 = .ok (.invokespecial 56, 3) := by decide +kernel
theorem dX6_checkRange_20 : decode cX6_checkRange 20 = .ok (.athrow, 1) := by decide +kernel
theorem dX6_checkRange_21 : decode cX6_checkRange 21 = .ok (.return_, 1) := by decide +kernel
theorem dX6_knownDriver_0 : decode cX6_knownDriver 0 = .ok (.iload_n 1, 1) := by decide +kernel
theorem dX6_knownDriver_1 : decode cX6_knownDriver 1 = .ok (.ifCond .lt 11, 3) := by decide +kernel
theorem dX6_knownDriver_4 : decode cX6_knownDriver 4 = .ok (.iload_n 1, 1) := by decide +kernel
theorem dX6_knownDriver_5 : decode cX6_knownDriver 5 = .ok (.aload_n 0, 1) := by decide +kernel
theorem dX6_knownDriver_6 : decode cX6_knownDriver 6 = .ok (.getfield 87, 3) := by decide +kernel
theorem dX6_knownDriver_9 : decode cX6_knownDriver 9 = .ok (.if_icmp .lt 7, 3) := by decide +kernel
theorem dX6_knownDriver_12 : decode cX6_knownDriver 12 = .ok (.aconst_null, 1) := by decide +kernel
theorem dX6_knownDriver_13 : decode cX6_knownDriver 13 = .ok (.goto 9, 3) := by decide +kernel
theorem dX6_knownDriver_16 : decode cX6_knownDriver 16 = .ok (.aload_n 0, 1) := by decide +kernel
theorem dX6_knownDriver_17 : decode cX6_knownDriver 17 = .ok (.getfield 18, 3) := by decide +kernel
theorem dX6_knownDriver_20 : decode cX6_knownDriver 20 = .ok (.iload_n 1, 1) := by decide +kernel
theorem dX6_knownDriver_21 : decode cX6_knownDriver 21 = .ok (.aaload, 1) := by decide +kernel
theorem dX6_knownDriver_22 : decode cX6_knownDriver 22 = .ok (.astore_n 2, 1) := by decide +kernel
theorem dX6_knownDriver_23 : decode cX6_knownDriver 23 = .ok (.aload_n 2, 1) := by decide +kernel
theorem dX6_knownDriver_24 : decode cX6_knownDriver 24 = .ok (.ifnonnull 14, 3) := by decide +kernel
theorem dX6_knownDriver_27 : decode cX6_knownDriver 27 = .ok (.new 75, 3) := by decide +kernel
theorem dX6_knownDriver_30 : decode cX6_knownDriver 30 = .ok (.dup, 1) := by decide +kernel
theorem dX6_knownDriver_31 : decode cX6_knownDriver 31 = .ok (.ldc_w 277, 3) := by decide +kernel
theorem dX6_knownDriver_34 : decode cX6_knownDriver 34 = .ok (.invokespecial 79, 3) := by decide +kernel
theorem dX6_knownDriver_37 : decode cX6_knownDriver 37 = .ok (.athrow, 1) := by decide +kernel
theorem dX6_knownDriver_38 : decode cX6_knownDriver 38 = .ok (.aload_n 2, 1) := by decide +kernel
theorem dX6_knownDriver_39 : decode cX6_knownDriver 39 = .ok (.areturn, 1) := by decide +kernel
theorem dX6_knownRequest_0 : decode cX6_knownRequest 0 = .ok (.iload_n 1, 1) := by decide +kernel
theorem dX6_knownRequest_1 : decode cX6_knownRequest 1 = .ok (.ifCond .lt 11, 3) := by decide +kernel
theorem dX6_knownRequest_4 : decode cX6_knownRequest 4 = .ok (.iload_n 1, 1) := by decide +kernel
theorem dX6_knownRequest_5 : decode cX6_knownRequest 5 = .ok (.aload_n 0, 1) := by decide +kernel
theorem dX6_knownRequest_6 : decode cX6_knownRequest 6 = .ok (.getfield 146, 3) := by decide +kernel
theorem dX6_knownRequest_9 : decode cX6_knownRequest 9 = .ok (.if_icmp .lt 7, 3) := by decide +kernel
theorem dX6_knownRequest_12 : decode cX6_knownRequest 12 = .ok (.aconst_null, 1) := by decide +kernel
theorem dX6_knownRequest_13 : decode cX6_knownRequest 13 = .ok (.goto 9, 3) := by decide +kernel
theorem dX6_knownRequest_16 : decode cX6_knownRequest 16 = .ok (.aload_n 0, 1) := by decide +kernel
theorem dX6_knownRequest_17 : decode cX6_knownRequest 17 = .ok (.getfield 24, 3) := by decide +kernel
theorem dX6_knownRequest_20 : decode cX6_knownRequest 20 = .ok (.iload_n 1, 1) := by decide +kernel
theorem dX6_knownRequest_21 : decode cX6_knownRequest 21 = .ok (.aaload, 1) := by decide +kernel
theorem dX6_knownRequest_22 : decode cX6_knownRequest 22 = .ok (.astore_n 2, 1) := by decide +kernel
theorem dX6_knownRequest_23 : decode cX6_knownRequest 23 = .ok (.aload_n 2, 1) := by decide +kernel
theorem dX6_knownRequest_24 : decode cX6_knownRequest 24 = .ok (.ifnonnull 14, 3) := by decide +kernel
theorem dX6_knownRequest_27 : decode cX6_knownRequest 27 = .ok (.new 75, 3) := by decide +kernel
theorem dX6_knownRequest_30 : decode cX6_knownRequest 30 = .ok (.dup, 1) := by decide +kernel
theorem dX6_knownRequest_31 : decode cX6_knownRequest 31 = .ok (.ldc_w 279, 3) := by decide +kernel
theorem dX6_knownRequest_34 : decode cX6_knownRequest 34 = .ok (.invokespecial 79, 3) := by decide +kernel
theorem dX6_knownRequest_37 : decode cX6_knownRequest 37 = .ok (.athrow, 1) := by decide +kernel
theorem dX6_knownRequest_38 : decode cX6_knownRequest 38 = .ok (.aload_n 2, 1) := by decide +kernel
theorem dX6_knownRequest_39 : decode cX6_knownRequest 39 = .ok (.areturn, 1) := by decide +kernel
theorem dX6_zoneOf_0 : decode cX6_zoneOf 0 = .ok (.iload_n 0, 1) := by decide +kernel
theorem dX6_zoneOf_1 : decode cX6_zoneOf 1 = .ok (.iconst 3, 1) := by decide +kernel
theorem dX6_zoneOf_2 : decode cX6_zoneOf 2 = .ok (.idiv, 1) := by decide +kernel
theorem dX6_zoneOf_3 : decode cX6_zoneOf 3 = .ok (.ireturn, 1) := by decide +kernel
set_option maxRecDepth 20000 in
theorem ggX6_heightOf_X6_zoneOf : GoodIn wsX6_heightOf wsX6_zoneOf := goodIn_r _ [16] (by decide +kernel) (by decide +kernel)
set_option maxRecDepth 20000 in
theorem gX6_heightOf_X6_zoneOf : GoodIn wsX6_heightOf (va_wsS RX6 151 yX6_zoneOf wsX6_zoneOf) := goodIn_app (goodIn_of _ (by decide +kernel)) ggX6_heightOf_X6_zoneOf
set_option maxRecDepth 20000 in
theorem ggX6_heightOf_X1_isFree : GoodIn wsX6_heightOf wsX1_isFree := goodIn_r _ [21, 22, 23, 24, 47, 48, 49, 50, 51, 52, 53, 54, 55, 56, 57, 58, 59, 60, 61, 62, 63] (by decide +kernel) (by decide +kernel)
set_option maxRecDepth 20000 in
theorem gX6_heightOf_X1_isFree : GoodIn wsX6_heightOf (wsV RX6 121 RX1 yX1_isFree wsX1_isFree) := goodIn_app (goodIn_of _ (by decide +kernel)) ggX6_heightOf_X1_isFree
theorem dX6_heightOf_0 : decode cX6_heightOf 0 = .ok (.bipush 100, 2) := by decide +kernel
theorem dX6_heightOf_2 : decode cX6_heightOf 2 = .ok (.istore_n 2, 1) := by decide +kernel
theorem dX6_heightOf_3 : decode cX6_heightOf 3 = .ok (.iconst 0, 1) := by decide +kernel
theorem dX6_heightOf_4 : decode cX6_heightOf 4 = .ok (.istore_n 3, 1) := by decide +kernel
theorem dX6_heightOf_5 : decode cX6_heightOf 5 = .ok (.iload_n 3, 1) := by decide +kernel
theorem dX6_heightOf_6 : decode cX6_heightOf 6 = .ok (.aload_n 0, 1) := by decide +kernel
theorem dX6_heightOf_7 : decode cX6_heightOf 7 = .ok (.getfield 146, 3) := by decide +kernel
theorem dX6_heightOf_10 : decode cX6_heightOf 10 = .ok (.if_icmp .ge 40, 3) := by decide +kernel
theorem dX6_heightOf_13 : decode cX6_heightOf 13 = .ok (.aload_n 0, 1) := by decide +kernel
theorem dX6_heightOf_14 : decode cX6_heightOf 14 = .ok (.getfield 24, 3) := by decide +kernel
theorem dX6_heightOf_17 : decode cX6_heightOf 17 = .ok (.iload_n 3, 1) := by decide +kernel
theorem dX6_heightOf_18 : decode cX6_heightOf 18 = .ok (.aaload, 1) := by decide +kernel
theorem dX6_heightOf_19 : decode cX6_heightOf 19 = .ok (.getfield 168, 3) := by decide +kernel
theorem dX6_heightOf_22 : decode cX6_heightOf 22 = .ok (.ifCond .ne 22, 3) := by decide +kernel
theorem dX6_heightOf_25 : decode cX6_heightOf 25 = .ok (.aload_n 0, 1) := by decide +kernel
theorem dX6_heightOf_26 : decode cX6_heightOf 26 = .ok (.getfield 24, 3) := by decide +kernel
theorem dX6_heightOf_29 : decode cX6_heightOf 29 = .ok (.iload_n 3, 1) := by decide +kernel
theorem dX6_heightOf_30 : decode cX6_heightOf 30 = .ok (.aaload, 1) := by decide +kernel
theorem dX6_heightOf_31 : decode cX6_heightOf 31 = .ok (.getfield 195, 3) := by decide +kernel
theorem dX6_heightOf_34 : decode cX6_heightOf 34 = .ok (.invokestatic 151, 3) := by decide +kernel
theorem dX6_heightOf_37 : decode cX6_heightOf 37 = .ok (.iload_n 1, 1) := by decide +kernel
theorem dX6_heightOf_38 : decode cX6_heightOf 38 = .ok (.if_icmp .ne 6, 3) := by decide +kernel
theorem dX6_heightOf_41 : decode cX6_heightOf 41 = .ok (.iinc 2 25, 3) := by decide +kernel
theorem dX6_heightOf_44 : decode cX6_heightOf 44 = .ok (.iinc 3 1, 3) := by decide +kernel
theorem dX6_heightOf_47 : decode cX6_heightOf 47 = .ok (.goto (-42), 3) := by decide +kernel
theorem dX6_heightOf_50 : decode cX6_heightOf 50 = .ok (.iconst 0, 1) := by decide +kernel
theorem dX6_heightOf_51 : decode cX6_heightOf 51 = .ok (.istore_n 3, 1) := by decide +kernel
theorem dX6_heightOf_52 : decode cX6_heightOf 52 = .ok (.iload_n 3, 1) := by decide +kernel
theorem dX6_heightOf_53 : decode cX6_heightOf 53 = .ok (.aload_n 0, 1) := by decide +kernel
theorem dX6_heightOf_54 : decode cX6_heightOf 54 = .ok (.getfield 87, 3) := by decide +kernel
theorem dX6_heightOf_57 : decode cX6_heightOf 57 = .ok (.if_icmp .ge 40, 3) := by decide +kernel
theorem dX6_heightOf_60 : decode cX6_heightOf 60 = .ok (.aload_n 0, 1) := by decide +kernel
theorem dX6_heightOf_61 : decode cX6_heightOf 61 = .ok (.getfield 18, 3) := by decide +kernel
theorem dX6_heightOf_64 : decode cX6_heightOf 64 = .ok (.iload_n 3, 1) := by decide +kernel
theorem dX6_heightOf_65 : decode cX6_heightOf 65 = .ok (.aaload, 1) := by decide +kernel
theorem dX6_heightOf_66 : decode cX6_heightOf 66 = .ok (.invokevirtual 121, 3) := by decide +kernel
theorem dX6_heightOf_69 : decode cX6_heightOf 69 = .ok (.ifCond .eq 22, 3) := by decide +kernel
theorem dX6_heightOf_72 : decode cX6_heightOf 72 = .ok (.aload_n 0, 1) := by decide +kernel
theorem dX6_heightOf_73 : decode cX6_heightOf 73 = .ok (.getfield 18, 3) := by decide +kernel
theorem dX6_heightOf_76 : decode cX6_heightOf 76 = .ok (.iload_n 3, 1) := by decide +kernel
theorem dX6_heightOf_77 : decode cX6_heightOf 77 = .ok (.aaload, 1) := by decide +kernel
theorem dX6_heightOf_78 : decode cX6_heightOf 78 = .ok (.getfield 125, 3) := by decide +kernel
theorem dX6_heightOf_81 : decode cX6_heightOf 81 = .ok (.invokestatic 151, 3) := by decide +kernel
theorem dX6_heightOf_84 : decode cX6_heightOf 84 = .ok (.iload_n 1, 1) := by decide +kernel
theorem dX6_heightOf_85 : decode cX6_heightOf 85 = .ok (.if_icmp .ne 6, 3) := by decide +kernel
theorem dX6_heightOf_88 : decode cX6_heightOf 88 = .ok (.iinc 2 (-25), 3) := by decide +kernel
theorem dX6_heightOf_91 : decode cX6_heightOf 91 = .ok (.iinc 3 1, 3) := by decide +kernel
theorem dX6_heightOf_94 : decode cX6_heightOf 94 = .ok (.goto (-42), 3) := by decide +kernel
theorem dX6_heightOf_97 : decode cX6_heightOf 97 = .ok (.iload_n 2, 1) := by decide +kernel
theorem dX6_heightOf_98 : decode cX6_heightOf 98 = .ok (.bipush 100, 2) := by decide +kernel
theorem dX6_heightOf_100 : decode cX6_heightOf 100 = .ok (.invokestatic 260, 3) := by decide +kernel
theorem dX6_heightOf_103 : decode cX6_heightOf 103 = .ok (.aload_n 0, 1) := by decide +kernel
theorem dX6_heightOf_104 : decode cX6_heightOf 104 = .ok (.getfield 44, 3) := by decide +kernel
theorem dX6_heightOf_107 : decode cX6_heightOf 107 = .ok (.invokestatic 281, 3) := by decide +kernel
theorem dX6_heightOf_110 : decode cX6_heightOf 110 = .ok (.ireturn, 1) := by decide +kernel
set_option maxRecDepth 20000 in
theorem ggX6_queueIfNowFree_X1_isFree : GoodIn wsX6_queueIfNowFree wsX1_isFree := goodIn_r _ [6, 7, 8, 9, 20, 21, 22, 23, 24, 25, 26, 27, 28, 29, 30, 31, 32, 33, 34, 35, 36] (by decide +kernel) (by decide +kernel)
set_option maxRecDepth 20000 in
theorem gX6_queueIfNowFree_X1_isFree : GoodIn wsX6_queueIfNowFree (wsV RX6 121 RX1 yX1_isFree wsX1_isFree) := goodIn_app (goodIn_of _ (by decide +kernel)) ggX6_queueIfNowFree_X1_isFree
theorem dX6_queueIfNowFree_0 : decode cX6_queueIfNowFree 0 = .ok (.iload_n 2, 1) := by decide +kernel
theorem dX6_queueIfNowFree_1 : decode cX6_queueIfNowFree 1 = .ok (.ifCond .ne 28, 3) := by decide +kernel
theorem dX6_queueIfNowFree_4 : decode cX6_queueIfNowFree 4 = .ok (.aload_n 1, 1) := by decide +kernel
theorem dX6_queueIfNowFree_5 : decode cX6_queueIfNowFree 5 = .ok (.invokevirtual 121, 3) := by decide +kernel
theorem dX6_queueIfNowFree_8 : decode cX6_queueIfNowFree 8 = .ok (.ifCond .eq 21, 3) := by decide +kernel
theorem dX6_queueIfNowFree_11 : decode cX6_queueIfNowFree 11 = .ok (.aload_n 1, 1) := by decide +kernel
theorem dX6_queueIfNowFree_12 : decode cX6_queueIfNowFree 12 = .ok (.aload_n 0, 1) := by decide +kernel
theorem dX6_queueIfNowFree_13 : decode cX6_queueIfNowFree 13 = .ok (.getfield 284, 3) := by decide +kernel
theorem dX6_queueIfNowFree_16 : decode cX6_queueIfNowFree 16 = .ok (.putfield 287, 3) := by decide +kernel
theorem dX6_queueIfNowFree_19 : decode cX6_queueIfNowFree 19 = .ok (.aload_n 0, 1) := by decide +kernel
theorem dX6_queueIfNowFree_20 : decode cX6_queueIfNowFree 20 = .ok (.dup, 1) := by decide +kernel
theorem dX6_queueIfNowFree_21 : decode cX6_queueIfNowFree 21 = .ok (.getfield 284, 3) := by decide +kernel
theorem dX6_queueIfNowFree_24 : decode cX6_queueIfNowFree 24 = .ok (.iconst 1, 1) := by decide +kernel
theorem dX6_queueIfNowFree_25 : decode cX6_queueIfNowFree 25 = .ok (.iadd, 1) := by decide +kernel
theorem dX6_queueIfNowFree_26 : decode cX6_queueIfNowFree 26 = .ok (.putfield 284, 3) := by decide +kernel
theorem dX6_queueIfNowFree_29 : decode cX6_queueIfNowFree 29 = .ok (.return_, 1) := by decide +kernel
set_option maxRecDepth 20000 in
theorem ggX6_firstInQueue_X1_isFree : GoodIn wsX6_firstInQueue wsX1_isFree := goodIn_r _ [7, 8, 9, 10, 21, 22, 23, 24, 25, 26, 27, 28, 29, 30, 31, 32, 33, 34, 35, 36, 37] (by decide +kernel) (by decide +kernel)
set_option maxRecDepth 20000 in
theorem gX6_firstInQueue_X1_isFree : GoodIn wsX6_firstInQueue (wsV RX6 121 RX1 yX1_isFree wsX1_isFree) := goodIn_app (goodIn_of _ (by decide +kernel)) ggX6_firstInQueue_X1_isFree
theorem dX6_firstInQueue_0 : decode cX6_firstInQueue 0 = .ok (.aconst_null, 1) := by decide +kernel
theorem dX6_firstInQueue_1 : decode cX6_firstInQueue 1 = .ok (.astore_n 1, 1) := by decide +kernel
theorem dX6_firstInQueue_2 : decode cX6_firstInQueue 2 = .ok (.iconst 0, 1) := by decide +kernel
theorem dX6_firstInQueue_3 : decode cX6_firstInQueue 3 = .ok (.istore_n 2, 1) := by decide +kernel
theorem dX6_firstInQueue_4 : decode cX6_firstInQueue 4 = .ok (.iload_n 2, 1) := by decide +kernel
theorem dX6_firstInQueue_5 : decode cX6_firstInQueue 5 = .ok (.aload_n 0, 1) := by decide +kernel
theorem dX6_firstInQueue_6 : decode cX6_firstInQueue 6 = .ok (.getfield 87, 3) := by decide +kernel
theorem dX6_firstInQueue_9 : decode cX6_firstInQueue 9 = .ok (.if_icmp .ge 47, 3) := by decide +kernel
theorem dX6_firstInQueue_12 : decode cX6_firstInQueue 12 = .ok (.aload_n 0, 1) := by decide +kernel
theorem dX6_firstInQueue_13 : decode cX6_firstInQueue 13 = .ok (.getfield 18, 3) := by decide +kernel
theorem dX6_firstInQueue_16 : decode cX6_firstInQueue 16 = .ok (.iload_n 2, 1) := by decide +kernel
theorem dX6_firstInQueue_17 : decode cX6_firstInQueue 17 = .ok (.aaload, 1) := by decide +kernel
theorem dX6_firstInQueue_18 : decode cX6_firstInQueue 18 = .ok (.astore_n 3, 1) := by decide +kernel
theorem dX6_firstInQueue_19 : decode cX6_firstInQueue 19 = .ok (.aload_n 3, 1) := by decide +kernel
theorem dX6_firstInQueue_20 : decode cX6_firstInQueue 20 = .ok (.invokevirtual 121, 3) := by decide +kernel
theorem dX6_firstInQueue_23 : decode cX6_firstInQueue 23 = .ok (.ifCond .eq 27, 3) := by decide +kernel
theorem dX6_firstInQueue_26 : decode cX6_firstInQueue 26 = .ok (.aload_n 3, 1) := by decide +kernel
theorem dX6_firstInQueue_27 : decode cX6_firstInQueue 27 = .ok (.getfield 125, 3) := by decide +kernel
theorem dX6_firstInQueue_30 : decode cX6_firstInQueue 30 = .ok (.ifCond .ne 20, 3) := by decide +kernel
theorem dX6_firstInQueue_33 : decode cX6_firstInQueue 33 = .ok (.aload_n 1, 1) := by decide +kernel
theorem dX6_firstInQueue_34 : decode cX6_firstInQueue 34 = .ok (.ifnull 14, 3) := by decide +kernel
theorem dX6_firstInQueue_37 : decode cX6_firstInQueue 37 = .ok (.aload_n 3, 1) := by decide +kernel
theorem dX6_firstInQueue_38 : decode cX6_firstInQueue 38 = .ok (.getfield 287, 3) := by decide +kernel
theorem dX6_firstInQueue_41 : decode cX6_firstInQueue 41 = .ok (.aload_n 1, 1) := by decide +kernel
theorem dX6_firstInQueue_42 : decode cX6_firstInQueue 42 = .ok (.getfield 287, 3) := by decide +kernel
theorem dX6_firstInQueue_45 : decode cX6_firstInQueue 45 = .ok (.if_icmp .ge 5, 3) := by decide +kernel
theorem dX6_firstInQueue_48 : decode cX6_firstInQueue 48 = .ok (.aload_n 3, 1) := by decide +kernel
theorem dX6_firstInQueue_49 : decode cX6_firstInQueue 49 = .ok (.astore_n 1, 1) := by decide +kernel
theorem dX6_firstInQueue_50 : decode cX6_firstInQueue 50 = .ok (.iinc 2 1, 3) := by decide +kernel
theorem dX6_firstInQueue_53 : decode cX6_firstInQueue 53 = .ok (.goto (-49), 3) := by decide +kernel
theorem dX6_firstInQueue_56 : decode cX6_firstInQueue 56 = .ok (.aload_n 1, 1) := by decide +kernel
theorem dX6_firstInQueue_57 : decode cX6_firstInQueue 57 = .ok (.areturn, 1) := by decide +kernel
set_option maxRecDepth 20000 in
theorem ggX6_prepareMatching_X2_clear : GoodIn wsX6_prepareMatching wsX2_clear := goodIn_r _ [11, 12, 13, 72, 73, 74, 75, 76, 77] (by decide +kernel) (by decide +kernel)
set_option maxRecDepth 20000 in
theorem gX6_prepareMatching_X2_clear : GoodIn wsX6_prepareMatching (wsV RX6 290 RX2 yX2_clear wsX2_clear) := goodIn_app (goodIn_of _ (by decide +kernel)) ggX6_prepareMatching_X2_clear
set_option maxRecDepth 20000 in
theorem ggX6_prepareMatching_X2_addRequest : GoodIn wsX6_prepareMatching wsX2_addRequest := goodIn_r _ [17, 18, 13, 72, 73, 74, 75, 76, 77] (by decide +kernel) (by decide +kernel)
set_option maxRecDepth 20000 in
theorem gX6_prepareMatching_X2_addRequest : GoodIn wsX6_prepareMatching (wsV RX6 295 RX2 yX2_addRequest wsX2_addRequest) := goodIn_app (goodIn_of _ (by decide +kernel)) ggX6_prepareMatching_X2_addRequest
set_option maxRecDepth 20000 in
theorem ggX6_prepareMatching_X6_fillMinutes : GoodIn wsX6_prepareMatching wsX6_fillMinutes := goodIn_r _ [23, 24, 4, 25, 26, 3, 27, 28, 29, 30, 31, 32, 33, 34, 35, 36, 37, 38, 39, 40, 41, 42, 43, 44, 45, 46, 47, 10, 48, 49, 13, 60, 61, 62, 63, 64, 65, 66, 67, 68, 69, 70, 71, 50, 51, 52, 53, 54, 55, 56, 57, 58, 59, 78, 79, 80, 81, 82, 83, 84, 85, 86, 87, 88, 89, 90, 91, 92, 93, 94, 95, 96, 97, 98, 99, 72, 73, 74, 75, 76, 77] (by decide +kernel) (by decide +kernel)
set_option maxRecDepth 20000 in
theorem gX6_prepareMatching_X6_fillMinutes : GoodIn wsX6_prepareMatching (wsV RX6 298 RX6 yX6_fillMinutes wsX6_fillMinutes) := goodIn_app (goodIn_of _ (by decide +kernel)) ggX6_prepareMatching_X6_fillMinutes
theorem dX6_prepareMatching_0 : decode cX6_prepareMatching 0 = .ok (.aload_n 0, 1) := by decide +kernel
theorem dX6_prepareMatching_1 : decode cX6_prepareMatching 1 = .ok (.getfield 31, 3) := by decide +kernel
theorem dX6_prepareMatching_4 : decode cX6_prepareMatching 4 = .ok (.aload_n 0, 1) := by decide +kernel
theorem dX6_prepareMatching_5 : decode cX6_prepareMatching 5 = .ok (.getfield 87, 3) := by decide +kernel
theorem dX6_prepareMatching_8 : decode cX6_prepareMatching 8 = .ok (.invokevirtual 290, 3) := by decide +kernel
theorem dX6_prepareMatching_11 : decode cX6_prepareMatching 11 = .ok (.iconst 0, 1) := by decide +kernel
theorem dX6_prepareMatching_12 : decode cX6_prepareMatching 12 = .ok (.istore_n 1, 1) := by decide +kernel
theorem dX6_prepareMatching_13 : decode cX6_prepareMatching 13 = .ok (.iload_n 1, 1) := by decide +kernel
theorem dX6_prepareMatching_14 : decode cX6_prepareMatching 14 = .ok (.aload_n 0, 1) := by decide +kernel
theorem dX6_prepareMatching_15 : decode cX6_prepareMatching 15 = .ok (.getfield 146, 3) := by decide +kernel
theorem dX6_prepareMatching_18 : decode cX6_prepareMatching 18 = .ok (.if_icmp .ge 65, 3) := by decide +kernel
theorem dX6_prepareMatching_21 : decode cX6_prepareMatching 21 = .ok (.aload_n 0, 1) := by decide +kernel
theorem dX6_prepareMatching_22 : decode cX6_prepareMatching 22 = .ok (.getfield 24, 3) := by decide +kernel
theorem dX6_prepareMatching_25 : decode cX6_prepareMatching 25 = .ok (.iload_n 1, 1) := by decide +kernel
theorem dX6_prepareMatching_26 : decode cX6_prepareMatching 26 = .ok (.aaload, 1) := by decide +kernel
theorem dX6_prepareMatching_27 : decode cX6_prepareMatching 27 = .ok (.astore_n 2, 1) := by decide +kernel
theorem dX6_prepareMatching_28 : decode cX6_prepareMatching 28 = .ok (.aload_n 2, 1) := by decide +kernel
theorem dX6_prepareMatching_29 : decode cX6_prepareMatching 29 = .ok (.getfield 168, 3) := by decide +kernel
theorem dX6_prepareMatching_32 : decode cX6_prepareMatching 32 = .ok (.ifCond .ne 45, 3) := by decide +kernel
theorem dX6_prepareMatching_35 : decode cX6_prepareMatching 35 = .ok (.aload_n 2, 1) := by decide +kernel
theorem dX6_prepareMatching_36 : decode cX6_prepareMatching 36 = .ok (.getfield 195, 3) := by decide +kernel
theorem dX6_prepareMatching_39 : decode cX6_prepareMatching 39 = .ok (.ifCond .eq 38, 3) := by decide +kernel
theorem dX6_prepareMatching_42 : decode cX6_prepareMatching 42 = .ok (.aload_n 0, 1) := by decide +kernel
theorem dX6_prepareMatching_43 : decode cX6_prepareMatching 43 = .ok (.getfield 31, 3) := by decide +kernel
theorem dX6_prepareMatching_46 : decode cX6_prepareMatching 46 = .ok (.getfield 216, 3) := by decide +kernel
theorem dX6_prepareMatching_49 : decode cX6_prepareMatching 49 = .ok (.iconst 5, 1) := by decide +kernel
theorem dX6_prepareMatching_50 : decode cX6_prepareMatching 50 = .ok (.if_icmp .lt 14, 3) := by decide +kernel
theorem dX6_prepareMatching_53 : decode cX6_prepareMatching 53 = .ok (.new 66, 3) := by decide +kernel
theorem dX6_prepareMatching_56 : decode cX6_prepareMatching 56 = .ok (.dup, 1) := by decide +kernel
theorem dX6_prepareMatching_57 : decode cX6_prepareMatching 57 = .ok (.ldc_w 293, 3) := by decide +kernel
theorem dX6_prepareMatching_60 : decode cX6_prepareMatching 60 = .ok (.invokespecial 70, 3) := by decide +kernel
theorem dX6_prepareMatching_63 : decode cX6_prepareMatching 63 = .ok (.athrow, 1) := by decide +kernel
theorem dX6_prepareMatching_64 : decode cX6_prepareMatching 64 = .ok (.aload_n 0, 1) := by decide +kernel
theorem dX6_prepareMatching_65 : decode cX6_prepareMatching 65 = .ok (.getfield 31, 3) := by decide +kernel
theorem dX6_prepareMatching_68 : decode cX6_prepareMatching 68 = .ok (.aload_n 2, 1) := by decide +kernel
theorem dX6_prepareMatching_69 : decode cX6_prepareMatching 69 = .ok (.invokevirtual 295, 3) := by decide +kernel
theorem dX6_prepareMatching_72 : decode cX6_prepareMatching 72 = .ok (.aload_n 0, 1) := by decide +kernel
theorem dX6_prepareMatching_73 : decode cX6_prepareMatching 73 = .ok (.aload_n 2, 1) := by decide +kernel
theorem dX6_prepareMatching_74 : decode cX6_prepareMatching 74 = .ok (.invokevirtual 298, 3) := by decide +kernel
theorem dX6_prepareMatching_77 : decode cX6_prepareMatching 77 = .ok (.iinc 1 1, 3) := by decide +kernel
theorem dX6_prepareMatching_80 : decode cX6_prepareMatching 80 = .ok (.goto (-67), 3) := by decide +kernel
theorem dX6_prepareMatching_83 : decode cX6_prepareMatching 83 = .ok (.return_, 1) := by decide +kernel
set_option maxRecDepth 20000 in
theorem ggX6_fillMinutes_X0_minutesBetween : GoodIn wsX6_fillMinutes wsX0_minutesBetween := goodIn_r _ [10, 11, 12, 13, 14, 9, 15, 66, 67, 68, 69, 70] (by decide +kernel) (by decide +kernel)
set_option maxRecDepth 20000 in
theorem gX6_fillMinutes_X0_minutesBetween : GoodIn wsX6_fillMinutes (wsV RX6 84 RX0 yX0_minutesBetween wsX0_minutesBetween) := goodIn_app (goodIn_of _ (by decide +kernel)) ggX6_fillMinutes_X0_minutesBetween
set_option maxRecDepth 20000 in
theorem ggX6_fillMinutes_X1_isFree : GoodIn wsX6_fillMinutes wsX1_isFree := goodIn_r _ [20, 21, 22, 23, 53, 54, 55, 56, 57, 58, 59, 60, 61, 62, 63, 64, 65, 71, 72, 73, 74] (by decide +kernel) (by decide +kernel)
set_option maxRecDepth 20000 in
theorem gX6_fillMinutes_X1_isFree : GoodIn wsX6_fillMinutes (wsV RX6 121 RX1 yX1_isFree wsX1_isFree) := goodIn_app (goodIn_of _ (by decide +kernel)) ggX6_fillMinutes_X1_isFree
set_option maxRecDepth 20000 in
theorem ggX6_fillMinutes_X2_setMinutes : GoodIn wsX6_fillMinutes wsX2_setMinutes := goodIn_r _ [28, 29, 30, 75, 76, 77, 78, 79, 80] (by decide +kernel) (by decide +kernel)
set_option maxRecDepth 20000 in
theorem gX6_fillMinutes_X2_setMinutes : GoodIn wsX6_fillMinutes (wsV RX6 301 RX2 yX2_setMinutes wsX2_setMinutes) := goodIn_app (goodIn_of _ (by decide +kernel)) ggX6_fillMinutes_X2_setMinutes
theorem dX6_fillMinutes_0 : decode cX6_fillMinutes 0 = .ok (.aload_n 1, 1) := by decide +kernel
theorem dX6_fillMinutes_1 : decode cX6_fillMinutes 1 = .ok (.getfield 157, 3) := by decide +kernel
theorem dX6_fillMinutes_4 : decode cX6_fillMinutes 4 = .ok (.aload_n 0, 1) := by decide +kernel
theorem dX6_fillMinutes_5 : decode cX6_fillMinutes 5 = .ok (.getfield 134, 3) := by decide +kernel
theorem dX6_fillMinutes_8 : decode cX6_fillMinutes 8 = .ok (.isub, 1) := by decide +kernel
theorem dX6_fillMinutes_9 : decode cX6_fillMinutes 9 = .ok (.istore_n 2, 1) := by decide +kernel
theorem dX6_fillMinutes_10 : decode cX6_fillMinutes 10 = .ok (.iconst 0, 1) := by decide +kernel
theorem dX6_fillMinutes_11 : decode cX6_fillMinutes 11 = .ok (.istore_n 3, 1) := by decide +kernel
theorem dX6_fillMinutes_12 : decode cX6_fillMinutes 12 = .ok (.iload_n 3, 1) := by decide +kernel
theorem dX6_fillMinutes_13 : decode cX6_fillMinutes 13 = .ok (.aload_n 0, 1) := by decide +kernel
theorem dX6_fillMinutes_14 : decode cX6_fillMinutes 14 = .ok (.getfield 87, 3) := by decide +kernel
theorem dX6_fillMinutes_17 : decode cX6_fillMinutes 17 = .ok (.if_icmp .ge 81, 3) := by decide +kernel
theorem dX6_fillMinutes_20 : decode cX6_fillMinutes 20 = .ok (.aload_n 0, 1) := by decide +kernel
theorem dX6_fillMinutes_21 : decode cX6_fillMinutes 21 = .ok (.getfield 10, 3) := by decide +kernel
theorem dX6_fillMinutes_24 : decode cX6_fillMinutes 24 = .ok (.aload_n 0, 1) := by decide +kernel
theorem dX6_fillMinutes_25 : decode cX6_fillMinutes 25 = .ok (.getfield 18, 3) := by decide +kernel
theorem dX6_fillMinutes_28 : decode cX6_fillMinutes 28 = .ok (.iload_n 3, 1) := by decide +kernel
theorem dX6_fillMinutes_29 : decode cX6_fillMinutes 29 = .ok (.aaload, 1) := by decide +kernel
theorem dX6_fillMinutes_30 : decode cX6_fillMinutes 30 = .ok (.getfield 125, 3) := by decide +kernel
theorem dX6_fillMinutes_33 : decode cX6_fillMinutes 33 = .ok (.aload_n 1, 1) := by decide +kernel
theorem dX6_fillMinutes_34 : decode cX6_fillMinutes 34 = .ok (.getfield 195, 3) := by decide +kernel
theorem dX6_fillMinutes_37 : decode cX6_fillMinutes 37 = .ok (.invokevirtual 84, 3) := by decide +kernel
theorem dX6_fillMinutes_40 : decode cX6_fillMinutes 40 = .ok (.istore 4, 2) := by decide +kernel
theorem dX6_fillMinutes_42 : decode cX6_fillMinutes 42 = .ok (.aload_n 0, 1) := by decide +kernel
theorem dX6_fillMinutes_43 : decode cX6_fillMinutes 43 = .ok (.getfield 18, 3) := by decide +kernel
theorem dX6_fillMinutes_46 : decode cX6_fillMinutes 46 = .ok (.iload_n 3, 1) := by decide +kernel
theorem dX6_fillMinutes_47 : decode cX6_fillMinutes 47 = .ok (.aaload, 1) := by decide +kernel
theorem dX6_fillMinutes_48 : decode cX6_fillMinutes 48 = .ok (.invokevirtual 121, 3) := by decide +kernel
theorem dX6_fillMinutes_51 : decode cX6_fillMinutes 51 = .ok (.ifCond .eq 19, 3) := by decide +kernel
theorem dX6_fillMinutes_54 : decode cX6_fillMinutes 54 = .ok (.iload 4, 2) := by decide +kernel
theorem dX6_fillMinutes_56 : decode cX6_fillMinutes 56 = .ok (.iconst (-1), 1) := by decide +kernel
theorem dX6_fillMinutes_57 : decode cX6_fillMinutes 57 = .ok (.if_icmp .eq 13, 3) := by decide +kernel
theorem dX6_fillMinutes_60 : decode cX6_fillMinutes 60 = .ok (.iload 4, 2) := by decide +kernel
theorem dX6_fillMinutes_62 : decode cX6_fillMinutes 62 = .ok (.iload_n 2, 1) := by decide +kernel
theorem dX6_fillMinutes_63 : decode cX6_fillMinutes 63 = .ok (.if_icmp .gt 7, 3) := by decide +kernel
theorem dX6_fillMinutes_66 : decode cX6_fillMinutes 66 = .ok (.iconst 1, 1) := by decide +kernel
theorem dX6_fillMinutes_67 : decode cX6_fillMinutes 67 = .ok (.goto 4, 3) := by decide +kernel
theorem dX6_fillMinutes_70 : decode cX6_fillMinutes 70 = .ok (.iconst 0, 1) := by decide +kernel
theorem dX6_fillMinutes_71 : decode cX6_fillMinutes 71 = .ok (.istore 5, 2) := by decide +kernel
theorem dX6_fillMinutes_73 : decode cX6_fillMinutes 73 = .ok (.aload_n 0, 1) := by decide +kernel
theorem dX6_fillMinutes_74 : decode cX6_fillMinutes 74 = .ok (.getfield 31, 3) := by decide +kernel
theorem dX6_fillMinutes_77 : decode cX6_fillMinutes 77 = .ok (.iload_n 3, 1) := by decide +kernel
theorem dX6_fillMinutes_78 : decode cX6_fillMinutes 78 = .ok (.iload 5, 2) := by decide +kernel
theorem dX6_fillMinutes_80 : decode cX6_fillMinutes 80 = .ok (.ifCond .eq 8, 3) := by decide +kernel
theorem dX6_fillMinutes_83 : decode cX6_fillMinutes 83 = .ok (.iload 4, 2) := by decide +kernel
theorem dX6_fillMinutes_85 : decode cX6_fillMinutes 85 = .ok (.goto 4, 3) := by decide +kernel
theorem dX6_fillMinutes_88 : decode cX6_fillMinutes 88 = .ok (.iconst (-1), 1) := by decide +kernel
theorem dX6_fillMinutes_89 : decode cX6_fillMinutes 89 = .ok (.invokevirtual 301, 3) := by decide +kernel
theorem dX6_fillMinutes_92 : decode cX6_fillMinutes 92 = .ok (.iinc 3 1, 3) := by decide +kernel
theorem dX6_fillMinutes_95 : decode cX6_fillMinutes 95 = .ok (.goto (-83), 3) := by decide +kernel
theorem dX6_fillMinutes_98 : decode cX6_fillMinutes 98 = .ok (.return_, 1) := by decide +kernel
set_option maxRecDepth 20000 in
theorem ggX6_send_X0_minutesBetween : GoodIn wsX6_send wsX0_minutesBetween := goodIn_r _ [7, 8, 9, 10, 11, 6, 12, 112, 113, 114, 115, 116] (by decide +kernel) (by decide +kernel)
set_option maxRecDepth 20000 in
theorem gX6_send_X0_minutesBetween : GoodIn wsX6_send (wsV RX6 84 RX0 yX0_minutesBetween wsX0_minutesBetween) := goodIn_app (goodIn_of _ (by decide +kernel)) ggX6_send_X0_minutesBetween
set_option maxRecDepth 20000 in
theorem ggX6_send_X6_tellSent : GoodIn wsX6_send wsX6_tellSent := goodIn_r _ [17, 1, 2, 18, 19, 20, 6, 21, 22, 4, 5, 7, 8, 9, 10, 11, 12, 100, 101, 102, 103, 104, 105, 106, 107, 108, 109, 110, 111, 77, 78, 79, 80, 81, 82, 83, 84, 85, 86, 112, 113, 114, 115, 116] (by decide +kernel) (by decide +kernel)
set_option maxRecDepth 20000 in
theorem gX6_send_X6_tellSent : GoodIn wsX6_send (wsV RX6 304 RX6 yX6_tellSent wsX6_tellSent) := goodIn_app (goodIn_of _ (by decide +kernel)) ggX6_send_X6_tellSent
set_option maxRecDepth 20000 in
theorem ggX6_send_X4_put : GoodIn wsX6_send wsX4_put := goodIn_r _ [27, 28, 29, 30, 31, 32, 33, 34, 26, 35, 117, 118, 119, 120] (by decide +kernel) (by decide +kernel)
set_option maxRecDepth 20000 in
theorem gX6_send_X4_put : GoodIn wsX6_send (wsV RX6 130 RX4 yX4_put wsX4_put) := goodIn_app (goodIn_of _ (by decide +kernel)) ggX6_send_X4_put
set_option maxRecDepth 20000 in
theorem ggX6_send_X6_doReachedStops : GoodIn wsX6_send wsX6_doReachedStops := goodIn_r _ [39, 1, 40, 41, 42, 16, 43, 2, 44, 45, 46, 26, 47, 30, 48, 49, 50, 51, 28, 52, 53, 54, 55, 31, 56, 57, 58, 59, 29, 60, 61, 62, 63, 32, 33, 34, 35, 3, 4, 5, 6, 7, 8, 9, 10, 11, 12, 64, 65, 66, 67, 68, 69, 70, 71, 72, 73, 74, 75, 76, 87, 88, 89, 90, 91, 92, 93, 94, 95, 96, 97, 98, 99, 117, 118, 119, 120, 77, 78, 79, 80, 81, 82, 83, 84, 85, 86, 100, 101, 102, 103, 104, 105, 106, 107, 108, 109, 110, 111, 112, 113, 114, 115, 116] (by decide +kernel) (by decide +kernel)
set_option maxRecDepth 20000 in
theorem gX6_send_X6_doReachedStops : GoodIn wsX6_send (wsV RX6 311 RX6 yX6_doReachedStops wsX6_doReachedStops) := goodIn_app (goodIn_of _ (by decide +kernel)) ggX6_send_X6_doReachedStops
theorem dX6_send_0 : decode cX6_send 0 = .ok (.aload_n 0, 1) := by decide +kernel
theorem dX6_send_1 : decode cX6_send 1 = .ok (.getfield 134, 3) := by decide +kernel
theorem dX6_send_4 : decode cX6_send 4 = .ok (.aload_n 0, 1) := by decide +kernel
theorem dX6_send_5 : decode cX6_send 5 = .ok (.getfield 10, 3) := by decide +kernel
theorem dX6_send_8 : decode cX6_send 8 = .ok (.aload_n 1, 1) := by decide +kernel
theorem dX6_send_9 : decode cX6_send 9 = .ok (.getfield 125, 3) := by decide +kernel
theorem dX6_send_12 : decode cX6_send 12 = .ok (.aload_n 2, 1) := by decide +kernel
theorem dX6_send_13 : decode cX6_send 13 = .ok (.getfield 195, 3) := by decide +kernel
theorem dX6_send_16 : decode cX6_send 16 = .ok (.invokevirtual 84, 3) := by decide +kernel
theorem dX6_send_19 : decode cX6_send 19 = .ok (.iadd, 1) := by decide +kernel
theorem dX6_send_20 : decode cX6_send 20 = .ok (.istore_n 3, 1) := by decide +kernel
theorem dX6_send_21 : decode cX6_send 21 = .ok (.aload_n 0, 1) := by decide +kernel
theorem dX6_send_22 : decode cX6_send 22 = .ok (.aload_n 2, 1) := by decide +kernel
theorem dX6_send_23 : decode cX6_send 23 = .ok (.aload_n 1, 1) := by decide +kernel
theorem dX6_send_24 : decode cX6_send 24 = .ok (.iload_n 3, 1) := by decide +kernel
theorem dX6_send_25 : decode cX6_send 25 = .ok (.invokevirtual 304, 3) := by decide +kernel
theorem dX6_send_28 : decode cX6_send 28 = .ok (.aload_n 1, 1) := by decide +kernel
theorem dX6_send_29 : decode cX6_send 29 = .ok (.getfield 106, 3) := by decide +kernel
theorem dX6_send_32 : decode cX6_send 32 = .ok (.iconst 0, 1) := by decide +kernel
theorem dX6_send_33 : decode cX6_send 33 = .ok (.aload_n 2, 1) := by decide +kernel
theorem dX6_send_34 : decode cX6_send 34 = .ok (.getfield 195, 3) := by decide +kernel
theorem dX6_send_37 : decode cX6_send 37 = .ok (.aload_n 2, 1) := by decide +kernel
theorem dX6_send_38 : decode cX6_send 38 = .ok (.iconst 0, 1) := by decide +kernel
theorem dX6_send_39 : decode cX6_send 39 = .ok (.invokevirtual 130, 3) := by decide +kernel
theorem dX6_send_42 : decode cX6_send 42 = .ok (.aload_n 1, 1) := by decide +kernel
theorem dX6_send_43 : decode cX6_send 43 = .ok (.getfield 106, 3) := by decide +kernel
theorem dX6_send_46 : decode cX6_send 46 = .ok (.iconst 1, 1) := by decide +kernel
theorem dX6_send_47 : decode cX6_send 47 = .ok (.aload_n 2, 1) := by decide +kernel
theorem dX6_send_48 : decode cX6_send 48 = .ok (.getfield 308, 3) := by decide +kernel
theorem dX6_send_51 : decode cX6_send 51 = .ok (.aload_n 2, 1) := by decide +kernel
theorem dX6_send_52 : decode cX6_send 52 = .ok (.iconst 1, 1) := by decide +kernel
theorem dX6_send_53 : decode cX6_send 53 = .ok (.invokevirtual 130, 3) := by decide +kernel
theorem dX6_send_56 : decode cX6_send 56 = .ok (.aload_n 1, 1) := by decide +kernel
theorem dX6_send_57 : decode cX6_send 57 = .ok (.iload_n 3, 1) := by decide +kernel
theorem dX6_send_58 : decode cX6_send 58 = .ok (.putfield 137, 3) := by decide +kernel
theorem dX6_send_61 : decode cX6_send 61 = .ok (.aload_n 0, 1) := by decide +kernel
theorem dX6_send_62 : decode cX6_send 62 = .ok (.aload_n 1, 1) := by decide +kernel
theorem dX6_send_63 : decode cX6_send 63 = .ok (.invokevirtual 311, 3) := by decide +kernel
theorem dX6_send_66 : decode cX6_send 66 = .ok (.return_, 1) := by decide +kernel
set_option maxRecDepth 20000 in
theorem ggX6_tellSent_X0_promiseOf : GoodIn wsX6_tellSent wsX0_promiseOf := goodIn_r _ [7, 8, 9, 10, 6, 11, 12, 13, 14, 15, 16, 17, 18, 19, 20, 21, 22, 23, 24, 25, 26, 27, 28, 39, 40, 41, 42, 43] (by decide +kernel) (by decide +kernel)
set_option maxRecDepth 20000 in
theorem gX6_tellSent_X0_promiseOf : GoodIn wsX6_tellSent (wsV RX6 315 RX0 yX0_promiseOf wsX0_promiseOf) := goodIn_app (goodIn_of _ (by decide +kernel)) ggX6_tellSent_X0_promiseOf
theorem dX6_tellSent_0 : decode cX6_tellSent 0 = .ok (.aload_n 1, 1) := by decide +kernel
theorem dX6_tellSent_1 : decode cX6_tellSent 1 = .ok (.iconst 1, 1) := by decide +kernel
theorem dX6_tellSent_2 : decode cX6_tellSent 2 = .ok (.putfield 168, 3) := by decide +kernel
theorem dX6_tellSent_5 : decode cX6_tellSent 5 = .ok (.aload_n 1, 1) := by decide +kernel
theorem dX6_tellSent_6 : decode cX6_tellSent 6 = .ok (.aload_n 2, 1) := by decide +kernel
theorem dX6_tellSent_7 : decode cX6_tellSent 7 = .ok (.putfield 173, 3) := by decide +kernel
theorem dX6_tellSent_10 : decode cX6_tellSent 10 = .ok (.aload_n 1, 1) := by decide +kernel
theorem dX6_tellSent_11 : decode cX6_tellSent 11 = .ok (.aload_n 0, 1) := by decide +kernel
theorem dX6_tellSent_12 : decode cX6_tellSent 12 = .ok (.getfield 134, 3) := by decide +kernel
theorem dX6_tellSent_15 : decode cX6_tellSent 15 = .ok (.putfield 181, 3) := by decide +kernel
theorem dX6_tellSent_18 : decode cX6_tellSent 18 = .ok (.aload_n 1, 1) := by decide +kernel
theorem dX6_tellSent_19 : decode cX6_tellSent 19 = .ok (.aload_n 0, 1) := by decide +kernel
theorem dX6_tellSent_20 : decode cX6_tellSent 20 = .ok (.getfield 10, 3) := by decide +kernel
theorem dX6_tellSent_23 : decode cX6_tellSent 23 = .ok (.aload_n 1, 1) := by decide +kernel
theorem dX6_tellSent_24 : decode cX6_tellSent 24 = .ok (.iload_n 3, 1) := by decide +kernel
theorem dX6_tellSent_25 : decode cX6_tellSent 25 = .ok (.invokevirtual 315, 3) := by decide +kernel
theorem dX6_tellSent_28 : decode cX6_tellSent 28 = .ok (.putfield 230, 3) := by decide +kernel
theorem dX6_tellSent_31 : decode cX6_tellSent 31 = .ok (.return_, 1) := by decide +kernel
set_option maxRecDepth 20000 in
theorem ggX6_putIntoRow_X5_begin : GoodIn wsX6_putIntoRow wsX5_begin := goodIn_r _ [8, 9, 10, 124, 125, 126, 127, 128, 129, 130, 131, 132] (by decide +kernel) (by decide +kernel)
set_option maxRecDepth 20000 in
theorem gX6_putIntoRow_X5_begin : GoodIn wsX6_putIntoRow (wsV RX6 319 RX5 yX5_begin wsX5_begin) := goodIn_app (goodIn_of _ (by decide +kernel)) ggX6_putIntoRow_X5_begin
set_option maxRecDepth 20000 in
theorem ggX6_putIntoRow_X4_canTakeOneMore : GoodIn wsX6_putIntoRow wsX4_canTakeOneMore := goodIn_r _ [15, 16, 17, 18, 19, 20, 14, 21, 22, 145, 146, 147, 148, 133, 134, 135, 136, 137, 138, 139, 140, 141, 142, 143, 144] (by decide +kernel) (by decide +kernel)
set_option maxRecDepth 20000 in
theorem gX6_putIntoRow_X4_canTakeOneMore : GoodIn wsX6_putIntoRow (wsV RX6 325 RX4 yX4_canTakeOneMore wsX4_canTakeOneMore) := goodIn_app (goodIn_of _ (by decide +kernel)) ggX6_putIntoRow_X4_canTakeOneMore
set_option maxRecDepth 20000 in
theorem ggX6_putIntoRow_X5_tryDriver : GoodIn wsX6_putIntoRow wsX5_tryDriver := goodIn_r _ [26, 10, 27, 28, 29, 30, 31, 32, 33, 34, 7, 35, 36, 37, 38, 39, 14, 40, 41, 42, 43, 44, 45, 16, 46, 47, 48, 49, 50, 51, 52, 53, 54, 55, 56, 57, 58, 59, 60, 9, 61, 62, 63, 64, 17, 22, 65, 66, 67, 68, 69, 70, 71, 72, 73, 74, 75, 76, 77, 78, 79, 80, 81, 82, 83, 84, 85, 86, 87, 88, 89, 90, 91, 111, 112, 113, 114, 115, 116, 117, 118, 119, 120, 121, 122, 123, 145, 146, 147, 148, 124, 125, 126, 127, 128, 129, 130, 131, 132, 149, 150, 151, 152, 153, 133, 134, 135, 136, 137, 138, 139, 140, 141, 142, 143, 144] (by decide +kernel) (by decide +kernel)
set_option maxRecDepth 20000 in
theorem gX6_putIntoRow_X5_tryDriver : GoodIn wsX6_putIntoRow (wsV RX6 328 RX5 yX5_tryDriver wsX5_tryDriver) := goodIn_app (goodIn_of _ (by decide +kernel)) ggX6_putIntoRow_X5_tryDriver
set_option maxRecDepth 20000 in
theorem ggX6_putIntoRow_X4_put : GoodIn wsX6_putIntoRow wsX4_put := goodIn_r _ [68, 16, 41, 17, 22, 69, 70, 71, 14, 72, 145, 146, 147, 148] (by decide +kernel) (by decide +kernel)
set_option maxRecDepth 20000 in
theorem gX6_putIntoRow_X4_put : GoodIn wsX6_putIntoRow (wsV RX6 130 RX4 yX4_put wsX4_put) := goodIn_app (goodIn_of _ (by decide +kernel)) ggX6_putIntoRow_X4_put
set_option maxRecDepth 20000 in
theorem ggX6_putIntoRow_X6_tellSent : GoodIn wsX6_putIntoRow wsX6_tellSent := goodIn_r _ [97, 98, 99, 100, 88, 89, 49, 90, 91, 47, 48, 50, 51, 52, 53, 54, 55, 133, 134, 135, 136, 137, 138, 139, 140, 141, 142, 143, 144, 101, 102, 103, 104, 105, 106, 107, 108, 109, 110, 149, 150, 151, 152, 153] (by decide +kernel) (by decide +kernel)
set_option maxRecDepth 20000 in
theorem gX6_putIntoRow_X6_tellSent : GoodIn wsX6_putIntoRow (wsV RX6 304 RX6 yX6_tellSent wsX6_tellSent) := goodIn_app (goodIn_of _ (by decide +kernel)) ggX6_putIntoRow_X6_tellSent
