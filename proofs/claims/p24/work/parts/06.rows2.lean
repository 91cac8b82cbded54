theorem dX4_take_13 : decode cX4_take 13 = .ok (.iload_n 2, 1) := by decide +kernel
theorem dX4_take_14 : decode cX4_take 14 = .ok (.aload_n 0, 1) := by decide +kernel
theorem dX4_take_15 : decode cX4_take 15 = .ok (.getfield 25, 3) := by decide +kernel
theorem dX4_take_18 : decode cX4_take 18 = .ok (.if_icmp .ge 17, 3) := by decide +kernel
theorem dX4_take_21 : decode cX4_take 21 = .ok (.aload_n 0, 1) := by decide +kernel
theorem dX4_take_22 : decode cX4_take 22 = .ok (.iload_n 2, 1) := by decide +kernel
theorem dX4_take_23 : decode cX4_take 23 = .ok (.iload_n 2, 1) := by decide +kernel
theorem dX4_take_24 : decode cX4_take 24 = .ok (.iconst 1, 1) := by decide +kernel
theorem dX4_take_25 : decode cX4_take 25 = .ok (.isub, 1) := by decide +kernel
theorem dX4_take_26 : decode cX4_take 26 = .ok (.invokevirtual 33, 3) := by decide +kernel
theorem dX4_take_29 : decode cX4_take 29 = .ok (.iinc 2 1, 3) := by decide +kernel
theorem dX4_take_32 : decode cX4_take 32 = .ok (.goto (-19), 3) := by decide +kernel
theorem dX4_take_35 : decode cX4_take 35 = .ok (.aload_n 0, 1) := by decide +kernel
theorem dX4_take_36 : decode cX4_take 36 = .ok (.dup, 1) := by decide +kernel
theorem dX4_take_37 : decode cX4_take 37 = .ok (.getfield 25, 3) := by decide +kernel
theorem dX4_take_40 : decode cX4_take 40 = .ok (.iconst 1, 1) := by decide +kernel
theorem dX4_take_41 : decode cX4_take 41 = .ok (.isub, 1) := by decide +kernel
theorem dX4_take_42 : decode cX4_take 42 = .ok (.putfield 25, 3) := by decide +kernel
theorem dX4_take_45 : decode cX4_take 45 = .ok (.return_, 1) := by decide +kernel
theorem dX4_copyStop_0 : decode cX4_copyStop 0 = .ok (.aload_n 0, 1) := by decide +kernel
theorem dX4_copyStop_1 : decode cX4_copyStop 1 = .ok (.getfield 11, 3) := by decide +kernel
theorem dX4_copyStop_4 : decode cX4_copyStop 4 = .ok (.iload_n 2, 1) := by decide +kernel
theorem dX4_copyStop_5 : decode cX4_copyStop 5 = .ok (.aload_n 0, 1) := by decide +kernel
theorem dX4_copyStop_6 : decode cX4_copyStop 6 = .ok (.getfield 11, 3) := by decide +kernel
theorem dX4_copyStop_9 : decode cX4_copyStop 9 = .ok (.iload_n 1, 1) := by decide +kernel
theorem dX4_copyStop_10 : decode cX4_copyStop 10 = .ok (.iaload, 1) := by decide +kernel
theorem dX4_copyStop_11 : decode cX4_copyStop 11 = .ok (.iastore, 1) := by decide +kernel
theorem dX4_copyStop_12 : decode cX4_copyStop 12 = .ok (.aload_n 0, 1) := by decide +kernel
theorem dX4_copyStop_13 : decode cX4_copyStop 13 = .ok (.getfield 17, 3) := by decide +kernel
theorem dX4_copyStop_16 : decode cX4_copyStop 16 = .ok (.iload_n 2, 1) := by decide +kernel
theorem dX4_copyStop_17 : decode cX4_copyStop 17 = .ok (.aload_n 0, 1) := by decide +kernel
theorem dX4_copyStop_18 : decode cX4_copyStop 18 = .ok (.getfield 17, 3) := by decide +kernel
theorem dX4_copyStop_21 : decode cX4_copyStop 21 = .ok (.iload_n 1, 1) := by decide +kernel
theorem dX4_copyStop_22 : decode cX4_copyStop 22 = .ok (.aaload, 1) := by decide +kernel
theorem dX4_copyStop_23 : decode cX4_copyStop 23 = .ok (.aastore, 1) := by decide +kernel
theorem dX4_copyStop_24 : decode cX4_copyStop 24 = .ok (.aload_n 0, 1) := by decide +kernel
theorem dX4_copyStop_25 : decode cX4_copyStop 25 = .ok (.getfield 21, 3) := by decide +kernel
theorem dX4_copyStop_28 : decode cX4_copyStop 28 = .ok (.iload_n 2, 1) := by decide +kernel
theorem dX4_copyStop_29 : decode cX4_copyStop 29 = .ok (.aload_n 0, 1) := by decide +kernel
theorem dX4_copyStop_30 : decode cX4_copyStop 30 = .ok (.getfield 21, 3) := by decide +kernel
theorem dX4_copyStop_33 : decode cX4_copyStop 33 = .ok (.iload_n 1, 1) := by decide +kernel
theorem dX4_copyStop_34 : decode cX4_copyStop 34 = .ok (.baload, 1) := by decide +kernel
theorem dX4_copyStop_35 : decode cX4_copyStop 35 = .ok (.bastore, 1) := by decide +kernel
theorem dX4_copyStop_36 : decode cX4_copyStop 36 = .ok (.return_, 1) := by decide +kernel
set_option maxRecDepth 20000 in
theorem ggX4_copyFrom_X4_put : GoodIn wsX4_copyFrom wsX4_put := goodIn_r _ [9, 1, 2, 3, 4, 10, 11, 12, 8, 13, 14, 15, 16, 17] (by decide +kernel) (by decide +kernel)
set_option maxRecDepth 20000 in
theorem gX4_copyFrom_X4_put : GoodIn wsX4_copyFrom (wsV RX4 37 RX4 yX4_put wsX4_put) := goodIn_app (goodIn_of _ (by decide +kernel)) ggX4_copyFrom_X4_put
theorem dX4_copyFrom_0 : decode cX4_copyFrom 0 = .ok (.aload_n 0, 1) := by decide +kernel
theorem dX4_copyFrom_1 : decode cX4_copyFrom 1 = .ok (.iconst 0, 1) := by decide +kernel
theorem dX4_copyFrom_2 : decode cX4_copyFrom 2 = .ok (.putfield 25, 3) := by decide +kernel
theorem dX4_copyFrom_5 : decode cX4_copyFrom 5 = .ok (.iconst 0, 1) := by decide +kernel
theorem dX4_copyFrom_6 : decode cX4_copyFrom 6 = .ok (.istore_n 2, 1) := by decide +kernel
theorem dX4_copyFrom_7 : decode cX4_copyFrom 7 = .ok (.iload_n 2, 1) := by decide +kernel
theorem dX4_copyFrom_8 : decode cX4_copyFrom 8 = .ok (.aload_n 1, 1) := by decide +kernel
theorem dX4_copyFrom_9 : decode cX4_copyFrom 9 = .ok (.getfield 25, 3) := by decide +kernel
theorem dX4_copyFrom_12 : decode cX4_copyFrom 12 = .ok (.if_icmp .ge 32, 3) := by decide +kernel
theorem dX4_copyFrom_15 : decode cX4_copyFrom 15 = .ok (.aload_n 0, 1) := by decide +kernel
theorem dX4_copyFrom_16 : decode cX4_copyFrom 16 = .ok (.iload_n 2, 1) := by decide +kernel
theorem dX4_copyFrom_17 : decode cX4_copyFrom 17 = .ok (.aload_n 1, 1) := by decide +kernel
theorem dX4_copyFrom_18 : decode cX4_copyFrom 18 = .ok (.getfield 11, 3) := by decide +kernel
theorem dX4_copyFrom_21 : decode cX4_copyFrom 21 = .ok (.iload_n 2, 1) := by decide +kernel
theorem dX4_copyFrom_22 : decode cX4_copyFrom 22 = .ok (.iaload, 1) := by decide +kernel
theorem dX4_copyFrom_23 : decode cX4_copyFrom 23 = .ok (.aload_n 1, 1) := by decide +kernel
theorem dX4_copyFrom_24 : decode cX4_copyFrom 24 = .ok (.getfield 17, 3) := by decide +kernel
theorem dX4_copyFrom_27 : decode cX4_copyFrom 27 = .ok (.iload_n 2, 1) := by decide +kernel
theorem dX4_copyFrom_28 : decode cX4_copyFrom 28 = .ok (.aaload, 1) := by decide +kernel
theorem dX4_copyFrom_29 : decode cX4_copyFrom 29 = .ok (.aload_n 1, 1) := by decide +kernel
theorem dX4_copyFrom_30 : decode cX4_copyFrom 30 = .ok (.getfield 21, 3) := by decide +kernel
theorem dX4_copyFrom_33 : decode cX4_copyFrom 33 = .ok (.iload_n 2, 1) := by decide +kernel
theorem dX4_copyFrom_34 : decode cX4_copyFrom 34 = .ok (.baload, 1) := by decide +kernel
theorem dX4_copyFrom_35 : decode cX4_copyFrom 35 = .ok (.invokevirtual 37, 3) := by decide +kernel
theorem dX4_copyFrom_38 : decode cX4_copyFrom 38 = .ok (.iinc 2 1, 3) := by decide +kernel
theorem dX4_copyFrom_41 : decode cX4_copyFrom 41 = .ok (.goto (-34), 3) := by decide +kernel
theorem dX4_copyFrom_44 : decode cX4_copyFrom 44 = .ok (.return_, 1) := by decide +kernel
set_option maxRecDepth 20000 in
theorem ggX4_dropRider_X4_take : GoodIn wsX4_dropRider wsX4_take := goodIn_r _ [8, 1, 9, 10, 11, 7, 12, 13, 14, 15, 16, 17, 2, 3, 18, 19, 20, 21] (by decide +kernel) (by decide +kernel)
set_option maxRecDepth 20000 in
theorem gX4_dropRider_X4_take : GoodIn wsX4_dropRider (wsV RX4 41 RX4 yX4_take wsX4_take) := goodIn_app (goodIn_of _ (by decide +kernel)) ggX4_dropRider_X4_take
theorem dX4_dropRider_0 : decode cX4_dropRider 0 = .ok (.aload_n 0, 1) := by decide +kernel
theorem dX4_dropRider_1 : decode cX4_dropRider 1 = .ok (.getfield 25, 3) := by decide +kernel
theorem dX4_dropRider_4 : decode cX4_dropRider 4 = .ok (.iconst 1, 1) := by decide +kernel
theorem dX4_dropRider_5 : decode cX4_dropRider 5 = .ok (.isub, 1) := by decide +kernel
theorem dX4_dropRider_6 : decode cX4_dropRider 6 = .ok (.istore_n 2, 1) := by decide +kernel
theorem dX4_dropRider_7 : decode cX4_dropRider 7 = .ok (.iload_n 2, 1) := by decide +kernel
theorem dX4_dropRider_8 : decode cX4_dropRider 8 = .ok (.ifCond .lt 53, 3) := by decide +kernel
theorem dX4_dropRider_11 : decode cX4_dropRider 11 = .ok (.aload_n 0, 1) := by decide +kernel
theorem dX4_dropRider_12 : decode cX4_dropRider 12 = .ok (.getfield 17, 3) := by decide +kernel
theorem dX4_dropRider_15 : decode cX4_dropRider 15 = .ok (.iload_n 2, 1) := by decide +kernel
theorem dX4_dropRider_16 : decode cX4_dropRider 16 = .ok (.aaload, 1) := by decide +kernel
theorem dX4_dropRider_17 : decode cX4_dropRider 17 = .ok (.aload_n 1, 1) := by decide +kernel
theorem dX4_dropRider_18 : decode cX4_dropRider 18 = .ok (.if_acmp .ne 20, 3) := by decide +kernel
theorem dX4_dropRider_21 : decode cX4_dropRider 21 = .ok (.aload_n 0, 1) := by decide +kernel
theorem dX4_dropRider_22 : decode cX4_dropRider 22 = .ok (.getfield 21, 3) := by decide +kernel
theorem dX4_dropRider_25 : decode cX4_dropRider 25 = .ok (.iload_n 2, 1) := by decide +kernel
theorem dX4_dropRider_26 : decode cX4_dropRider 26 = .ok (.baload, 1) := by decide +kernel
theorem dX4_dropRider_27 : decode cX4_dropRider 27 = .ok (.ifCond .eq 11, 3) := by decide +kernel
theorem dX4_dropRider_30 : decode cX4_dropRider 30 = .ok (.aload_n 0, 1) := by decide +kernel
theorem dX4_dropRider_31 : decode cX4_dropRider 31 = .ok (.iload_n 2, 1) := by decide +kernel
theorem dX4_dropRider_32 : decode cX4_dropRider 32 = .ok (.invokevirtual 41, 3) := by decide +kernel
theorem dX4_dropRider_35 : decode cX4_dropRider 35 = .ok (.goto 20, 3) := by decide +kernel
theorem dX4_dropRider_38 : decode cX4_dropRider 38 = .ok (.aload_n 0, 1) := by decide +kernel
theorem dX4_dropRider_39 : decode cX4_dropRider 39 = .ok (.getfield 17, 3) := by decide +kernel
theorem dX4_dropRider_42 : decode cX4_dropRider 42 = .ok (.iload_n 2, 1) := by decide +kernel
theorem dX4_dropRider_43 : decode cX4_dropRider 43 = .ok (.aaload, 1) := by decide +kernel
theorem dX4_dropRider_44 : decode cX4_dropRider 44 = .ok (.aload_n 1, 1) := by decide +kernel
theorem dX4_dropRider_45 : decode cX4_dropRider 45 = .ok (.if_acmp .ne 10, 3) := by decide +kernel
theorem dX4_dropRider_48 : decode cX4_dropRider 48 = .ok (.aload_n 0, 1) := by decide +kernel
theorem dX4_dropRider_49 : decode cX4_dropRider 49 = .ok (.getfield 17, 3) := by decide +kernel
theorem dX4_dropRider_52 : decode cX4_dropRider 52 = .ok (.iload_n 2, 1) := by decide +kernel
theorem dX4_dropRider_53 : decode cX4_dropRider 53 = .ok (.aconst_null, 1) := by decide +kernel
theorem dX4_dropRider_54 : decode cX4_dropRider 54 = .ok (.aastore, 1) := by decide +kernel
theorem dX4_dropRider_55 : decode cX4_dropRider 55 = .ok (.iinc 2 (-1), 3) := by decide +kernel
theorem dX4_dropRider_58 : decode cX4_dropRider 58 = .ok (.goto (-51), 3) := by decide +kernel
theorem dX4_dropRider_61 : decode cX4_dropRider 61 = .ok (.return_, 1) := by decide +kernel
theorem dX4_riderCount_0 : decode cX4_riderCount 0 = .ok (.iconst 0, 1) := by decide +kernel
theorem dX4_riderCount_1 : decode cX4_riderCount 1 = .ok (.istore_n 1, 1) := by decide +kernel
theorem dX4_riderCount_2 : decode cX4_riderCount 2 = .ok (.iconst 0, 1) := by decide +kernel
theorem dX4_riderCount_3 : decode cX4_riderCount 3 = .ok (.istore_n 2, 1) := by decide +kernel
theorem dX4_riderCount_4 : decode cX4_riderCount 4 = .ok (.iload_n 2, 1) := by decide +kernel
theorem dX4_riderCount_5 : decode cX4_riderCount 5 = .ok (.aload_n 0, 1) := by decide +kernel
theorem dX4_riderCount_6 : decode cX4_riderCount 6 = .ok (.getfield 25, 3) := by decide +kernel
theorem dX4_riderCount_9 : decode cX4_riderCount 9 = .ok (.if_icmp .ge 21, 3) := by decide +kernel
theorem dX4_riderCount_12 : decode cX4_riderCount 12 = .ok (.aload_n 0, 1) := by decide +kernel
theorem dX4_riderCount_13 : decode cX4_riderCount 13 = .ok (.getfield 21, 3) := by decide +kernel
theorem dX4_riderCount_16 : decode cX4_riderCount 16 = .ok (.iload_n 2, 1) := by decide +kernel
theorem dX4_riderCount_17 : decode cX4_riderCount 17 = .ok (.baload, 1) := by decide +kernel
theorem dX4_riderCount_18 : decode cX4_riderCount 18 = .ok (.ifCond .eq 6, 3) := by decide +kernel
theorem dX4_riderCount_21 : decode cX4_riderCount 21 = .ok (.iinc 1 1, 3) := by decide +kernel
theorem dX4_riderCount_24 : decode cX4_riderCount 24 = .ok (.iinc 2 1, 3) := by decide +kernel
theorem dX4_riderCount_27 : decode cX4_riderCount 27 = .ok (.goto (-23), 3) := by decide +kernel
theorem dX4_riderCount_30 : decode cX4_riderCount 30 = .ok (.iload_n 1, 1) := by decide +kernel
theorem dX4_riderCount_31 : decode cX4_riderCount 31 = .ok (.ireturn, 1) := by decide +kernel
set_option maxRecDepth 20000 in
theorem ggX4_canTakeOneMore_X4_riderCount : GoodIn wsX4_canTakeOneMore wsX4_riderCount := goodIn_r _ [7, 1, 8, 9, 10, 11, 12] (by decide +kernel) (by decide +kernel)
set_option maxRecDepth 20000 in
theorem gX4_canTakeOneMore_X4_riderCount : GoodIn wsX4_canTakeOneMore (wsV RX4 49 RX4 yX4_riderCount wsX4_riderCount) := goodIn_app (goodIn_of _ (by decide +kernel)) ggX4_canTakeOneMore_X4_riderCount
theorem dX4_canTakeOneMore_0 : decode cX4_canTakeOneMore 0 = .ok (.iconst 0, 1) := by decide +kernel
theorem dX4_canTakeOneMore_1 : decode cX4_canTakeOneMore 1 = .ok (.istore_n 1, 1) := by decide +kernel
theorem dX4_canTakeOneMore_2 : decode cX4_canTakeOneMore 2 = .ok (.iload_n 1, 1) := by decide +kernel
theorem dX4_canTakeOneMore_3 : decode cX4_canTakeOneMore 3 = .ok (.aload_n 0, 1) := by decide +kernel
theorem dX4_canTakeOneMore_4 : decode cX4_canTakeOneMore 4 = .ok (.getfield 25, 3) := by decide +kernel
theorem dX4_canTakeOneMore_7 : decode cX4_canTakeOneMore 7 = .ok (.if_icmp .ge 32, 3) := by decide +kernel
theorem dX4_canTakeOneMore_10 : decode cX4_canTakeOneMore 10 = .ok (.aload_n 0, 1) := by decide +kernel
theorem dX4_canTakeOneMore_11 : decode cX4_canTakeOneMore 11 = .ok (.getfield 17, 3) := by decide +kernel
theorem dX4_canTakeOneMore_14 : decode cX4_canTakeOneMore 14 = .ok (.iload_n 1, 1) := by decide +kernel
theorem dX4_canTakeOneMore_15 : decode cX4_canTakeOneMore 15 = .ok (.aaload, 1) := by decide +kernel
theorem dX4_canTakeOneMore_16 : decode cX4_canTakeOneMore 16 = .ok (.ifnull 15, 3) := by decide +kernel
theorem dX4_canTakeOneMore_19 : decode cX4_canTakeOneMore 19 = .ok (.aload_n 0, 1) := by decide +kernel
theorem dX4_canTakeOneMore_20 : decode cX4_canTakeOneMore 20 = .ok (.getfield 17, 3) := by decide +kernel
theorem dX4_canTakeOneMore_23 : decode cX4_canTakeOneMore 23 = .ok (.iload_n 1, 1) := by decide +kernel
theorem dX4_canTakeOneMore_24 : decode cX4_canTakeOneMore 24 = .ok (.aaload, 1) := by decide +kernel
theorem dX4_canTakeOneMore_25 : decode cX4_canTakeOneMore 25 = .ok (.getfield 45, 3) := by decide +kernel
theorem dX4_canTakeOneMore_28 : decode cX4_canTakeOneMore 28 = .ok (.ifCond .ne 5, 3) := by decide +kernel
theorem dX4_canTakeOneMore_31 : decode cX4_canTakeOneMore 31 = .ok (.iconst 0, 1) := by decide +kernel
theorem dX4_canTakeOneMore_32 : decode cX4_canTakeOneMore 32 = .ok (.ireturn, 1) := by decide +kernel
theorem dX4_canTakeOneMore_33 : decode cX4_canTakeOneMore 33 = .ok (.iinc 1 1, 3) := by decide +kernel
theorem dX4_canTakeOneMore_36 : decode cX4_canTakeOneMore 36 = .ok (.goto (-34), 3) := by decide +kernel
theorem dX4_canTakeOneMore_39 : decode cX4_canTakeOneMore 39 = .ok (.aload_n 0, 1) := by decide +kernel
theorem dX4_canTakeOneMore_40 : decode cX4_canTakeOneMore 40 = .ok (.invokevirtual 49, 3) := by decide +kernel
theorem dX4_canTakeOneMore_43 : decode cX4_canTakeOneMore 43 = .ok (.istore_n 1, 1) := by decide +kernel
theorem dX4_canTakeOneMore_44 : decode cX4_canTakeOneMore 44 = .ok (.iload_n 1, 1) := by decide +kernel
theorem dX4_canTakeOneMore_45 : decode cX4_canTakeOneMore 45 = .ok (.iconst 1, 1) := by decide +kernel
theorem dX4_canTakeOneMore_46 : decode cX4_canTakeOneMore 46 = .ok (.if_icmp .lt 12, 3) := by decide +kernel
theorem dX4_canTakeOneMore_49 : decode cX4_canTakeOneMore 49 = .ok (.iload_n 1, 1) := by decide +kernel
theorem dX4_canTakeOneMore_50 : decode cX4_canTakeOneMore 50 = .ok (.iconst 3, 1) := by decide +kernel
theorem dX4_canTakeOneMore_51 : decode cX4_canTakeOneMore 51 = .ok (.if_icmp .gt 7, 3) := by decide +kernel
theorem dX4_canTakeOneMore_54 : decode cX4_canTakeOneMore 54 = .ok (.iconst 1, 1) := by decide +kernel
theorem dX4_canTakeOneMore_55 : decode cX4_canTakeOneMore 55 = .ok (.goto 4, 3) := by decide +kernel
theorem dX4_canTakeOneMore_58 : decode cX4_canTakeOneMore 58 = .ok (.iconst 0, 1) := by decide +kernel
theorem dX4_canTakeOneMore_59 : decode cX4_canTakeOneMore 59 = .ok (.ireturn, 1) := by decide +kernel
set_option maxRecDepth 20000 in
theorem ggX5_init_X4_init : GoodIn wsX5_init wsX4_init := goodIn_r _ [11, 12, 2, 3, 13, 14, 15, 16, 17, 18, 28, 29, 30, 31] (by decide +kernel) (by decide +kernel)
set_option maxRecDepth 20000 in
theorem gX5_init_X4_init : GoodIn wsX5_init (wsX4_init) := ggX5_init_X4_init
theorem dX5_init_0 : decode cX5_init 0 = .ok (.aload_n 0, 1) := by decide +kernel
theorem dX5_init_1 : decode cX5_init 1 = .ok (.invokespecial 3, 3) := by decide +kernel
theorem dX5_init_4 : decode cX5_init 4 = .ok (.aload_n 0, 1) := by decide +kernel
theorem dX5_init_5 : decode cX5_init 5 = .ok (.aload_n 1, 1) := by decide +kernel
theorem dX5_init_6 : decode cX5_init 6 = .ok (.putfield 9, 3) := by decide +kernel
theorem dX5_init_9 : decode cX5_init 9 = .ok (.aload_n 0, 1) := by decide +kernel
theorem dX5_init_10 : decode cX5_init 10 = .ok (.new 15, 3) := by decide +kernel
theorem dX5_init_13 : decode cX5_init 13 = .ok (.dup, 1) := by decide +kernel
theorem dX5_init_14 : decode cX5_init 14 = .ok (.invokespecial 17, 3) := by decide +kernel
theorem dX5_init_17 : decode cX5_init 17 = .ok (.putfield 18, 3) := by decide +kernel
theorem dX5_init_20 : decode cX5_init 20 = .ok (.return_, 1) := by decide +kernel
theorem dX5_begin_0 : decode cX5_begin 0 = .ok (.aload_n 0, 1) := by decide +kernel
theorem dX5_begin_1 : decode cX5_begin 1 = .ok (.aload_n 1, 1) := by decide +kernel
theorem dX5_begin_2 : decode cX5_begin 2 = .ok (.putfield 22, 3) := by decide +kernel
theorem dX5_begin_5 : decode cX5_begin 5 = .ok (.aload_n 0, 1) := by decide +kernel
theorem dX5_begin_6 : decode cX5_begin 6 = .ok (.aconst_null, 1) := by decide +kernel
theorem dX5_begin_7 : decode cX5_begin 7 = .ok (.putfield 26, 3) := by decide +kernel
theorem dX5_begin_10 : decode cX5_begin 10 = .ok (.return_, 1) := by decide +kernel
set_option maxRecDepth 20000 in
theorem ggX5_tryDriver_X5_lastAsItIs : GoodIn wsX5_tryDriver wsX5_lastAsItIs := goodIn_r _ [11, 12, 13, 14, 15, 16, 17, 18, 19, 20, 21, 22, 23, 24, 25, 26, 27, 28, 29, 30, 31, 32, 33, 73, 74, 75, 76, 77, 78, 79, 80, 81, 82, 83, 84, 85, 86, 87, 88, 89, 90, 91, 92, 93, 94, 95, 96, 97, 98, 99, 100, 101, 102, 103] (by decide +kernel) (by decide +kernel)
set_option maxRecDepth 20000 in
theorem gX5_tryDriver_X5_lastAsItIs : GoodIn wsX5_tryDriver (wsV RX5 30 RX5 yX5_lastAsItIs wsX5_lastAsItIs) := goodIn_app (goodIn_of _ (by decide +kernel)) ggX5_tryDriver_X5_lastAsItIs
set_option maxRecDepth 20000 in
theorem ggX5_tryDriver_X5_lastWith : GoodIn wsX5_tryDriver wsX5_lastWith := goodIn_r _ [37, 38, 39, 12, 5, 40, 41, 42, 16, 43, 23, 18, 44, 45, 46, 47, 48, 49, 50, 51, 52, 53, 54, 13, 14, 15, 17, 19, 20, 21, 22, 24, 25, 26, 27, 28, 29, 30, 31, 32, 33, 55, 56, 57, 10, 58, 59, 60, 61, 62, 63, 64, 65, 66, 67, 68, 69, 70, 71, 72, 90, 91, 92, 93, 94, 95, 96, 97, 98, 73, 74, 75, 76, 77, 78, 79, 80, 81, 82, 83, 84, 85, 104, 105, 106, 107, 108, 109, 110, 111, 112, 113, 114, 115, 86, 87, 88, 89, 99, 100, 101, 102, 103] (by decide +kernel) (by decide +kernel)
set_option maxRecDepth 20000 in
theorem gX5_tryDriver_X5_lastWith : GoodIn wsX5_tryDriver (wsV RX5 43 RX5 yX5_lastWith wsX5_lastWith) := goodIn_app (goodIn_of _ (by decide +kernel)) ggX5_tryDriver_X5_lastWith
theorem dX5_tryDriver_0 : decode cX5_tryDriver 0 = .ok (.aload_n 0, 1) := by decide +kernel
theorem dX5_tryDriver_1 : decode cX5_tryDriver 1 = .ok (.aload_n 1, 1) := by decide +kernel
theorem dX5_tryDriver_2 : decode cX5_tryDriver 2 = .ok (.invokevirtual 30, 3) := by decide +kernel
theorem dX5_tryDriver_5 : decode cX5_tryDriver 5 = .ok (.istore_n 2, 1) := by decide +kernel
theorem dX5_tryDriver_6 : decode cX5_tryDriver 6 = .ok (.iconst 1, 1) := by decide +kernel
theorem dX5_tryDriver_7 : decode cX5_tryDriver 7 = .ok (.istore_n 3, 1) := by decide +kernel
theorem dX5_tryDriver_8 : decode cX5_tryDriver 8 = .ok (.iload_n 3, 1) := by decide +kernel
theorem dX5_tryDriver_9 : decode cX5_tryDriver 9 = .ok (.aload_n 1, 1) := by decide +kernel
theorem dX5_tryDriver_10 : decode cX5_tryDriver 10 = .ok (.getfield 34, 3) := by decide +kernel
theorem dX5_tryDriver_13 : decode cX5_tryDriver 13 = .ok (.getfield 39, 3) := by decide +kernel
theorem dX5_tryDriver_16 : decode cX5_tryDriver 16 = .ok (.if_icmp .gt 100, 3) := by decide +kernel
theorem dX5_tryDriver_19 : decode cX5_tryDriver 19 = .ok (.iload_n 3, 1) := by decide +kernel
theorem dX5_tryDriver_20 : decode cX5_tryDriver 20 = .ok (.iconst 1, 1) := by decide +kernel
theorem dX5_tryDriver_21 : decode cX5_tryDriver 21 = .ok (.iadd, 1) := by decide +kernel
theorem dX5_tryDriver_22 : decode cX5_tryDriver 22 = .ok (.istore 4, 2) := by decide +kernel
theorem dX5_tryDriver_24 : decode cX5_tryDriver 24 = .ok (.iload 4, 2) := by decide +kernel
theorem dX5_tryDriver_26 : decode cX5_tryDriver 26 = .ok (.aload_n 1, 1) := by decide +kernel
theorem dX5_tryDriver_27 : decode cX5_tryDriver 27 = .ok (.getfield 34, 3) := by decide +kernel
theorem dX5_tryDriver_30 : decode cX5_tryDriver 30 = .ok (.getfield 39, 3) := by decide +kernel
theorem dX5_tryDriver_33 : decode cX5_tryDriver 33 = .ok (.iconst 1, 1) := by decide +kernel
theorem dX5_tryDriver_34 : decode cX5_tryDriver 34 = .ok (.iadd, 1) := by decide +kernel
theorem dX5_tryDriver_35 : decode cX5_tryDriver 35 = .ok (.if_icmp .gt 75, 3) := by decide +kernel
theorem dX5_tryDriver_38 : decode cX5_tryDriver 38 = .ok (.aload_n 0, 1) := by decide +kernel
theorem dX5_tryDriver_39 : decode cX5_tryDriver 39 = .ok (.aload_n 1, 1) := by decide +kernel
theorem dX5_tryDriver_40 : decode cX5_tryDriver 40 = .ok (.iload_n 3, 1) := by decide +kernel
theorem dX5_tryDriver_41 : decode cX5_tryDriver 41 = .ok (.iload 4, 2) := by decide +kernel
theorem dX5_tryDriver_43 : decode cX5_tryDriver 43 = .ok (.invokevirtual 43, 3) := by decide +kernel
theorem dX5_tryDriver_46 : decode cX5_tryDriver 46 = .ok (.istore 5, 2) := by decide +kernel
theorem dX5_tryDriver_48 : decode cX5_tryDriver 48 = .ok (.iload 5, 2) := by decide +kernel
theorem dX5_tryDriver_50 : decode cX5_tryDriver 50 = .ok (.iconst (-1), 1) := by decide +kernel
theorem dX5_tryDriver_51 : decode cX5_tryDriver 51 = .ok (.if_icmp .eq 53, 3) := by decide +kernel
theorem dX5_tryDriver_54 : decode cX5_tryDriver 54 = .ok (.aload_n 0, 1) := by decide +kernel
theorem dX5_tryDriver_55 : decode cX5_tryDriver 55 = .ok (.getfield 26, 3) := by decide +kernel
theorem dX5_tryDriver_58 : decode cX5_tryDriver 58 = .ok (.ifnull 14, 3) := by decide +kernel
theorem dX5_tryDriver_61 : decode cX5_tryDriver 61 = .ok (.iload 5, 2) := by decide +kernel
theorem dX5_tryDriver_63 : decode cX5_tryDriver 63 = .ok (.iload_n 2, 1) := by decide +kernel
theorem dX5_tryDriver_64 : decode cX5_tryDriver 64 = .ok (.isub, 1) := by decide +kernel
theorem dX5_tryDriver_65 : decode cX5_tryDriver 65 = .ok (.aload_n 0, 1) := by decide +kernel
theorem dX5_tryDriver_66 : decode cX5_tryDriver 66 = .ok (.getfield 47, 3) := by decide +kernel
theorem dX5_tryDriver_69 : decode cX5_tryDriver 69 = .ok (.if_icmp .ge 35, 3) := by decide +kernel
theorem dX5_tryDriver_72 : decode cX5_tryDriver 72 = .ok (.aload_n 0, 1) := by decide +kernel
theorem dX5_tryDriver_73 : decode cX5_tryDriver 73 = .ok (.aload_n 1, 1) := by decide +kernel
theorem dX5_tryDriver_74 : decode cX5_tryDriver 74 = .ok (.putfield 26, 3) := by decide +kernel
theorem dX5_tryDriver_77 : decode cX5_tryDriver 77 = .ok (.aload_n 0, 1) := by decide +kernel
theorem dX5_tryDriver_78 : decode cX5_tryDriver 78 = .ok (.iload_n 3, 1) := by decide +kernel
theorem dX5_tryDriver_79 : decode cX5_tryDriver 79 = .ok (.putfield 50, 3) := by decide +kernel
theorem dX5_tryDriver_82 : decode cX5_tryDriver 82 = .ok (.aload_n 0, 1) := by decide +kernel
theorem dX5_tryDriver_83 : decode cX5_tryDriver 83 = .ok (.iload 4, 2) := by decide +kernel
theorem dX5_tryDriver_85 : decode cX5_tryDriver 85 = .ok (.putfield 53, 3) := by decide +kernel
theorem dX5_tryDriver_88 : decode cX5_tryDriver 88 = .ok (.aload_n 0, 1) := by decide +kernel
theorem dX5_tryDriver_89 : decode cX5_tryDriver 89 = .ok (.aload_n 0, 1) := by decide +kernel
theorem dX5_tryDriver_90 : decode cX5_tryDriver 90 = .ok (.getfield 56, 3) := by decide +kernel
theorem dX5_tryDriver_93 : decode cX5_tryDriver 93 = .ok (.putfield 59, 3) := by decide +kernel
theorem dX5_tryDriver_96 : decode cX5_tryDriver 96 = .ok (.aload_n 0, 1) := by decide +kernel
theorem dX5_tryDriver_97 : decode cX5_tryDriver 97 = .ok (.iload 5, 2) := by decide +kernel
theorem dX5_tryDriver_99 : decode cX5_tryDriver 99 = .ok (.iload_n 2, 1) := by decide +kernel
theorem dX5_tryDriver_100 : decode cX5_tryDriver 100 = .ok (.isub, 1) := by decide +kernel
theorem dX5_tryDriver_101 : decode cX5_tryDriver 101 = .ok (.putfield 47, 3) := by decide +kernel
theorem dX5_tryDriver_104 : decode cX5_tryDriver 104 = .ok (.iinc 4 1, 3) := by decide +kernel
theorem dX5_tryDriver_107 : decode cX5_tryDriver 107 = .ok (.goto (-83), 3) := by decide +kernel
theorem dX5_tryDriver_110 : decode cX5_tryDriver 110 = .ok (.iinc 3 1, 3) := by decide +kernel
theorem dX5_tryDriver_113 : decode cX5_tryDriver 113 = .ok (.goto (-105), 3) := by decide +kernel
theorem dX5_tryDriver_116 : decode cX5_tryDriver 116 = .ok (.return_, 1) := by decide +kernel
set_option maxRecDepth 20000 in
theorem ggX5_lastAsItIs_X4_placeAt : GoodIn wsX5_lastAsItIs wsX4_placeAt := goodIn_r _ [6, 7, 8, 9, 10, 5, 11, 12, 36, 37, 38, 39] (by decide +kernel) (by decide +kernel)
set_option maxRecDepth 20000 in
theorem gX5_lastAsItIs_X4_placeAt : GoodIn wsX5_lastAsItIs (wsV RX5 65 RX4 yX4_placeAt wsX4_placeAt) := goodIn_app (goodIn_of _ (by decide +kernel)) ggX5_lastAsItIs_X4_placeAt
set_option maxRecDepth 20000 in
theorem ggX5_lastAsItIs_X0_minutesBetween : GoodIn wsX5_lastAsItIs wsX0_minutesBetween := goodIn_r _ [17, 18, 19, 20, 21, 16, 22, 49, 50, 51, 52, 53] (by decide +kernel) (by decide +kernel)
set_option maxRecDepth 20000 in
theorem gX5_lastAsItIs_X0_minutesBetween : GoodIn wsX5_lastAsItIs (wsV RX5 69 RX0 yX0_minutesBetween wsX0_minutesBetween) := goodIn_app (goodIn_of _ (by decide +kernel)) ggX5_lastAsItIs_X0_minutesBetween
theorem dX5_lastAsItIs_0 : decode cX5_lastAsItIs 0 = .ok (.aload_n 1, 1) := by decide +kernel
theorem dX5_lastAsItIs_1 : decode cX5_lastAsItIs 1 = .ok (.getfield 62, 3) := by decide +kernel
theorem dX5_lastAsItIs_4 : decode cX5_lastAsItIs 4 = .ok (.istore_n 2, 1) := by decide +kernel
theorem dX5_lastAsItIs_5 : decode cX5_lastAsItIs 5 = .ok (.iconst 1, 1) := by decide +kernel
theorem dX5_lastAsItIs_6 : decode cX5_lastAsItIs 6 = .ok (.istore_n 3, 1) := by decide +kernel
theorem dX5_lastAsItIs_7 : decode cX5_lastAsItIs 7 = .ok (.iload_n 3, 1) := by decide +kernel
theorem dX5_lastAsItIs_8 : decode cX5_lastAsItIs 8 = .ok (.aload_n 1, 1) := by decide +kernel
theorem dX5_lastAsItIs_9 : decode cX5_lastAsItIs 9 = .ok (.getfield 34, 3) := by decide +kernel
theorem dX5_lastAsItIs_12 : decode cX5_lastAsItIs 12 = .ok (.getfield 39, 3) := by decide +kernel
theorem dX5_lastAsItIs_15 : decode cX5_lastAsItIs 15 = .ok (.if_icmp .ge 37, 3) := by decide +kernel
theorem dX5_lastAsItIs_18 : decode cX5_lastAsItIs 18 = .ok (.iload_n 2, 1) := by decide +kernel
theorem dX5_lastAsItIs_19 : decode cX5_lastAsItIs 19 = .ok (.aload_n 0, 1) := by decide +kernel
theorem dX5_lastAsItIs_20 : decode cX5_lastAsItIs 20 = .ok (.getfield 9, 3) := by decide +kernel
theorem dX5_lastAsItIs_23 : decode cX5_lastAsItIs 23 = .ok (.aload_n 1, 1) := by decide +kernel
theorem dX5_lastAsItIs_24 : decode cX5_lastAsItIs 24 = .ok (.getfield 34, 3) := by decide +kernel
theorem dX5_lastAsItIs_27 : decode cX5_lastAsItIs 27 = .ok (.iload_n 3, 1) := by decide +kernel
theorem dX5_lastAsItIs_28 : decode cX5_lastAsItIs 28 = .ok (.iconst 1, 1) := by decide +kernel
theorem dX5_lastAsItIs_29 : decode cX5_lastAsItIs 29 = .ok (.isub, 1) := by decide +kernel
theorem dX5_lastAsItIs_30 : decode cX5_lastAsItIs 30 = .ok (.invokevirtual 65, 3) := by decide +kernel
theorem dX5_lastAsItIs_33 : decode cX5_lastAsItIs 33 = .ok (.aload_n 1, 1) := by decide +kernel
theorem dX5_lastAsItIs_34 : decode cX5_lastAsItIs 34 = .ok (.getfield 34, 3) := by decide +kernel
theorem dX5_lastAsItIs_37 : decode cX5_lastAsItIs 37 = .ok (.iload_n 3, 1) := by decide +kernel
theorem dX5_lastAsItIs_38 : decode cX5_lastAsItIs 38 = .ok (.invokevirtual 65, 3) := by decide +kernel
theorem dX5_lastAsItIs_41 : decode cX5_lastAsItIs 41 = .ok (.invokevirtual 69, 3) := by decide +kernel
theorem dX5_lastAsItIs_44 : decode cX5_lastAsItIs 44 = .ok (.iadd, 1) := by decide +kernel
theorem dX5_lastAsItIs_45 : decode cX5_lastAsItIs 45 = .ok (.istore_n 2, 1) := by decide +kernel
theorem dX5_lastAsItIs_46 : decode cX5_lastAsItIs 46 = .ok (.iinc 3 1, 3) := by decide +kernel
theorem dX5_lastAsItIs_49 : decode cX5_lastAsItIs 49 = .ok (.goto (-42), 3) := by decide +kernel
theorem dX5_lastAsItIs_52 : decode cX5_lastAsItIs 52 = .ok (.iload_n 2, 1) := by decide +kernel
theorem dX5_lastAsItIs_53 : decode cX5_lastAsItIs 53 = .ok (.ireturn, 1) := by decide +kernel
set_option maxRecDepth 20000 in
theorem ggX5_lastWith_X4_copyFrom : GoodIn wsX5_lastWith wsX4_copyFrom := goodIn_r _ [9, 10, 11, 12, 13, 14, 15, 16, 8, 17, 18, 19, 20, 21, 94, 95, 96, 97] (by decide +kernel) (by decide +kernel)
set_option maxRecDepth 20000 in
theorem gX5_lastWith_X4_copyFrom : GoodIn wsX5_lastWith (wsV RX5 75 RX4 yX4_copyFrom wsX4_copyFrom) := goodIn_app (goodIn_of _ (by decide +kernel)) ggX5_lastWith_X4_copyFrom
set_option maxRecDepth 20000 in
theorem ggX5_lastWith_X4_put : GoodIn wsX5_lastWith wsX4_put := goodIn_r _ [17, 10, 11, 12, 13, 18, 19, 20, 8, 21, 94, 95, 96, 97] (by decide +kernel) (by decide +kernel)
set_option maxRecDepth 20000 in
theorem gX5_lastWith_X4_put : GoodIn wsX5_lastWith (wsV RX5 84 RX4 yX4_put wsX4_put) := goodIn_app (goodIn_of _ (by decide +kernel)) ggX5_lastWith_X4_put
set_option maxRecDepth 20000 in
theorem ggX5_lastWith_X4_placeAt : GoodIn wsX5_lastWith wsX4_placeAt := goodIn_r _ [26, 11, 27, 28, 29, 8, 30, 10, 94, 95, 96, 97] (by decide +kernel) (by decide +kernel)
set_option maxRecDepth 20000 in
theorem gX5_lastWith_X4_placeAt : GoodIn wsX5_lastWith (wsV RX5 65 RX4 yX4_placeAt wsX4_placeAt) := goodIn_app (goodIn_of _ (by decide +kernel)) ggX5_lastWith_X4_placeAt
set_option maxRecDepth 20000 in
theorem ggX5_lastWith_X0_minutesBetween : GoodIn wsX5_lastWith wsX0_minutesBetween := goodIn_r _ [35, 36, 37, 38, 39, 34, 40, 98, 99, 100, 101, 102] (by decide +kernel) (by decide +kernel)
set_option maxRecDepth 20000 in
theorem gX5_lastWith_X0_minutesBetween : GoodIn wsX5_lastWith (wsV RX5 69 RX0 yX0_minutesBetween wsX0_minutesBetween) := goodIn_app (goodIn_of _ (by decide +kernel)) ggX5_lastWith_X0_minutesBetween
set_option maxRecDepth 20000 in
theorem ggX5_lastWith_X5_latestAt : GoodIn wsX5_lastWith wsX5_latestAt := goodIn_r _ [45, 1, 46, 2, 3, 4, 47, 48, 49, 8, 50, 12, 27, 28, 29, 30, 10, 51, 52, 53, 54, 13, 55, 56, 57, 34, 58, 59, 32, 33, 35, 36, 37, 38, 39, 40, 60, 61, 62, 63, 64, 65, 66, 67, 68, 82, 83, 84, 85, 86, 87, 88, 89, 90, 91, 92, 93, 94, 95, 96, 97, 98, 99, 100, 101, 102] (by decide +kernel) (by decide +kernel)
set_option maxRecDepth 20000 in
theorem gX5_lastWith_X5_latestAt : GoodIn wsX5_lastWith (wsV RX5 91 RX5 yX5_latestAt wsX5_latestAt) := goodIn_app (goodIn_of _ (by decide +kernel)) ggX5_lastWith_X5_latestAt
theorem dX5_lastWith_0 : decode cX5_lastWith 0 = .ok (.aload_n 0, 1) := by decide +kernel
theorem dX5_lastWith_1 : decode cX5_lastWith 1 = .ok (.getfield 18, 3) := by decide +kernel
theorem dX5_lastWith_4 : decode cX5_lastWith 4 = .ok (.aload_n 1, 1) := by decide +kernel
theorem dX5_lastWith_5 : decode cX5_lastWith 5 = .ok (.getfield 34, 3) := by decide +kernel
theorem dX5_lastWith_8 : decode cX5_lastWith 8 = .ok (.invokevirtual 75, 3) := by decide +kernel
theorem dX5_lastWith_11 : decode cX5_lastWith 11 = .ok (.aload_n 0, 1) := by decide +kernel
theorem dX5_lastWith_12 : decode cX5_lastWith 12 = .ok (.getfield 18, 3) := by decide +kernel
theorem dX5_lastWith_15 : decode cX5_lastWith 15 = .ok (.iload_n 2, 1) := by decide +kernel
theorem dX5_lastWith_16 : decode cX5_lastWith 16 = .ok (.aload_n 0, 1) := by decide +kernel
theorem dX5_lastWith_17 : decode cX5_lastWith 17 = .ok (.getfield 22, 3) := by decide +kernel
theorem dX5_lastWith_20 : decode cX5_lastWith 20 = .ok (.getfield 79, 3) := by decide +kernel
theorem dX5_lastWith_23 : decode cX5_lastWith 23 = .ok (.aload_n 0, 1) := by decide +kernel
theorem dX5_lastWith_24 : decode cX5_lastWith 24 = .ok (.getfield 22, 3) := by decide +kernel
theorem dX5_lastWith_27 : decode cX5_lastWith 27 = .ok (.iconst 0, 1) := by decide +kernel
theorem dX5_lastWith_28 : decode cX5_lastWith 28 = .ok (.invokevirtual 84, 3) := by decide +kernel
theorem dX5_lastWith_31 : decode cX5_lastWith 31 = .ok (.aload_n 0, 1) := by decide +kernel
theorem dX5_lastWith_32 : decode cX5_lastWith 32 = .ok (.getfield 18, 3) := by decide +kernel
theorem dX5_lastWith_35 : decode cX5_lastWith 35 = .ok (.iload_n 3, 1) := by decide +kernel
theorem dX5_lastWith_36 : decode cX5_lastWith 36 = .ok (.aload_n 0, 1) := by decide +kernel
theorem dX5_lastWith_37 : decode cX5_lastWith 37 = .ok (.getfield 22, 3) := by decide +kernel
theorem dX5_lastWith_40 : decode cX5_lastWith 40 = .ok (.getfield 88, 3) := by decide +kernel
theorem dX5_lastWith_43 : decode cX5_lastWith 43 = .ok (.aload_n 0, 1) := by decide +kernel
theorem dX5_lastWith_44 : decode cX5_lastWith 44 = .ok (.getfield 22, 3) := by decide +kernel
theorem dX5_lastWith_47 : decode cX5_lastWith 47 = .ok (.iconst 1, 1) := by decide +kernel
theorem dX5_lastWith_48 : decode cX5_lastWith 48 = .ok (.invokevirtual 84, 3) := by decide +kernel
theorem dX5_lastWith_51 : decode cX5_lastWith 51 = .ok (.aload_n 1, 1) := by decide +kernel
theorem dX5_lastWith_52 : decode cX5_lastWith 52 = .ok (.getfield 62, 3) := by decide +kernel
theorem dX5_lastWith_55 : decode cX5_lastWith 55 = .ok (.istore 4, 2) := by decide +kernel
theorem dX5_lastWith_57 : decode cX5_lastWith 57 = .ok (.iconst 0, 1) := by decide +kernel
theorem dX5_lastWith_58 : decode cX5_lastWith 58 = .ok (.istore 5, 2) := by decide +kernel
theorem dX5_lastWith_60 : decode cX5_lastWith 60 = .ok (.iload 5, 2) := by decide +kernel
theorem dX5_lastWith_62 : decode cX5_lastWith 62 = .ok (.aload_n 0, 1) := by decide +kernel
theorem dX5_lastWith_63 : decode cX5_lastWith 63 = .ok (.getfield 18, 3) := by decide +kernel
theorem dX5_lastWith_66 : decode cX5_lastWith 66 = .ok (.getfield 39, 3) := by decide +kernel
theorem dX5_lastWith_69 : decode cX5_lastWith 69 = .ok (.if_icmp .ge 87, 3) := by decide +kernel
theorem dX5_lastWith_72 : decode cX5_lastWith 72 = .ok (.iload 5, 2) := by decide +kernel
theorem dX5_lastWith_74 : decode cX5_lastWith 74 = .ok (.ifCond .ne 7, 3) := by decide +kernel
theorem dX5_lastWith_77 : decode cX5_lastWith 77 = .ok (.iconst 0, 1) := by decide +kernel
theorem dX5_lastWith_78 : decode cX5_lastWith 78 = .ok (.goto 30, 3) := by decide +kernel
theorem dX5_lastWith_81 : decode cX5_lastWith 81 = .ok (.aload_n 0, 1) := by decide +kernel
theorem dX5_lastWith_82 : decode cX5_lastWith 82 = .ok (.getfield 9, 3) := by decide +kernel
theorem dX5_lastWith_85 : decode cX5_lastWith 85 = .ok (.aload_n 0, 1) := by decide +kernel
theorem dX5_lastWith_86 : decode cX5_lastWith 86 = .ok (.getfield 18, 3) := by decide +kernel
theorem dX5_lastWith_89 : decode cX5_lastWith 89 = .ok (.iload 5, 2) := by decide +kernel
theorem dX5_lastWith_91 : decode cX5_lastWith 91 = .ok (.iconst 1, 1) := by decide +kernel
theorem dX5_lastWith_92 : decode cX5_lastWith 92 = .ok (.isub, 1) := by decide +kernel
theorem dX5_lastWith_93 : decode cX5_lastWith 93 = .ok (.invokevirtual 65, 3) := by decide +kernel
theorem dX5_lastWith_96 : decode cX5_lastWith 96 = .ok (.aload_n 0, 1) := by decide +kernel
theorem dX5_lastWith_97 : decode cX5_lastWith 97 = .ok (.getfield 18, 3) := by decide +kernel
theorem dX5_lastWith_100 : decode cX5_lastWith 100 = .ok (.iload 5, 2) := by decide +kernel
theorem dX5_lastWith_102 : decode cX5_lastWith 102 = .ok (.invokevirtual 65, 3) := by decide +kernel
theorem dX5_lastWith_105 : decode cX5_lastWith 105 = .ok (.invokevirtual 69, 3) := by decide +kernel
theorem dX5_lastWith_108 : decode cX5_lastWith 108 = .ok (.istore 6, 2) := by decide +kernel
theorem dX5_lastWith_110 : decode cX5_lastWith 110 = .ok (.iload 6, 2) := by decide +kernel
theorem dX5_lastWith_112 : decode cX5_lastWith 112 = .ok (.iconst (-1), 1) := by decide +kernel
theorem dX5_lastWith_113 : decode cX5_lastWith 113 = .ok (.if_icmp .ne 5, 3) := by decide +kernel
theorem dX5_lastWith_116 : decode cX5_lastWith 116 = .ok (.iconst (-1), 1) := by decide +kernel
theorem dX5_lastWith_117 : decode cX5_lastWith 117 = .ok (.ireturn, 1) := by decide +kernel
theorem dX5_lastWith_118 : decode cX5_lastWith 118 = .ok (.iload 4, 2) := by decide +kernel
theorem dX5_lastWith_120 : decode cX5_lastWith 120 = .ok (.iload 6, 2) := by decide +kernel
theorem dX5_lastWith_122 : decode cX5_lastWith 122 = .ok (.iadd, 1) := by decide +kernel
theorem dX5_lastWith_123 : decode cX5_lastWith 123 = .ok (.istore 4, 2) := by decide +kernel
theorem dX5_lastWith_125 : decode cX5_lastWith 125 = .ok (.iload 5, 2) := by decide +kernel
theorem dX5_lastWith_127 : decode cX5_lastWith 127 = .ok (.iload_n 2, 1) := by decide +kernel
theorem dX5_lastWith_128 : decode cX5_lastWith 128 = .ok (.if_icmp .ne 9, 3) := by decide +kernel
theorem dX5_lastWith_131 : decode cX5_lastWith 131 = .ok (.aload_n 0, 1) := by decide +kernel
theorem dX5_lastWith_132 : decode cX5_lastWith 132 = .ok (.iload 4, 2) := by decide +kernel
theorem dX5_lastWith_134 : decode cX5_lastWith 134 = .ok (.putfield 56, 3) := by decide +kernel
theorem dX5_lastWith_137 : decode cX5_lastWith 137 = .ok (.iload 4, 2) := by decide +kernel
theorem dX5_lastWith_139 : decode cX5_lastWith 139 = .ok (.aload_n 0, 1) := by decide +kernel
theorem dX5_lastWith_140 : decode cX5_lastWith 140 = .ok (.iload 5, 2) := by decide +kernel
theorem dX5_lastWith_142 : decode cX5_lastWith 142 = .ok (.invokevirtual 91, 3) := by decide +kernel
theorem dX5_lastWith_145 : decode cX5_lastWith 145 = .ok (.if_icmp .le 5, 3) := by decide +kernel
theorem dX5_lastWith_148 : decode cX5_lastWith 148 = .ok (.iconst (-1), 1) := by decide +kernel
theorem dX5_lastWith_149 : decode cX5_lastWith 149 = .ok (.ireturn, 1) := by decide +kernel
theorem dX5_lastWith_150 : decode cX5_lastWith 150 = .ok (.iinc 5 1, 3) := by decide +kernel
theorem dX5_lastWith_153 : decode cX5_lastWith 153 = .ok (.goto (-93), 3) := by decide +kernel
theorem dX5_lastWith_156 : decode cX5_lastWith 156 = .ok (.iload 4, 2) := by decide +kernel
theorem dX5_lastWith_158 : decode cX5_lastWith 158 = .ok (.ireturn, 1) := by decide +kernel
set_option maxRecDepth 20000 in
theorem ggX5_latestAt_X4_riderAt : GoodIn wsX5_latestAt wsX4_riderAt := goodIn_r _ [10, 11, 12, 13, 14, 9, 15, 16, 57, 58, 59, 60] (by decide +kernel) (by decide +kernel)
set_option maxRecDepth 20000 in
theorem gX5_latestAt_X4_riderAt : GoodIn wsX5_latestAt (wsV RX5 94 RX4 yX4_riderAt wsX4_riderAt) := goodIn_app (goodIn_of _ (by decide +kernel)) ggX5_latestAt_X4_riderAt
set_option maxRecDepth 20000 in
theorem ggX5_latestAt_X4_isLetOutAt : GoodIn wsX5_latestAt wsX4_isLetOutAt := goodIn_r _ [20, 21, 12, 13, 14, 9, 15, 16, 57, 58, 59, 60] (by decide +kernel) (by decide +kernel)
set_option maxRecDepth 20000 in
theorem gX5_latestAt_X4_isLetOutAt : GoodIn wsX5_latestAt (wsV RX5 99 RX4 yX4_isLetOutAt wsX4_isLetOutAt) := goodIn_app (goodIn_of _ (by decide +kernel)) ggX5_latestAt_X4_isLetOutAt
set_option maxRecDepth 20000 in
theorem ggX5_latestAt_X0_promiseOf : GoodIn wsX5_latestAt wsX0_promiseOf := goodIn_r _ [26, 27, 28, 29, 25, 30, 31, 32, 33, 34, 35, 45, 46, 47, 48, 49, 50, 51, 52, 53, 54, 55, 56, 61, 62, 63, 64, 65] (by decide +kernel) (by decide +kernel)
set_option maxRecDepth 20000 in
theorem gX5_latestAt_X0_promiseOf : GoodIn wsX5_latestAt (wsV RX5 103 RX0 yX0_promiseOf wsX0_promiseOf) := goodIn_app (goodIn_of _ (by decide +kernel)) ggX5_latestAt_X0_promiseOf
theorem dX5_latestAt_0 : decode cX5_latestAt 0 = .ok (.aload_n 0, 1) := by decide +kernel
theorem dX5_latestAt_1 : decode cX5_latestAt 1 = .ok (.getfield 18, 3) := by decide +kernel
theorem dX5_latestAt_4 : decode cX5_latestAt 4 = .ok (.iload_n 1, 1) := by decide +kernel
theorem dX5_latestAt_5 : decode cX5_latestAt 5 = .ok (.invokevirtual 94, 3) := by decide +kernel
theorem dX5_latestAt_8 : decode cX5_latestAt 8 = .ok (.astore_n 2, 1) := by decide +kernel
theorem dX5_latestAt_9 : decode cX5_latestAt 9 = .ok (.aload_n 2, 1) := by decide +kernel
theorem dX5_latestAt_10 : decode cX5_latestAt 10 = .ok (.ifnonnull 6, 3) := by decide +kernel
theorem dX5_latestAt_13 : decode cX5_latestAt 13 = .ok (.ldc 98, 2) := by decide +kernel
theorem dX5_latestAt_15 : decode cX5_latestAt 15 = .ok (.ireturn, 1) := by decide +kernel
theorem dX5_latestAt_16 : decode cX5_latestAt 16 = .ok (.aload_n 0, 1) := by decide +kernel
theorem dX5_latestAt_17 : decode cX5_latestAt 17 = .ok (.getfield 18, 3) := by decide +kernel
theorem dX5_latestAt_20 : decode cX5_latestAt 20 = .ok (.iload_n 1, 1) := by decide +kernel
theorem dX5_latestAt_21 : decode cX5_latestAt 21 = .ok (.invokevirtual 99, 3) := by decide +kernel
theorem dX5_latestAt_24 : decode cX5_latestAt 24 = .ok (.ifCond .eq 34, 3) := by decide +kernel
theorem dX5_latestAt_27 : decode cX5_latestAt 27 = .ok (.aload_n 2, 1) := by decide +kernel
theorem dX5_latestAt_28 : decode cX5_latestAt 28 = .ok (.aload_n 0, 1) := by decide +kernel
theorem dX5_latestAt_29 : decode cX5_latestAt 29 = .ok (.getfield 22, 3) := by decide +kernel
theorem dX5_latestAt_32 : decode cX5_latestAt 32 = .ok (.if_acmp .ne 21, 3) := by decide +kernel
theorem dX5_latestAt_35 : decode cX5_latestAt 35 = .ok (.aload_n 0, 1) := by decide +kernel
theorem dX5_latestAt_36 : decode cX5_latestAt 36 = .ok (.getfield 9, 3) := by decide +kernel
theorem dX5_latestAt_39 : decode cX5_latestAt 39 = .ok (.aload_n 0, 1) := by decide +kernel
theorem dX5_latestAt_40 : decode cX5_latestAt 40 = .ok (.getfield 22, 3) := by decide +kernel
theorem dX5_latestAt_43 : decode cX5_latestAt 43 = .ok (.aload_n 0, 1) := by decide +kernel
theorem dX5_latestAt_44 : decode cX5_latestAt 44 = .ok (.getfield 56, 3) := by decide +kernel
theorem dX5_latestAt_47 : decode cX5_latestAt 47 = .ok (.invokevirtual 103, 3) := by decide +kernel
theorem dX5_latestAt_50 : decode cX5_latestAt 50 = .ok (.goto 7, 3) := by decide +kernel
theorem dX5_latestAt_53 : decode cX5_latestAt 53 = .ok (.aload_n 2, 1) := by decide +kernel
theorem dX5_latestAt_54 : decode cX5_latestAt 54 = .ok (.getfield 107, 3) := by decide +kernel
theorem dX5_latestAt_57 : decode cX5_latestAt 57 = .ok (.ireturn, 1) := by decide +kernel
theorem dX5_latestAt_58 : decode cX5_latestAt 58 = .ok (.aload_n 2, 1) := by decide +kernel
theorem dX5_latestAt_59 : decode cX5_latestAt 59 = .ok (.aload_n 0, 1) := by decide +kernel
theorem dX5_latestAt_60 : decode cX5_latestAt 60 = .ok (.getfield 22, 3) := by decide +kernel
theorem dX5_latestAt_63 : decode cX5_latestAt 63 = .ok (.if_acmp .ne 13, 3) := by decide +kernel
theorem dX5_latestAt_66 : decode cX5_latestAt 66 = .ok (.aload_n 0, 1) := by decide +kernel
theorem dX5_latestAt_67 : decode cX5_latestAt 67 = .ok (.getfield 22, 3) := by decide +kernel
theorem dX5_latestAt_70 : decode cX5_latestAt 70 = .ok (.getfield 110, 3) := by decide +kernel
theorem dX5_latestAt_73 : decode cX5_latestAt 73 = .ok (.goto 5, 3) := by decide +kernel
theorem dX5_latestAt_76 : decode cX5_latestAt 76 = .ok (.ldc 98, 2) := by decide +kernel
theorem dX5_latestAt_78 : decode cX5_latestAt 78 = .ok (.ireturn, 1) := by decide +kernel
set_option maxRecDepth 20000 in
theorem ggX6_init_X0_init : GoodIn wsX6_init wsX0_init := goodIn_r _ [23, 24, 2, 3, 25, 26, 27, 28, 29, 30, 31, 32, 33, 6, 34, 35, 36, 37, 38, 39, 40, 41, 42, 43, 44, 73, 74, 75, 76, 77] (by decide +kernel) (by decide +kernel)
set_option maxRecDepth 20000 in
theorem gX6_init_X0_init : GoodIn wsX6_init (wsX0_init) := ggX6_init_X0_init
set_option maxRecDepth 20000 in
theorem ggX6_init_X2_init : GoodIn wsX6_init wsX2_init := goodIn_r _ [47, 48, 2, 3, 49, 50, 51, 25, 52, 53, 54, 88, 89, 90, 91, 92, 93] (by decide +kernel) (by decide +kernel)
set_option maxRecDepth 20000 in
theorem gX6_init_X2_init : GoodIn wsX6_init (wsX2_init) := ggX6_init_X2_init
set_option maxRecDepth 20000 in
theorem ggX6_init_X5_init : GoodIn wsX6_init wsX5_init := goodIn_r _ [57, 58, 2, 3, 59, 60, 61, 62, 63, 64, 65, 66, 67, 25, 68, 69, 70, 71, 72, 94, 95, 96, 97, 98, 99, 100, 101, 102, 103, 104, 105, 106] (by decide +kernel) (by decide +kernel)
set_option maxRecDepth 20000 in
theorem gX6_init_X5_init : GoodIn wsX6_init (wsX5_init) := ggX6_init_X5_init
theorem dX6_init_0 : decode cX6_init 0 = .ok (.aload_n 0, 1) := by decide +kernel
theorem dX6_init_1 : decode cX6_init 1 = .ok (.invokespecial 1, 3) := by decide +kernel
theorem dX6_init_4 : decode cX6_init 4 = .ok (.aload_n 0, 1) := by decide +kernel
theorem dX6_init_5 : decode cX6_init 5 = .ok (.new 7, 3) := by decide +kernel
theorem dX6_init_8 : decode cX6_init 8 = .ok (.dup, 1) := by decide +kernel
theorem dX6_init_9 : decode cX6_init 9 = .ok (.invokespecial 9, 3) := by decide +kernel
theorem dX6_init_12 : decode cX6_init 12 = .ok (.putfield 10, 3) := by decide +kernel
theorem dX6_init_15 : decode cX6_init 15 = .ok (.aload_n 0, 1) := by decide +kernel
theorem dX6_init_16 : decode cX6_init 16 = .ok (.bipush 8, 2) := by decide +kernel
theorem dX6_init_18 : decode cX6_init 18 = .ok (.anewarray 16, 3) := by decide +kernel
theorem dX6_init_21 : decode cX6_init 21 = .ok (.putfield 18, 3) := by decide +kernel
theorem dX6_init_24 : decode cX6_init 24 = .ok (.aload_n 0, 1) := by decide +kernel
theorem dX6_init_25 : decode cX6_init 25 = .ok (.bipush 60, 2) := by decide +kernel
theorem dX6_init_27 : decode cX6_init 27 = .ok (.anewarray 22, 3) := by decide +kernel
theorem dX6_init_30 : decode cX6_init 30 = .ok (.putfield 24, 3) := by decide +kernel
theorem dX6_init_33 : decode cX6_init 33 = .ok (.aload_n 0, 1) := by decide +kernel
theorem dX6_init_34 : decode cX6_init 34 = .ok (.new 28, 3) := by decide +kernel
theorem dX6_init_37 : decode cX6_init 37 = .ok (.dup, 1) := by decide +kernel
theorem dX6_init_38 : decode cX6_init 38 = .ok (.invokespecial 30, 3) := by decide +kernel
theorem dX6_init_41 : decode cX6_init 41 = .ok (.putfield 31, 3) := by decide +kernel
theorem dX6_init_44 : decode cX6_init 44 = .ok (.aload_n 0, 1) := by decide +kernel
theorem dX6_init_45 : decode cX6_init 45 = .ok (.new 35, 3) := by decide +kernel
theorem dX6_init_48 : decode cX6_init 48 = .ok (.dup, 1) := by decide +kernel
theorem dX6_init_49 : decode cX6_init 49 = .ok (.aload_n 0, 1) := by decide +kernel
theorem dX6_init_50 : decode cX6_init 50 = .ok (.getfield 10, 3) := by decide +kernel
theorem dX6_init_53 : decode cX6_init 53 = .ok (.invokespecial 37, 3) := by decide +kernel
theorem dX6_init_56 : decode cX6_init 56 = .ok (.putfield 40, 3) := by decide +kernel
theorem dX6_init_59 : decode cX6_init 59 = .ok (.aload_n 0, 1) := by decide +kernel
theorem dX6_init_60 : decode cX6_init 60 = .ok (.sipush 300, 3) := by decide +kernel
theorem dX6_init_63 : decode cX6_init 63 = .ok (.putfield 44, 3) := by decide +kernel
theorem dX6_init_66 : decode cX6_init 66 = .ok (.return_, 1) := by decide +kernel
set_option maxRecDepth 20000 in
theorem ggX6_street_X6_checkPlace : GoodIn wsX6_street wsX6_checkPlace := goodIn_ca (goodIn_r _ [9, 10, 11, 12, 13, 14, 15] (by decide +kernel) (by decide +kernel)) (goodIn_sub (fun _ h => List.mem_cons_of_mem _ (List.mem_append_right _ h)) (by decide +kernel))
set_option maxRecDepth 20000 in
theorem gX6_street_X6_checkPlace : GoodIn wsX6_street (va_wsS RX6 48 yX6_checkPlace wsX6_checkPlace) := goodIn_app (goodIn_of _ (by decide +kernel)) ggX6_street_X6_checkPlace
set_option maxRecDepth 20000 in
theorem ggX6_street_X6_checkRange : GoodIn wsX6_street wsX6_checkRange := goodIn_ca (goodIn_r _ [18, 1, 2] (by decide +kernel) (by decide +kernel)) (goodIn_sub (fun _ h => List.mem_cons_of_mem _ (List.mem_append_left _ (List.mem_append_left _ (List.mem_append_right _ h)))) (by decide +kernel))
set_option maxRecDepth 20000 in
theorem gX6_street_X6_checkRange : GoodIn wsX6_street (va_wsS RX6 59 yX6_checkRange wsX6_checkRange) := goodIn_app (goodIn_of _ (by decide +kernel)) ggX6_street_X6_checkRange
set_option maxRecDepth 20000 in
theorem ggX6_street_X0_addStreet : GoodIn wsX6_street wsX0_addStreet := goodIn_r _ [22, 23, 24, 25, 26, 27, 28, 29, 14, 30, 31, 32, 33, 34, 35, 36, 37, 38, 39, 40, 51, 52, 53, 54, 55] (by decide +kernel) (by decide +kernel)
set_option maxRecDepth 20000 in
theorem gX6_street_X0_addStreet : GoodIn wsX6_street (wsV RX6 71 RX0 yX0_addStreet wsX0_addStreet) := goodIn_app (goodIn_of _ (by decide +kernel)) ggX6_street_X0_addStreet
theorem dX6_street_0 : decode cX6_street 0 = .ok (.iload_n 1, 1) := by decide +kernel
theorem dX6_street_1 : decode cX6_street 1 = .ok (.invokestatic 48, 3) := by decide +kernel
theorem dX6_street_4 : decode cX6_street 4 = .ok (.iload_n 2, 1) := by decide +kernel
theorem dX6_street_5 : decode cX6_street 5 = .ok (.invokestatic 48, 3) := by decide +kernel
theorem dX6_street_8 : decode cX6_street 8 = .ok (.iload_n 1, 1) := by decide +kernel
theorem dX6_street_9 : decode cX6_street 9 = .ok (.iload_n 2, 1) := by decide +kernel
theorem dX6_street_10 : decode cX6_street 10 = .ok (.if_icmp .ne 13, 3) := by decide +kernel
theorem dX6_street_13 : decode cX6_street 13 = .ok (.new 52, 3) := by decide +kernel
theorem dX6_street_16 : decode cX6_street 16 = .ok (.dup, 1) := by decide +kernel
theorem dX6_street_17 : decode cX6_street 17 = .ok (.ldc 54, 2) := by decide +kernel
theorem dX6_street_19 : decode cX6_street 19 = .ok (.invokespecial 56, 3) := by decide +kernel
theorem dX6_street_22 : decode cX6_street 22 = .ok (.athrow, 1) := by decide +kernel
theorem dX6_street_23 : decode cX6_street 23 = .ok (.iload_n 3, 1) := by decide +kernel
theorem dX6_street_24 : decode cX6_street 24 = .ok (.iconst 1, 1) := by decide +kernel
theorem dX6_street_25 : decode cX6_street 25 = .ok (.bipush 20, 2) := by decide +kernel
theorem dX6_street_27 : decode cX6_street 27 = .ok (.invokestatic 59, 3) := by decide +kernel
theorem dX6_street_30 : decode cX6_street 30 = .ok (.aload_n 0, 1) := by decide +kernel
theorem dX6_street_31 : decode cX6_street 31 = .ok (.getfield 10, 3) := by decide +kernel
theorem dX6_street_34 : decode cX6_street 34 = .ok (.getfield 63, 3) := by decide +kernel
theorem dX6_street_37 : decode cX6_street 37 = .ok (.bipush 20, 2) := by decide +kernel
theorem dX6_street_39 : decode cX6_street 39 = .ok (.if_icmp .lt 13, 3) := by decide +kernel
theorem dX6_street_42 : decode cX6_street 42 = .ok (.new 66, 3) := by decide +kernel
theorem dX6_street_45 : decode cX6_street 45 = .ok (.dup, 1) := by decide +kernel
theorem dX6_street_46 : decode cX6_street 46 = .ok (.ldc 68, 2) := by decide +kernel
theorem dX6_street_48 : decode cX6_street 48 = .ok (.invokespecial 70, 3) := by decide +kernel
theorem dX6_street_51 : decode cX6_street 51 = .ok (.athrow, 1) := by decide +kernel
theorem dX6_street_52 : decode cX6_street 52 = .ok (.aload_n 0, 1) := by decide +kernel
theorem dX6_street_53 : decode cX6_street 53 = .ok (.getfield 10, 3) := by decide +kernel
theorem dX6_street_56 : decode cX6_street 56 = .ok (.iload_n 1, 1) := by decide +kernel
theorem dX6_street_57 : decode cX6_street 57 = .ok (.iload_n 2, 1) := by decide +kernel
theorem dX6_street_58 : decode cX6_street 58 = .ok (.iload_n 3, 1) := by decide +kernel
theorem dX6_street_59 : decode cX6_street 59 = .ok (.invokevirtual 71, 3) := by decide +kernel
theorem dX6_street_62 : decode cX6_street 62 = .ok (.ireturn, 1) := by decide +kernel
set_option maxRecDepth 20000 in
theorem ggX6_slow_X6_checkRange : GoodIn wsX6_slow wsX6_checkRange := goodIn_ca (goodIn_r _ [7, 8, 9] (by decide +kernel) (by decide +kernel)) (goodIn_sub (fun _ h => List.mem_cons_of_mem _ (List.mem_append_right _ h)) (by decide +kernel))
set_option maxRecDepth 20000 in
theorem gX6_slow_X6_checkRange : GoodIn wsX6_slow (va_wsS RX6 59 yX6_checkRange wsX6_checkRange) := goodIn_app (goodIn_of _ (by decide +kernel)) ggX6_slow_X6_checkRange
set_option maxRecDepth 20000 in
theorem ggX6_slow_X0_changeStreet : GoodIn wsX6_slow wsX0_changeStreet := goodIn_r _ [14, 15, 16, 17, 18, 13, 19, 20, 21, 22, 23, 24, 25, 26, 27, 28, 29, 30, 31, 32, 43, 44, 45, 46, 47] (by decide +kernel) (by decide +kernel)
set_option maxRecDepth 20000 in
theorem gX6_slow_X0_changeStreet : GoodIn wsX6_slow (wsV RX6 80 RX0 yX0_changeStreet wsX0_changeStreet) := goodIn_app (goodIn_of _ (by decide +kernel)) ggX6_slow_X0_changeStreet
theorem dX6_slow_0 : decode cX6_slow 0 = .ok (.iload_n 1, 1) := by decide +kernel
theorem dX6_slow_1 : decode cX6_slow 1 = .ok (.ifCond .lt 14, 3) := by decide +kernel
theorem dX6_slow_4 : decode cX6_slow 4 = .ok (.iload_n 1, 1) := by decide +kernel
theorem dX6_slow_5 : decode cX6_slow 5 = .ok (.aload_n 0, 1) := by decide +kernel
theorem dX6_slow_6 : decode cX6_slow 6 = .ok (.getfield 10, 3) := by decide +kernel
theorem dX6_slow_9 : decode cX6_slow 9 = .ok (.getfield 63, 3) := by decide +kernel
theorem dX6_slow_12 : decode cX6_slow 12 = .ok (.if_icmp .lt 13, 3) := by decide +kernel
theorem dX6_slow_15 : decode cX6_slow 15 = .ok (.new 75, 3) := by decide +kernel
theorem dX6_slow_18 : decode cX6_slow 18 = .ok (.dup, 1) := by decide +kernel
theorem dX6_slow_19 : decode cX6_slow 19 = .ok (.ldc 77, 2) := by decide +kernel
theorem dX6_slow_21 : decode cX6_slow 21 = .ok (.invokespecial 79, 3) := by decide +kernel
theorem dX6_slow_24 : decode cX6_slow 24 = .ok (.athrow, 1) := by decide +kernel
theorem dX6_slow_25 : decode cX6_slow 25 = .ok (.iload_n 2, 1) := by decide +kernel
theorem dX6_slow_26 : decode cX6_slow 26 = .ok (.iconst 1, 1) := by decide +kernel
theorem dX6_slow_27 : decode cX6_slow 27 = .ok (.bipush 20, 2) := by decide +kernel
theorem dX6_slow_29 : decode cX6_slow 29 = .ok (.invokestatic 59, 3) := by decide +kernel
theorem dX6_slow_32 : decode cX6_slow 32 = .ok (.aload_n 0, 1) := by decide +kernel
theorem dX6_slow_33 : decode cX6_slow 33 = .ok (.getfield 10, 3) := by decide +kernel
theorem dX6_slow_36 : decode cX6_slow 36 = .ok (.iload_n 1, 1) := by decide +kernel
theorem dX6_slow_37 : decode cX6_slow 37 = .ok (.iload_n 2, 1) := by decide +kernel
theorem dX6_slow_38 : decode cX6_slow 38 = .ok (.invokevirtual 80, 3) := by decide +kernel
theorem dX6_slow_41 : decode cX6_slow 41 = .ok (.ireturn, 1) := by decide +kernel
set_option maxRecDepth 20000 in
theorem ggX6_way_X6_checkPlace : GoodIn wsX6_way wsX6_checkPlace := goodIn_ca (goodIn_r _ [5, 6, 7, 8, 9, 10, 11] (by decide +kernel) (by decide +kernel)) (goodIn_sub (fun _ h => List.mem_cons_of_mem _ (List.mem_append_right _ h)) (by decide +kernel))
set_option maxRecDepth 20000 in
theorem gX6_way_X6_checkPlace : GoodIn wsX6_way (va_wsS RX6 48 yX6_checkPlace wsX6_checkPlace) := goodIn_app (goodIn_of _ (by decide +kernel)) ggX6_way_X6_checkPlace
set_option maxRecDepth 20000 in
theorem ggX6_way_X0_minutesBetween : GoodIn wsX6_way wsX0_minutesBetween := goodIn_r _ [15, 16, 17, 18, 9, 10, 11, 29, 30, 31, 32, 33] (by decide +kernel) (by decide +kernel)
set_option maxRecDepth 20000 in
theorem gX6_way_X0_minutesBetween : GoodIn wsX6_way (wsV RX6 84 RX0 yX0_minutesBetween wsX0_minutesBetween) := goodIn_app (goodIn_of _ (by decide +kernel)) ggX6_way_X0_minutesBetween
theorem dX6_way_0 : decode cX6_way 0 = .ok (.iload_n 1, 1) := by decide +kernel
theorem dX6_way_1 : decode cX6_way 1 = .ok (.invokestatic 48, 3) := by decide +kernel
theorem dX6_way_4 : decode cX6_way 4 = .ok (.iload_n 2, 1) := by decide +kernel
theorem dX6_way_5 : decode cX6_way 5 = .ok (.invokestatic 48, 3) := by decide +kernel
theorem dX6_way_8 : decode cX6_way 8 = .ok (.aload_n 0, 1) := by decide +kernel
theorem dX6_way_9 : decode cX6_way 9 = .ok (.getfield 10, 3) := by decide +kernel
theorem dX6_way_12 : decode cX6_way 12 = .ok (.iload_n 1, 1) := by decide +kernel
theorem dX6_way_13 : decode cX6_way 13 = .ok (.iload_n 2, 1) := by decide +kernel
theorem dX6_way_14 : decode cX6_way 14 = .ok (.invokevirtual 84, 3) := by decide +kernel
theorem dX6_way_17 : decode cX6_way 17 = .ok (.ireturn, 1) := by decide +kernel
set_option maxRecDepth 20000 in
theorem ggX6_driver_X6_checkPlace : GoodIn wsX6_driver wsX6_checkPlace := goodIn_ca (goodIn_r _ [11, 12, 13, 14, 15, 16, 17] (by decide +kernel) (by decide +kernel)) (goodIn_sub (fun _ h => List.mem_cons_of_mem _ (List.mem_append_right _ h)) (by decide +kernel))
set_option maxRecDepth 20000 in
theorem gX6_driver_X6_checkPlace : GoodIn wsX6_driver (va_wsS RX6 48 yX6_checkPlace wsX6_checkPlace) := goodIn_app (goodIn_of _ (by decide +kernel)) ggX6_driver_X6_checkPlace
set_option maxRecDepth 20000 in
theorem ggX6_driver_X1_init : GoodIn wsX6_driver wsX1_init := goodIn_r _ [20, 21, 22, 23, 24, 25, 26, 27, 28, 29, 30, 31, 32, 33, 34, 35, 36, 37, 38, 39, 40, 41, 63, 64, 65, 66, 67, 68, 69, 70, 71, 72, 73, 74, 75, 76, 77, 78, 79] (by decide +kernel) (by decide +kernel)
set_option maxRecDepth 20000 in
theorem gX6_driver_X1_init : GoodIn wsX6_driver (wsX1_init) := ggX6_driver_X1_init
set_option maxRecDepth 20000 in
theorem ggX6_driver_X6_queueIfNowFree : GoodIn wsX6_driver wsX6_queueIfNowFree := goodIn_r _ [45, 46, 47, 48, 49, 6, 50, 29, 51, 52, 53, 54, 55, 56, 57, 58, 59, 60, 61, 62, 63, 64, 65, 66, 67, 68, 69, 70, 71, 72, 73, 74, 75, 76, 77, 78, 79] (by decide +kernel) (by decide +kernel)
set_option maxRecDepth 20000 in
theorem gX6_driver_X6_queueIfNowFree : GoodIn wsX6_driver (wsV RX6 95 RX6 yX6_queueIfNowFree wsX6_queueIfNowFree) := goodIn_app (goodIn_of _ (by decide +kernel)) ggX6_driver_X6_queueIfNowFree
theorem dX6_driver_0 : decode cX6_driver 0 = .ok (.iload_n 1, 1) := by decide +kernel
theorem dX6_driver_1 : decode cX6_driver 1 = .ok (.invokestatic 48, 3) := by decide +kernel
theorem dX6_driver_4 : decode cX6_driver 4 = .ok (.aload_n 0, 1) := by decide +kernel
theorem dX6_driver_5 : decode cX6_driver 5 = .ok (.getfield 87, 3) := by decide +kernel
theorem dX6_driver_8 : decode cX6_driver 8 = .ok (.bipush 8, 2) := by decide +kernel
theorem dX6_driver_10 : decode cX6_driver 10 = .ok (.if_icmp .lt 13, 3) := by decide +kernel
theorem dX6_driver_13 : decode cX6_driver 13 = .ok (.new 66, 3) := by decide +kernel
theorem dX6_driver_16 : decode cX6_driver 16 = .ok (.dup, 1) := by decide +kernel
theorem dX6_driver_17 : decode cX6_driver 17 = .ok (.ldc 90, 2) := by decide +kernel
theorem dX6_driver_19 : decode cX6_driver 19 = .ok (.invokespecial 70, 3) := by decide +kernel
theorem dX6_driver_22 : decode cX6_driver 22 = .ok (.athrow, 1) := by decide +kernel
theorem dX6_driver_23 : decode cX6_driver 23 = .ok (.new 16, 3) := by decide +kernel
theorem dX6_driver_26 : decode cX6_driver 26 = .ok (.dup, 1) := by decide +kernel
theorem dX6_driver_27 : decode cX6_driver 27 = .ok (.aload_n 0, 1) := by decide +kernel
theorem dX6_driver_28 : decode cX6_driver 28 = .ok (.getfield 87, 3) := by decide +kernel
theorem dX6_driver_31 : decode cX6_driver 31 = .ok (.iload_n 1, 1) := by decide +kernel
theorem dX6_driver_32 : decode cX6_driver 32 = .ok (.invokespecial 92, 3) := by decide +kernel
theorem dX6_driver_35 : decode cX6_driver 35 = .ok (.astore_n 2, 1) := by decide +kernel
theorem dX6_driver_36 : decode cX6_driver 36 = .ok (.aload_n 0, 1) := by decide +kernel
theorem dX6_driver_37 : decode cX6_driver 37 = .ok (.getfield 18, 3) := by decide +kernel
theorem dX6_driver_40 : decode cX6_driver 40 = .ok (.aload_n 0, 1) := by decide +kernel
theorem dX6_driver_41 : decode cX6_driver 41 = .ok (.getfield 87, 3) := by decide +kernel
theorem dX6_driver_44 : decode cX6_driver 44 = .ok (.aload_n 2, 1) := by decide +kernel
theorem dX6_driver_45 : decode cX6_driver 45 = .ok (.aastore, 1) := by decide +kernel
theorem dX6_driver_46 : decode cX6_driver 46 = .ok (.aload_n 0, 1) := by decide +kernel
theorem dX6_driver_47 : decode cX6_driver 47 = .ok (.dup, 1) := by decide +kernel
theorem dX6_driver_48 : decode cX6_driver 48 = .ok (.getfield 87, 3) := by decide +kernel
theorem dX6_driver_51 : decode cX6_driver 51 = .ok (.iconst 1, 1) := by decide +kernel
theorem dX6_driver_52 : decode cX6_driver 52 = .ok (.iadd, 1) := by decide +kernel
theorem dX6_driver_53 : decode cX6_driver 53 = .ok (.putfield 87, 3) := by decide +kernel
theorem dX6_driver_56 : decode cX6_driver 56 = .ok (.aload_n 0, 1) := by decide +kernel
theorem dX6_driver_57 : decode cX6_driver 57 = .ok (.aload_n 2, 1) := by decide +kernel
theorem dX6_driver_58 : decode cX6_driver 58 = .ok (.iconst 0, 1) := by decide +kernel
theorem dX6_driver_59 : decode cX6_driver 59 = .ok (.invokevirtual 95, 3) := by decide +kernel
theorem dX6_driver_62 : decode cX6_driver 62 = .ok (.aload_n 2, 1) := by decide +kernel
theorem dX6_driver_63 : decode cX6_driver 63 = .ok (.getfield 99, 3) := by decide +kernel
theorem dX6_driver_66 : decode cX6_driver 66 = .ok (.ireturn, 1) := by decide +kernel
set_option maxRecDepth 20000 in
theorem ggX6_rest_X6_knownDriver : GoodIn wsX6_rest wsX6_knownDriver := goodIn_ca (goodIn_r _ [7, 8, 9, 10, 11, 42, 43, 44, 45, 46, 47, 48, 49, 50, 51] (by decide +kernel) (by decide +kernel)) (goodIn_sub (fun _ h => List.mem_cons_of_mem _ (List.mem_append_right _ h)) (by decide +kernel))
set_option maxRecDepth 20000 in
theorem gX6_rest_X6_knownDriver : GoodIn wsX6_rest (wsV RX6 102 RX6 yX6_knownDriver wsX6_knownDriver) := goodIn_app (goodIn_of _ (by decide +kernel)) ggX6_rest_X6_knownDriver
set_option maxRecDepth 20000 in
theorem ggX6_rest_X1_isFree : GoodIn wsX6_rest wsX1_isFree := goodIn_r _ [16, 17, 18, 19, 25, 26, 27, 28, 29, 30, 31, 32, 33, 34, 35, 36, 37, 38, 39, 40, 41] (by decide +kernel) (by decide +kernel)
set_option maxRecDepth 20000 in
theorem gX6_rest_X1_isFree : GoodIn wsX6_rest (wsV RX6 121 RX1 yX1_isFree wsX1_isFree) := goodIn_app (goodIn_of _ (by decide +kernel)) ggX6_rest_X1_isFree
set_option maxRecDepth 20000 in
theorem ggX6_rest_X6_queueIfNowFree : GoodIn wsX6_rest wsX6_queueIfNowFree := goodIn_r _ [23, 24, 12, 13, 14, 15, 16, 17, 18, 19, 42, 43, 44, 45, 46, 47, 48, 49, 50, 51, 25, 26, 27, 28, 29, 30, 31, 32, 33, 34, 35, 36, 37, 38, 39, 40, 41] (by decide +kernel) (by decide +kernel)
set_option maxRecDepth 20000 in
theorem gX6_rest_X6_queueIfNowFree : GoodIn wsX6_rest (wsV RX6 95 RX6 yX6_queueIfNowFree wsX6_queueIfNowFree) := goodIn_app (goodIn_of _ (by decide +kernel)) ggX6_rest_X6_queueIfNowFree
theorem dX6_rest_0 : decode cX6_rest 0 = .ok (.aload_n 0, 1) := by decide +kernel
theorem dX6_rest_1 : decode cX6_rest 1 = .ok (.iload_n 1, 1) := by decide +kernel
theorem dX6_rest_2 : decode cX6_rest 2 = .ok (.invokevirtual 102, 3) := by decide +kernel
theorem dX6_rest_5 : decode cX6_rest 5 = .ok (.astore_n 3, 1) := by decide +kernel
theorem dX6_rest_6 : decode cX6_rest 6 = .ok (.aload_n 3, 1) := by decide +kernel
theorem dX6_rest_7 : decode cX6_rest 7 = .ok (.getfield 106, 3) := by decide +kernel
theorem dX6_rest_10 : decode cX6_rest 10 = .ok (.getfield 110, 3) := by decide +kernel
theorem dX6_rest_13 : decode cX6_rest 13 = .ok (.ifCond .le 13, 3) := by decide +kernel
theorem dX6_rest_16 : decode cX6_rest 16 = .ok (.new 66, 3) := by decide +kernel
theorem dX6_rest_19 : decode cX6_rest 19 = .ok (.dup, 1) := by decide +kernel
theorem dX6_rest_20 : decode cX6_rest 20 = .ok (.ldc 115, 2) := by decide +kernel
theorem dX6_rest_22 : decode cX6_rest 22 = .ok (.invokespecial 70, 3) := by decide +kernel
theorem dX6_rest_25 : decode cX6_rest 25 = .ok (.athrow, 1) := by decide +kernel
theorem dX6_rest_26 : decode cX6_rest 26 = .ok (.aload_n 3, 1) := by decide +kernel
theorem dX6_rest_27 : decode cX6_rest 27 = .ok (.getfield 117, 3) := by decide +kernel
theorem dX6_rest_30 : decode cX6_rest 30 = .ok (.istore 4, 2) := by decide +kernel
theorem dX6_rest_32 : decode cX6_rest 32 = .ok (.aload_n 3, 1) := by decide +kernel
theorem dX6_rest_33 : decode cX6_rest 33 = .ok (.invokevirtual 121, 3) := by decide +kernel
theorem dX6_rest_36 : decode cX6_rest 36 = .ok (.istore 5, 2) := by decide +kernel
theorem dX6_rest_38 : decode cX6_rest 38 = .ok (.aload_n 3, 1) := by decide +kernel
theorem dX6_rest_39 : decode cX6_rest 39 = .ok (.iload_n 2, 1) := by decide +kernel
theorem dX6_rest_40 : decode cX6_rest 40 = .ok (.putfield 117, 3) := by decide +kernel
theorem dX6_rest_43 : decode cX6_rest 43 = .ok (.aload_n 0, 1) := by decide +kernel
theorem dX6_rest_44 : decode cX6_rest 44 = .ok (.aload_n 3, 1) := by decide +kernel
theorem dX6_rest_45 : decode cX6_rest 45 = .ok (.iload 5, 2) := by decide +kernel
theorem dX6_rest_47 : decode cX6_rest 47 = .ok (.invokevirtual 95, 3) := by decide +kernel
theorem dX6_rest_50 : decode cX6_rest 50 = .ok (.iload 4, 2) := by decide +kernel
theorem dX6_rest_52 : decode cX6_rest 52 = .ok (.ireturn, 1) := by decide +kernel
set_option maxRecDepth 20000 in
theorem ggX6_wander_X6_knownDriver : GoodIn wsX6_wander wsX6_knownDriver := goodIn_ca (goodIn_r _ [9, 10, 11, 12, 13, 49, 50, 51, 52, 53, 54, 55, 56, 57, 58] (by decide +kernel) (by decide +kernel)) (goodIn_sub (fun _ h => List.mem_cons_of_mem _ (List.mem_append_right _ h)) (by decide +kernel))
set_option maxRecDepth 20000 in
theorem gX6_wander_X6_knownDriver : GoodIn wsX6_wander (wsV RX6 102 RX6 yX6_knownDriver wsX6_knownDriver) := goodIn_app (goodIn_of _ (by decide +kernel)) ggX6_wander_X6_knownDriver
set_option maxRecDepth 20000 in
theorem ggX6_wander_X6_checkPlace : GoodIn wsX6_wander wsX6_checkPlace := goodIn_ca (goodIn_r _ [16, 10, 11, 17, 18, 19, 20] (by decide +kernel) (by decide +kernel)) (goodIn_sub (fun _ h => List.mem_cons_of_mem _ (List.mem_append_right _ h)) (by decide +kernel))
set_option maxRecDepth 20000 in
theorem gX6_wander_X6_checkPlace : GoodIn wsX6_wander (va_wsS RX6 48 yX6_checkPlace wsX6_checkPlace) := goodIn_app (goodIn_of _ (by decide +kernel)) ggX6_wander_X6_checkPlace
set_option maxRecDepth 20000 in
theorem ggX6_wander_X0_minutesBetween : GoodIn wsX6_wander wsX0_minutesBetween := goodIn_r _ [24, 25, 26, 27, 18, 19, 20, 72, 73, 74, 75, 76] (by decide +kernel) (by decide +kernel)
set_option maxRecDepth 20000 in
theorem gX6_wander_X0_minutesBetween : GoodIn wsX6_wander (wsV RX6 84 RX0 yX0_minutesBetween wsX0_minutesBetween) := goodIn_app (goodIn_of _ (by decide +kernel)) ggX6_wander_X0_minutesBetween
set_option maxRecDepth 20000 in
theorem ggX6_wander_X1_isFree : GoodIn wsX6_wander wsX1_isFree := goodIn_r _ [32, 33, 34, 35, 59, 60, 61, 62, 63, 64, 65, 66, 67, 68, 69, 70, 71, 77, 78, 79, 80] (by decide +kernel) (by decide +kernel)
set_option maxRecDepth 20000 in
theorem gX6_wander_X1_isFree : GoodIn wsX6_wander (wsV RX6 121 RX1 yX1_isFree wsX1_isFree) := goodIn_app (goodIn_of _ (by decide +kernel)) ggX6_wander_X1_isFree
set_option maxRecDepth 20000 in
theorem ggX6_wander_X4_put : GoodIn wsX6_wander wsX4_put := goodIn_r _ [40, 41, 42, 43, 44, 45, 46, 47, 39, 48, 77, 78, 79, 80] (by decide +kernel) (by decide +kernel)
set_option maxRecDepth 20000 in
theorem gX6_wander_X4_put : GoodIn wsX6_wander (wsV RX6 130 RX4 yX4_put wsX4_put) := goodIn_app (goodIn_of _ (by decide +kernel)) ggX6_wander_X4_put
theorem dX6_wander_0 : decode cX6_wander 0 = .ok (.aload_n 0, 1) := by decide +kernel
theorem dX6_wander_1 : decode cX6_wander 1 = .ok (.iload_n 1, 1) := by decide +kernel
theorem dX6_wander_2 : decode cX6_wander 2 = .ok (.invokevirtual 102, 3) := by decide +kernel
theorem dX6_wander_5 : decode cX6_wander 5 = .ok (.astore_n 3, 1) := by decide +kernel
theorem dX6_wander_6 : decode cX6_wander 6 = .ok (.iload_n 2, 1) := by decide +kernel
theorem dX6_wander_7 : decode cX6_wander 7 = .ok (.invokestatic 48, 3) := by decide +kernel
theorem dX6_wander_10 : decode cX6_wander 10 = .ok (.aload_n 0, 1) := by decide +kernel
theorem dX6_wander_11 : decode cX6_wander 11 = .ok (.getfield 10, 3) := by decide +kernel
theorem dX6_wander_14 : decode cX6_wander 14 = .ok (.aload_n 3, 1) := by decide +kernel
theorem dX6_wander_15 : decode cX6_wander 15 = .ok (.getfield 125, 3) := by decide +kernel
theorem dX6_wander_18 : decode cX6_wander 18 = .ok (.iload_n 2, 1) := by decide +kernel
theorem dX6_wander_19 : decode cX6_wander 19 = .ok (.invokevirtual 84, 3) := by decide +kernel
theorem dX6_wander_22 : decode cX6_wander 22 = .ok (.istore 4, 2) := by decide +kernel
theorem dX6_wander_24 : decode cX6_wander 24 = .ok (.aload_n 3, 1) := by decide +kernel
theorem dX6_wander_25 : decode cX6_wander 25 = .ok (.invokevirtual 121, 3) := by decide +kernel
theorem dX6_wander_28 : decode cX6_wander 28 = .ok (.ifCond .eq 17, 3) := by decide +kernel
theorem dX6_wander_31 : decode cX6_wander 31 = .ok (.iload 4, 2) := by decide +kernel
theorem dX6_wander_33 : decode cX6_wander 33 = .ok (.iconst (-1), 1) := by decide +kernel
theorem dX6_wander_34 : decode cX6_wander 34 = .ok (.if_icmp .eq 11, 3) := by decide +kernel
theorem dX6_wander_37 : decode cX6_wander 37 = .ok (.aload_n 3, 1) := by decide +kernel
theorem dX6_wander_38 : decode cX6_wander 38 = .ok (.getfield 125, 3) := by decide +kernel
theorem dX6_wander_41 : decode cX6_wander 41 = .ok (.iload_n 2, 1) := by decide +kernel
theorem dX6_wander_42 : decode cX6_wander 42 = .ok (.if_icmp .ne 13, 3) := by decide +kernel
theorem dX6_wander_45 : decode cX6_wander 45 = .ok (.new 66, 3) := by decide +kernel
theorem dX6_wander_48 : decode cX6_wander 48 = .ok (.dup, 1) := by decide +kernel
theorem dX6_wander_49 : decode cX6_wander 49 = .ok (.ldc 128, 2) := by decide +kernel
theorem dX6_wander_51 : decode cX6_wander 51 = .ok (.invokespecial 70, 3) := by decide +kernel
theorem dX6_wander_54 : decode cX6_wander 54 = .ok (.athrow, 1) := by decide +kernel
theorem dX6_wander_55 : decode cX6_wander 55 = .ok (.aload_n 3, 1) := by decide +kernel
theorem dX6_wander_56 : decode cX6_wander 56 = .ok (.getfield 106, 3) := by decide +kernel
theorem dX6_wander_59 : decode cX6_wander 59 = .ok (.iconst 0, 1) := by decide +kernel
theorem dX6_wander_60 : decode cX6_wander 60 = .ok (.iload_n 2, 1) := by decide +kernel
theorem dX6_wander_61 : decode cX6_wander 61 = .ok (.aconst_null, 1) := by decide +kernel
theorem dX6_wander_62 : decode cX6_wander 62 = .ok (.iconst 0, 1) := by decide +kernel
theorem dX6_wander_63 : decode cX6_wander 63 = .ok (.invokevirtual 130, 3) := by decide +kernel
theorem dX6_wander_66 : decode cX6_wander 66 = .ok (.aload_n 3, 1) := by decide +kernel
theorem dX6_wander_67 : decode cX6_wander 67 = .ok (.aload_n 0, 1) := by decide +kernel
theorem dX6_wander_68 : decode cX6_wander 68 = .ok (.getfield 134, 3) := by decide +kernel
theorem dX6_wander_71 : decode cX6_wander 71 = .ok (.iload 4, 2) := by decide +kernel
theorem dX6_wander_73 : decode cX6_wander 73 = .ok (.iadd, 1) := by decide +kernel
theorem dX6_wander_74 : decode cX6_wander 74 = .ok (.putfield 137, 3) := by decide +kernel
theorem dX6_wander_77 : decode cX6_wander 77 = .ok (.aload_n 3, 1) := by decide +kernel
theorem dX6_wander_78 : decode cX6_wander 78 = .ok (.getfield 137, 3) := by decide +kernel
theorem dX6_wander_81 : decode cX6_wander 81 = .ok (.ireturn, 1) := by decide +kernel
set_option maxRecDepth 20000 in
theorem ggX6_cap_X6_checkRange : GoodIn wsX6_cap wsX6_checkRange := goodIn_ca (goodIn_r _ [5, 6, 7] (by decide +kernel) (by decide +kernel)) (goodIn_sub (fun _ h => List.mem_cons_of_mem _ (List.mem_append_right _ h)) (by decide +kernel))
set_option maxRecDepth 20000 in
theorem gX6_cap_X6_checkRange : GoodIn wsX6_cap (va_wsS RX6 59 yX6_checkRange wsX6_checkRange) := goodIn_app (goodIn_of _ (by decide +kernel)) ggX6_cap_X6_checkRange
theorem dX6_cap_0 : decode cX6_cap 0 = .ok (.iload_n 1, 1) := by decide +kernel
theorem dX6_cap_1 : decode cX6_cap 1 = .ok (.bipush 100, 2) := by decide +kernel
theorem dX6_cap_3 : decode cX6_cap 3 = .ok (.sipush 300, 3) := by decide +kernel
theorem dX6_cap_6 : decode cX6_cap 6 = .ok (.invokestatic 59, 3) := by decide +kernel
theorem dX6_cap_9 : decode cX6_cap 9 = .ok (.aload_n 0, 1) := by decide +kernel
theorem dX6_cap_10 : decode cX6_cap 10 = .ok (.getfield 44, 3) := by decide +kernel
theorem dX6_cap_13 : decode cX6_cap 13 = .ok (.istore_n 2, 1) := by decide +kernel
theorem dX6_cap_14 : decode cX6_cap 14 = .ok (.aload_n 0, 1) := by decide +kernel
theorem dX6_cap_15 : decode cX6_cap 15 = .ok (.iload_n 1, 1) := by decide +kernel
theorem dX6_cap_16 : decode cX6_cap 16 = .ok (.putfield 44, 3) := by decide +kernel
theorem dX6_cap_19 : decode cX6_cap 19 = .ok (.iload_n 2, 1) := by decide +kernel
theorem dX6_cap_20 : decode cX6_cap 20 = .ok (.ireturn, 1) := by decide +kernel
set_option maxRecDepth 20000 in
theorem ggX6_height_X6_heightOf : GoodIn wsX6_height wsX6_heightOf := goodIn_r _ [7, 8, 9, 10, 11, 12, 13, 14, 15, 16, 17, 18, 19, 20, 21, 6, 22, 23, 24, 25, 26, 27, 28, 29, 30, 31, 32, 33, 34, 35, 36, 37, 38, 39, 40, 41, 42, 43, 44, 45, 46, 47, 48, 49, 50, 51, 52, 53, 54, 55, 56, 57, 58, 59, 60, 61, 62, 63, 64, 65, 66, 67, 68, 69] (by decide +kernel) (by decide +kernel)
set_option maxRecDepth 20000 in
theorem gX6_height_X6_heightOf : GoodIn wsX6_height (wsV RX6 142 RX6 yX6_heightOf wsX6_heightOf) := goodIn_app (goodIn_of _ (by decide +kernel)) ggX6_height_X6_heightOf
theorem dX6_height_0 : decode cX6_height 0 = .ok (.iload_n 1, 1) := by decide +kernel
theorem dX6_height_1 : decode cX6_height 1 = .ok (.ifCond .lt 8, 3) := by decide +kernel
theorem dX6_height_4 : decode cX6_height 4 = .ok (.iload_n 1, 1) := by decide +kernel
theorem dX6_height_5 : decode cX6_height 5 = .ok (.iconst 4, 1) := by decide +kernel
theorem dX6_height_6 : decode cX6_height 6 = .ok (.if_icmp .lt 13, 3) := by decide +kernel
theorem dX6_height_9 : decode cX6_height 9 = .ok (.new 75, 3) := by decide +kernel
theorem dX6_height_12 : decode cX6_height 12 = .ok (.dup, 1) := by decide +kernel
theorem dX6_height_13 : decode cX6_height 13 = .ok (.ldc 140, 2) := by decide +kernel
theorem dX6_height_15 : decode cX6_height 15 = .ok (.invokespecial 79, 3) := by decide +kernel
theorem dX6_height_18 : decode cX6_height 18 = .ok (.athrow, 1) := by decide +kernel
theorem dX6_height_19 : decode cX6_height 19 = .ok (.aload_n 0, 1) := by decide +kernel
theorem dX6_height_20 : decode cX6_height 20 = .ok (.iload_n 1, 1) := by decide +kernel
theorem dX6_height_21 : decode cX6_height 21 = .ok (.invokevirtual 142, 3) := by decide +kernel
theorem dX6_height_24 : decode cX6_height 24 = .ok (.ireturn, 1) := by decide +kernel
set_option maxRecDepth 20000 in
theorem ggX6_request_X6_checkPlace : GoodIn wsX6_request wsX6_checkPlace := goodIn_ca (goodIn_r _ [15, 16, 17, 18, 19, 20, 21] (by decide +kernel) (by decide +kernel)) (goodIn_sub (fun _ h => List.mem_cons_of_mem _ (List.mem_append_right _ h)) (by decide +kernel))
set_option maxRecDepth 20000 in
theorem gX6_request_X6_checkPlace : GoodIn wsX6_request (va_wsS RX6 48 yX6_checkPlace wsX6_checkPlace) := goodIn_app (goodIn_of _ (by decide +kernel)) ggX6_request_X6_checkPlace
set_option maxRecDepth 20000 in
theorem ggX6_request_X6_checkRange : GoodIn wsX6_request wsX6_checkRange := goodIn_ca (goodIn_r _ [24, 1, 2] (by decide +kernel) (by decide +kernel)) (goodIn_sub (fun _ h => List.mem_cons_of_mem _ (List.mem_append_left _ (List.mem_append_left _ (List.mem_append_right _ h)))) (by decide +kernel))
set_option maxRecDepth 20000 in
theorem gX6_request_X6_checkRange : GoodIn wsX6_request (va_wsS RX6 59 yX6_checkRange wsX6_checkRange) := goodIn_app (goodIn_of _ (by decide +kernel)) ggX6_request_X6_checkRange
set_option maxRecDepth 20000 in
theorem ggX6_request_X0_minutesBetween : GoodIn wsX6_request wsX0_minutesBetween := goodIn_r _ [28, 29, 30, 31, 19, 20, 21, 92, 93, 94, 95, 96] (by decide +kernel) (by decide +kernel)
set_option maxRecDepth 20000 in
theorem gX6_request_X0_minutesBetween : GoodIn wsX6_request (wsV RX6 84 RX0 yX0_minutesBetween wsX0_minutesBetween) := goodIn_app (goodIn_of _ (by decide +kernel)) ggX6_request_X0_minutesBetween
set_option maxRecDepth 20000 in
theorem ggX6_request_X6_zoneOf : GoodIn wsX6_request wsX6_zoneOf := goodIn_r _ [34] (by decide +kernel) (by decide +kernel)
set_option maxRecDepth 20000 in
theorem gX6_request_X6_zoneOf : GoodIn wsX6_request (va_wsS RX6 151 yX6_zoneOf wsX6_zoneOf) := goodIn_app (goodIn_of _ (by decide +kernel)) ggX6_request_X6_zoneOf
set_option maxRecDepth 20000 in
theorem ggX6_request_X6_heightOf : GoodIn wsX6_request wsX6_heightOf := goodIn_r _ [38, 6, 11, 39, 40, 41, 42, 43, 44, 45, 46, 47, 48, 32, 33, 14, 34, 49, 50, 51, 52, 53, 54, 55, 56, 70, 71, 72, 73, 74, 75, 76, 77, 78, 79, 80, 81, 82, 83, 84, 85, 86, 87, 88, 89, 90, 91, 97, 98, 99, 100, 101, 102, 103, 104, 105, 106, 107, 108, 109, 110, 111, 112, 113] (by decide +kernel) (by decide +kernel)
set_option maxRecDepth 20000 in
theorem gX6_request_X6_heightOf : GoodIn wsX6_request (wsV RX6 142 RX6 yX6_heightOf wsX6_heightOf) := goodIn_app (goodIn_of _ (by decide +kernel)) ggX6_request_X6_heightOf
set_option maxRecDepth 20000 in
theorem ggX6_request_X3_init : GoodIn wsX6_request wsX3_init := goodIn_r _ [59, 60, 61, 62, 63, 64, 65, 66, 67, 68, 69, 80, 81, 82, 83, 84, 85, 86, 87, 88, 89, 90, 91] (by decide +kernel) (by decide +kernel)
set_option maxRecDepth 20000 in
theorem gX6_request_X3_init : GoodIn wsX6_request (wsX3_init) := ggX6_request_X3_init
theorem dX6_request_0 : decode cX6_request 0 = .ok (.iload_n 1, 1) := by decide +kernel
theorem dX6_request_1 : decode cX6_request 1 = .ok (.invokestatic 48, 3) := by decide +kernel
theorem dX6_request_4 : decode cX6_request 4 = .ok (.iload_n 2, 1) := by decide +kernel
theorem dX6_request_5 : decode cX6_request 5 = .ok (.invokestatic 48, 3) := by decide +kernel
theorem dX6_request_8 : decode cX6_request 8 = .ok (.iload_n 1, 1) := by decide +kernel
theorem dX6_request_9 : decode cX6_request 9 = .ok (.iload_n 2, 1) := by decide +kernel
theorem dX6_request_10 : decode cX6_request 10 = .ok (.if_icmp .ne 13, 3) := by decide +kernel
theorem dX6_request_13 : decode cX6_request 13 = .ok (.new 52, 3) := by decide +kernel
theorem dX6_request_16 : decode cX6_request 16 = .ok (.dup, 1) := by decide +kernel
theorem dX6_request_17 : decode cX6_request 17 = .ok (.ldc 54, 2) := by decide +kernel
theorem dX6_request_19 : decode cX6_request 19 = .ok (.invokespecial 56, 3) := by decide +kernel
theorem dX6_request_22 : decode cX6_request 22 = .ok (.athrow, 1) := by decide +kernel
theorem dX6_request_23 : decode cX6_request 23 = .ok (.iload_n 3, 1) := by decide +kernel
theorem dX6_request_24 : decode cX6_request 24 = .ok (.iconst 1, 1) := by decide +kernel
theorem dX6_request_25 : decode cX6_request 25 = .ok (.bipush 60, 2) := by decide +kernel
theorem dX6_request_27 : decode cX6_request 27 = .ok (.invokestatic 59, 3) := by decide +kernel
theorem dX6_request_30 : decode cX6_request 30 = .ok (.aload_n 0, 1) := by decide +kernel
theorem dX6_request_31 : decode cX6_request 31 = .ok (.getfield 10, 3) := by decide +kernel
theorem dX6_request_34 : decode cX6_request 34 = .ok (.iload_n 1, 1) := by decide +kernel
theorem dX6_request_35 : decode cX6_request 35 = .ok (.iload_n 2, 1) := by decide +kernel
theorem dX6_request_36 : decode cX6_request 36 = .ok (.invokevirtual 84, 3) := by decide +kernel
theorem dX6_request_39 : decode cX6_request 39 = .ok (.istore 5, 2) := by decide +kernel
theorem dX6_request_41 : decode cX6_request 41 = .ok (.aload_n 0, 1) := by decide +kernel
theorem dX6_request_42 : decode cX6_request 42 = .ok (.getfield 146, 3) := by decide +kernel
theorem dX6_request_45 : decode cX6_request 45 = .ok (.bipush 60, 2) := by decide +kernel
theorem dX6_request_47 : decode cX6_request 47 = .ok (.if_icmp .ge 9, 3) := by decide +kernel
theorem dX6_request_50 : decode cX6_request 50 = .ok (.iload 5, 2) := by decide +kernel
theorem dX6_request_52 : decode cX6_request 52 = .ok (.iconst (-1), 1) := by decide +kernel
theorem dX6_request_53 : decode cX6_request 53 = .ok (.if_icmp .ne 13, 3) := by decide +kernel
theorem dX6_request_56 : decode cX6_request 56 = .ok (.new 66, 3) := by decide +kernel
theorem dX6_request_59 : decode cX6_request 59 = .ok (.dup, 1) := by decide +kernel
theorem dX6_request_60 : decode cX6_request 60 = .ok (.ldc 149, 2) := by decide +kernel
theorem dX6_request_62 : decode cX6_request 62 = .ok (.invokespecial 70, 3) := by decide +kernel
theorem dX6_request_65 : decode cX6_request 65 = .ok (.athrow, 1) := by decide +kernel
theorem dX6_request_66 : decode cX6_request 66 = .ok (.sipush 300, 3) := by decide +kernel
theorem dX6_request_69 : decode cX6_request 69 = .ok (.bipush 40, 2) := by decide +kernel
theorem dX6_request_71 : decode cX6_request 71 = .ok (.iload 5, 2) := by decide +kernel
theorem dX6_request_73 : decode cX6_request 73 = .ok (.imul, 1) := by decide +kernel
theorem dX6_request_74 : decode cX6_request 74 = .ok (.iadd, 1) := by decide +kernel
theorem dX6_request_75 : decode cX6_request 75 = .ok (.aload_n 0, 1) := by decide +kernel
theorem dX6_request_76 : decode cX6_request 76 = .ok (.iload_n 1, 1) := by decide +kernel
theorem dX6_request_77 : decode cX6_request 77 = .ok (.invokestatic 151, 3) := by decide +kernel
theorem dX6_request_80 : decode cX6_request 80 = .ok (.invokevirtual 142, 3) := by decide +kernel
theorem dX6_request_83 : decode cX6_request 83 = .ok (.imul, 1) := by decide +kernel
theorem dX6_request_84 : decode cX6_request 84 = .ok (.bipush 100, 2) := by decide +kernel
theorem dX6_request_86 : decode cX6_request 86 = .ok (.idiv, 1) := by decide +kernel
theorem dX6_request_87 : decode cX6_request 87 = .ok (.istore 6, 2) := by decide +kernel
theorem dX6_request_89 : decode cX6_request 89 = .ok (.new 22, 3) := by decide +kernel
theorem dX6_request_92 : decode cX6_request 92 = .ok (.dup, 1) := by decide +kernel
theorem dX6_request_93 : decode cX6_request 93 = .ok (.aload_n 0, 1) := by decide +kernel
theorem dX6_request_94 : decode cX6_request 94 = .ok (.getfield 146, 3) := by decide +kernel
theorem dX6_request_97 : decode cX6_request 97 = .ok (.iload_n 1, 1) := by decide +kernel
theorem dX6_request_98 : decode cX6_request 98 = .ok (.iload_n 2, 1) := by decide +kernel
theorem dX6_request_99 : decode cX6_request 99 = .ok (.iload 4, 2) := by decide +kernel
theorem dX6_request_101 : decode cX6_request 101 = .ok (.invokespecial 154, 3) := by decide +kernel
theorem dX6_request_104 : decode cX6_request 104 = .ok (.astore 7, 2) := by decide +kernel
theorem dX6_request_106 : decode cX6_request 106 = .ok (.aload 7, 2) := by decide +kernel
theorem dX6_request_108 : decode cX6_request 108 = .ok (.aload_n 0, 1) := by decide +kernel
theorem dX6_request_109 : decode cX6_request 109 = .ok (.getfield 134, 3) := by decide +kernel
theorem dX6_request_112 : decode cX6_request 112 = .ok (.iload_n 3, 1) := by decide +kernel
theorem dX6_request_113 : decode cX6_request 113 = .ok (.iadd, 1) := by decide +kernel
theorem dX6_request_114 : decode cX6_request 114 = .ok (.putfield 157, 3) := by decide +kernel
theorem dX6_request_117 : decode cX6_request 117 = .ok (.aload 7, 2) := by decide +kernel
theorem dX6_request_119 : decode cX6_request 119 = .ok (.iload 6, 2) := by decide +kernel
theorem dX6_request_121 : decode cX6_request 121 = .ok (.putfield 160, 3) := by decide +kernel
theorem dX6_request_124 : decode cX6_request 124 = .ok (.aload_n 0, 1) := by decide +kernel
theorem dX6_request_125 : decode cX6_request 125 = .ok (.getfield 24, 3) := by decide +kernel
theorem dX6_request_128 : decode cX6_request 128 = .ok (.aload_n 0, 1) := by decide +kernel
theorem dX6_request_129 : decode cX6_request 129 = .ok (.getfield 146, 3) := by decide +kernel
theorem dX6_request_132 : decode cX6_request 132 = .ok (.aload 7, 2) := by decide +kernel
theorem dX6_request_134 : decode cX6_request 134 = .ok (.aastore, 1) := by decide +kernel
theorem dX6_request_135 : decode cX6_request 135 = .ok (.aload_n 0, 1) := by decide +kernel
theorem dX6_request_136 : decode cX6_request 136 = .ok (.dup, 1) := by decide +kernel
theorem dX6_request_137 : decode cX6_request 137 = .ok (.getfield 146, 3) := by decide +kernel
theorem dX6_request_140 : decode cX6_request 140 = .ok (.iconst 1, 1) := by decide +kernel
theorem dX6_request_141 : decode cX6_request 141 = .ok (.iadd, 1) := by decide +kernel
theorem dX6_request_142 : decode cX6_request 142 = .ok (.putfield 146, 3) := by decide +kernel
theorem dX6_request_145 : decode cX6_request 145 = .ok (.aload 7, 2) := by decide +kernel
theorem dX6_request_147 : decode cX6_request 147 = .ok (.getfield 163, 3) := by decide +kernel
theorem dX6_request_150 : decode cX6_request 150 = .ok (.ireturn, 1) := by decide +kernel
set_option maxRecDepth 20000 in
theorem ggX6_cancel_X6_knownRequest : GoodIn wsX6_cancel wsX6_knownRequest := goodIn_ca (goodIn_r _ [8, 9, 10, 11, 12, 59, 60, 61, 62, 63, 64, 65, 66, 67, 68] (by decide +kernel) (by decide +kernel)) (goodIn_sub (fun _ h => List.mem_cons_of_mem _ (List.mem_append_right _ h)) (by decide +kernel))
set_option maxRecDepth 20000 in
theorem gX6_cancel_X6_knownRequest : GoodIn wsX6_cancel (wsV RX6 164 RX6 yX6_knownRequest wsX6_knownRequest) := goodIn_app (goodIn_of _ (by decide +kernel)) ggX6_cancel_X6_knownRequest
set_option maxRecDepth 20000 in
theorem ggX6_cancel_X4_dropRider : GoodIn wsX6_cancel wsX4_dropRider := goodIn_r _ [17, 18, 19, 20, 21, 22, 23, 16, 24, 25, 26, 27, 28, 29, 30, 31, 32, 33, 69, 70, 71, 72] (by decide +kernel) (by decide +kernel)
set_option maxRecDepth 20000 in
theorem gX6_cancel_X4_dropRider : GoodIn wsX6_cancel (wsV RX6 177 RX4 yX4_dropRider wsX4_dropRider) := goodIn_app (goodIn_of _ (by decide +kernel)) ggX6_cancel_X4_dropRider
