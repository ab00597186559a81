set_option maxRecDepth 20000 in
theorem ggX0_init_X3_init : GoodIn wsX0_init wsX3_init := goodIn_r _ [18, 19, 2, 3, 20, 21, 22, 23, 24, 25, 26, 27, 28, 29, 30, 62, 63, 50, 51, 52] (by decide +kernel) (by decide +kernel)
set_option maxRecDepth 20000 in
theorem gX0_init_X3_init_n11 : GoodIn wsX0_init (wsX3_init) := ggX0_init_X3_init
set_option maxRecDepth 20000 in
theorem ggX0_init_X5_init : GoodIn wsX0_init wsX5_init := goodIn_r _ [32, 33, 2, 3, 34, 21, 22, 35, 36, 26, 27, 28, 29, 30, 62, 63, 57, 58, 59] (by decide +kernel) (by decide +kernel)
set_option maxRecDepth 20000 in
theorem gX0_init_X5_init_n20 : GoodIn wsX0_init (wsX5_init) := ggX0_init_X5_init
set_option maxRecDepth 20000 in
theorem ggX0_init_X1_init : GoodIn wsX0_init wsX1_init := goodIn_r _ [38, 39, 2, 3, 40, 41, 42, 43, 44, 45, 46, 47, 48, 21, 22, 49, 26, 27, 28, 29, 30, 64, 60, 61, 62, 63] (by decide +kernel) (by decide +kernel)
set_option maxRecDepth 20000 in
theorem gX0_init_X1_init_n27 : GoodIn wsX0_init (wsX1_init) := ggX0_init_X1_init
theorem dX0_init_0 : decode cX0_init 0 = .ok (.aload_n 0, 1) := by decide +kernel
theorem dX0_init_1 : decode cX0_init 1 = .ok (.invokespecial 3, 3) := by decide +kernel
theorem dX0_init_4 : decode cX0_init 4 = .ok (.aload_n 0, 1) := by decide +kernel
theorem dX0_init_5 : decode cX0_init 5 = .ok (.new 9, 3) := by decide +kernel
theorem dX0_init_8 : decode cX0_init 8 = .ok (.dup, 1) := by decide +kernel
theorem dX0_init_9 : decode cX0_init 9 = .ok (.invokespecial 11, 3) := by decide +kernel
theorem dX0_init_12 : decode cX0_init 12 = .ok (.putfield 12, 3) := by decide +kernel
theorem dX0_init_15 : decode cX0_init 15 = .ok (.aload_n 0, 1) := by decide +kernel
theorem dX0_init_16 : decode cX0_init 16 = .ok (.new 18, 3) := by decide +kernel
theorem dX0_init_19 : decode cX0_init 19 = .ok (.dup, 1) := by decide +kernel
theorem dX0_init_20 : decode cX0_init 20 = .ok (.invokespecial 20, 3) := by decide +kernel
theorem dX0_init_23 : decode cX0_init 23 = .ok (.putfield 21, 3) := by decide +kernel
theorem dX0_init_26 : decode cX0_init 26 = .ok (.aload_n 0, 1) := by decide +kernel
theorem dX0_init_27 : decode cX0_init 27 = .ok (.new 25, 3) := by decide +kernel
theorem dX0_init_30 : decode cX0_init 30 = .ok (.dup, 1) := by decide +kernel
theorem dX0_init_31 : decode cX0_init 31 = .ok (.invokespecial 27, 3) := by decide +kernel
theorem dX0_init_34 : decode cX0_init 34 = .ok (.putfield 28, 3) := by decide +kernel
theorem dX0_init_37 : decode cX0_init 37 = .ok (.aload_n 0, 1) := by decide +kernel
theorem dX0_init_38 : decode cX0_init 38 = .ok (.bipush 50, 2) := by decide +kernel
theorem dX0_init_40 : decode cX0_init 40 = .ok (.putfield 32, 3) := by decide +kernel
theorem dX0_init_43 : decode cX0_init 43 = .ok (.return_, 1) := by decide +kernel
set_option maxRecDepth 20000 in
theorem ggX0_beginAnew_X3_clear : GoodIn wsX0_beginAnew wsX3_clear := goodIn_r _ [9, 10, 11, 12, 8, 13, 14, 15, 16, 17, 18, 19, 20, 21, 22, 50, 51, 52, 53, 54] (by decide +kernel) (by decide +kernel)
set_option maxRecDepth 20000 in
theorem gX0_beginAnew_X3_clear : GoodIn wsX0_beginAnew (wsV RX0 36 RX3 yX3_clear wsX3_clear) := goodIn_app (goodIn_of _ (by decide +kernel)) ggX0_beginAnew_X3_clear
set_option maxRecDepth 20000 in
theorem ggX0_beginAnew_X5_clear : GoodIn wsX0_beginAnew wsX5_clear := goodIn_r _ [27, 28, 29, 30, 31, 18, 19, 20, 21, 22, 55, 56, 57, 53, 54] (by decide +kernel) (by decide +kernel)
set_option maxRecDepth 20000 in
theorem gX0_beginAnew_X5_clear : GoodIn wsX0_beginAnew (wsV RX0 39 RX5 yX5_clear wsX5_clear) := goodIn_app (goodIn_of _ (by decide +kernel)) ggX0_beginAnew_X5_clear
set_option maxRecDepth 20000 in
theorem ggX0_beginAnew_X1_clear : GoodIn wsX0_beginAnew wsX1_clear := goodIn_r _ [36, 37, 38, 39, 40, 41, 42, 43, 44, 45, 18, 19, 20, 21, 22, 58, 59, 60, 53, 54] (by decide +kernel) (by decide +kernel)
set_option maxRecDepth 20000 in
theorem gX0_beginAnew_X1_clear : GoodIn wsX0_beginAnew (wsV RX0 40 RX1 yX1_clear wsX1_clear) := goodIn_app (goodIn_of _ (by decide +kernel)) ggX0_beginAnew_X1_clear
theorem dX0_beginAnew_0 : decode cX0_beginAnew 0 = .ok (.aload_n 0, 1) := by decide +kernel
theorem dX0_beginAnew_1 : decode cX0_beginAnew 1 = .ok (.iload_n 1, 1) := by decide +kernel
theorem dX0_beginAnew_2 : decode cX0_beginAnew 2 = .ok (.putfield 32, 3) := by decide +kernel
theorem dX0_beginAnew_5 : decode cX0_beginAnew 5 = .ok (.aload_n 0, 1) := by decide +kernel
theorem dX0_beginAnew_6 : decode cX0_beginAnew 6 = .ok (.getfield 12, 3) := by decide +kernel
theorem dX0_beginAnew_9 : decode cX0_beginAnew 9 = .ok (.invokevirtual 36, 3) := by decide +kernel
theorem dX0_beginAnew_12 : decode cX0_beginAnew 12 = .ok (.aload_n 0, 1) := by decide +kernel
theorem dX0_beginAnew_13 : decode cX0_beginAnew 13 = .ok (.getfield 21, 3) := by decide +kernel
theorem dX0_beginAnew_16 : decode cX0_beginAnew 16 = .ok (.invokevirtual 39, 3) := by decide +kernel
theorem dX0_beginAnew_19 : decode cX0_beginAnew 19 = .ok (.aload_n 0, 1) := by decide +kernel
theorem dX0_beginAnew_20 : decode cX0_beginAnew 20 = .ok (.getfield 28, 3) := by decide +kernel
theorem dX0_beginAnew_23 : decode cX0_beginAnew 23 = .ok (.invokevirtual 40, 3) := by decide +kernel
theorem dX0_beginAnew_26 : decode cX0_beginAnew 26 = .ok (.return_, 1) := by decide +kernel
set_option maxRecDepth 20000 in
theorem ggX0_demandRoomFor_X5_total : GoodIn wsX0_demandRoomFor wsX5_total := goodIn_r _ [8, 9, 14, 15, 16] (by decide +kernel) (by decide +kernel)
set_option maxRecDepth 20000 in
theorem gX0_demandRoomFor_X5_total : GoodIn wsX0_demandRoomFor (wsV RX0 41 RX5 yX5_total wsX5_total) := goodIn_app (goodIn_of _ (by decide +kernel)) ggX0_demandRoomFor_X5_total
theorem dX0_demandRoomFor_0 : decode cX0_demandRoomFor 0 = .ok (.aload_n 0, 1) := by decide +kernel
theorem dX0_demandRoomFor_1 : decode cX0_demandRoomFor 1 = .ok (.getfield 21, 3) := by decide +kernel
theorem dX0_demandRoomFor_4 : decode cX0_demandRoomFor 4 = .ok (.invokevirtual 41, 3) := by decide +kernel
theorem dX0_demandRoomFor_7 : decode cX0_demandRoomFor 7 = .ok (.iload_n 1, 1) := by decide +kernel
theorem dX0_demandRoomFor_8 : decode cX0_demandRoomFor 8 = .ok (.iadd, 1) := by decide +kernel
theorem dX0_demandRoomFor_9 : decode cX0_demandRoomFor 9 = .ok (.sipush 600, 3) := by decide +kernel
theorem dX0_demandRoomFor_12 : decode cX0_demandRoomFor 12 = .ok (.if_icmp .le 13, 3) := by decide +kernel
theorem dX0_demandRoomFor_15 : decode cX0_demandRoomFor 15 = .ok (.new 45, 3) := by decide +kernel
theorem dX0_demandRoomFor_18 : decode cX0_demandRoomFor 18 = .ok (.dup, 1) := by decide +kernel
theorem dX0_demandRoomFor_19 : decode cX0_demandRoomFor 19 = .ok (.ldc 47, 2) := by decide +kernel
theorem dX0_demandRoomFor_21 : decode cX0_demandRoomFor 21 = .ok (.invokespecial 49, 3) := by decide +kernel
theorem dX0_demandRoomFor_24 : decode cX0_demandRoomFor 24 = .ok (.athrow, 1) := by decide +kernel
theorem dX0_demandRoomFor_25 : decode cX0_demandRoomFor 25 = .ok (.return_, 1) := by decide +kernel
set_option maxRecDepth 20000 in
theorem ggX0_demandNumbers_X5_total : GoodIn wsX0_demandNumbers wsX5_total := goodIn_r _ [8, 9, 14, 15, 16] (by decide +kernel) (by decide +kernel)
set_option maxRecDepth 20000 in
theorem gX0_demandNumbers_X5_total : GoodIn wsX0_demandNumbers (wsV RX0 41 RX5 yX5_total wsX5_total) := goodIn_app (goodIn_of _ (by decide +kernel)) ggX0_demandNumbers_X5_total
theorem dX0_demandNumbers_0 : decode cX0_demandNumbers 0 = .ok (.aload_n 0, 1) := by decide +kernel
theorem dX0_demandNumbers_1 : decode cX0_demandNumbers 1 = .ok (.getfield 21, 3) := by decide +kernel
theorem dX0_demandNumbers_4 : decode cX0_demandNumbers 4 = .ok (.invokevirtual 41, 3) := by decide +kernel
theorem dX0_demandNumbers_7 : decode cX0_demandNumbers 7 = .ok (.ifCond .gt 13, 3) := by decide +kernel
theorem dX0_demandNumbers_10 : decode cX0_demandNumbers 10 = .ok (.new 45, 3) := by decide +kernel
theorem dX0_demandNumbers_13 : decode cX0_demandNumbers 13 = .ok (.dup, 1) := by decide +kernel
theorem dX0_demandNumbers_14 : decode cX0_demandNumbers 14 = .ok (.ldc 52, 2) := by decide +kernel
theorem dX0_demandNumbers_16 : decode cX0_demandNumbers 16 = .ok (.invokespecial 49, 3) := by decide +kernel
theorem dX0_demandNumbers_19 : decode cX0_demandNumbers 19 = .ok (.athrow, 1) := by decide +kernel
theorem dX0_demandNumbers_20 : decode cX0_demandNumbers 20 = .ok (.return_, 1) := by decide +kernel
set_option maxRecDepth 20000 in
theorem ggX0_allowed_X5_total : GoodIn wsX0_allowed wsX5_total := goodIn_r _ [7, 8, 13, 14, 15] (by decide +kernel) (by decide +kernel)
set_option maxRecDepth 20000 in
theorem gX0_allowed_X5_total : GoodIn wsX0_allowed (wsV RX0 41 RX5 yX5_total wsX5_total) := goodIn_app (goodIn_of _ (by decide +kernel)) ggX0_allowed_X5_total
theorem dX0_allowed_0 : decode cX0_allowed 0 = .ok (.iconst 2, 1) := by decide +kernel
theorem dX0_allowed_1 : decode cX0_allowed 1 = .ok (.aload_n 0, 1) := by decide +kernel
theorem dX0_allowed_2 : decode cX0_allowed 2 = .ok (.getfield 32, 3) := by decide +kernel
theorem dX0_allowed_5 : decode cX0_allowed 5 = .ok (.imul, 1) := by decide +kernel
theorem dX0_allowed_6 : decode cX0_allowed 6 = .ok (.aload_n 0, 1) := by decide +kernel
theorem dX0_allowed_7 : decode cX0_allowed 7 = .ok (.getfield 21, 3) := by decide +kernel
theorem dX0_allowed_10 : decode cX0_allowed 10 = .ok (.invokevirtual 41, 3) := by decide +kernel
theorem dX0_allowed_13 : decode cX0_allowed 13 = .ok (.imul, 1) := by decide +kernel
theorem dX0_allowed_14 : decode cX0_allowed 14 = .ok (.sipush 1000, 3) := by decide +kernel
theorem dX0_allowed_17 : decode cX0_allowed 17 = .ok (.idiv, 1) := by decide +kernel
theorem dX0_allowed_18 : decode cX0_allowed 18 = .ok (.ireturn, 1) := by decide +kernel
set_option maxRecDepth 20000 in
theorem ggX0_rankAt_X5_total : GoodIn wsX0_rankAt wsX5_total := goodIn_r _ [10, 11, 16, 17, 18] (by decide +kernel) (by decide +kernel)
set_option maxRecDepth 20000 in
theorem gX0_rankAt_X5_total : GoodIn wsX0_rankAt (wsV RX0 41 RX5 yX5_total wsX5_total) := goodIn_app (goodIn_of _ (by decide +kernel)) ggX0_rankAt_X5_total
theorem dX0_rankAt_0 : decode cX0_rankAt 0 = .ok (.iconst 1, 1) := by decide +kernel
theorem dX0_rankAt_1 : decode cX0_rankAt 1 = .ok (.iload_n 1, 1) := by decide +kernel
theorem dX0_rankAt_2 : decode cX0_rankAt 2 = .ok (.aload_n 0, 1) := by decide +kernel
theorem dX0_rankAt_3 : decode cX0_rankAt 3 = .ok (.getfield 21, 3) := by decide +kernel
theorem dX0_rankAt_6 : decode cX0_rankAt 6 = .ok (.invokevirtual 41, 3) := by decide +kernel
theorem dX0_rankAt_9 : decode cX0_rankAt 9 = .ok (.imul, 1) := by decide +kernel
theorem dX0_rankAt_10 : decode cX0_rankAt 10 = .ok (.sipush 1000, 3) := by decide +kernel
theorem dX0_rankAt_13 : decode cX0_rankAt 13 = .ok (.iadd, 1) := by decide +kernel
theorem dX0_rankAt_14 : decode cX0_rankAt 14 = .ok (.iconst 1, 1) := by decide +kernel
theorem dX0_rankAt_15 : decode cX0_rankAt 15 = .ok (.isub, 1) := by decide +kernel
theorem dX0_rankAt_16 : decode cX0_rankAt 16 = .ok (.sipush 1000, 3) := by decide +kernel
theorem dX0_rankAt_19 : decode cX0_rankAt 19 = .ok (.idiv, 1) := by decide +kernel
theorem dX0_rankAt_20 : decode cX0_rankAt 20 = .ok (.invokestatic 54, 3) := by decide +kernel
theorem dX0_rankAt_23 : decode cX0_rankAt 23 = .ok (.ireturn, 1) := by decide +kernel
set_option maxRecDepth 20000 in
theorem ggX0_take_X3_add : GoodIn wsX0_take wsX3_add := goodIn_r _ [8, 9, 10, 11, 12, 13, 14, 7, 15, 16, 17, 18, 19, 20, 21, 22, 23, 24, 25, 26, 27, 28, 29, 30, 31, 32, 33, 34, 35, 36, 37, 38, 39, 40, 41, 42, 43, 44, 45, 46, 47, 48, 49, 50, 51, 109, 110, 111, 112, 113] (by decide +kernel) (by decide +kernel)
set_option maxRecDepth 20000 in
theorem gX0_take_X3_add : GoodIn wsX0_take (wsV RX0 60 RX3 yX3_add wsX3_add) := goodIn_app (goodIn_of _ (by decide +kernel)) ggX0_take_X3_add
set_option maxRecDepth 20000 in
theorem ggX0_take_X5_add : GoodIn wsX0_take wsX5_add := goodIn_r _ [56, 57, 58, 59, 60, 17, 18, 19, 20, 21, 22, 23, 24, 25, 26, 27, 28, 29, 30, 61, 62, 63, 64, 65, 66, 45, 46, 47, 48, 49, 50, 51, 114, 115, 116, 112, 113] (by decide +kernel) (by decide +kernel)
set_option maxRecDepth 20000 in
theorem gX0_take_X5_add : GoodIn wsX0_take (wsV RX0 64 RX5 yX5_add wsX5_add) := goodIn_app (goodIn_of _ (by decide +kernel)) ggX0_take_X5_add
set_option maxRecDepth 20000 in
theorem ggX0_take_X1_add : GoodIn wsX0_take wsX1_add := goodIn_r _ [71, 72, 73, 74, 75, 76, 77, 78, 79, 80, 36, 37, 19, 38, 21, 81, 82, 83, 70, 84, 85, 86, 87, 88, 89, 23, 24, 25, 26, 27, 28, 29, 30, 90, 91, 92, 93, 94, 45, 46, 47, 48, 49, 50, 51, 95, 63, 64, 65, 96, 97, 98, 99, 100, 101, 102, 103, 104, 117, 118, 119, 112, 113] (by decide +kernel) (by decide +kernel)
set_option maxRecDepth 20000 in
theorem gX0_take_X1_add : GoodIn wsX0_take (wsV RX0 67 RX1 yX1_add wsX1_add) := goodIn_app (goodIn_of _ (by decide +kernel)) ggX0_take_X1_add
theorem dX0_take_0 : decode cX0_take 0 = .ok (.aload_n 0, 1) := by decide +kernel
theorem dX0_take_1 : decode cX0_take 1 = .ok (.getfield 12, 3) := by decide +kernel
theorem dX0_take_4 : decode cX0_take 4 = .ok (.iload_n 1, 1) := by decide +kernel
theorem dX0_take_5 : decode cX0_take 5 = .ok (.invokevirtual 60, 3) := by decide +kernel
theorem dX0_take_8 : decode cX0_take 8 = .ok (.aload_n 0, 1) := by decide +kernel
theorem dX0_take_9 : decode cX0_take 9 = .ok (.getfield 21, 3) := by decide +kernel
theorem dX0_take_12 : decode cX0_take 12 = .ok (.iload_n 1, 1) := by decide +kernel
theorem dX0_take_13 : decode cX0_take 13 = .ok (.iconst 1, 1) := by decide +kernel
theorem dX0_take_14 : decode cX0_take 14 = .ok (.invokevirtual 64, 3) := by decide +kernel
theorem dX0_take_17 : decode cX0_take 17 = .ok (.aload_n 0, 1) := by decide +kernel
theorem dX0_take_18 : decode cX0_take 18 = .ok (.getfield 28, 3) := by decide +kernel
theorem dX0_take_21 : decode cX0_take 21 = .ok (.iload_n 1, 1) := by decide +kernel
theorem dX0_take_22 : decode cX0_take 22 = .ok (.invokevirtual 67, 3) := by decide +kernel
theorem dX0_take_25 : decode cX0_take 25 = .ok (.return_, 1) := by decide +kernel
set_option maxRecDepth 20000 in
theorem ggX0_takeAll_X3_mergeWith : GoodIn wsX0_takeAll wsX3_mergeWith := goodIn_r _ [13, 14, 15, 16, 17, 18, 19, 12, 20, 21, 22, 23, 24, 25, 26, 27, 28, 29, 30, 31, 32, 33, 34, 35, 36, 37, 38, 39, 40, 41, 42, 43, 44, 45, 46, 47, 48, 49, 50, 51, 52, 53, 54, 55, 134, 135, 136, 137, 138] (by decide +kernel) (by decide +kernel)
set_option maxRecDepth 20000 in
theorem gX0_takeAll_X3_mergeWith : GoodIn wsX0_takeAll (wsV RX0 68 RX3 yX3_mergeWith wsX3_mergeWith) := goodIn_app (goodIn_of _ (by decide +kernel)) ggX0_takeAll_X3_mergeWith
set_option maxRecDepth 20000 in
theorem ggX0_takeAll_X5_kinds : GoodIn wsX0_takeAll wsX5_kinds := goodIn_r _ [60, 61, 62, 22, 23, 24, 25, 26, 139, 140, 141, 137, 138] (by decide +kernel) (by decide +kernel)
set_option maxRecDepth 20000 in
theorem gX0_takeAll_X5_kinds : GoodIn wsX0_takeAll (wsV RX0 72 RX5 yX5_kinds wsX5_kinds) := goodIn_app (goodIn_of _ (by decide +kernel)) ggX0_takeAll_X5_kinds
set_option maxRecDepth 20000 in
theorem ggX0_takeAll_X5_numberAt : GoodIn wsX0_takeAll wsX5_numberAt := goodIn_r _ [66, 61, 67, 28, 29, 24, 30, 31, 32, 33, 34, 35, 26, 139, 140, 141, 137, 138] (by decide +kernel) (by decide +kernel)
set_option maxRecDepth 20000 in
theorem gX0_takeAll_X5_numberAt : GoodIn wsX0_takeAll (wsV RX0 75 RX5 yX5_numberAt wsX5_numberAt) := goodIn_app (goodIn_of _ (by decide +kernel)) ggX0_takeAll_X5_numberAt
set_option maxRecDepth 20000 in
theorem ggX0_takeAll_X5_timesAt : GoodIn wsX0_takeAll wsX5_timesAt := goodIn_r _ [71, 72, 67, 28, 29, 24, 30, 31, 32, 33, 34, 35, 26, 139, 140, 141, 137, 138] (by decide +kernel) (by decide +kernel)
set_option maxRecDepth 20000 in
theorem gX0_takeAll_X5_timesAt : GoodIn wsX0_takeAll (wsV RX0 79 RX5 yX5_timesAt wsX5_timesAt) := goodIn_app (goodIn_of _ (by decide +kernel)) ggX0_takeAll_X5_timesAt
set_option maxRecDepth 20000 in
theorem ggX0_takeAll_X5_add : GoodIn wsX0_takeAll wsX5_add := goodIn_r _ [76, 61, 72, 77, 78, 79, 80, 24, 81, 26, 82, 28, 29, 30, 31, 32, 33, 34, 35, 67, 83, 49, 50, 51, 84, 85, 86, 87, 88, 89, 90, 91, 139, 140, 141, 137, 138] (by decide +kernel) (by decide +kernel)
set_option maxRecDepth 20000 in
theorem gX0_takeAll_X5_add : GoodIn wsX0_takeAll (wsV RX0 64 RX5 yX5_add wsX5_add) := goodIn_app (goodIn_of _ (by decide +kernel)) ggX0_takeAll_X5_add
set_option maxRecDepth 20000 in
theorem ggX0_takeAll_X1_add : GoodIn wsX0_takeAll wsX1_add := goodIn_r _ [96, 97, 98, 99, 100, 101, 102, 103, 104, 105, 22, 23, 24, 25, 26, 106, 107, 108, 95, 109, 110, 111, 112, 113, 114, 28, 29, 30, 31, 32, 33, 34, 35, 115, 116, 117, 118, 119, 85, 86, 87, 88, 89, 90, 91, 120, 49, 50, 51, 121, 122, 123, 124, 125, 126, 127, 128, 129, 142, 143, 144, 137, 138] (by decide +kernel) (by decide +kernel)
set_option maxRecDepth 20000 in
theorem gX0_takeAll_X1_add : GoodIn wsX0_takeAll (wsV RX0 67 RX1 yX1_add wsX1_add) := goodIn_app (goodIn_of _ (by decide +kernel)) ggX0_takeAll_X1_add
theorem dX0_takeAll_0 : decode cX0_takeAll 0 = .ok (.aload_n 0, 1) := by decide +kernel
theorem dX0_takeAll_1 : decode cX0_takeAll 1 = .ok (.aload_n 0, 1) := by decide +kernel
theorem dX0_takeAll_2 : decode cX0_takeAll 2 = .ok (.getfield 32, 3) := by decide +kernel
theorem dX0_takeAll_5 : decode cX0_takeAll 5 = .ok (.aload_n 1, 1) := by decide +kernel
theorem dX0_takeAll_6 : decode cX0_takeAll 6 = .ok (.getfield 32, 3) := by decide +kernel
theorem dX0_takeAll_9 : decode cX0_takeAll 9 = .ok (.invokestatic 54, 3) := by decide +kernel
theorem dX0_takeAll_12 : decode cX0_takeAll 12 = .ok (.putfield 32, 3) := by decide +kernel
theorem dX0_takeAll_15 : decode cX0_takeAll 15 = .ok (.aload_n 0, 1) := by decide +kernel
theorem dX0_takeAll_16 : decode cX0_takeAll 16 = .ok (.getfield 12, 3) := by decide +kernel
theorem dX0_takeAll_19 : decode cX0_takeAll 19 = .ok (.aload_n 1, 1) := by decide +kernel
theorem dX0_takeAll_20 : decode cX0_takeAll 20 = .ok (.getfield 12, 3) := by decide +kernel
theorem dX0_takeAll_23 : decode cX0_takeAll 23 = .ok (.invokevirtual 68, 3) := by decide +kernel
theorem dX0_takeAll_26 : decode cX0_takeAll 26 = .ok (.iconst 0, 1) := by decide +kernel
theorem dX0_takeAll_27 : decode cX0_takeAll 27 = .ok (.istore_n 2, 1) := by decide +kernel
theorem dX0_takeAll_28 : decode cX0_takeAll 28 = .ok (.iload_n 2, 1) := by decide +kernel
theorem dX0_takeAll_29 : decode cX0_takeAll 29 = .ok (.aload_n 1, 1) := by decide +kernel
theorem dX0_takeAll_30 : decode cX0_takeAll 30 = .ok (.getfield 21, 3) := by decide +kernel
theorem dX0_takeAll_33 : decode cX0_takeAll 33 = .ok (.invokevirtual 72, 3) := by decide +kernel
theorem dX0_takeAll_36 : decode cX0_takeAll 36 = .ok (.if_icmp .ge 62, 3) := by decide +kernel
theorem dX0_takeAll_39 : decode cX0_takeAll 39 = .ok (.aload_n 1, 1) := by decide +kernel
theorem dX0_takeAll_40 : decode cX0_takeAll 40 = .ok (.getfield 21, 3) := by decide +kernel
theorem dX0_takeAll_43 : decode cX0_takeAll 43 = .ok (.iload_n 2, 1) := by decide +kernel
theorem dX0_takeAll_44 : decode cX0_takeAll 44 = .ok (.invokevirtual 75, 3) := by decide +kernel
theorem dX0_takeAll_47 : decode cX0_takeAll 47 = .ok (.istore_n 3, 1) := by decide +kernel
theorem dX0_takeAll_48 : decode cX0_takeAll 48 = .ok (.aload_n 1, 1) := by decide +kernel
theorem dX0_takeAll_49 : decode cX0_takeAll 49 = .ok (.getfield 21, 3) := by decide +kernel
theorem dX0_takeAll_52 : decode cX0_takeAll 52 = .ok (.iload_n 2, 1) := by decide +kernel
theorem dX0_takeAll_53 : decode cX0_takeAll 53 = .ok (.invokevirtual 79, 3) := by decide +kernel
theorem dX0_takeAll_56 : decode cX0_takeAll 56 = .ok (.istore 4, 2) := by decide +kernel
theorem dX0_takeAll_58 : decode cX0_takeAll 58 = .ok (.aload_n 0, 1) := by decide +kernel
theorem dX0_takeAll_59 : decode cX0_takeAll 59 = .ok (.getfield 21, 3) := by decide +kernel
theorem dX0_takeAll_62 : decode cX0_takeAll 62 = .ok (.iload_n 3, 1) := by decide +kernel
theorem dX0_takeAll_63 : decode cX0_takeAll 63 = .ok (.iload 4, 2) := by decide +kernel
theorem dX0_takeAll_65 : decode cX0_takeAll 65 = .ok (.invokevirtual 64, 3) := by decide +kernel
theorem dX0_takeAll_68 : decode cX0_takeAll 68 = .ok (.iconst 0, 1) := by decide +kernel
theorem dX0_takeAll_69 : decode cX0_takeAll 69 = .ok (.istore 5, 2) := by decide +kernel
theorem dX0_takeAll_71 : decode cX0_takeAll 71 = .ok (.iload 5, 2) := by decide +kernel
theorem dX0_takeAll_73 : decode cX0_takeAll 73 = .ok (.iload 4, 2) := by decide +kernel
theorem dX0_takeAll_75 : decode cX0_takeAll 75 = .ok (.if_icmp .ge 17, 3) := by decide +kernel
theorem dX0_takeAll_78 : decode cX0_takeAll 78 = .ok (.aload_n 0, 1) := by decide +kernel
theorem dX0_takeAll_79 : decode cX0_takeAll 79 = .ok (.getfield 28, 3) := by decide +kernel
theorem dX0_takeAll_82 : decode cX0_takeAll 82 = .ok (.iload_n 3, 1) := by decide +kernel
theorem dX0_takeAll_83 : decode cX0_takeAll 83 = .ok (.invokevirtual 67, 3) := by decide +kernel
theorem dX0_takeAll_86 : decode cX0_takeAll 86 = .ok (.iinc 5 1, 3) := by decide +kernel
theorem dX0_takeAll_89 : decode cX0_takeAll 89 = .ok (.goto (-18), 3) := by decide +kernel
theorem dX0_takeAll_92 : decode cX0_takeAll 92 = .ok (.iinc 2 1, 3) := by decide +kernel
theorem dX0_takeAll_95 : decode cX0_takeAll 95 = .ok (.goto (-67), 3) := by decide +kernel
theorem dX0_takeAll_98 : decode cX0_takeAll 98 = .ok (.return_, 1) := by decide +kernel
set_option maxRecDepth 20000 in
theorem ggX1_init_X2_init : GoodIn wsX1_init wsX2_init := goodIn_r _ [10, 11, 2, 3, 12, 13, 14, 15, 16, 17, 18, 19, 20, 24, 25, 21] (by decide +kernel) (by decide +kernel)
set_option maxRecDepth 20000 in
theorem gX1_init_X2_init_n9 : GoodIn wsX1_init (wsX2_init) := ggX1_init_X2_init
theorem dX1_init_0 : decode cX1_init 0 = .ok (.aload_n 0, 1) := by decide +kernel
theorem dX1_init_1 : decode cX1_init 1 = .ok (.invokespecial 1, 3) := by decide +kernel
theorem dX1_init_4 : decode cX1_init 4 = .ok (.aload_n 0, 1) := by decide +kernel
theorem dX1_init_5 : decode cX1_init 5 = .ok (.new 7, 3) := by decide +kernel
theorem dX1_init_8 : decode cX1_init 8 = .ok (.dup, 1) := by decide +kernel
theorem dX1_init_9 : decode cX1_init 9 = .ok (.invokespecial 9, 3) := by decide +kernel
theorem dX1_init_12 : decode cX1_init 12 = .ok (.putfield 10, 3) := by decide +kernel
theorem dX1_init_15 : decode cX1_init 15 = .ok (.aload_n 0, 1) := by decide +kernel
theorem dX1_init_16 : decode cX1_init 16 = .ok (.new 7, 3) := by decide +kernel
theorem dX1_init_19 : decode cX1_init 19 = .ok (.dup, 1) := by decide +kernel
theorem dX1_init_20 : decode cX1_init 20 = .ok (.invokespecial 9, 3) := by decide +kernel
theorem dX1_init_23 : decode cX1_init 23 = .ok (.putfield 16, 3) := by decide +kernel
theorem dX1_init_26 : decode cX1_init 26 = .ok (.return_, 1) := by decide +kernel
set_option maxRecDepth 20000 in
theorem ggX1_clear_X2_clear : GoodIn wsX1_clear wsX2_clear := goodIn_r _ [7, 8, 9, 10, 11, 12, 13, 14, 17, 18, 19] (by decide +kernel) (by decide +kernel)
set_option maxRecDepth 20000 in
theorem gX1_clear_X2_clear : GoodIn wsX1_clear (wsV RX1 19 RX2 yX2_clear wsX2_clear) := goodIn_app (goodIn_of _ (by decide +kernel)) ggX1_clear_X2_clear
theorem dX1_clear_0 : decode cX1_clear 0 = .ok (.aload_n 0, 1) := by decide +kernel
theorem dX1_clear_1 : decode cX1_clear 1 = .ok (.getfield 10, 3) := by decide +kernel
theorem dX1_clear_4 : decode cX1_clear 4 = .ok (.invokevirtual 19, 3) := by decide +kernel
theorem dX1_clear_7 : decode cX1_clear 7 = .ok (.aload_n 0, 1) := by decide +kernel
theorem dX1_clear_8 : decode cX1_clear 8 = .ok (.getfield 16, 3) := by decide +kernel
theorem dX1_clear_11 : decode cX1_clear 11 = .ok (.invokevirtual 19, 3) := by decide +kernel
theorem dX1_clear_14 : decode cX1_clear 14 = .ok (.return_, 1) := by decide +kernel
set_option maxRecDepth 20000 in
theorem ggX1_greatestOfLesser_X2_least : GoodIn wsX1_greatestOfLesser wsX2_least := goodIn_r _ [6, 7, 8, 9, 10, 11, 12, 13, 14, 15, 16, 17, 18, 21, 22, 23] (by decide +kernel) (by decide +kernel)
set_option maxRecDepth 20000 in
theorem gX1_greatestOfLesser_X2_least : GoodIn wsX1_greatestOfLesser (wsV RX1 22 RX2 yX2_least wsX2_least) := goodIn_app (goodIn_of _ (by decide +kernel)) ggX1_greatestOfLesser_X2_least
theorem dX1_greatestOfLesser_0 : decode cX1_greatestOfLesser 0 = .ok (.aload_n 0, 1) := by decide +kernel
theorem dX1_greatestOfLesser_1 : decode cX1_greatestOfLesser 1 = .ok (.getfield 10, 3) := by decide +kernel
theorem dX1_greatestOfLesser_4 : decode cX1_greatestOfLesser 4 = .ok (.invokevirtual 22, 3) := by decide +kernel
theorem dX1_greatestOfLesser_7 : decode cX1_greatestOfLesser 7 = .ok (.ineg, 1) := by decide +kernel
theorem dX1_greatestOfLesser_8 : decode cX1_greatestOfLesser 8 = .ok (.ireturn, 1) := by decide +kernel
set_option maxRecDepth 20000 in
theorem ggX1_add_X2_size : GoodIn wsX1_add wsX2_size := goodIn_r _ [7, 8, 9, 10, 11, 12, 13, 14, 60, 61, 62] (by decide +kernel) (by decide +kernel)
set_option maxRecDepth 20000 in
theorem gX1_add_X2_size : GoodIn wsX1_add (wsV RX1 26 RX2 yX2_size wsX2_size) := goodIn_app (goodIn_of _ (by decide +kernel)) ggX1_add_X2_size
set_option maxRecDepth 20000 in
theorem ggX1_add_X1_greatestOfLesser : GoodIn wsX1_add wsX1_greatestOfLesser := goodIn_r _ [19, 1, 20, 21, 22, 6, 23, 8, 24, 25, 26, 12, 27, 28, 29, 30, 31, 32, 14, 58, 59, 60, 61, 62] (by decide +kernel) (by decide +kernel)
set_option maxRecDepth 20000 in
theorem gX1_add_X1_greatestOfLesser : GoodIn wsX1_add (wsV RX1 29 RX1 yX1_greatestOfLesser wsX1_greatestOfLesser) := goodIn_app (goodIn_of _ (by decide +kernel)) ggX1_add_X1_greatestOfLesser
set_option maxRecDepth 20000 in
theorem ggX1_add_X2_push : GoodIn wsX1_add wsX2_push := goodIn_r _ [36, 8, 9, 10, 11, 12, 13, 14, 37, 38, 39, 40, 28, 41, 42, 43, 44, 24, 25, 26, 27, 29, 30, 31, 32, 45, 46, 47, 48, 60, 61, 62] (by decide +kernel) (by decide +kernel)
set_option maxRecDepth 20000 in
theorem gX1_add_X2_push : GoodIn wsX1_add (wsV RX1 32 RX2 yX2_push wsX2_push) := goodIn_app (goodIn_of _ (by decide +kernel)) ggX1_add_X2_push
set_option maxRecDepth 20000 in
theorem ggX1_add_X2_pop : GoodIn wsX1_add wsX2_pop := goodIn_r _ [52, 8, 53, 21, 22, 6, 23, 24, 25, 26, 12, 27, 28, 29, 30, 31, 32, 14, 9, 10, 11, 13, 54, 55, 56, 57, 45, 46, 47, 48, 60, 61, 62] (by decide +kernel) (by decide +kernel)
set_option maxRecDepth 20000 in
theorem gX1_add_X2_pop : GoodIn wsX1_add (wsV RX1 36 RX2 yX2_pop wsX2_pop) := goodIn_app (goodIn_of _ (by decide +kernel)) ggX1_add_X2_pop
theorem dX1_add_0 : decode cX1_add 0 = .ok (.aload_n 0, 1) := by decide +kernel
theorem dX1_add_1 : decode cX1_add 1 = .ok (.getfield 10, 3) := by decide +kernel
theorem dX1_add_4 : decode cX1_add 4 = .ok (.invokevirtual 26, 3) := by decide +kernel
theorem dX1_add_7 : decode cX1_add 7 = .ok (.ifCond .le 22, 3) := by decide +kernel
theorem dX1_add_10 : decode cX1_add 10 = .ok (.iload_n 1, 1) := by decide +kernel
theorem dX1_add_11 : decode cX1_add 11 = .ok (.aload_n 0, 1) := by decide +kernel
theorem dX1_add_12 : decode cX1_add 12 = .ok (.invokevirtual 29, 3) := by decide +kernel
theorem dX1_add_15 : decode cX1_add 15 = .ok (.if_icmp .le 14, 3) := by decide +kernel
theorem dX1_add_18 : decode cX1_add 18 = .ok (.aload_n 0, 1) := by decide +kernel
theorem dX1_add_19 : decode cX1_add 19 = .ok (.getfield 16, 3) := by decide +kernel
theorem dX1_add_22 : decode cX1_add 22 = .ok (.iload_n 1, 1) := by decide +kernel
theorem dX1_add_23 : decode cX1_add 23 = .ok (.invokevirtual 32, 3) := by decide +kernel
theorem dX1_add_26 : decode cX1_add 26 = .ok (.goto 12, 3) := by decide +kernel
theorem dX1_add_29 : decode cX1_add 29 = .ok (.aload_n 0, 1) := by decide +kernel
theorem dX1_add_30 : decode cX1_add 30 = .ok (.getfield 10, 3) := by decide +kernel
theorem dX1_add_33 : decode cX1_add 33 = .ok (.iload_n 1, 1) := by decide +kernel
theorem dX1_add_34 : decode cX1_add 34 = .ok (.ineg, 1) := by decide +kernel
theorem dX1_add_35 : decode cX1_add 35 = .ok (.invokevirtual 32, 3) := by decide +kernel
theorem dX1_add_38 : decode cX1_add 38 = .ok (.aload_n 0, 1) := by decide +kernel
theorem dX1_add_39 : decode cX1_add 39 = .ok (.getfield 10, 3) := by decide +kernel
theorem dX1_add_42 : decode cX1_add 42 = .ok (.invokevirtual 26, 3) := by decide +kernel
theorem dX1_add_45 : decode cX1_add 45 = .ok (.aload_n 0, 1) := by decide +kernel
theorem dX1_add_46 : decode cX1_add 46 = .ok (.getfield 16, 3) := by decide +kernel
theorem dX1_add_49 : decode cX1_add 49 = .ok (.invokevirtual 26, 3) := by decide +kernel
theorem dX1_add_52 : decode cX1_add 52 = .ok (.iconst 1, 1) := by decide +kernel
theorem dX1_add_53 : decode cX1_add 53 = .ok (.iadd, 1) := by decide +kernel
theorem dX1_add_54 : decode cX1_add 54 = .ok (.if_icmp .le 21, 3) := by decide +kernel
theorem dX1_add_57 : decode cX1_add 57 = .ok (.aload_n 0, 1) := by decide +kernel
theorem dX1_add_58 : decode cX1_add 58 = .ok (.getfield 16, 3) := by decide +kernel
theorem dX1_add_61 : decode cX1_add 61 = .ok (.aload_n 0, 1) := by decide +kernel
theorem dX1_add_62 : decode cX1_add 62 = .ok (.getfield 10, 3) := by decide +kernel
theorem dX1_add_65 : decode cX1_add 65 = .ok (.invokevirtual 36, 3) := by decide +kernel
theorem dX1_add_68 : decode cX1_add 68 = .ok (.ineg, 1) := by decide +kernel
theorem dX1_add_69 : decode cX1_add 69 = .ok (.invokevirtual 32, 3) := by decide +kernel
theorem dX1_add_72 : decode cX1_add 72 = .ok (.goto 35, 3) := by decide +kernel
theorem dX1_add_75 : decode cX1_add 75 = .ok (.aload_n 0, 1) := by decide +kernel
theorem dX1_add_76 : decode cX1_add 76 = .ok (.getfield 16, 3) := by decide +kernel
theorem dX1_add_79 : decode cX1_add 79 = .ok (.invokevirtual 26, 3) := by decide +kernel
theorem dX1_add_82 : decode cX1_add 82 = .ok (.aload_n 0, 1) := by decide +kernel
theorem dX1_add_83 : decode cX1_add 83 = .ok (.getfield 10, 3) := by decide +kernel
theorem dX1_add_86 : decode cX1_add 86 = .ok (.invokevirtual 26, 3) := by decide +kernel
theorem dX1_add_89 : decode cX1_add 89 = .ok (.if_icmp .le 18, 3) := by decide +kernel
theorem dX1_add_92 : decode cX1_add 92 = .ok (.aload_n 0, 1) := by decide +kernel
theorem dX1_add_93 : decode cX1_add 93 = .ok (.getfield 10, 3) := by decide +kernel
theorem dX1_add_96 : decode cX1_add 96 = .ok (.aload_n 0, 1) := by decide +kernel
theorem dX1_add_97 : decode cX1_add 97 = .ok (.getfield 16, 3) := by decide +kernel
theorem dX1_add_100 : decode cX1_add 100 = .ok (.invokevirtual 36, 3) := by decide +kernel
theorem dX1_add_103 : decode cX1_add 103 = .ok (.ineg, 1) := by decide +kernel
theorem dX1_add_104 : decode cX1_add 104 = .ok (.invokevirtual 32, 3) := by decide +kernel
theorem dX1_add_107 : decode cX1_add 107 = .ok (.return_, 1) := by decide +kernel
set_option maxRecDepth 20000 in
theorem ggX2_init_X4_init : GoodIn wsX2_init wsX4_init := goodIn_r _ [9, 10, 2, 3, 11, 12, 13, 14] (by decide +kernel) (by decide +kernel)
set_option maxRecDepth 20000 in
theorem gX2_init_X4_init_n9 : GoodIn wsX2_init (wsX4_init) := ggX2_init_X4_init
theorem dX2_init_0 : decode cX2_init 0 = .ok (.aload_n 0, 1) := by decide +kernel
theorem dX2_init_1 : decode cX2_init 1 = .ok (.invokespecial 1, 3) := by decide +kernel
theorem dX2_init_4 : decode cX2_init 4 = .ok (.aload_n 0, 1) := by decide +kernel
theorem dX2_init_5 : decode cX2_init 5 = .ok (.new 7, 3) := by decide +kernel
theorem dX2_init_8 : decode cX2_init 8 = .ok (.dup, 1) := by decide +kernel
theorem dX2_init_9 : decode cX2_init 9 = .ok (.invokespecial 9, 3) := by decide +kernel
theorem dX2_init_12 : decode cX2_init 12 = .ok (.putfield 10, 3) := by decide +kernel
theorem dX2_init_15 : decode cX2_init 15 = .ok (.return_, 1) := by decide +kernel
set_option maxRecDepth 20000 in
theorem ggX2_clear_X4_cutTo : GoodIn wsX2_clear wsX4_cutTo := goodIn_r _ [6, 7, 9, 10] (by decide +kernel) (by decide +kernel)
set_option maxRecDepth 20000 in
theorem gX2_clear_X4_cutTo : GoodIn wsX2_clear (wsV RX2 16 RX4 yX4_cutTo wsX4_cutTo) := goodIn_app (goodIn_of _ (by decide +kernel)) ggX2_clear_X4_cutTo
theorem dX2_clear_0 : decode cX2_clear 0 = .ok (.aload_n 0, 1) := by decide +kernel
theorem dX2_clear_1 : decode cX2_clear 1 = .ok (.getfield 10, 3) := by decide +kernel
theorem dX2_clear_4 : decode cX2_clear 4 = .ok (.iconst 0, 1) := by decide +kernel
theorem dX2_clear_5 : decode cX2_clear 5 = .ok (.invokevirtual 16, 3) := by decide +kernel
theorem dX2_clear_8 : decode cX2_clear 8 = .ok (.return_, 1) := by decide +kernel
set_option maxRecDepth 20000 in
theorem ggX2_size_X4_size : GoodIn wsX2_size wsX4_size := goodIn_r _ [6, 7, 9, 10] (by decide +kernel) (by decide +kernel)
set_option maxRecDepth 20000 in
theorem gX2_size_X4_size : GoodIn wsX2_size (wsV RX2 20 RX4 yX4_size wsX4_size) := goodIn_app (goodIn_of _ (by decide +kernel)) ggX2_size_X4_size
theorem dX2_size_0 : decode cX2_size 0 = .ok (.aload_n 0, 1) := by decide +kernel
theorem dX2_size_1 : decode cX2_size 1 = .ok (.getfield 10, 3) := by decide +kernel
theorem dX2_size_4 : decode cX2_size 4 = .ok (.invokevirtual 20, 3) := by decide +kernel
theorem dX2_size_7 : decode cX2_size 7 = .ok (.ireturn, 1) := by decide +kernel
set_option maxRecDepth 20000 in
theorem ggX2_least_X4_at : GoodIn wsX2_least wsX4_at := goodIn_r _ [6, 7, 8, 9, 10, 5, 11, 12, 14, 15] (by decide +kernel) (by decide +kernel)
set_option maxRecDepth 20000 in
theorem gX2_least_X4_at : GoodIn wsX2_least (wsV RX2 24 RX4 yX4_at wsX4_at) := goodIn_app (goodIn_of _ (by decide +kernel)) ggX2_least_X4_at
theorem dX2_least_0 : decode cX2_least 0 = .ok (.aload_n 0, 1) := by decide +kernel
theorem dX2_least_1 : decode cX2_least 1 = .ok (.getfield 10, 3) := by decide +kernel
theorem dX2_least_4 : decode cX2_least 4 = .ok (.iconst 0, 1) := by decide +kernel
theorem dX2_least_5 : decode cX2_least 5 = .ok (.invokevirtual 24, 3) := by decide +kernel
theorem dX2_least_8 : decode cX2_least 8 = .ok (.ireturn, 1) := by decide +kernel
set_option maxRecDepth 20000 in
theorem ggX2_push_X4_size : GoodIn wsX2_push wsX4_size := goodIn_r _ [6, 7, 30, 31] (by decide +kernel) (by decide +kernel)
set_option maxRecDepth 20000 in
theorem gX2_push_X4_size : GoodIn wsX2_push (wsV RX2 20 RX4 yX4_size wsX4_size) := goodIn_app (goodIn_of _ (by decide +kernel)) ggX2_push_X4_size
set_option maxRecDepth 20000 in
theorem ggX2_push_X4_insert : GoodIn wsX2_push wsX4_insert := goodIn_r _ [11, 7, 12, 13, 14, 15, 16, 30, 31] (by decide +kernel) (by decide +kernel)
set_option maxRecDepth 20000 in
theorem gX2_push_X4_insert : GoodIn wsX2_push (wsV RX2 28 RX4 yX4_insert wsX4_insert) := goodIn_app (goodIn_of _ (by decide +kernel)) ggX2_push_X4_insert
set_option maxRecDepth 20000 in
theorem ggX2_push_X4_at : GoodIn wsX2_push wsX4_at := goodIn_r _ [20, 12, 21, 22, 23, 5, 24, 7, 30, 31] (by decide +kernel) (by decide +kernel)
set_option maxRecDepth 20000 in
theorem gX2_push_X4_at : GoodIn wsX2_push (wsV RX2 24 RX4 yX4_at wsX4_at) := goodIn_app (goodIn_of _ (by decide +kernel)) ggX2_push_X4_at
set_option maxRecDepth 20000 in
theorem ggX2_push_X4_put : GoodIn wsX2_push wsX4_put := goodIn_r _ [28, 12, 21, 22, 23, 5, 24, 7, 30, 31] (by decide +kernel) (by decide +kernel)
set_option maxRecDepth 20000 in
theorem gX2_push_X4_put : GoodIn wsX2_push (wsV RX2 32 RX4 yX4_put wsX4_put) := goodIn_app (goodIn_of _ (by decide +kernel)) ggX2_push_X4_put
theorem dX2_push_0 : decode cX2_push 0 = .ok (.aload_n 0, 1) := by decide +kernel
theorem dX2_push_1 : decode cX2_push 1 = .ok (.getfield 10, 3) := by decide +kernel
theorem dX2_push_4 : decode cX2_push 4 = .ok (.invokevirtual 20, 3) := by decide +kernel
theorem dX2_push_7 : decode cX2_push 7 = .ok (.istore_n 2, 1) := by decide +kernel
theorem dX2_push_8 : decode cX2_push 8 = .ok (.aload_n 0, 1) := by decide +kernel
theorem dX2_push_9 : decode cX2_push 9 = .ok (.getfield 10, 3) := by decide +kernel
theorem dX2_push_12 : decode cX2_push 12 = .ok (.iload_n 2, 1) := by decide +kernel
theorem dX2_push_13 : decode cX2_push 13 = .ok (.iload_n 1, 1) := by decide +kernel
theorem dX2_push_14 : decode cX2_push 14 = .ok (.invokevirtual 28, 3) := by decide +kernel
theorem dX2_push_17 : decode cX2_push 17 = .ok (.iload_n 2, 1) := by decide +kernel
theorem dX2_push_18 : decode cX2_push 18 = .ok (.ifCond .le 45, 3) := by decide +kernel
theorem dX2_push_21 : decode cX2_push 21 = .ok (.iload_n 2, 1) := by decide +kernel
theorem dX2_push_22 : decode cX2_push 22 = .ok (.iconst 1, 1) := by decide +kernel
theorem dX2_push_23 : decode cX2_push 23 = .ok (.isub, 1) := by decide +kernel
theorem dX2_push_24 : decode cX2_push 24 = .ok (.iconst 2, 1) := by decide +kernel
theorem dX2_push_25 : decode cX2_push 25 = .ok (.idiv, 1) := by decide +kernel
theorem dX2_push_26 : decode cX2_push 26 = .ok (.istore_n 3, 1) := by decide +kernel
theorem dX2_push_27 : decode cX2_push 27 = .ok (.aload_n 0, 1) := by decide +kernel
theorem dX2_push_28 : decode cX2_push 28 = .ok (.getfield 10, 3) := by decide +kernel
theorem dX2_push_31 : decode cX2_push 31 = .ok (.iload_n 3, 1) := by decide +kernel
theorem dX2_push_32 : decode cX2_push 32 = .ok (.invokevirtual 24, 3) := by decide +kernel
theorem dX2_push_35 : decode cX2_push 35 = .ok (.iload_n 1, 1) := by decide +kernel
theorem dX2_push_36 : decode cX2_push 36 = .ok (.if_icmp .gt 6, 3) := by decide +kernel
theorem dX2_push_39 : decode cX2_push 39 = .ok (.goto 24, 3) := by decide +kernel
theorem dX2_push_42 : decode cX2_push 42 = .ok (.aload_n 0, 1) := by decide +kernel
theorem dX2_push_43 : decode cX2_push 43 = .ok (.getfield 10, 3) := by decide +kernel
theorem dX2_push_46 : decode cX2_push 46 = .ok (.iload_n 2, 1) := by decide +kernel
theorem dX2_push_47 : decode cX2_push 47 = .ok (.aload_n 0, 1) := by decide +kernel
theorem dX2_push_48 : decode cX2_push 48 = .ok (.getfield 10, 3) := by decide +kernel
theorem dX2_push_51 : decode cX2_push 51 = .ok (.iload_n 3, 1) := by decide +kernel
theorem dX2_push_52 : decode cX2_push 52 = .ok (.invokevirtual 24, 3) := by decide +kernel
theorem dX2_push_55 : decode cX2_push 55 = .ok (.invokevirtual 32, 3) := by decide +kernel
theorem dX2_push_58 : decode cX2_push 58 = .ok (.iload_n 3, 1) := by decide +kernel
theorem dX2_push_59 : decode cX2_push 59 = .ok (.istore_n 2, 1) := by decide +kernel
theorem dX2_push_60 : decode cX2_push 60 = .ok (.goto (-43), 3) := by decide +kernel
theorem dX2_push_63 : decode cX2_push 63 = .ok (.aload_n 0, 1) := by decide +kernel
theorem dX2_push_64 : decode cX2_push 64 = .ok (.getfield 10, 3) := by decide +kernel
theorem dX2_push_67 : decode cX2_push 67 = .ok (.iload_n 2, 1) := by decide +kernel
theorem dX2_push_68 : decode cX2_push 68 = .ok (.iload_n 1, 1) := by decide +kernel
theorem dX2_push_69 : decode cX2_push 69 = .ok (.invokevirtual 32, 3) := by decide +kernel
theorem dX2_push_72 : decode cX2_push 72 = .ok (.return_, 1) := by decide +kernel
set_option maxRecDepth 20000 in
theorem ggX2_pop_X2_least : GoodIn wsX2_pop wsX2_least := goodIn_r _ [6, 1, 7, 8, 9, 10, 11, 12, 13, 14, 15, 16, 17, 30, 31, 32] (by decide +kernel) (by decide +kernel)
set_option maxRecDepth 20000 in
theorem gX2_pop_X2_least : GoodIn wsX2_pop (wsV RX2 35 RX2 yX2_least wsX2_least) := goodIn_app (goodIn_of _ (by decide +kernel)) ggX2_pop_X2_least
set_option maxRecDepth 20000 in
theorem ggX2_pop_X4_size : GoodIn wsX2_pop wsX4_size := goodIn_r _ [21, 17, 31, 32] (by decide +kernel) (by decide +kernel)
set_option maxRecDepth 20000 in
theorem gX2_pop_X4_size : GoodIn wsX2_pop (wsV RX2 20 RX4 yX4_size wsX4_size) := goodIn_app (goodIn_of _ (by decide +kernel)) ggX2_pop_X4_size
set_option maxRecDepth 20000 in
theorem ggX2_pop_X4_at : GoodIn wsX2_pop wsX4_at := goodIn_r _ [11, 12, 13, 14, 15, 10, 16, 17, 31, 32] (by decide +kernel) (by decide +kernel)
set_option maxRecDepth 20000 in
theorem gX2_pop_X4_at : GoodIn wsX2_pop (wsV RX2 24 RX4 yX4_at wsX4_at) := goodIn_app (goodIn_of _ (by decide +kernel)) ggX2_pop_X4_at
set_option maxRecDepth 20000 in
theorem ggX2_pop_X4_cutTo : GoodIn wsX2_pop wsX4_cutTo := goodIn_r _ [25, 17, 31, 32] (by decide +kernel) (by decide +kernel)
set_option maxRecDepth 20000 in
theorem gX2_pop_X4_cutTo : GoodIn wsX2_pop (wsV RX2 16 RX4 yX4_cutTo wsX4_cutTo) := goodIn_app (goodIn_of _ (by decide +kernel)) ggX2_pop_X4_cutTo
set_option maxRecDepth 20000 in
theorem ggX2_pop_X4_put : GoodIn wsX2_pop wsX4_put := goodIn_r _ [29, 12, 13, 14, 15, 10, 16, 17, 31, 32] (by decide +kernel) (by decide +kernel)
set_option maxRecDepth 20000 in
theorem gX2_pop_X4_put : GoodIn wsX2_pop (wsV RX2 32 RX4 yX4_put wsX4_put) := goodIn_app (goodIn_of _ (by decide +kernel)) ggX2_pop_X4_put
theorem dX2_pop_0 : decode cX2_pop 0 = .ok (.aload_n 0, 1) := by decide +kernel
theorem dX2_pop_1 : decode cX2_pop 1 = .ok (.invokevirtual 35, 3) := by decide +kernel
theorem dX2_pop_4 : decode cX2_pop 4 = .ok (.istore_n 1, 1) := by decide +kernel
theorem dX2_pop_5 : decode cX2_pop 5 = .ok (.aload_n 0, 1) := by decide +kernel
theorem dX2_pop_6 : decode cX2_pop 6 = .ok (.getfield 10, 3) := by decide +kernel
theorem dX2_pop_9 : decode cX2_pop 9 = .ok (.aload_n 0, 1) := by decide +kernel
theorem dX2_pop_10 : decode cX2_pop 10 = .ok (.getfield 10, 3) := by decide +kernel
theorem dX2_pop_13 : decode cX2_pop 13 = .ok (.invokevirtual 20, 3) := by decide +kernel
theorem dX2_pop_16 : decode cX2_pop 16 = .ok (.iconst 1, 1) := by decide +kernel
theorem dX2_pop_17 : decode cX2_pop 17 = .ok (.isub, 1) := by decide +kernel
theorem dX2_pop_18 : decode cX2_pop 18 = .ok (.invokevirtual 24, 3) := by decide +kernel
theorem dX2_pop_21 : decode cX2_pop 21 = .ok (.istore_n 2, 1) := by decide +kernel
theorem dX2_pop_22 : decode cX2_pop 22 = .ok (.aload_n 0, 1) := by decide +kernel
theorem dX2_pop_23 : decode cX2_pop 23 = .ok (.getfield 10, 3) := by decide +kernel
theorem dX2_pop_26 : decode cX2_pop 26 = .ok (.aload_n 0, 1) := by decide +kernel
theorem dX2_pop_27 : decode cX2_pop 27 = .ok (.getfield 10, 3) := by decide +kernel
theorem dX2_pop_30 : decode cX2_pop 30 = .ok (.invokevirtual 20, 3) := by decide +kernel
theorem dX2_pop_33 : decode cX2_pop 33 = .ok (.iconst 1, 1) := by decide +kernel
theorem dX2_pop_34 : decode cX2_pop 34 = .ok (.isub, 1) := by decide +kernel
theorem dX2_pop_35 : decode cX2_pop 35 = .ok (.invokevirtual 16, 3) := by decide +kernel
theorem dX2_pop_38 : decode cX2_pop 38 = .ok (.iconst 0, 1) := by decide +kernel
theorem dX2_pop_39 : decode cX2_pop 39 = .ok (.istore_n 3, 1) := by decide +kernel
theorem dX2_pop_40 : decode cX2_pop 40 = .ok (.iconst 1, 1) := by decide +kernel
theorem dX2_pop_41 : decode cX2_pop 41 = .ok (.istore 4, 2) := by decide +kernel
theorem dX2_pop_43 : decode cX2_pop 43 = .ok (.iload 4, 2) := by decide +kernel
theorem dX2_pop_45 : decode cX2_pop 45 = .ok (.aload_n 0, 1) := by decide +kernel
theorem dX2_pop_46 : decode cX2_pop 46 = .ok (.getfield 10, 3) := by decide +kernel
theorem dX2_pop_49 : decode cX2_pop 49 = .ok (.invokevirtual 20, 3) := by decide +kernel
theorem dX2_pop_52 : decode cX2_pop 52 = .ok (.if_icmp .ge 98, 3) := by decide +kernel
theorem dX2_pop_55 : decode cX2_pop 55 = .ok (.iload 4, 2) := by decide +kernel
theorem dX2_pop_57 : decode cX2_pop 57 = .ok (.iconst 1, 1) := by decide +kernel
theorem dX2_pop_58 : decode cX2_pop 58 = .ok (.iadd, 1) := by decide +kernel
theorem dX2_pop_59 : decode cX2_pop 59 = .ok (.istore 5, 2) := by decide +kernel
theorem dX2_pop_61 : decode cX2_pop 61 = .ok (.iload 5, 2) := by decide +kernel
theorem dX2_pop_63 : decode cX2_pop 63 = .ok (.aload_n 0, 1) := by decide +kernel
theorem dX2_pop_64 : decode cX2_pop 64 = .ok (.getfield 10, 3) := by decide +kernel
theorem dX2_pop_67 : decode cX2_pop 67 = .ok (.invokevirtual 20, 3) := by decide +kernel
theorem dX2_pop_70 : decode cX2_pop 70 = .ok (.if_icmp .ge 29, 3) := by decide +kernel
theorem dX2_pop_73 : decode cX2_pop 73 = .ok (.aload_n 0, 1) := by decide +kernel
theorem dX2_pop_74 : decode cX2_pop 74 = .ok (.getfield 10, 3) := by decide +kernel
theorem dX2_pop_77 : decode cX2_pop 77 = .ok (.iload 5, 2) := by decide +kernel
theorem dX2_pop_79 : decode cX2_pop 79 = .ok (.invokevirtual 24, 3) := by decide +kernel
theorem dX2_pop_82 : decode cX2_pop 82 = .ok (.aload_n 0, 1) := by decide +kernel
theorem dX2_pop_83 : decode cX2_pop 83 = .ok (.getfield 10, 3) := by decide +kernel
theorem dX2_pop_86 : decode cX2_pop 86 = .ok (.iload 4, 2) := by decide +kernel
theorem dX2_pop_88 : decode cX2_pop 88 = .ok (.invokevirtual 24, 3) := by decide +kernel
theorem dX2_pop_91 : decode cX2_pop 91 = .ok (.if_icmp .ge 8, 3) := by decide +kernel
theorem dX2_pop_94 : decode cX2_pop 94 = .ok (.iload 5, 2) := by decide +kernel
theorem dX2_pop_96 : decode cX2_pop 96 = .ok (.goto 5, 3) := by decide +kernel
theorem dX2_pop_99 : decode cX2_pop 99 = .ok (.iload 4, 2) := by decide +kernel
theorem dX2_pop_101 : decode cX2_pop 101 = .ok (.istore 6, 2) := by decide +kernel
theorem dX2_pop_103 : decode cX2_pop 103 = .ok (.aload_n 0, 1) := by decide +kernel
theorem dX2_pop_104 : decode cX2_pop 104 = .ok (.getfield 10, 3) := by decide +kernel
theorem dX2_pop_107 : decode cX2_pop 107 = .ok (.iload 6, 2) := by decide +kernel
theorem dX2_pop_109 : decode cX2_pop 109 = .ok (.invokevirtual 24, 3) := by decide +kernel
theorem dX2_pop_112 : decode cX2_pop 112 = .ok (.iload_n 2, 1) := by decide +kernel
theorem dX2_pop_113 : decode cX2_pop 113 = .ok (.if_icmp .lt 6, 3) := by decide +kernel
theorem dX2_pop_116 : decode cX2_pop 116 = .ok (.goto 34, 3) := by decide +kernel
theorem dX2_pop_119 : decode cX2_pop 119 = .ok (.aload_n 0, 1) := by decide +kernel
theorem dX2_pop_120 : decode cX2_pop 120 = .ok (.getfield 10, 3) := by decide +kernel
theorem dX2_pop_123 : decode cX2_pop 123 = .ok (.iload_n 3, 1) := by decide +kernel
theorem dX2_pop_124 : decode cX2_pop 124 = .ok (.aload_n 0, 1) := by decide +kernel
theorem dX2_pop_125 : decode cX2_pop 125 = .ok (.getfield 10, 3) := by decide +kernel
theorem dX2_pop_128 : decode cX2_pop 128 = .ok (.iload 6, 2) := by decide +kernel
theorem dX2_pop_130 : decode cX2_pop 130 = .ok (.invokevirtual 24, 3) := by decide +kernel
theorem dX2_pop_133 : decode cX2_pop 133 = .ok (.invokevirtual 32, 3) := by decide +kernel
theorem dX2_pop_136 : decode cX2_pop 136 = .ok (.iload 6, 2) := by decide +kernel
theorem dX2_pop_138 : decode cX2_pop 138 = .ok (.istore_n 3, 1) := by decide +kernel
theorem dX2_pop_139 : decode cX2_pop 139 = .ok (.iconst 2, 1) := by decide +kernel
theorem dX2_pop_140 : decode cX2_pop 140 = .ok (.iload 6, 2) := by decide +kernel
theorem dX2_pop_142 : decode cX2_pop 142 = .ok (.imul, 1) := by decide +kernel
theorem dX2_pop_143 : decode cX2_pop 143 = .ok (.iconst 1, 1) := by decide +kernel
theorem dX2_pop_144 : decode cX2_pop 144 = .ok (.iadd, 1) := by decide +kernel
theorem dX2_pop_145 : decode cX2_pop 145 = .ok (.istore 4, 2) := by decide +kernel
theorem dX2_pop_147 : decode cX2_pop 147 = .ok (.goto (-104), 3) := by decide +kernel
theorem dX2_pop_150 : decode cX2_pop 150 = .ok (.aload_n 0, 1) := by decide +kernel
theorem dX2_pop_151 : decode cX2_pop 151 = .ok (.getfield 10, 3) := by decide +kernel
theorem dX2_pop_154 : decode cX2_pop 154 = .ok (.iload_n 3, 1) := by decide +kernel
theorem dX2_pop_155 : decode cX2_pop 155 = .ok (.iload_n 2, 1) := by decide +kernel
theorem dX2_pop_156 : decode cX2_pop 156 = .ok (.invokevirtual 32, 3) := by decide +kernel
theorem dX2_pop_159 : decode cX2_pop 159 = .ok (.iload_n 1, 1) := by decide +kernel
theorem dX2_pop_160 : decode cX2_pop 160 = .ok (.ireturn, 1) := by decide +kernel
set_option maxRecDepth 20000 in
theorem ggX3_init_X4_init : GoodIn wsX3_init wsX4_init := goodIn_r _ [11, 12, 2, 3, 13, 14, 15, 16] (by decide +kernel) (by decide +kernel)
set_option maxRecDepth 20000 in
theorem gX3_init_X4_init_n9 : GoodIn wsX3_init (wsX4_init) := ggX3_init_X4_init
theorem dX3_init_0 : decode cX3_init 0 = .ok (.aload_n 0, 1) := by decide +kernel
theorem dX3_init_1 : decode cX3_init 1 = .ok (.invokespecial 1, 3) := by decide +kernel
theorem dX3_init_4 : decode cX3_init 4 = .ok (.aload_n 0, 1) := by decide +kernel
theorem dX3_init_5 : decode cX3_init 5 = .ok (.new 7, 3) := by decide +kernel
theorem dX3_init_8 : decode cX3_init 8 = .ok (.dup, 1) := by decide +kernel
theorem dX3_init_9 : decode cX3_init 9 = .ok (.invokespecial 9, 3) := by decide +kernel
theorem dX3_init_12 : decode cX3_init 12 = .ok (.putfield 10, 3) := by decide +kernel
theorem dX3_init_15 : decode cX3_init 15 = .ok (.aload_n 0, 1) := by decide +kernel
theorem dX3_init_16 : decode cX3_init 16 = .ok (.new 7, 3) := by decide +kernel
theorem dX3_init_19 : decode cX3_init 19 = .ok (.dup, 1) := by decide +kernel
theorem dX3_init_20 : decode cX3_init 20 = .ok (.invokespecial 9, 3) := by decide +kernel
theorem dX3_init_23 : decode cX3_init 23 = .ok (.putfield 16, 3) := by decide +kernel
theorem dX3_init_26 : decode cX3_init 26 = .ok (.aload_n 0, 1) := by decide +kernel
theorem dX3_init_27 : decode cX3_init 27 = .ok (.new 7, 3) := by decide +kernel
theorem dX3_init_30 : decode cX3_init 30 = .ok (.dup, 1) := by decide +kernel
theorem dX3_init_31 : decode cX3_init 31 = .ok (.invokespecial 9, 3) := by decide +kernel
theorem dX3_init_34 : decode cX3_init 34 = .ok (.putfield 19, 3) := by decide +kernel
theorem dX3_init_37 : decode cX3_init 37 = .ok (.return_, 1) := by decide +kernel
set_option maxRecDepth 20000 in
theorem ggX3_length_X4_size : GoodIn wsX3_length wsX4_size := goodIn_r _ [6, 7, 11, 12] (by decide +kernel) (by decide +kernel)
set_option maxRecDepth 20000 in
theorem gX3_length_X4_size : GoodIn wsX3_length (wsV RX3 22 RX4 yX4_size wsX4_size) := goodIn_app (goodIn_of _ (by decide +kernel)) ggX3_length_X4_size
theorem dX3_length_0 : decode cX3_length 0 = .ok (.aload_n 0, 1) := by decide +kernel
theorem dX3_length_1 : decode cX3_length 1 = .ok (.getfield 10, 3) := by decide +kernel
theorem dX3_length_4 : decode cX3_length 4 = .ok (.invokevirtual 22, 3) := by decide +kernel
theorem dX3_length_7 : decode cX3_length 7 = .ok (.ireturn, 1) := by decide +kernel
set_option maxRecDepth 20000 in
theorem ggX3_clear_X3_cutTo : GoodIn wsX3_clear wsX3_cutTo := goodIn_r _ [5, 6, 7, 8, 9, 10, 11, 12, 13, 14, 15, 16, 17, 18, 19] (by decide +kernel) (by decide +kernel)
set_option maxRecDepth 20000 in
theorem gX3_clear_X3_cutTo : GoodIn wsX3_clear (wsV RX3 26 RX3 yX3_cutTo wsX3_cutTo) := goodIn_app (goodIn_of _ (by decide +kernel)) ggX3_clear_X3_cutTo
theorem dX3_clear_0 : decode cX3_clear 0 = .ok (.aload_n 0, 1) := by decide +kernel
theorem dX3_clear_1 : decode cX3_clear 1 = .ok (.iconst 0, 1) := by decide +kernel
theorem dX3_clear_2 : decode cX3_clear 2 = .ok (.invokevirtual 26, 3) := by decide +kernel
theorem dX3_clear_5 : decode cX3_clear 5 = .ok (.return_, 1) := by decide +kernel
set_option maxRecDepth 20000 in
theorem ggX3_valueOf_X4_at : GoodIn wsX3_valueOf wsX4_at := goodIn_r _ [6, 7, 8, 9, 10, 5, 11, 12, 16, 17] (by decide +kernel) (by decide +kernel)
set_option maxRecDepth 20000 in
theorem gX3_valueOf_X4_at : GoodIn wsX3_valueOf (wsV RX3 30 RX4 yX4_at wsX4_at) := goodIn_app (goodIn_of _ (by decide +kernel)) ggX3_valueOf_X4_at
theorem dX3_valueOf_0 : decode cX3_valueOf 0 = .ok (.aload_n 0, 1) := by decide +kernel
theorem dX3_valueOf_1 : decode cX3_valueOf 1 = .ok (.getfield 10, 3) := by decide +kernel
theorem dX3_valueOf_4 : decode cX3_valueOf 4 = .ok (.iload_n 1, 1) := by decide +kernel
theorem dX3_valueOf_5 : decode cX3_valueOf 5 = .ok (.invokevirtual 30, 3) := by decide +kernel
theorem dX3_valueOf_8 : decode cX3_valueOf 8 = .ok (.ireturn, 1) := by decide +kernel
set_option maxRecDepth 20000 in
theorem ggX3_rankFrom_X4_sumOfFirst : GoodIn wsX3_rankFrom wsX4_sumOfFirst := goodIn_r _ [6, 7, 8, 9, 10, 5, 11, 12, 13, 14, 15, 16, 20, 21] (by decide +kernel) (by decide +kernel)
set_option maxRecDepth 20000 in
theorem gX3_rankFrom_X4_sumOfFirst : GoodIn wsX3_rankFrom (wsV RX3 34 RX4 yX4_sumOfFirst wsX4_sumOfFirst) := goodIn_app (goodIn_of _ (by decide +kernel)) ggX3_rankFrom_X4_sumOfFirst
theorem dX3_rankFrom_0 : decode cX3_rankFrom 0 = .ok (.aload_n 0, 1) := by decide +kernel
theorem dX3_rankFrom_1 : decode cX3_rankFrom 1 = .ok (.getfield 16, 3) := by decide +kernel
theorem dX3_rankFrom_4 : decode cX3_rankFrom 4 = .ok (.iload_n 1, 1) := by decide +kernel
theorem dX3_rankFrom_5 : decode cX3_rankFrom 5 = .ok (.iconst 1, 1) := by decide +kernel
theorem dX3_rankFrom_6 : decode cX3_rankFrom 6 = .ok (.iadd, 1) := by decide +kernel
theorem dX3_rankFrom_7 : decode cX3_rankFrom 7 = .ok (.invokevirtual 34, 3) := by decide +kernel
theorem dX3_rankFrom_10 : decode cX3_rankFrom 10 = .ok (.ireturn, 1) := by decide +kernel
set_option maxRecDepth 20000 in
theorem ggX3_rankTo_X3_rankFrom : GoodIn wsX3_rankTo wsX3_rankFrom := goodIn_r _ [6, 7, 8, 9, 10, 11, 12, 13, 14, 15, 16, 17, 18, 19, 20, 21, 22, 24, 25, 26, 27, 28] (by decide +kernel) (by decide +kernel)
set_option maxRecDepth 20000 in
theorem gX3_rankTo_X3_rankFrom : GoodIn wsX3_rankTo (wsV RX3 37 RX3 yX3_rankFrom wsX3_rankFrom) := goodIn_app (goodIn_of _ (by decide +kernel)) ggX3_rankTo_X3_rankFrom
set_option maxRecDepth 20000 in
theorem ggX3_rankTo_X4_at : GoodIn wsX3_rankTo wsX4_at := goodIn_r _ [17, 18, 19, 20, 21, 11, 22, 13, 27, 28] (by decide +kernel) (by decide +kernel)
set_option maxRecDepth 20000 in
theorem gX3_rankTo_X4_at : GoodIn wsX3_rankTo (wsV RX3 30 RX4 yX4_at wsX4_at) := goodIn_app (goodIn_of _ (by decide +kernel)) ggX3_rankTo_X4_at
theorem dX3_rankTo_0 : decode cX3_rankTo 0 = .ok (.aload_n 0, 1) := by decide +kernel
theorem dX3_rankTo_1 : decode cX3_rankTo 1 = .ok (.iload_n 1, 1) := by decide +kernel
theorem dX3_rankTo_2 : decode cX3_rankTo 2 = .ok (.invokevirtual 37, 3) := by decide +kernel
theorem dX3_rankTo_5 : decode cX3_rankTo 5 = .ok (.aload_n 0, 1) := by decide +kernel
theorem dX3_rankTo_6 : decode cX3_rankTo 6 = .ok (.getfield 19, 3) := by decide +kernel
theorem dX3_rankTo_9 : decode cX3_rankTo 9 = .ok (.iload_n 1, 1) := by decide +kernel
theorem dX3_rankTo_10 : decode cX3_rankTo 10 = .ok (.invokevirtual 30, 3) := by decide +kernel
theorem dX3_rankTo_13 : decode cX3_rankTo 13 = .ok (.iadd, 1) := by decide +kernel
theorem dX3_rankTo_14 : decode cX3_rankTo 14 = .ok (.ireturn, 1) := by decide +kernel
set_option maxRecDepth 20000 in
theorem ggX3_widthOf_X4_at : GoodIn wsX3_widthOf wsX4_at := goodIn_r _ [7, 8, 9, 10, 11, 6, 12, 13, 17, 18] (by decide +kernel) (by decide +kernel)
set_option maxRecDepth 20000 in
theorem gX3_widthOf_X4_at : GoodIn wsX3_widthOf (wsV RX3 30 RX4 yX4_at wsX4_at) := goodIn_app (goodIn_of _ (by decide +kernel)) ggX3_widthOf_X4_at
theorem dX3_widthOf_0 : decode cX3_widthOf 0 = .ok (.aload_n 0, 1) := by decide +kernel
theorem dX3_widthOf_1 : decode cX3_widthOf 1 = .ok (.getfield 16, 3) := by decide +kernel
theorem dX3_widthOf_4 : decode cX3_widthOf 4 = .ok (.iload_n 1, 1) := by decide +kernel
theorem dX3_widthOf_5 : decode cX3_widthOf 5 = .ok (.invokevirtual 30, 3) := by decide +kernel
theorem dX3_widthOf_8 : decode cX3_widthOf 8 = .ok (.aload_n 0, 1) := by decide +kernel
theorem dX3_widthOf_9 : decode cX3_widthOf 9 = .ok (.getfield 19, 3) := by decide +kernel
theorem dX3_widthOf_12 : decode cX3_widthOf 12 = .ok (.iload_n 1, 1) := by decide +kernel
theorem dX3_widthOf_13 : decode cX3_widthOf 13 = .ok (.invokevirtual 30, 3) := by decide +kernel
theorem dX3_widthOf_16 : decode cX3_widthOf 16 = .ok (.iadd, 1) := by decide +kernel
theorem dX3_widthOf_17 : decode cX3_widthOf 17 = .ok (.ireturn, 1) := by decide +kernel
set_option maxRecDepth 20000 in
theorem ggX3_greatestWidth_X3_length : GoodIn wsX3_greatestWidth wsX3_length := goodIn_r _ [9, 10, 11, 12, 13, 14, 15, 16, 32, 33, 34, 35, 36] (by decide +kernel) (by decide +kernel)
set_option maxRecDepth 20000 in
theorem gX3_greatestWidth_X3_length : GoodIn wsX3_greatestWidth (wsV RX3 40 RX3 yX3_length wsX3_length) := goodIn_app (goodIn_of _ (by decide +kernel)) ggX3_greatestWidth_X3_length
set_option maxRecDepth 20000 in
theorem ggX3_greatestWidth_X3_widthOf : GoodIn wsX3_greatestWidth wsX3_widthOf := goodIn_r _ [20, 21, 22, 23, 24, 25, 14, 26, 27, 28, 29, 30, 31, 16, 32, 33, 34, 35, 36] (by decide +kernel) (by decide +kernel)
set_option maxRecDepth 20000 in
theorem gX3_greatestWidth_X3_widthOf : GoodIn wsX3_greatestWidth (wsV RX3 43 RX3 yX3_widthOf wsX3_widthOf) := goodIn_app (goodIn_of _ (by decide +kernel)) ggX3_greatestWidth_X3_widthOf
theorem dX3_greatestWidth_0 : decode cX3_greatestWidth 0 = .ok (.iconst 0, 1) := by decide +kernel
theorem dX3_greatestWidth_1 : decode cX3_greatestWidth 1 = .ok (.istore_n 1, 1) := by decide +kernel
theorem dX3_greatestWidth_2 : decode cX3_greatestWidth 2 = .ok (.iconst 0, 1) := by decide +kernel
theorem dX3_greatestWidth_3 : decode cX3_greatestWidth 3 = .ok (.istore_n 2, 1) := by decide +kernel
theorem dX3_greatestWidth_4 : decode cX3_greatestWidth 4 = .ok (.iload_n 2, 1) := by decide +kernel
theorem dX3_greatestWidth_5 : decode cX3_greatestWidth 5 = .ok (.aload_n 0, 1) := by decide +kernel
theorem dX3_greatestWidth_6 : decode cX3_greatestWidth 6 = .ok (.invokevirtual 40, 3) := by decide +kernel
theorem dX3_greatestWidth_9 : decode cX3_greatestWidth 9 = .ok (.if_icmp .ge 19, 3) := by decide +kernel
theorem dX3_greatestWidth_12 : decode cX3_greatestWidth 12 = .ok (.iload_n 1, 1) := by decide +kernel
theorem dX3_greatestWidth_13 : decode cX3_greatestWidth 13 = .ok (.aload_n 0, 1) := by decide +kernel
theorem dX3_greatestWidth_14 : decode cX3_greatestWidth 14 = .ok (.iload_n 2, 1) := by decide +kernel
theorem dX3_greatestWidth_15 : decode cX3_greatestWidth 15 = .ok (.invokevirtual 43, 3) := by decide +kernel
theorem dX3_greatestWidth_18 : decode cX3_greatestWidth 18 = .ok (.invokestatic 46, 3) := by decide +kernel
theorem dX3_greatestWidth_21 : decode cX3_greatestWidth 21 = .ok (.istore_n 1, 1) := by decide +kernel
theorem dX3_greatestWidth_22 : decode cX3_greatestWidth 22 = .ok (.iinc 2 1, 3) := by decide +kernel
theorem dX3_greatestWidth_25 : decode cX3_greatestWidth 25 = .ok (.goto (-21), 3) := by decide +kernel
theorem dX3_greatestWidth_28 : decode cX3_greatestWidth 28 = .ok (.iload_n 1, 1) := by decide +kernel
theorem dX3_greatestWidth_29 : decode cX3_greatestWidth 29 = .ok (.ireturn, 1) := by decide +kernel
set_option maxRecDepth 20000 in
theorem ggX3_firstAbove_X4_notAbove : GoodIn wsX3_firstAbove wsX4_notAbove := goodIn_r _ [6, 7, 8, 9, 10, 5, 11, 12, 13, 14, 15, 16, 20, 21] (by decide +kernel) (by decide +kernel)
set_option maxRecDepth 20000 in
theorem gX3_firstAbove_X4_notAbove : GoodIn wsX3_firstAbove (wsV RX3 52 RX4 yX4_notAbove wsX4_notAbove) := goodIn_app (goodIn_of _ (by decide +kernel)) ggX3_firstAbove_X4_notAbove
theorem dX3_firstAbove_0 : decode cX3_firstAbove 0 = .ok (.aload_n 0, 1) := by decide +kernel
theorem dX3_firstAbove_1 : decode cX3_firstAbove 1 = .ok (.getfield 10, 3) := by decide +kernel
theorem dX3_firstAbove_4 : decode cX3_firstAbove 4 = .ok (.iload_n 1, 1) := by decide +kernel
theorem dX3_firstAbove_5 : decode cX3_firstAbove 5 = .ok (.invokevirtual 52, 3) := by decide +kernel
theorem dX3_firstAbove_8 : decode cX3_firstAbove 8 = .ok (.ireturn, 1) := by decide +kernel
set_option maxRecDepth 20000 in
theorem ggX3_atLeastNotAbove_X4_notAbove : GoodIn wsX3_atLeastNotAbove wsX4_notAbove := goodIn_r _ [7, 8, 9, 10, 11, 6, 12, 13, 14, 15, 16, 17, 25, 26] (by decide +kernel) (by decide +kernel)
set_option maxRecDepth 20000 in
theorem gX3_atLeastNotAbove_X4_notAbove : GoodIn wsX3_atLeastNotAbove (wsV RX3 52 RX4 yX4_notAbove wsX4_notAbove) := goodIn_app (goodIn_of _ (by decide +kernel)) ggX3_atLeastNotAbove_X4_notAbove
set_option maxRecDepth 20000 in
theorem ggX3_atLeastNotAbove_X4_sumOfFirst : GoodIn wsX3_atLeastNotAbove wsX4_sumOfFirst := goodIn_r _ [21, 8, 9, 10, 11, 6, 12, 13, 14, 15, 16, 17, 25, 26] (by decide +kernel) (by decide +kernel)
set_option maxRecDepth 20000 in
theorem gX3_atLeastNotAbove_X4_sumOfFirst : GoodIn wsX3_atLeastNotAbove (wsV RX3 34 RX4 yX4_sumOfFirst wsX4_sumOfFirst) := goodIn_app (goodIn_of _ (by decide +kernel)) ggX3_atLeastNotAbove_X4_sumOfFirst
theorem dX3_atLeastNotAbove_0 : decode cX3_atLeastNotAbove 0 = .ok (.aload_n 0, 1) := by decide +kernel
theorem dX3_atLeastNotAbove_1 : decode cX3_atLeastNotAbove 1 = .ok (.getfield 16, 3) := by decide +kernel
theorem dX3_atLeastNotAbove_4 : decode cX3_atLeastNotAbove 4 = .ok (.aload_n 0, 1) := by decide +kernel
theorem dX3_atLeastNotAbove_5 : decode cX3_atLeastNotAbove 5 = .ok (.getfield 10, 3) := by decide +kernel
theorem dX3_atLeastNotAbove_8 : decode cX3_atLeastNotAbove 8 = .ok (.iload_n 1, 1) := by decide +kernel
theorem dX3_atLeastNotAbove_9 : decode cX3_atLeastNotAbove 9 = .ok (.invokevirtual 52, 3) := by decide +kernel
theorem dX3_atLeastNotAbove_12 : decode cX3_atLeastNotAbove 12 = .ok (.invokevirtual 34, 3) := by decide +kernel
theorem dX3_atLeastNotAbove_15 : decode cX3_atLeastNotAbove 15 = .ok (.ireturn, 1) := by decide +kernel
set_option maxRecDepth 20000 in
theorem ggX3_offBy_X3_rankFrom : GoodIn wsX3_offBy wsX3_rankFrom := goodIn_r _ [9, 10, 11, 12, 13, 14, 15, 16, 17, 18, 19, 20, 21, 22, 23, 24, 25, 32, 33, 34, 35, 36] (by decide +kernel) (by decide +kernel)
set_option maxRecDepth 20000 in
theorem gX3_offBy_X3_rankFrom : GoodIn wsX3_offBy (wsV RX3 37 RX3 yX3_rankFrom wsX3_rankFrom) := goodIn_app (goodIn_of _ (by decide +kernel)) ggX3_offBy_X3_rankFrom
set_option maxRecDepth 20000 in
theorem ggX3_offBy_X3_rankTo : GoodIn wsX3_offBy wsX3_rankTo := goodIn_r _ [29, 30, 5, 6, 7, 8, 9, 10, 11, 12, 13, 14, 15, 16, 17, 18, 19, 20, 21, 22, 23, 24, 25, 31, 32, 33, 34, 35, 36] (by decide +kernel) (by decide +kernel)
set_option maxRecDepth 20000 in
theorem gX3_offBy_X3_rankTo : GoodIn wsX3_offBy (wsV RX3 55 RX3 yX3_rankTo wsX3_rankTo) := goodIn_app (goodIn_of _ (by decide +kernel)) ggX3_offBy_X3_rankTo
theorem dX3_offBy_0 : decode cX3_offBy 0 = .ok (.iload_n 2, 1) := by decide +kernel
theorem dX3_offBy_1 : decode cX3_offBy 1 = .ok (.aload_n 0, 1) := by decide +kernel
theorem dX3_offBy_2 : decode cX3_offBy 2 = .ok (.iload_n 1, 1) := by decide +kernel
theorem dX3_offBy_3 : decode cX3_offBy 3 = .ok (.invokevirtual 37, 3) := by decide +kernel
theorem dX3_offBy_6 : decode cX3_offBy 6 = .ok (.isub, 1) := by decide +kernel
theorem dX3_offBy_7 : decode cX3_offBy 7 = .ok (.aload_n 0, 1) := by decide +kernel
theorem dX3_offBy_8 : decode cX3_offBy 8 = .ok (.iload_n 1, 1) := by decide +kernel
theorem dX3_offBy_9 : decode cX3_offBy 9 = .ok (.invokevirtual 55, 3) := by decide +kernel
theorem dX3_offBy_12 : decode cX3_offBy 12 = .ok (.iload_n 2, 1) := by decide +kernel
theorem dX3_offBy_13 : decode cX3_offBy 13 = .ok (.isub, 1) := by decide +kernel
theorem dX3_offBy_14 : decode cX3_offBy 14 = .ok (.invokestatic 46, 3) := by decide +kernel
theorem dX3_offBy_17 : decode cX3_offBy 17 = .ok (.ireturn, 1) := by decide +kernel
set_option maxRecDepth 20000 in
theorem ggX3_answering_X3_offBy : GoodIn wsX3_answering wsX3_offBy := goodIn_r _ [11, 3, 4, 5, 6, 12, 13, 14, 10, 15, 1, 16, 17, 18, 19, 20, 21, 22, 23, 24, 25, 26, 27, 28, 29, 30, 31, 32, 33, 34, 2, 35, 45, 46, 47, 48, 49] (by decide +kernel) (by decide +kernel)
set_option maxRecDepth 20000 in
theorem gX3_answering_X3_offBy : GoodIn wsX3_answering (wsV RX3 58 RX3 yX3_offBy wsX3_offBy) := goodIn_app (goodIn_of _ (by decide +kernel)) ggX3_answering_X3_offBy
set_option maxRecDepth 20000 in
theorem ggX3_answering_X3_rankFrom : GoodIn wsX3_answering wsX3_rankFrom := goodIn_r _ [15, 1, 16, 17, 18, 19, 20, 21, 22, 23, 24, 25, 26, 27, 28, 29, 30, 45, 46, 47, 48, 49] (by decide +kernel) (by decide +kernel)
set_option maxRecDepth 20000 in
theorem gX3_answering_X3_rankFrom : GoodIn wsX3_answering (wsV RX3 37 RX3 yX3_rankFrom wsX3_rankFrom) := goodIn_app (goodIn_of _ (by decide +kernel)) ggX3_answering_X3_rankFrom
set_option maxRecDepth 20000 in
theorem ggX3_answering_X3_length : GoodIn wsX3_answering wsX3_length := goodIn_r _ [39, 40, 41, 42, 43, 19, 44, 21, 45, 46, 47, 48, 49] (by decide +kernel) (by decide +kernel)
set_option maxRecDepth 20000 in
theorem gX3_answering_X3_length : GoodIn wsX3_answering (wsV RX3 40 RX3 yX3_length wsX3_length) := goodIn_app (goodIn_of _ (by decide +kernel)) ggX3_answering_X3_length
set_option maxRecDepth 20000 in
theorem ggX3_answering_X4_at : GoodIn wsX3_answering wsX4_at := goodIn_r _ [25, 26, 27, 28, 29, 19, 30, 21, 48, 49] (by decide +kernel) (by decide +kernel)
set_option maxRecDepth 20000 in
theorem gX3_answering_X4_at : GoodIn wsX3_answering (wsV RX3 30 RX4 yX4_at wsX4_at) := goodIn_app (goodIn_of _ (by decide +kernel)) ggX3_answering_X4_at
theorem dX3_answering_0 : decode cX3_answering 0 = .ok (.iconst 0, 1) := by decide +kernel
theorem dX3_answering_1 : decode cX3_answering 1 = .ok (.istore_n 2, 1) := by decide +kernel
theorem dX3_answering_2 : decode cX3_answering 2 = .ok (.aload_n 0, 1) := by decide +kernel
theorem dX3_answering_3 : decode cX3_answering 3 = .ok (.iconst 0, 1) := by decide +kernel
theorem dX3_answering_4 : decode cX3_answering 4 = .ok (.iload_n 1, 1) := by decide +kernel
theorem dX3_answering_5 : decode cX3_answering 5 = .ok (.invokevirtual 58, 3) := by decide +kernel
theorem dX3_answering_8 : decode cX3_answering 8 = .ok (.istore_n 3, 1) := by decide +kernel
theorem dX3_answering_9 : decode cX3_answering 9 = .ok (.aload_n 0, 1) := by decide +kernel
theorem dX3_answering_10 : decode cX3_answering 10 = .ok (.iconst 0, 1) := by decide +kernel
theorem dX3_answering_11 : decode cX3_answering 11 = .ok (.invokevirtual 37, 3) := by decide +kernel
theorem dX3_answering_14 : decode cX3_answering 14 = .ok (.istore 4, 2) := by decide +kernel
theorem dX3_answering_16 : decode cX3_answering 16 = .ok (.iconst 1, 1) := by decide +kernel
theorem dX3_answering_17 : decode cX3_answering 17 = .ok (.istore 5, 2) := by decide +kernel
theorem dX3_answering_19 : decode cX3_answering 19 = .ok (.iload 5, 2) := by decide +kernel
theorem dX3_answering_21 : decode cX3_answering 21 = .ok (.aload_n 0, 1) := by decide +kernel
theorem dX3_answering_22 : decode cX3_answering 22 = .ok (.invokevirtual 40, 3) := by decide +kernel
theorem dX3_answering_25 : decode cX3_answering 25 = .ok (.if_icmp .ge 58, 3) := by decide +kernel
theorem dX3_answering_28 : decode cX3_answering 28 = .ok (.iload 4, 2) := by decide +kernel
theorem dX3_answering_30 : decode cX3_answering 30 = .ok (.aload_n 0, 1) := by decide +kernel
theorem dX3_answering_31 : decode cX3_answering 31 = .ok (.getfield 16, 3) := by decide +kernel
theorem dX3_answering_34 : decode cX3_answering 34 = .ok (.iload 5, 2) := by decide +kernel
theorem dX3_answering_36 : decode cX3_answering 36 = .ok (.invokevirtual 30, 3) := by decide +kernel
theorem dX3_answering_39 : decode cX3_answering 39 = .ok (.iadd, 1) := by decide +kernel
theorem dX3_answering_40 : decode cX3_answering 40 = .ok (.istore 4, 2) := by decide +kernel
theorem dX3_answering_42 : decode cX3_answering 42 = .ok (.iload_n 1, 1) := by decide +kernel
theorem dX3_answering_43 : decode cX3_answering 43 = .ok (.iload 4, 2) := by decide +kernel
theorem dX3_answering_45 : decode cX3_answering 45 = .ok (.isub, 1) := by decide +kernel
theorem dX3_answering_46 : decode cX3_answering 46 = .ok (.iload 4, 2) := by decide +kernel
theorem dX3_answering_48 : decode cX3_answering 48 = .ok (.aload_n 0, 1) := by decide +kernel
theorem dX3_answering_49 : decode cX3_answering 49 = .ok (.getfield 19, 3) := by decide +kernel
theorem dX3_answering_52 : decode cX3_answering 52 = .ok (.iload 5, 2) := by decide +kernel
theorem dX3_answering_54 : decode cX3_answering 54 = .ok (.invokevirtual 30, 3) := by decide +kernel
theorem dX3_answering_57 : decode cX3_answering 57 = .ok (.iadd, 1) := by decide +kernel
theorem dX3_answering_58 : decode cX3_answering 58 = .ok (.iload_n 1, 1) := by decide +kernel
theorem dX3_answering_59 : decode cX3_answering 59 = .ok (.isub, 1) := by decide +kernel
theorem dX3_answering_60 : decode cX3_answering 60 = .ok (.invokestatic 46, 3) := by decide +kernel
theorem dX3_answering_63 : decode cX3_answering 63 = .ok (.istore 6, 2) := by decide +kernel
theorem dX3_answering_65 : decode cX3_answering 65 = .ok (.iload 6, 2) := by decide +kernel
theorem dX3_answering_67 : decode cX3_answering 67 = .ok (.iload_n 3, 1) := by decide +kernel
theorem dX3_answering_68 : decode cX3_answering 68 = .ok (.if_icmp .ge 9, 3) := by decide +kernel
theorem dX3_answering_71 : decode cX3_answering 71 = .ok (.iload 6, 2) := by decide +kernel
theorem dX3_answering_73 : decode cX3_answering 73 = .ok (.istore_n 3, 1) := by decide +kernel
theorem dX3_answering_74 : decode cX3_answering 74 = .ok (.iload 5, 2) := by decide +kernel
theorem dX3_answering_76 : decode cX3_answering 76 = .ok (.istore_n 2, 1) := by decide +kernel
theorem dX3_answering_77 : decode cX3_answering 77 = .ok (.iinc 5 1, 3) := by decide +kernel
theorem dX3_answering_80 : decode cX3_answering 80 = .ok (.goto (-61), 3) := by decide +kernel
theorem dX3_answering_83 : decode cX3_answering 83 = .ok (.iload_n 2, 1) := by decide +kernel
theorem dX3_answering_84 : decode cX3_answering 84 = .ok (.ireturn, 1) := by decide +kernel
set_option maxRecDepth 20000 in
theorem ggX3_add_X3_firstAbove : GoodIn wsX3_add wsX3_firstAbove := goodIn_r _ [8, 1, 9, 10, 11, 12, 13, 14, 15, 16, 17, 18, 19, 20, 21, 22, 23, 45, 46, 47, 48, 49] (by decide +kernel) (by decide +kernel)
set_option maxRecDepth 20000 in
theorem gX3_add_X3_firstAbove : GoodIn wsX3_add (wsV RX3 61 RX3 yX3_firstAbove wsX3_firstAbove) := goodIn_app (goodIn_of _ (by decide +kernel)) ggX3_add_X3_firstAbove
set_option maxRecDepth 20000 in
theorem ggX3_add_X3_length : GoodIn wsX3_add wsX3_length := goodIn_r _ [27, 1, 28, 29, 30, 12, 31, 14, 45, 46, 47, 48, 49] (by decide +kernel) (by decide +kernel)
set_option maxRecDepth 20000 in
theorem gX3_add_X3_length : GoodIn wsX3_add (wsV RX3 40 RX3 yX3_length wsX3_length) := goodIn_app (goodIn_of _ (by decide +kernel)) ggX3_add_X3_length
set_option maxRecDepth 20000 in
theorem ggX3_add_X3_widthOf : GoodIn wsX3_add wsX3_widthOf := goodIn_r _ [35, 2, 3, 36, 16, 17, 12, 18, 19, 20, 21, 22, 23, 14, 45, 46, 47, 48, 49] (by decide +kernel) (by decide +kernel)
set_option maxRecDepth 20000 in
theorem gX3_add_X3_widthOf : GoodIn wsX3_add (wsV RX3 43 RX3 yX3_widthOf wsX3_widthOf) := goodIn_app (goodIn_of _ (by decide +kernel)) ggX3_add_X3_widthOf
set_option maxRecDepth 20000 in
theorem ggX3_add_X4_insert : GoodIn wsX3_add wsX4_insert := goodIn_r _ [40, 14, 19, 41, 42, 43, 44, 48, 49] (by decide +kernel) (by decide +kernel)
set_option maxRecDepth 20000 in
theorem gX3_add_X4_insert : GoodIn wsX3_add (wsV RX3 64 RX4 yX4_insert wsX4_insert) := goodIn_app (goodIn_of _ (by decide +kernel)) ggX3_add_X4_insert
theorem dX3_add_0 : decode cX3_add 0 = .ok (.aload_n 0, 1) := by decide +kernel
theorem dX3_add_1 : decode cX3_add 1 = .ok (.iload_n 1, 1) := by decide +kernel
theorem dX3_add_2 : decode cX3_add 2 = .ok (.invokevirtual 61, 3) := by decide +kernel
theorem dX3_add_5 : decode cX3_add 5 = .ok (.istore_n 2, 1) := by decide +kernel
theorem dX3_add_6 : decode cX3_add 6 = .ok (.iload_n 2, 1) := by decide +kernel
theorem dX3_add_7 : decode cX3_add 7 = .ok (.aload_n 0, 1) := by decide +kernel
theorem dX3_add_8 : decode cX3_add 8 = .ok (.invokevirtual 40, 3) := by decide +kernel
theorem dX3_add_11 : decode cX3_add 11 = .ok (.if_icmp .ge 13, 3) := by decide +kernel
theorem dX3_add_14 : decode cX3_add 14 = .ok (.aload_n 0, 1) := by decide +kernel
theorem dX3_add_15 : decode cX3_add 15 = .ok (.iload_n 2, 1) := by decide +kernel
theorem dX3_add_16 : decode cX3_add 16 = .ok (.invokevirtual 43, 3) := by decide +kernel
theorem dX3_add_19 : decode cX3_add 19 = .ok (.iconst 1, 1) := by decide +kernel
theorem dX3_add_20 : decode cX3_add 20 = .ok (.isub, 1) := by decide +kernel
theorem dX3_add_21 : decode cX3_add 21 = .ok (.goto 4, 3) := by decide +kernel
theorem dX3_add_24 : decode cX3_add 24 = .ok (.iconst 0, 1) := by decide +kernel
theorem dX3_add_25 : decode cX3_add 25 = .ok (.istore_n 3, 1) := by decide +kernel
theorem dX3_add_26 : decode cX3_add 26 = .ok (.aload_n 0, 1) := by decide +kernel
theorem dX3_add_27 : decode cX3_add 27 = .ok (.getfield 10, 3) := by decide +kernel
theorem dX3_add_30 : decode cX3_add 30 = .ok (.iload_n 2, 1) := by decide +kernel
theorem dX3_add_31 : decode cX3_add 31 = .ok (.iload_n 1, 1) := by decide +kernel
theorem dX3_add_32 : decode cX3_add 32 = .ok (.invokevirtual 64, 3) := by decide +kernel
theorem dX3_add_35 : decode cX3_add 35 = .ok (.aload_n 0, 1) := by decide +kernel
theorem dX3_add_36 : decode cX3_add 36 = .ok (.getfield 16, 3) := by decide +kernel
theorem dX3_add_39 : decode cX3_add 39 = .ok (.iload_n 2, 1) := by decide +kernel
theorem dX3_add_40 : decode cX3_add 40 = .ok (.iconst 1, 1) := by decide +kernel
theorem dX3_add_41 : decode cX3_add 41 = .ok (.invokevirtual 64, 3) := by decide +kernel
theorem dX3_add_44 : decode cX3_add 44 = .ok (.aload_n 0, 1) := by decide +kernel
theorem dX3_add_45 : decode cX3_add 45 = .ok (.getfield 19, 3) := by decide +kernel
theorem dX3_add_48 : decode cX3_add 48 = .ok (.iload_n 2, 1) := by decide +kernel
theorem dX3_add_49 : decode cX3_add 49 = .ok (.iload_n 3, 1) := by decide +kernel
theorem dX3_add_50 : decode cX3_add 50 = .ok (.invokevirtual 64, 3) := by decide +kernel
theorem dX3_add_53 : decode cX3_add 53 = .ok (.return_, 1) := by decide +kernel
set_option maxRecDepth 20000 in
theorem ggX3_thin_X3_length : GoodIn wsX3_thin wsX3_length := goodIn_r _ [6, 7, 8, 9, 10, 11, 12, 13, 48, 49, 50, 51, 52] (by decide +kernel) (by decide +kernel)
set_option maxRecDepth 20000 in
theorem gX3_thin_X3_length : GoodIn wsX3_thin (wsV RX3 40 RX3 yX3_length wsX3_length) := goodIn_app (goodIn_of _ (by decide +kernel)) ggX3_thin_X3_length
set_option maxRecDepth 20000 in
theorem ggX3_thin_X4_at : GoodIn wsX3_thin wsX4_at := goodIn_r _ [17, 18, 19, 20, 21, 11, 22, 13, 51, 52] (by decide +kernel) (by decide +kernel)
set_option maxRecDepth 20000 in
theorem gX3_thin_X4_at : GoodIn wsX3_thin (wsV RX3 30 RX4 yX4_at wsX4_at) := goodIn_app (goodIn_of _ (by decide +kernel)) ggX3_thin_X4_at
set_option maxRecDepth 20000 in
theorem ggX3_thin_X3_widthOf : GoodIn wsX3_thin wsX3_widthOf := goodIn_r _ [26, 1, 27, 14, 15, 16, 11, 17, 18, 19, 20, 21, 22, 13, 48, 49, 50, 51, 52] (by decide +kernel) (by decide +kernel)
set_option maxRecDepth 20000 in
theorem gX3_thin_X3_widthOf : GoodIn wsX3_thin (wsV RX3 43 RX3 yX3_widthOf wsX3_widthOf) := goodIn_app (goodIn_of _ (by decide +kernel)) ggX3_thin_X3_widthOf
set_option maxRecDepth 20000 in
theorem ggX3_thin_X4_put : GoodIn wsX3_thin wsX4_put := goodIn_r _ [31, 18, 19, 20, 21, 11, 22, 13, 51, 52] (by decide +kernel) (by decide +kernel)
set_option maxRecDepth 20000 in
theorem gX3_thin_X4_put : GoodIn wsX3_thin (wsV RX3 68 RX4 yX4_put wsX4_put) := goodIn_app (goodIn_of _ (by decide +kernel)) ggX3_thin_X4_put
set_option maxRecDepth 20000 in
theorem ggX3_thin_X3_dropWithoutGap : GoodIn wsX3_thin wsX3_dropWithoutGap := goodIn_r _ [35, 1, 7, 27, 2, 3, 4, 5, 6, 8, 9, 10, 11, 12, 13, 14, 15, 16, 17, 18, 19, 20, 21, 22, 36, 37, 38, 39, 28, 29, 30, 31, 40, 41, 42, 43, 44, 45, 46, 47, 48, 49, 50, 51, 52] (by decide +kernel) (by decide +kernel)
set_option maxRecDepth 20000 in
theorem gX3_thin_X3_dropWithoutGap : GoodIn wsX3_thin (wsV RX3 71 RX3 yX3_dropWithoutGap wsX3_dropWithoutGap) := goodIn_app (goodIn_of _ (by decide +kernel)) ggX3_thin_X3_dropWithoutGap
theorem dX3_thin_0 : decode cX3_thin 0 = .ok (.aload_n 0, 1) := by decide +kernel
theorem dX3_thin_1 : decode cX3_thin 1 = .ok (.invokevirtual 40, 3) := by decide +kernel
theorem dX3_thin_4 : decode cX3_thin 4 = .ok (.iconst 1, 1) := by decide +kernel
theorem dX3_thin_5 : decode cX3_thin 5 = .ok (.isub, 1) := by decide +kernel
theorem dX3_thin_6 : decode cX3_thin 6 = .ok (.istore_n 2, 1) := by decide +kernel
theorem dX3_thin_7 : decode cX3_thin 7 = .ok (.aload_n 0, 1) := by decide +kernel
theorem dX3_thin_8 : decode cX3_thin 8 = .ok (.invokevirtual 40, 3) := by decide +kernel
theorem dX3_thin_11 : decode cX3_thin 11 = .ok (.iconst 2, 1) := by decide +kernel
theorem dX3_thin_12 : decode cX3_thin 12 = .ok (.isub, 1) := by decide +kernel
theorem dX3_thin_13 : decode cX3_thin 13 = .ok (.istore_n 3, 1) := by decide +kernel
theorem dX3_thin_14 : decode cX3_thin 14 = .ok (.iload_n 3, 1) := by decide +kernel
theorem dX3_thin_15 : decode cX3_thin 15 = .ok (.iconst 1, 1) := by decide +kernel
theorem dX3_thin_16 : decode cX3_thin 16 = .ok (.if_icmp .lt 66, 3) := by decide +kernel
theorem dX3_thin_19 : decode cX3_thin 19 = .ok (.aload_n 0, 1) := by decide +kernel
theorem dX3_thin_20 : decode cX3_thin 20 = .ok (.getfield 16, 3) := by decide +kernel
theorem dX3_thin_23 : decode cX3_thin 23 = .ok (.iload_n 3, 1) := by decide +kernel
theorem dX3_thin_24 : decode cX3_thin 24 = .ok (.invokevirtual 30, 3) := by decide +kernel
theorem dX3_thin_27 : decode cX3_thin 27 = .ok (.aload_n 0, 1) := by decide +kernel
theorem dX3_thin_28 : decode cX3_thin 28 = .ok (.iload_n 2, 1) := by decide +kernel
theorem dX3_thin_29 : decode cX3_thin 29 = .ok (.invokevirtual 43, 3) := by decide +kernel
theorem dX3_thin_32 : decode cX3_thin 32 = .ok (.iadd, 1) := by decide +kernel
theorem dX3_thin_33 : decode cX3_thin 33 = .ok (.iload_n 1, 1) := by decide +kernel
theorem dX3_thin_34 : decode cX3_thin 34 = .ok (.if_icmp .gt 40, 3) := by decide +kernel
theorem dX3_thin_37 : decode cX3_thin 37 = .ok (.aload_n 0, 1) := by decide +kernel
theorem dX3_thin_38 : decode cX3_thin 38 = .ok (.getfield 16, 3) := by decide +kernel
theorem dX3_thin_41 : decode cX3_thin 41 = .ok (.iload_n 2, 1) := by decide +kernel
theorem dX3_thin_42 : decode cX3_thin 42 = .ok (.aload_n 0, 1) := by decide +kernel
theorem dX3_thin_43 : decode cX3_thin 43 = .ok (.getfield 16, 3) := by decide +kernel
theorem dX3_thin_46 : decode cX3_thin 46 = .ok (.iload_n 2, 1) := by decide +kernel
theorem dX3_thin_47 : decode cX3_thin 47 = .ok (.invokevirtual 30, 3) := by decide +kernel
theorem dX3_thin_50 : decode cX3_thin 50 = .ok (.aload_n 0, 1) := by decide +kernel
theorem dX3_thin_51 : decode cX3_thin 51 = .ok (.getfield 16, 3) := by decide +kernel
theorem dX3_thin_54 : decode cX3_thin 54 = .ok (.iload_n 3, 1) := by decide +kernel
theorem dX3_thin_55 : decode cX3_thin 55 = .ok (.invokevirtual 30, 3) := by decide +kernel
theorem dX3_thin_58 : decode cX3_thin 58 = .ok (.iadd, 1) := by decide +kernel
theorem dX3_thin_59 : decode cX3_thin 59 = .ok (.invokevirtual 68, 3) := by decide +kernel
theorem dX3_thin_62 : decode cX3_thin 62 = .ok (.aload_n 0, 1) := by decide +kernel
theorem dX3_thin_63 : decode cX3_thin 63 = .ok (.getfield 16, 3) := by decide +kernel
theorem dX3_thin_66 : decode cX3_thin 66 = .ok (.iload_n 3, 1) := by decide +kernel
theorem dX3_thin_67 : decode cX3_thin 67 = .ok (.iconst 0, 1) := by decide +kernel
theorem dX3_thin_68 : decode cX3_thin 68 = .ok (.invokevirtual 68, 3) := by decide +kernel
theorem dX3_thin_71 : decode cX3_thin 71 = .ok (.goto 5, 3) := by decide +kernel
theorem dX3_thin_74 : decode cX3_thin 74 = .ok (.iload_n 3, 1) := by decide +kernel
theorem dX3_thin_75 : decode cX3_thin 75 = .ok (.istore_n 2, 1) := by decide +kernel
theorem dX3_thin_76 : decode cX3_thin 76 = .ok (.iinc 3 (-1), 3) := by decide +kernel
theorem dX3_thin_79 : decode cX3_thin 79 = .ok (.goto (-65), 3) := by decide +kernel
theorem dX3_thin_82 : decode cX3_thin 82 = .ok (.aload_n 0, 1) := by decide +kernel
theorem dX3_thin_83 : decode cX3_thin 83 = .ok (.invokevirtual 71, 3) := by decide +kernel
theorem dX3_thin_86 : decode cX3_thin 86 = .ok (.return_, 1) := by decide +kernel
set_option maxRecDepth 20000 in
theorem ggX3_dropWithoutGap_X3_length : GoodIn wsX3_dropWithoutGap wsX3_length := goodIn_r _ [8, 2, 9, 10, 11, 12, 13, 14, 40, 41, 42, 43, 44] (by decide +kernel) (by decide +kernel)
set_option maxRecDepth 20000 in
theorem gX3_dropWithoutGap_X3_length : GoodIn wsX3_dropWithoutGap (wsV RX3 40 RX3 yX3_length wsX3_length) := goodIn_app (goodIn_of _ (by decide +kernel)) ggX3_dropWithoutGap_X3_length
set_option maxRecDepth 20000 in
theorem ggX3_dropWithoutGap_X4_at : GoodIn wsX3_dropWithoutGap wsX4_at := goodIn_r _ [18, 19, 20, 21, 22, 12, 23, 14, 43, 44] (by decide +kernel) (by decide +kernel)
set_option maxRecDepth 20000 in
theorem gX3_dropWithoutGap_X4_at : GoodIn wsX3_dropWithoutGap (wsV RX3 30 RX4 yX4_at wsX4_at) := goodIn_app (goodIn_of _ (by decide +kernel)) ggX3_dropWithoutGap_X4_at
set_option maxRecDepth 20000 in
theorem ggX3_dropWithoutGap_X3_write : GoodIn wsX3_dropWithoutGap wsX3_write := goodIn_r _ [27, 2, 1, 3, 28, 29, 30, 12, 31, 19, 20, 21, 22, 23, 14, 40, 41, 42, 43, 44] (by decide +kernel) (by decide +kernel)
set_option maxRecDepth 20000 in
theorem gX3_dropWithoutGap_X3_write : GoodIn wsX3_dropWithoutGap (wsV RX3 74 RX3 yX3_write wsX3_write) := goodIn_app (goodIn_of _ (by decide +kernel)) ggX3_dropWithoutGap_X3_write
set_option maxRecDepth 20000 in
theorem ggX3_dropWithoutGap_X3_cutTo : GoodIn wsX3_dropWithoutGap wsX3_cutTo := goodIn_r _ [35, 2, 1, 3, 36, 37, 38, 12, 39, 14, 40, 41, 42, 43, 44] (by decide +kernel) (by decide +kernel)
set_option maxRecDepth 20000 in
theorem gX3_dropWithoutGap_X3_cutTo : GoodIn wsX3_dropWithoutGap (wsV RX3 26 RX3 yX3_cutTo wsX3_cutTo) := goodIn_app (goodIn_of _ (by decide +kernel)) ggX3_dropWithoutGap_X3_cutTo
theorem dX3_dropWithoutGap_0 : decode cX3_dropWithoutGap 0 = .ok (.iconst 0, 1) := by decide +kernel
theorem dX3_dropWithoutGap_1 : decode cX3_dropWithoutGap 1 = .ok (.istore_n 1, 1) := by decide +kernel
theorem dX3_dropWithoutGap_2 : decode cX3_dropWithoutGap 2 = .ok (.iconst 0, 1) := by decide +kernel
theorem dX3_dropWithoutGap_3 : decode cX3_dropWithoutGap 3 = .ok (.istore_n 2, 1) := by decide +kernel
theorem dX3_dropWithoutGap_4 : decode cX3_dropWithoutGap 4 = .ok (.iload_n 2, 1) := by decide +kernel
theorem dX3_dropWithoutGap_5 : decode cX3_dropWithoutGap 5 = .ok (.aload_n 0, 1) := by decide +kernel
theorem dX3_dropWithoutGap_6 : decode cX3_dropWithoutGap 6 = .ok (.invokevirtual 40, 3) := by decide +kernel
theorem dX3_dropWithoutGap_9 : decode cX3_dropWithoutGap 9 = .ok (.if_icmp .ge 52, 3) := by decide +kernel
theorem dX3_dropWithoutGap_12 : decode cX3_dropWithoutGap 12 = .ok (.aload_n 0, 1) := by decide +kernel
theorem dX3_dropWithoutGap_13 : decode cX3_dropWithoutGap 13 = .ok (.getfield 16, 3) := by decide +kernel
theorem dX3_dropWithoutGap_16 : decode cX3_dropWithoutGap 16 = .ok (.iload_n 2, 1) := by decide +kernel
theorem dX3_dropWithoutGap_17 : decode cX3_dropWithoutGap 17 = .ok (.invokevirtual 30, 3) := by decide +kernel
theorem dX3_dropWithoutGap_20 : decode cX3_dropWithoutGap 20 = .ok (.ifCond .le 35, 3) := by decide +kernel
theorem dX3_dropWithoutGap_23 : decode cX3_dropWithoutGap 23 = .ok (.aload_n 0, 1) := by decide +kernel
theorem dX3_dropWithoutGap_24 : decode cX3_dropWithoutGap 24 = .ok (.iload_n 1, 1) := by decide +kernel
theorem dX3_dropWithoutGap_25 : decode cX3_dropWithoutGap 25 = .ok (.aload_n 0, 1) := by decide +kernel
theorem dX3_dropWithoutGap_26 : decode cX3_dropWithoutGap 26 = .ok (.getfield 10, 3) := by decide +kernel
theorem dX3_dropWithoutGap_29 : decode cX3_dropWithoutGap 29 = .ok (.iload_n 2, 1) := by decide +kernel
theorem dX3_dropWithoutGap_30 : decode cX3_dropWithoutGap 30 = .ok (.invokevirtual 30, 3) := by decide +kernel
theorem dX3_dropWithoutGap_33 : decode cX3_dropWithoutGap 33 = .ok (.aload_n 0, 1) := by decide +kernel
theorem dX3_dropWithoutGap_34 : decode cX3_dropWithoutGap 34 = .ok (.getfield 16, 3) := by decide +kernel
theorem dX3_dropWithoutGap_37 : decode cX3_dropWithoutGap 37 = .ok (.iload_n 2, 1) := by decide +kernel
theorem dX3_dropWithoutGap_38 : decode cX3_dropWithoutGap 38 = .ok (.invokevirtual 30, 3) := by decide +kernel
theorem dX3_dropWithoutGap_41 : decode cX3_dropWithoutGap 41 = .ok (.aload_n 0, 1) := by decide +kernel
theorem dX3_dropWithoutGap_42 : decode cX3_dropWithoutGap 42 = .ok (.getfield 19, 3) := by decide +kernel
theorem dX3_dropWithoutGap_45 : decode cX3_dropWithoutGap 45 = .ok (.iload_n 2, 1) := by decide +kernel
theorem dX3_dropWithoutGap_46 : decode cX3_dropWithoutGap 46 = .ok (.invokevirtual 30, 3) := by decide +kernel
theorem dX3_dropWithoutGap_49 : decode cX3_dropWithoutGap 49 = .ok (.invokevirtual 74, 3) := by decide +kernel
theorem dX3_dropWithoutGap_52 : decode cX3_dropWithoutGap 52 = .ok (.iinc 1 1, 3) := by decide +kernel
theorem dX3_dropWithoutGap_55 : decode cX3_dropWithoutGap 55 = .ok (.iinc 2 1, 3) := by decide +kernel
theorem dX3_dropWithoutGap_58 : decode cX3_dropWithoutGap 58 = .ok (.goto (-54), 3) := by decide +kernel
theorem dX3_dropWithoutGap_61 : decode cX3_dropWithoutGap 61 = .ok (.aload_n 0, 1) := by decide +kernel
theorem dX3_dropWithoutGap_62 : decode cX3_dropWithoutGap 62 = .ok (.iload_n 1, 1) := by decide +kernel
theorem dX3_dropWithoutGap_63 : decode cX3_dropWithoutGap 63 = .ok (.invokevirtual 26, 3) := by decide +kernel
theorem dX3_dropWithoutGap_66 : decode cX3_dropWithoutGap 66 = .ok (.return_, 1) := by decide +kernel
set_option maxRecDepth 20000 in
theorem ggX3_mergeWith_X3_length : GoodIn wsX3_mergeWith wsX3_length := goodIn_r _ [8, 2, 9, 10, 11, 12, 13, 14, 44, 45, 46, 47, 48] (by decide +kernel) (by decide +kernel)
set_option maxRecDepth 20000 in
theorem gX3_mergeWith_X3_length : GoodIn wsX3_mergeWith (wsV RX3 40 RX3 yX3_length wsX3_length) := goodIn_app (goodIn_of _ (by decide +kernel)) ggX3_mergeWith_X3_length
set_option maxRecDepth 20000 in
theorem ggX3_mergeWith_X4_at : GoodIn wsX3_mergeWith wsX4_at := goodIn_r _ [18, 19, 20, 21, 22, 12, 23, 14, 47, 48] (by decide +kernel) (by decide +kernel)
set_option maxRecDepth 20000 in
theorem gX3_mergeWith_X4_at : GoodIn wsX3_mergeWith (wsV RX3 30 RX4 yX4_at wsX4_at) := goodIn_app (goodIn_of _ (by decide +kernel)) ggX3_mergeWith_X4_at
set_option maxRecDepth 20000 in
theorem ggX3_mergeWith_X3_growTo : GoodIn wsX3_mergeWith wsX3_growTo := goodIn_r _ [27, 2, 3, 1, 28, 29, 30, 12, 31, 14, 19, 44, 45, 46, 47, 48] (by decide +kernel) (by decide +kernel)
set_option maxRecDepth 20000 in
theorem gX3_mergeWith_X3_growTo : GoodIn wsX3_mergeWith (wsV RX3 78 RX3 yX3_growTo wsX3_growTo) := goodIn_app (goodIn_of _ (by decide +kernel)) ggX3_mergeWith_X3_growTo
set_option maxRecDepth 20000 in
theorem ggX3_mergeWith_X3_write : GoodIn wsX3_mergeWith wsX3_write := goodIn_r _ [35, 2, 3, 1, 36, 37, 38, 12, 39, 19, 20, 21, 22, 23, 14, 44, 45, 46, 47, 48] (by decide +kernel) (by decide +kernel)
set_option maxRecDepth 20000 in
theorem gX3_mergeWith_X3_write : GoodIn wsX3_mergeWith (wsV RX3 74 RX3 yX3_write wsX3_write) := goodIn_app (goodIn_of _ (by decide +kernel)) ggX3_mergeWith_X3_write
set_option maxRecDepth 20000 in
theorem ggX3_mergeWith_X3_widthOf : GoodIn wsX3_mergeWith wsX3_widthOf := goodIn_r _ [43, 3, 1, 15, 16, 17, 12, 18, 19, 20, 21, 22, 23, 14, 44, 45, 46, 47, 48] (by decide +kernel) (by decide +kernel)
set_option maxRecDepth 20000 in
theorem gX3_mergeWith_X3_widthOf : GoodIn wsX3_mergeWith (wsV RX3 43 RX3 yX3_widthOf wsX3_widthOf) := goodIn_app (goodIn_of _ (by decide +kernel)) ggX3_mergeWith_X3_widthOf
theorem dX3_mergeWith_0 : decode cX3_mergeWith 0 = .ok (.aload_n 0, 1) := by decide +kernel
theorem dX3_mergeWith_1 : decode cX3_mergeWith 1 = .ok (.invokevirtual 40, 3) := by decide +kernel
theorem dX3_mergeWith_4 : decode cX3_mergeWith 4 = .ok (.iconst 1, 1) := by decide +kernel
theorem dX3_mergeWith_5 : decode cX3_mergeWith 5 = .ok (.isub, 1) := by decide +kernel
theorem dX3_mergeWith_6 : decode cX3_mergeWith 6 = .ok (.istore_n 2, 1) := by decide +kernel
theorem dX3_mergeWith_7 : decode cX3_mergeWith 7 = .ok (.aload_n 1, 1) := by decide +kernel
theorem dX3_mergeWith_8 : decode cX3_mergeWith 8 = .ok (.invokevirtual 40, 3) := by decide +kernel
theorem dX3_mergeWith_11 : decode cX3_mergeWith 11 = .ok (.iconst 1, 1) := by decide +kernel
theorem dX3_mergeWith_12 : decode cX3_mergeWith 12 = .ok (.isub, 1) := by decide +kernel
theorem dX3_mergeWith_13 : decode cX3_mergeWith 13 = .ok (.istore_n 3, 1) := by decide +kernel
theorem dX3_mergeWith_14 : decode cX3_mergeWith 14 = .ok (.aload_n 0, 1) := by decide +kernel
theorem dX3_mergeWith_15 : decode cX3_mergeWith 15 = .ok (.getfield 19, 3) := by decide +kernel
theorem dX3_mergeWith_18 : decode cX3_mergeWith 18 = .ok (.iload_n 2, 1) := by decide +kernel
theorem dX3_mergeWith_19 : decode cX3_mergeWith 19 = .ok (.invokevirtual 30, 3) := by decide +kernel
theorem dX3_mergeWith_22 : decode cX3_mergeWith 22 = .ok (.istore 4, 2) := by decide +kernel
theorem dX3_mergeWith_24 : decode cX3_mergeWith 24 = .ok (.aload_n 1, 1) := by decide +kernel
theorem dX3_mergeWith_25 : decode cX3_mergeWith 25 = .ok (.getfield 19, 3) := by decide +kernel
theorem dX3_mergeWith_28 : decode cX3_mergeWith 28 = .ok (.iload_n 3, 1) := by decide +kernel
theorem dX3_mergeWith_29 : decode cX3_mergeWith 29 = .ok (.invokevirtual 30, 3) := by decide +kernel
theorem dX3_mergeWith_32 : decode cX3_mergeWith 32 = .ok (.istore 5, 2) := by decide +kernel
theorem dX3_mergeWith_34 : decode cX3_mergeWith 34 = .ok (.aload_n 0, 1) := by decide +kernel
theorem dX3_mergeWith_35 : decode cX3_mergeWith 35 = .ok (.aload_n 0, 1) := by decide +kernel
theorem dX3_mergeWith_36 : decode cX3_mergeWith 36 = .ok (.invokevirtual 40, 3) := by decide +kernel
theorem dX3_mergeWith_39 : decode cX3_mergeWith 39 = .ok (.aload_n 1, 1) := by decide +kernel
theorem dX3_mergeWith_40 : decode cX3_mergeWith 40 = .ok (.invokevirtual 40, 3) := by decide +kernel
theorem dX3_mergeWith_43 : decode cX3_mergeWith 43 = .ok (.iadd, 1) := by decide +kernel
theorem dX3_mergeWith_44 : decode cX3_mergeWith 44 = .ok (.invokevirtual 78, 3) := by decide +kernel
theorem dX3_mergeWith_47 : decode cX3_mergeWith 47 = .ok (.aload_n 0, 1) := by decide +kernel
theorem dX3_mergeWith_48 : decode cX3_mergeWith 48 = .ok (.invokevirtual 40, 3) := by decide +kernel
theorem dX3_mergeWith_51 : decode cX3_mergeWith 51 = .ok (.iconst 1, 1) := by decide +kernel
theorem dX3_mergeWith_52 : decode cX3_mergeWith 52 = .ok (.isub, 1) := by decide +kernel
theorem dX3_mergeWith_53 : decode cX3_mergeWith 53 = .ok (.istore 6, 2) := by decide +kernel
theorem dX3_mergeWith_55 : decode cX3_mergeWith 55 = .ok (.iload 6, 2) := by decide +kernel
theorem dX3_mergeWith_57 : decode cX3_mergeWith 57 = .ok (.ifCond .lt 133, 3) := by decide +kernel
theorem dX3_mergeWith_60 : decode cX3_mergeWith 60 = .ok (.iload_n 3, 1) := by decide +kernel
theorem dX3_mergeWith_61 : decode cX3_mergeWith 61 = .ok (.ifCond .lt 74, 3) := by decide +kernel
theorem dX3_mergeWith_64 : decode cX3_mergeWith 64 = .ok (.iload_n 2, 1) := by decide +kernel
theorem dX3_mergeWith_65 : decode cX3_mergeWith 65 = .ok (.ifCond .lt 22, 3) := by decide +kernel
theorem dX3_mergeWith_68 : decode cX3_mergeWith 68 = .ok (.aload_n 1, 1) := by decide +kernel
theorem dX3_mergeWith_69 : decode cX3_mergeWith 69 = .ok (.getfield 10, 3) := by decide +kernel
theorem dX3_mergeWith_72 : decode cX3_mergeWith 72 = .ok (.iload_n 3, 1) := by decide +kernel
theorem dX3_mergeWith_73 : decode cX3_mergeWith 73 = .ok (.invokevirtual 30, 3) := by decide +kernel
theorem dX3_mergeWith_76 : decode cX3_mergeWith 76 = .ok (.aload_n 0, 1) := by decide +kernel
theorem dX3_mergeWith_77 : decode cX3_mergeWith 77 = .ok (.getfield 10, 3) := by decide +kernel
theorem dX3_mergeWith_80 : decode cX3_mergeWith 80 = .ok (.iload_n 2, 1) := by decide +kernel
theorem dX3_mergeWith_81 : decode cX3_mergeWith 81 = .ok (.invokevirtual 30, 3) := by decide +kernel
theorem dX3_mergeWith_84 : decode cX3_mergeWith 84 = .ok (.if_icmp .lt 51, 3) := by decide +kernel
theorem dX3_mergeWith_87 : decode cX3_mergeWith 87 = .ok (.aload_n 0, 1) := by decide +kernel
theorem dX3_mergeWith_88 : decode cX3_mergeWith 88 = .ok (.iload 6, 2) := by decide +kernel
theorem dX3_mergeWith_90 : decode cX3_mergeWith 90 = .ok (.aload_n 1, 1) := by decide +kernel
theorem dX3_mergeWith_91 : decode cX3_mergeWith 91 = .ok (.getfield 10, 3) := by decide +kernel
theorem dX3_mergeWith_94 : decode cX3_mergeWith 94 = .ok (.iload_n 3, 1) := by decide +kernel
theorem dX3_mergeWith_95 : decode cX3_mergeWith 95 = .ok (.invokevirtual 30, 3) := by decide +kernel
theorem dX3_mergeWith_98 : decode cX3_mergeWith 98 = .ok (.aload_n 1, 1) := by decide +kernel
theorem dX3_mergeWith_99 : decode cX3_mergeWith 99 = .ok (.getfield 16, 3) := by decide +kernel
theorem dX3_mergeWith_102 : decode cX3_mergeWith 102 = .ok (.iload_n 3, 1) := by decide +kernel
theorem dX3_mergeWith_103 : decode cX3_mergeWith 103 = .ok (.invokevirtual 30, 3) := by decide +kernel
theorem dX3_mergeWith_106 : decode cX3_mergeWith 106 = .ok (.aload_n 1, 1) := by decide +kernel
theorem dX3_mergeWith_107 : decode cX3_mergeWith 107 = .ok (.getfield 19, 3) := by decide +kernel
theorem dX3_mergeWith_110 : decode cX3_mergeWith 110 = .ok (.iload_n 3, 1) := by decide +kernel
theorem dX3_mergeWith_111 : decode cX3_mergeWith 111 = .ok (.invokevirtual 30, 3) := by decide +kernel
theorem dX3_mergeWith_114 : decode cX3_mergeWith 114 = .ok (.iload 4, 2) := by decide +kernel
theorem dX3_mergeWith_116 : decode cX3_mergeWith 116 = .ok (.iadd, 1) := by decide +kernel
theorem dX3_mergeWith_117 : decode cX3_mergeWith 117 = .ok (.invokevirtual 74, 3) := by decide +kernel
theorem dX3_mergeWith_120 : decode cX3_mergeWith 120 = .ok (.aload_n 1, 1) := by decide +kernel
theorem dX3_mergeWith_121 : decode cX3_mergeWith 121 = .ok (.iload_n 3, 1) := by decide +kernel
theorem dX3_mergeWith_122 : decode cX3_mergeWith 122 = .ok (.invokevirtual 43, 3) := by decide +kernel
theorem dX3_mergeWith_125 : decode cX3_mergeWith 125 = .ok (.iconst 1, 1) := by decide +kernel
theorem dX3_mergeWith_126 : decode cX3_mergeWith 126 = .ok (.isub, 1) := by decide +kernel
theorem dX3_mergeWith_127 : decode cX3_mergeWith 127 = .ok (.istore 5, 2) := by decide +kernel
theorem dX3_mergeWith_129 : decode cX3_mergeWith 129 = .ok (.iinc 3 (-1), 3) := by decide +kernel
theorem dX3_mergeWith_132 : decode cX3_mergeWith 132 = .ok (.goto 52, 3) := by decide +kernel
theorem dX3_mergeWith_135 : decode cX3_mergeWith 135 = .ok (.aload_n 0, 1) := by decide +kernel
theorem dX3_mergeWith_136 : decode cX3_mergeWith 136 = .ok (.iload_n 2, 1) := by decide +kernel
theorem dX3_mergeWith_137 : decode cX3_mergeWith 137 = .ok (.invokevirtual 43, 3) := by decide +kernel
theorem dX3_mergeWith_140 : decode cX3_mergeWith 140 = .ok (.istore 7, 2) := by decide +kernel
theorem dX3_mergeWith_142 : decode cX3_mergeWith 142 = .ok (.aload_n 0, 1) := by decide +kernel
theorem dX3_mergeWith_143 : decode cX3_mergeWith 143 = .ok (.iload 6, 2) := by decide +kernel
theorem dX3_mergeWith_145 : decode cX3_mergeWith 145 = .ok (.aload_n 0, 1) := by decide +kernel
theorem dX3_mergeWith_146 : decode cX3_mergeWith 146 = .ok (.getfield 10, 3) := by decide +kernel
theorem dX3_mergeWith_149 : decode cX3_mergeWith 149 = .ok (.iload_n 2, 1) := by decide +kernel
theorem dX3_mergeWith_150 : decode cX3_mergeWith 150 = .ok (.invokevirtual 30, 3) := by decide +kernel
theorem dX3_mergeWith_153 : decode cX3_mergeWith 153 = .ok (.aload_n 0, 1) := by decide +kernel
theorem dX3_mergeWith_154 : decode cX3_mergeWith 154 = .ok (.getfield 16, 3) := by decide +kernel
theorem dX3_mergeWith_157 : decode cX3_mergeWith 157 = .ok (.iload_n 2, 1) := by decide +kernel
theorem dX3_mergeWith_158 : decode cX3_mergeWith 158 = .ok (.invokevirtual 30, 3) := by decide +kernel
theorem dX3_mergeWith_161 : decode cX3_mergeWith 161 = .ok (.aload_n 0, 1) := by decide +kernel
theorem dX3_mergeWith_162 : decode cX3_mergeWith 162 = .ok (.getfield 19, 3) := by decide +kernel
theorem dX3_mergeWith_165 : decode cX3_mergeWith 165 = .ok (.iload_n 2, 1) := by decide +kernel
theorem dX3_mergeWith_166 : decode cX3_mergeWith 166 = .ok (.invokevirtual 30, 3) := by decide +kernel
theorem dX3_mergeWith_169 : decode cX3_mergeWith 169 = .ok (.iload 5, 2) := by decide +kernel
theorem dX3_mergeWith_171 : decode cX3_mergeWith 171 = .ok (.iadd, 1) := by decide +kernel
theorem dX3_mergeWith_172 : decode cX3_mergeWith 172 = .ok (.invokevirtual 74, 3) := by decide +kernel
theorem dX3_mergeWith_175 : decode cX3_mergeWith 175 = .ok (.iload 7, 2) := by decide +kernel
theorem dX3_mergeWith_177 : decode cX3_mergeWith 177 = .ok (.iconst 1, 1) := by decide +kernel
theorem dX3_mergeWith_178 : decode cX3_mergeWith 178 = .ok (.isub, 1) := by decide +kernel
theorem dX3_mergeWith_179 : decode cX3_mergeWith 179 = .ok (.istore 4, 2) := by decide +kernel
theorem dX3_mergeWith_181 : decode cX3_mergeWith 181 = .ok (.iinc 2 (-1), 3) := by decide +kernel
theorem dX3_mergeWith_184 : decode cX3_mergeWith 184 = .ok (.iinc 6 (-1), 3) := by decide +kernel
theorem dX3_mergeWith_187 : decode cX3_mergeWith 187 = .ok (.goto (-132), 3) := by decide +kernel
theorem dX3_mergeWith_190 : decode cX3_mergeWith 190 = .ok (.return_, 1) := by decide +kernel
set_option maxRecDepth 20000 in
theorem ggX3_write_X4_put : GoodIn wsX3_write wsX4_put := goodIn_r _ [8, 9, 10, 11, 12, 7, 13, 14, 18, 19] (by decide +kernel) (by decide +kernel)
set_option maxRecDepth 20000 in
theorem gX3_write_X4_put : GoodIn wsX3_write (wsV RX3 68 RX4 yX4_put wsX4_put) := goodIn_app (goodIn_of _ (by decide +kernel)) ggX3_write_X4_put
theorem dX3_write_0 : decode cX3_write 0 = .ok (.aload_n 0, 1) := by decide +kernel
theorem dX3_write_1 : decode cX3_write 1 = .ok (.getfield 10, 3) := by decide +kernel
theorem dX3_write_4 : decode cX3_write 4 = .ok (.iload_n 1, 1) := by decide +kernel
theorem dX3_write_5 : decode cX3_write 5 = .ok (.iload_n 2, 1) := by decide +kernel
theorem dX3_write_6 : decode cX3_write 6 = .ok (.invokevirtual 68, 3) := by decide +kernel
theorem dX3_write_9 : decode cX3_write 9 = .ok (.aload_n 0, 1) := by decide +kernel
theorem dX3_write_10 : decode cX3_write 10 = .ok (.getfield 16, 3) := by decide +kernel
theorem dX3_write_13 : decode cX3_write 13 = .ok (.iload_n 1, 1) := by decide +kernel
theorem dX3_write_14 : decode cX3_write 14 = .ok (.iload_n 3, 1) := by decide +kernel
theorem dX3_write_15 : decode cX3_write 15 = .ok (.invokevirtual 68, 3) := by decide +kernel
theorem dX3_write_18 : decode cX3_write 18 = .ok (.aload_n 0, 1) := by decide +kernel
theorem dX3_write_19 : decode cX3_write 19 = .ok (.getfield 19, 3) := by decide +kernel
theorem dX3_write_22 : decode cX3_write 22 = .ok (.iload_n 1, 1) := by decide +kernel
theorem dX3_write_23 : decode cX3_write 23 = .ok (.iload 4, 2) := by decide +kernel
theorem dX3_write_25 : decode cX3_write 25 = .ok (.invokevirtual 68, 3) := by decide +kernel
theorem dX3_write_28 : decode cX3_write 28 = .ok (.return_, 1) := by decide +kernel
set_option maxRecDepth 20000 in
theorem ggX3_cutTo_X4_cutTo : GoodIn wsX3_cutTo wsX4_cutTo := goodIn_r _ [8, 9, 13, 14] (by decide +kernel) (by decide +kernel)
set_option maxRecDepth 20000 in
theorem gX3_cutTo_X4_cutTo : GoodIn wsX3_cutTo (wsV RX3 81 RX4 yX4_cutTo wsX4_cutTo) := goodIn_app (goodIn_of _ (by decide +kernel)) ggX3_cutTo_X4_cutTo
theorem dX3_cutTo_0 : decode cX3_cutTo 0 = .ok (.aload_n 0, 1) := by decide +kernel
theorem dX3_cutTo_1 : decode cX3_cutTo 1 = .ok (.getfield 10, 3) := by decide +kernel
theorem dX3_cutTo_4 : decode cX3_cutTo 4 = .ok (.iload_n 1, 1) := by decide +kernel
theorem dX3_cutTo_5 : decode cX3_cutTo 5 = .ok (.invokevirtual 81, 3) := by decide +kernel
theorem dX3_cutTo_8 : decode cX3_cutTo 8 = .ok (.aload_n 0, 1) := by decide +kernel
theorem dX3_cutTo_9 : decode cX3_cutTo 9 = .ok (.getfield 16, 3) := by decide +kernel
theorem dX3_cutTo_12 : decode cX3_cutTo 12 = .ok (.iload_n 1, 1) := by decide +kernel
theorem dX3_cutTo_13 : decode cX3_cutTo 13 = .ok (.invokevirtual 81, 3) := by decide +kernel
theorem dX3_cutTo_16 : decode cX3_cutTo 16 = .ok (.aload_n 0, 1) := by decide +kernel
theorem dX3_cutTo_17 : decode cX3_cutTo 17 = .ok (.getfield 19, 3) := by decide +kernel
theorem dX3_cutTo_20 : decode cX3_cutTo 20 = .ok (.iload_n 1, 1) := by decide +kernel
theorem dX3_cutTo_21 : decode cX3_cutTo 21 = .ok (.invokevirtual 81, 3) := by decide +kernel
theorem dX3_cutTo_24 : decode cX3_cutTo 24 = .ok (.return_, 1) := by decide +kernel
set_option maxRecDepth 20000 in
theorem ggX3_growTo_X4_growTo : GoodIn wsX3_growTo wsX4_growTo := goodIn_r _ [8, 9, 10, 14, 15] (by decide +kernel) (by decide +kernel)
set_option maxRecDepth 20000 in
theorem gX3_growTo_X4_growTo : GoodIn wsX3_growTo (wsV RX3 82 RX4 yX4_growTo wsX4_growTo) := goodIn_app (goodIn_of _ (by decide +kernel)) ggX3_growTo_X4_growTo
theorem dX3_growTo_0 : decode cX3_growTo 0 = .ok (.aload_n 0, 1) := by decide +kernel
theorem dX3_growTo_1 : decode cX3_growTo 1 = .ok (.getfield 10, 3) := by decide +kernel
theorem dX3_growTo_4 : decode cX3_growTo 4 = .ok (.iload_n 1, 1) := by decide +kernel
theorem dX3_growTo_5 : decode cX3_growTo 5 = .ok (.invokevirtual 82, 3) := by decide +kernel
theorem dX3_growTo_8 : decode cX3_growTo 8 = .ok (.aload_n 0, 1) := by decide +kernel
theorem dX3_growTo_9 : decode cX3_growTo 9 = .ok (.getfield 16, 3) := by decide +kernel
theorem dX3_growTo_12 : decode cX3_growTo 12 = .ok (.iload_n 1, 1) := by decide +kernel
theorem dX3_growTo_13 : decode cX3_growTo 13 = .ok (.invokevirtual 82, 3) := by decide +kernel
theorem dX3_growTo_16 : decode cX3_growTo 16 = .ok (.aload_n 0, 1) := by decide +kernel
theorem dX3_growTo_17 : decode cX3_growTo 17 = .ok (.getfield 19, 3) := by decide +kernel
theorem dX3_growTo_20 : decode cX3_growTo 20 = .ok (.iload_n 1, 1) := by decide +kernel
theorem dX3_growTo_21 : decode cX3_growTo 21 = .ok (.invokevirtual 82, 3) := by decide +kernel
theorem dX3_growTo_24 : decode cX3_growTo 24 = .ok (.return_, 1) := by decide +kernel
theorem dX4_init_0 : decode cX4_init 0 = .ok (.aload_n 0, 1) := by decide +kernel
theorem dX4_init_1 : decode cX4_init 1 = .ok (.invokespecial 3, 3) := by decide +kernel
theorem dX4_init_4 : decode cX4_init 4 = .ok (.aload_n 0, 1) := by decide +kernel
theorem dX4_init_5 : decode cX4_init 5 = .ok (.sipush 600, 3) := by decide +kernel
theorem dX4_init_8 : decode cX4_init 8 = .ok (.newarray .int, 2) := by decide +kernel
theorem dX4_init_10 : decode cX4_init 10 = .ok (.putfield 9, 3) := by decide +kernel
theorem dX4_init_13 : decode cX4_init 13 = .ok (.return_, 1) := by decide +kernel
theorem dX4_size_0 : decode cX4_size 0 = .ok (.aload_n 0, 1) := by decide +kernel
theorem dX4_size_1 : decode cX4_size 1 = .ok (.getfield 15, 3) := by decide +kernel
theorem dX4_size_4 : decode cX4_size 4 = .ok (.ireturn, 1) := by decide +kernel
theorem dX4_holds_0 : decode cX4_holds 0 = .ok (.iload_n 1, 1) := by decide +kernel
theorem dX4_holds_1 : decode cX4_holds 1 = .ok (.ifCond .lt 24, 3) := by decide +kernel
theorem dX4_holds_4 : decode cX4_holds 4 = .ok (.iload_n 1, 1) := by decide +kernel
theorem dX4_holds_5 : decode cX4_holds 5 = .ok (.aload_n 0, 1) := by decide +kernel
theorem dX4_holds_6 : decode cX4_holds 6 = .ok (.getfield 15, 3) := by decide +kernel
theorem dX4_holds_9 : decode cX4_holds 9 = .ok (.if_icmp .ge 16, 3) := by decide +kernel
theorem dX4_holds_12 : decode cX4_holds 12 = .ok (.iload_n 1, 1) := by decide +kernel
theorem dX4_holds_13 : decode cX4_holds 13 = .ok (.aload_n 0, 1) := by decide +kernel
theorem dX4_holds_14 : decode cX4_holds 14 = .ok (.getfield 9, 3) := by decide +kernel
theorem dX4_holds_17 : decode cX4_holds 17 = .ok (.arraylength, 1) := by decide +kernel
theorem dX4_holds_18 : decode cX4_holds 18 = .ok (.if_icmp .ge 7, 3) := by decide +kernel
theorem dX4_holds_21 : decode cX4_holds 21 = .ok (.iconst 1, 1) := by decide +kernel
theorem dX4_holds_22 : decode cX4_holds 22 = .ok (.goto 4, 3) := by decide +kernel
theorem dX4_holds_25 : decode cX4_holds 25 = .ok (.iconst 0, 1) := by decide +kernel
theorem dX4_holds_26 : decode cX4_holds 26 = .ok (.ireturn, 1) := by decide +kernel
set_option maxRecDepth 20000 in
theorem ggX4_at_X4_holds : GoodIn wsX4_at wsX4_holds := goodIn_r _ [6, 7, 1, 8, 9] (by decide +kernel) (by decide +kernel)
set_option maxRecDepth 20000 in
theorem gX4_at_X4_holds : GoodIn wsX4_at (wsV RX4 19 RX4 yX4_holds wsX4_holds) := goodIn_app (goodIn_of _ (by decide +kernel)) ggX4_at_X4_holds
theorem dX4_at_0 : decode cX4_at 0 = .ok (.aload_n 0, 1) := by decide +kernel
theorem dX4_at_1 : decode cX4_at 1 = .ok (.iload_n 1, 1) := by decide +kernel
theorem dX4_at_2 : decode cX4_at 2 = .ok (.invokevirtual 19, 3) := by decide +kernel
theorem dX4_at_5 : decode cX4_at 5 = .ok (.ifCond .eq 12, 3) := by decide +kernel
theorem dX4_at_8 : decode cX4_at 8 = .ok (.aload_n 0, 1) := by decide +kernel
theorem dX4_at_9 : decode cX4_at 9 = .ok (.getfield 9, 3) := by decide +kernel
theorem dX4_at_12 : decode cX4_at 12 = .ok (.iload_n 1, 1) := by decide +kernel
theorem dX4_at_13 : decode cX4_at 13 = .ok (.iaload, 1) := by decide +kernel
theorem dX4_at_14 : decode cX4_at 14 = .ok (.goto 4, 3) := by decide +kernel
theorem dX4_at_17 : decode cX4_at 17 = .ok (.iconst 0, 1) := by decide +kernel
theorem dX4_at_18 : decode cX4_at 18 = .ok (.ireturn, 1) := by decide +kernel
set_option maxRecDepth 20000 in
theorem ggX4_put_X4_holds : GoodIn wsX4_put wsX4_holds := goodIn_r _ [6, 7, 1, 8, 9] (by decide +kernel) (by decide +kernel)
set_option maxRecDepth 20000 in
theorem gX4_put_X4_holds : GoodIn wsX4_put (wsV RX4 19 RX4 yX4_holds wsX4_holds) := goodIn_app (goodIn_of _ (by decide +kernel)) ggX4_put_X4_holds
theorem dX4_put_0 : decode cX4_put 0 = .ok (.aload_n 0, 1) := by decide +kernel
theorem dX4_put_1 : decode cX4_put 1 = .ok (.iload_n 1, 1) := by decide +kernel
theorem dX4_put_2 : decode cX4_put 2 = .ok (.invokevirtual 19, 3) := by decide +kernel
theorem dX4_put_5 : decode cX4_put 5 = .ok (.ifCond .eq 10, 3) := by decide +kernel
theorem dX4_put_8 : decode cX4_put 8 = .ok (.aload_n 0, 1) := by decide +kernel
theorem dX4_put_9 : decode cX4_put 9 = .ok (.getfield 9, 3) := by decide +kernel
theorem dX4_put_12 : decode cX4_put 12 = .ok (.iload_n 1, 1) := by decide +kernel
theorem dX4_put_13 : decode cX4_put 13 = .ok (.iload_n 2, 1) := by decide +kernel
theorem dX4_put_14 : decode cX4_put 14 = .ok (.iastore, 1) := by decide +kernel
theorem dX4_put_15 : decode cX4_put 15 = .ok (.return_, 1) := by decide +kernel
theorem dX4_insert_0 : decode cX4_insert 0 = .ok (.iload_n 1, 1) := by decide +kernel
theorem dX4_insert_1 : decode cX4_insert 1 = .ok (.ifCond .lt 23, 3) := by decide +kernel
theorem dX4_insert_4 : decode cX4_insert 4 = .ok (.iload_n 1, 1) := by decide +kernel
theorem dX4_insert_5 : decode cX4_insert 5 = .ok (.aload_n 0, 1) := by decide +kernel
theorem dX4_insert_6 : decode cX4_insert 6 = .ok (.getfield 15, 3) := by decide +kernel
theorem dX4_insert_9 : decode cX4_insert 9 = .ok (.if_icmp .gt 15, 3) := by decide +kernel
theorem dX4_insert_12 : decode cX4_insert 12 = .ok (.aload_n 0, 1) := by decide +kernel
theorem dX4_insert_13 : decode cX4_insert 13 = .ok (.getfield 15, 3) := by decide +kernel
theorem dX4_insert_16 : decode cX4_insert 16 = .ok (.aload_n 0, 1) := by decide +kernel
theorem dX4_insert_17 : decode cX4_insert 17 = .ok (.getfield 9, 3) := by decide +kernel
theorem dX4_insert_20 : decode cX4_insert 20 = .ok (.arraylength, 1) := by decide +kernel
theorem dX4_insert_21 : decode cX4_insert 21 = .ok (.if_icmp .lt 4, 3) := by decide +kernel
theorem dX4_insert_24 : decode cX4_insert 24 = .ok (.return_, 1) := by decide +kernel
theorem dX4_insert_25 : decode cX4_insert 25 = .ok (.aload_n 0, 1) := by decide +kernel
theorem dX4_insert_26 : decode cX4_insert 26 = .ok (.getfield 9, 3) := by decide +kernel
theorem dX4_insert_29 : decode cX4_insert 29 = .ok (.iload_n 1, 1) := by decide +kernel
theorem dX4_insert_30 : decode cX4_insert 30 = .ok (.aload_n 0, 1) := by decide +kernel
theorem dX4_insert_31 : decode cX4_insert 31 = .ok (.getfield 9, 3) := by decide +kernel
theorem dX4_insert_34 : decode cX4_insert 34 = .ok (.iload_n 1, 1) := by decide +kernel
theorem dX4_insert_35 : decode cX4_insert 35 = .ok (.iconst 1, 1) := by decide +kernel
theorem dX4_insert_36 : decode cX4_insert 36 = .ok (.iadd, 1) := by decide +kernel
theorem dX4_insert_37 : decode cX4_insert 37 = .ok (.aload_n 0, 1) := by decide +kernel
theorem dX4_insert_38 : decode cX4_insert 38 = .ok (.getfield 15, 3) := by decide +kernel
theorem dX4_insert_41 : decode cX4_insert 41 = .ok (.iload_n 1, 1) := by decide +kernel
theorem dX4_insert_42 : decode cX4_insert 42 = .ok (.isub, 1) := by decide +kernel
theorem dX4_insert_43 : decode cX4_insert 43 = .ok (.invokestatic 23, 3) := by decide +kernel
theorem dX4_insert_46 : decode cX4_insert 46 = .ok (.aload_n 0, 1) := by decide +kernel
theorem dX4_insert_47 : decode cX4_insert 47 = .ok (.getfield 9, 3) := by decide +kernel
theorem dX4_insert_50 : decode cX4_insert 50 = .ok (.iload_n 1, 1) := by decide +kernel
theorem dX4_insert_51 : decode cX4_insert 51 = .ok (.iload_n 2, 1) := by decide +kernel
theorem dX4_insert_52 : decode cX4_insert 52 = .ok (.iastore, 1) := by decide +kernel
theorem dX4_insert_53 : decode cX4_insert 53 = .ok (.aload_n 0, 1) := by decide +kernel
theorem dX4_insert_54 : decode cX4_insert 54 = .ok (.dup, 1) := by decide +kernel
theorem dX4_insert_55 : decode cX4_insert 55 = .ok (.getfield 15, 3) := by decide +kernel
theorem dX4_insert_58 : decode cX4_insert 58 = .ok (.iconst 1, 1) := by decide +kernel
theorem dX4_insert_59 : decode cX4_insert 59 = .ok (.iadd, 1) := by decide +kernel
theorem dX4_insert_60 : decode cX4_insert 60 = .ok (.putfield 15, 3) := by decide +kernel
theorem dX4_insert_63 : decode cX4_insert 63 = .ok (.return_, 1) := by decide +kernel
theorem dX4_cutTo_0 : decode cX4_cutTo 0 = .ok (.iload_n 1, 1) := by decide +kernel
theorem dX4_cutTo_1 : decode cX4_cutTo 1 = .ok (.ifCond .lt 16, 3) := by decide +kernel
theorem dX4_cutTo_4 : decode cX4_cutTo 4 = .ok (.iload_n 1, 1) := by decide +kernel
theorem dX4_cutTo_5 : decode cX4_cutTo 5 = .ok (.aload_n 0, 1) := by decide +kernel
theorem dX4_cutTo_6 : decode cX4_cutTo 6 = .ok (.getfield 15, 3) := by decide +kernel
theorem dX4_cutTo_9 : decode cX4_cutTo 9 = .ok (.if_icmp .ge 8, 3) := by decide +kernel
theorem dX4_cutTo_12 : decode cX4_cutTo 12 = .ok (.aload_n 0, 1) := by decide +kernel
theorem dX4_cutTo_13 : decode cX4_cutTo 13 = .ok (.iload_n 1, 1) := by decide +kernel
theorem dX4_cutTo_14 : decode cX4_cutTo 14 = .ok (.putfield 15, 3) := by decide +kernel
theorem dX4_cutTo_17 : decode cX4_cutTo 17 = .ok (.return_, 1) := by decide +kernel
theorem dX4_growTo_0 : decode cX4_growTo 0 = .ok (.iload_n 1, 1) := by decide +kernel
theorem dX4_growTo_1 : decode cX4_growTo 1 = .ok (.aload_n 0, 1) := by decide +kernel
theorem dX4_growTo_2 : decode cX4_growTo 2 = .ok (.getfield 15, 3) := by decide +kernel
theorem dX4_growTo_5 : decode cX4_growTo 5 = .ok (.if_icmp .le 17, 3) := by decide +kernel
theorem dX4_growTo_8 : decode cX4_growTo 8 = .ok (.iload_n 1, 1) := by decide +kernel
theorem dX4_growTo_9 : decode cX4_growTo 9 = .ok (.aload_n 0, 1) := by decide +kernel
theorem dX4_growTo_10 : decode cX4_growTo 10 = .ok (.getfield 9, 3) := by decide +kernel
theorem dX4_growTo_13 : decode cX4_growTo 13 = .ok (.arraylength, 1) := by decide +kernel
theorem dX4_growTo_14 : decode cX4_growTo 14 = .ok (.if_icmp .gt 8, 3) := by decide +kernel
theorem dX4_growTo_17 : decode cX4_growTo 17 = .ok (.aload_n 0, 1) := by decide +kernel
theorem dX4_growTo_18 : decode cX4_growTo 18 = .ok (.iload_n 1, 1) := by decide +kernel
theorem dX4_growTo_19 : decode cX4_growTo 19 = .ok (.putfield 15, 3) := by decide +kernel
theorem dX4_growTo_22 : decode cX4_growTo 22 = .ok (.return_, 1) := by decide +kernel
set_option maxRecDepth 20000 in
theorem ggX4_sumOfFirst_X4_at : GoodIn wsX4_sumOfFirst wsX4_at := goodIn_r _ [6, 7, 8, 9, 10, 5, 11, 1, 12, 13] (by decide +kernel) (by decide +kernel)
set_option maxRecDepth 20000 in
theorem gX4_sumOfFirst_X4_at : GoodIn wsX4_sumOfFirst (wsV RX4 29 RX4 yX4_at wsX4_at) := goodIn_app (goodIn_of _ (by decide +kernel)) ggX4_sumOfFirst_X4_at
theorem dX4_sumOfFirst_0 : decode cX4_sumOfFirst 0 = .ok (.iconst 0, 1) := by decide +kernel
theorem dX4_sumOfFirst_1 : decode cX4_sumOfFirst 1 = .ok (.istore_n 2, 1) := by decide +kernel
theorem dX4_sumOfFirst_2 : decode cX4_sumOfFirst 2 = .ok (.iconst 0, 1) := by decide +kernel
theorem dX4_sumOfFirst_3 : decode cX4_sumOfFirst 3 = .ok (.istore_n 3, 1) := by decide +kernel
theorem dX4_sumOfFirst_4 : decode cX4_sumOfFirst 4 = .ok (.iload_n 3, 1) := by decide +kernel
theorem dX4_sumOfFirst_5 : decode cX4_sumOfFirst 5 = .ok (.iload_n 1, 1) := by decide +kernel
theorem dX4_sumOfFirst_6 : decode cX4_sumOfFirst 6 = .ok (.if_icmp .ge 25, 3) := by decide +kernel
theorem dX4_sumOfFirst_9 : decode cX4_sumOfFirst 9 = .ok (.iload_n 3, 1) := by decide +kernel
theorem dX4_sumOfFirst_10 : decode cX4_sumOfFirst 10 = .ok (.aload_n 0, 1) := by decide +kernel
theorem dX4_sumOfFirst_11 : decode cX4_sumOfFirst 11 = .ok (.getfield 15, 3) := by decide +kernel
theorem dX4_sumOfFirst_14 : decode cX4_sumOfFirst 14 = .ok (.if_icmp .ge 17, 3) := by decide +kernel
theorem dX4_sumOfFirst_17 : decode cX4_sumOfFirst 17 = .ok (.iload_n 2, 1) := by decide +kernel
theorem dX4_sumOfFirst_18 : decode cX4_sumOfFirst 18 = .ok (.aload_n 0, 1) := by decide +kernel
theorem dX4_sumOfFirst_19 : decode cX4_sumOfFirst 19 = .ok (.iload_n 3, 1) := by decide +kernel
theorem dX4_sumOfFirst_20 : decode cX4_sumOfFirst 20 = .ok (.invokevirtual 29, 3) := by decide +kernel
theorem dX4_sumOfFirst_23 : decode cX4_sumOfFirst 23 = .ok (.iadd, 1) := by decide +kernel
theorem dX4_sumOfFirst_24 : decode cX4_sumOfFirst 24 = .ok (.istore_n 2, 1) := by decide +kernel
theorem dX4_sumOfFirst_25 : decode cX4_sumOfFirst 25 = .ok (.iinc 3 1, 3) := by decide +kernel
theorem dX4_sumOfFirst_28 : decode cX4_sumOfFirst 28 = .ok (.goto (-24), 3) := by decide +kernel
theorem dX4_sumOfFirst_31 : decode cX4_sumOfFirst 31 = .ok (.iload_n 2, 1) := by decide +kernel
theorem dX4_sumOfFirst_32 : decode cX4_sumOfFirst 32 = .ok (.ireturn, 1) := by decide +kernel
set_option maxRecDepth 20000 in
theorem ggX4_notAbove_X4_at : GoodIn wsX4_notAbove wsX4_at := goodIn_r _ [6, 7, 8, 9, 10, 5, 11, 1, 12, 13] (by decide +kernel) (by decide +kernel)
set_option maxRecDepth 20000 in
theorem gX4_notAbove_X4_at : GoodIn wsX4_notAbove (wsV RX4 29 RX4 yX4_at wsX4_at) := goodIn_app (goodIn_of _ (by decide +kernel)) ggX4_notAbove_X4_at
theorem dX4_notAbove_0 : decode cX4_notAbove 0 = .ok (.iconst 0, 1) := by decide +kernel
theorem dX4_notAbove_1 : decode cX4_notAbove 1 = .ok (.istore_n 2, 1) := by decide +kernel
theorem dX4_notAbove_2 : decode cX4_notAbove 2 = .ok (.aload_n 0, 1) := by decide +kernel
theorem dX4_notAbove_3 : decode cX4_notAbove 3 = .ok (.getfield 15, 3) := by decide +kernel
theorem dX4_notAbove_6 : decode cX4_notAbove 6 = .ok (.istore_n 3, 1) := by decide +kernel
theorem dX4_notAbove_7 : decode cX4_notAbove 7 = .ok (.iload_n 2, 1) := by decide +kernel
theorem dX4_notAbove_8 : decode cX4_notAbove 8 = .ok (.iload_n 3, 1) := by decide +kernel
theorem dX4_notAbove_9 : decode cX4_notAbove 9 = .ok (.if_icmp .ge 34, 3) := by decide +kernel
theorem dX4_notAbove_12 : decode cX4_notAbove 12 = .ok (.iload_n 2, 1) := by decide +kernel
theorem dX4_notAbove_13 : decode cX4_notAbove 13 = .ok (.iload_n 3, 1) := by decide +kernel
theorem dX4_notAbove_14 : decode cX4_notAbove 14 = .ok (.iadd, 1) := by decide +kernel
theorem dX4_notAbove_15 : decode cX4_notAbove 15 = .ok (.iconst 2, 1) := by decide +kernel
theorem dX4_notAbove_16 : decode cX4_notAbove 16 = .ok (.idiv, 1) := by decide +kernel
theorem dX4_notAbove_17 : decode cX4_notAbove 17 = .ok (.istore 4, 2) := by decide +kernel
theorem dX4_notAbove_19 : decode cX4_notAbove 19 = .ok (.aload_n 0, 1) := by decide +kernel
theorem dX4_notAbove_20 : decode cX4_notAbove 20 = .ok (.iload 4, 2) := by decide +kernel
theorem dX4_notAbove_22 : decode cX4_notAbove 22 = .ok (.invokevirtual 29, 3) := by decide +kernel
theorem dX4_notAbove_25 : decode cX4_notAbove 25 = .ok (.iload_n 1, 1) := by decide +kernel
theorem dX4_notAbove_26 : decode cX4_notAbove 26 = .ok (.if_icmp .gt 11, 3) := by decide +kernel
theorem dX4_notAbove_29 : decode cX4_notAbove 29 = .ok (.iload 4, 2) := by decide +kernel
theorem dX4_notAbove_31 : decode cX4_notAbove 31 = .ok (.iconst 1, 1) := by decide +kernel
theorem dX4_notAbove_32 : decode cX4_notAbove 32 = .ok (.iadd, 1) := by decide +kernel
theorem dX4_notAbove_33 : decode cX4_notAbove 33 = .ok (.istore_n 2, 1) := by decide +kernel
theorem dX4_notAbove_34 : decode cX4_notAbove 34 = .ok (.goto 6, 3) := by decide +kernel
theorem dX4_notAbove_37 : decode cX4_notAbove 37 = .ok (.iload 4, 2) := by decide +kernel
theorem dX4_notAbove_39 : decode cX4_notAbove 39 = .ok (.istore_n 3, 1) := by decide +kernel
theorem dX4_notAbove_40 : decode cX4_notAbove 40 = .ok (.goto (-33), 3) := by decide +kernel
theorem dX4_notAbove_43 : decode cX4_notAbove 43 = .ok (.iload_n 2, 1) := by decide +kernel
theorem dX4_notAbove_44 : decode cX4_notAbove 44 = .ok (.ireturn, 1) := by decide +kernel
set_option maxRecDepth 20000 in
theorem ggX5_init_X4_init : GoodIn wsX5_init wsX4_init := goodIn_r _ [10, 11, 2, 3, 12, 13, 14, 15] (by decide +kernel) (by decide +kernel)
set_option maxRecDepth 20000 in
theorem gX5_init_X4_init_n9 : GoodIn wsX5_init (wsX4_init) := ggX5_init_X4_init
theorem dX5_init_0 : decode cX5_init 0 = .ok (.aload_n 0, 1) := by decide +kernel
theorem dX5_init_1 : decode cX5_init 1 = .ok (.invokespecial 1, 3) := by decide +kernel
theorem dX5_init_4 : decode cX5_init 4 = .ok (.aload_n 0, 1) := by decide +kernel
theorem dX5_init_5 : decode cX5_init 5 = .ok (.new 7, 3) := by decide +kernel
theorem dX5_init_8 : decode cX5_init 8 = .ok (.dup, 1) := by decide +kernel
theorem dX5_init_9 : decode cX5_init 9 = .ok (.invokespecial 9, 3) := by decide +kernel
theorem dX5_init_12 : decode cX5_init 12 = .ok (.putfield 10, 3) := by decide +kernel
theorem dX5_init_15 : decode cX5_init 15 = .ok (.aload_n 0, 1) := by decide +kernel
theorem dX5_init_16 : decode cX5_init 16 = .ok (.new 7, 3) := by decide +kernel
theorem dX5_init_19 : decode cX5_init 19 = .ok (.dup, 1) := by decide +kernel
theorem dX5_init_20 : decode cX5_init 20 = .ok (.invokespecial 9, 3) := by decide +kernel
theorem dX5_init_23 : decode cX5_init 23 = .ok (.putfield 16, 3) := by decide +kernel
theorem dX5_init_26 : decode cX5_init 26 = .ok (.return_, 1) := by decide +kernel
set_option maxRecDepth 20000 in
theorem ggX5_clear_X4_cutTo : GoodIn wsX5_clear wsX4_cutTo := goodIn_r _ [8, 9, 13, 14] (by decide +kernel) (by decide +kernel)
set_option maxRecDepth 20000 in
theorem gX5_clear_X4_cutTo : GoodIn wsX5_clear (wsV RX5 19 RX4 yX4_cutTo wsX4_cutTo) := goodIn_app (goodIn_of _ (by decide +kernel)) ggX5_clear_X4_cutTo
theorem dX5_clear_0 : decode cX5_clear 0 = .ok (.aload_n 0, 1) := by decide +kernel
theorem dX5_clear_1 : decode cX5_clear 1 = .ok (.getfield 10, 3) := by decide +kernel
theorem dX5_clear_4 : decode cX5_clear 4 = .ok (.iconst 0, 1) := by decide +kernel
theorem dX5_clear_5 : decode cX5_clear 5 = .ok (.invokevirtual 19, 3) := by decide +kernel
theorem dX5_clear_8 : decode cX5_clear 8 = .ok (.aload_n 0, 1) := by decide +kernel
theorem dX5_clear_9 : decode cX5_clear 9 = .ok (.getfield 16, 3) := by decide +kernel
theorem dX5_clear_12 : decode cX5_clear 12 = .ok (.iconst 0, 1) := by decide +kernel
theorem dX5_clear_13 : decode cX5_clear 13 = .ok (.invokevirtual 19, 3) := by decide +kernel
theorem dX5_clear_16 : decode cX5_clear 16 = .ok (.aload_n 0, 1) := by decide +kernel
theorem dX5_clear_17 : decode cX5_clear 17 = .ok (.iconst 0, 1) := by decide +kernel
theorem dX5_clear_18 : decode cX5_clear 18 = .ok (.putfield 23, 3) := by decide +kernel
theorem dX5_clear_21 : decode cX5_clear 21 = .ok (.return_, 1) := by decide +kernel
theorem dX5_total_0 : decode cX5_total 0 = .ok (.aload_n 0, 1) := by decide +kernel
theorem dX5_total_1 : decode cX5_total 1 = .ok (.getfield 23, 3) := by decide +kernel
theorem dX5_total_4 : decode cX5_total 4 = .ok (.ireturn, 1) := by decide +kernel
set_option maxRecDepth 20000 in
theorem ggX5_kinds_X4_size : GoodIn wsX5_kinds wsX4_size := goodIn_r _ [6, 7, 11, 12] (by decide +kernel) (by decide +kernel)
set_option maxRecDepth 20000 in
theorem gX5_kinds_X4_size : GoodIn wsX5_kinds (wsV RX5 27 RX4 yX4_size wsX4_size) := goodIn_app (goodIn_of _ (by decide +kernel)) ggX5_kinds_X4_size
theorem dX5_kinds_0 : decode cX5_kinds 0 = .ok (.aload_n 0, 1) := by decide +kernel
theorem dX5_kinds_1 : decode cX5_kinds 1 = .ok (.getfield 10, 3) := by decide +kernel
theorem dX5_kinds_4 : decode cX5_kinds 4 = .ok (.invokevirtual 27, 3) := by decide +kernel
theorem dX5_kinds_7 : decode cX5_kinds 7 = .ok (.ireturn, 1) := by decide +kernel
set_option maxRecDepth 20000 in
theorem ggX5_numberAt_X4_at : GoodIn wsX5_numberAt wsX4_at := goodIn_r _ [6, 7, 8, 9, 10, 5, 11, 12, 16, 17] (by decide +kernel) (by decide +kernel)
set_option maxRecDepth 20000 in
theorem gX5_numberAt_X4_at : GoodIn wsX5_numberAt (wsV RX5 31 RX4 yX4_at wsX4_at) := goodIn_app (goodIn_of _ (by decide +kernel)) ggX5_numberAt_X4_at
theorem dX5_numberAt_0 : decode cX5_numberAt 0 = .ok (.aload_n 0, 1) := by decide +kernel
theorem dX5_numberAt_1 : decode cX5_numberAt 1 = .ok (.getfield 10, 3) := by decide +kernel
theorem dX5_numberAt_4 : decode cX5_numberAt 4 = .ok (.iload_n 1, 1) := by decide +kernel
theorem dX5_numberAt_5 : decode cX5_numberAt 5 = .ok (.invokevirtual 31, 3) := by decide +kernel
theorem dX5_numberAt_8 : decode cX5_numberAt 8 = .ok (.ireturn, 1) := by decide +kernel
set_option maxRecDepth 20000 in
theorem ggX5_timesAt_X4_at : GoodIn wsX5_timesAt wsX4_at := goodIn_r _ [6, 7, 8, 9, 10, 5, 11, 12, 16, 17] (by decide +kernel) (by decide +kernel)
set_option maxRecDepth 20000 in
theorem gX5_timesAt_X4_at : GoodIn wsX5_timesAt (wsV RX5 31 RX4 yX4_at wsX4_at) := goodIn_app (goodIn_of _ (by decide +kernel)) ggX5_timesAt_X4_at
theorem dX5_timesAt_0 : decode cX5_timesAt 0 = .ok (.aload_n 0, 1) := by decide +kernel
theorem dX5_timesAt_1 : decode cX5_timesAt 1 = .ok (.getfield 16, 3) := by decide +kernel
theorem dX5_timesAt_4 : decode cX5_timesAt 4 = .ok (.iload_n 1, 1) := by decide +kernel
theorem dX5_timesAt_5 : decode cX5_timesAt 5 = .ok (.invokevirtual 31, 3) := by decide +kernel
theorem dX5_timesAt_8 : decode cX5_timesAt 8 = .ok (.ireturn, 1) := by decide +kernel
set_option maxRecDepth 20000 in
theorem ggX5_add_X4_notAbove : GoodIn wsX5_add wsX4_notAbove := goodIn_r _ [8, 9, 10, 11, 12, 7, 13, 14, 15, 16, 17, 18, 35, 36] (by decide +kernel) (by decide +kernel)
set_option maxRecDepth 20000 in
theorem gX5_add_X4_notAbove : GoodIn wsX5_add (wsV RX5 35 RX4 yX4_notAbove wsX4_notAbove) := goodIn_app (goodIn_of _ (by decide +kernel)) ggX5_add_X4_notAbove
set_option maxRecDepth 20000 in
theorem ggX5_add_X4_at : GoodIn wsX5_add wsX4_at := goodIn_r _ [13, 14, 15, 16, 17, 7, 18, 9, 35, 36] (by decide +kernel) (by decide +kernel)
set_option maxRecDepth 20000 in
theorem gX5_add_X4_at : GoodIn wsX5_add (wsV RX5 31 RX4 yX4_at wsX4_at) := goodIn_app (goodIn_of _ (by decide +kernel)) ggX5_add_X4_at
set_option maxRecDepth 20000 in
theorem ggX5_add_X4_put : GoodIn wsX5_add wsX4_put := goodIn_r _ [23, 14, 15, 16, 17, 7, 18, 9, 35, 36] (by decide +kernel) (by decide +kernel)
set_option maxRecDepth 20000 in
theorem gX5_add_X4_put : GoodIn wsX5_add (wsV RX5 38 RX4 yX4_put wsX4_put) := goodIn_app (goodIn_of _ (by decide +kernel)) ggX5_add_X4_put
set_option maxRecDepth 20000 in
theorem ggX5_add_X4_insert : GoodIn wsX5_add wsX4_insert := goodIn_r _ [27, 9, 14, 28, 29, 30, 31, 35, 36] (by decide +kernel) (by decide +kernel)
set_option maxRecDepth 20000 in
theorem gX5_add_X4_insert : GoodIn wsX5_add (wsV RX5 42 RX4 yX4_insert wsX4_insert) := goodIn_app (goodIn_of _ (by decide +kernel)) ggX5_add_X4_insert
theorem dX5_add_0 : decode cX5_add 0 = .ok (.aload_n 0, 1) := by decide +kernel
theorem dX5_add_1 : decode cX5_add 1 = .ok (.getfield 10, 3) := by decide +kernel
theorem dX5_add_4 : decode cX5_add 4 = .ok (.iload_n 1, 1) := by decide +kernel
theorem dX5_add_5 : decode cX5_add 5 = .ok (.invokevirtual 35, 3) := by decide +kernel
theorem dX5_add_8 : decode cX5_add 8 = .ok (.istore_n 3, 1) := by decide +kernel
theorem dX5_add_9 : decode cX5_add 9 = .ok (.iload_n 3, 1) := by decide +kernel
theorem dX5_add_10 : decode cX5_add 10 = .ok (.ifCond .le 42, 3) := by decide +kernel
theorem dX5_add_13 : decode cX5_add 13 = .ok (.aload_n 0, 1) := by decide +kernel
theorem dX5_add_14 : decode cX5_add 14 = .ok (.getfield 10, 3) := by decide +kernel
theorem dX5_add_17 : decode cX5_add 17 = .ok (.iload_n 3, 1) := by decide +kernel
theorem dX5_add_18 : decode cX5_add 18 = .ok (.iconst 1, 1) := by decide +kernel
theorem dX5_add_19 : decode cX5_add 19 = .ok (.isub, 1) := by decide +kernel
theorem dX5_add_20 : decode cX5_add 20 = .ok (.invokevirtual 31, 3) := by decide +kernel
theorem dX5_add_23 : decode cX5_add 23 = .ok (.iload_n 1, 1) := by decide +kernel
theorem dX5_add_24 : decode cX5_add 24 = .ok (.if_icmp .ne 28, 3) := by decide +kernel
theorem dX5_add_27 : decode cX5_add 27 = .ok (.aload_n 0, 1) := by decide +kernel
theorem dX5_add_28 : decode cX5_add 28 = .ok (.getfield 16, 3) := by decide +kernel
theorem dX5_add_31 : decode cX5_add 31 = .ok (.iload_n 3, 1) := by decide +kernel
theorem dX5_add_32 : decode cX5_add 32 = .ok (.iconst 1, 1) := by decide +kernel
theorem dX5_add_33 : decode cX5_add 33 = .ok (.isub, 1) := by decide +kernel
theorem dX5_add_34 : decode cX5_add 34 = .ok (.aload_n 0, 1) := by decide +kernel
theorem dX5_add_35 : decode cX5_add 35 = .ok (.getfield 16, 3) := by decide +kernel
theorem dX5_add_38 : decode cX5_add 38 = .ok (.iload_n 3, 1) := by decide +kernel
theorem dX5_add_39 : decode cX5_add 39 = .ok (.iconst 1, 1) := by decide +kernel
theorem dX5_add_40 : decode cX5_add 40 = .ok (.isub, 1) := by decide +kernel
theorem dX5_add_41 : decode cX5_add 41 = .ok (.invokevirtual 31, 3) := by decide +kernel
theorem dX5_add_44 : decode cX5_add 44 = .ok (.iload_n 2, 1) := by decide +kernel
theorem dX5_add_45 : decode cX5_add 45 = .ok (.iadd, 1) := by decide +kernel
theorem dX5_add_46 : decode cX5_add 46 = .ok (.invokevirtual 38, 3) := by decide +kernel
theorem dX5_add_49 : decode cX5_add 49 = .ok (.goto 21, 3) := by decide +kernel
theorem dX5_add_52 : decode cX5_add 52 = .ok (.aload_n 0, 1) := by decide +kernel
theorem dX5_add_53 : decode cX5_add 53 = .ok (.getfield 10, 3) := by decide +kernel
theorem dX5_add_56 : decode cX5_add 56 = .ok (.iload_n 3, 1) := by decide +kernel
theorem dX5_add_57 : decode cX5_add 57 = .ok (.iload_n 1, 1) := by decide +kernel
theorem dX5_add_58 : decode cX5_add 58 = .ok (.invokevirtual 42, 3) := by decide +kernel
theorem dX5_add_61 : decode cX5_add 61 = .ok (.aload_n 0, 1) := by decide +kernel
theorem dX5_add_62 : decode cX5_add 62 = .ok (.getfield 16, 3) := by decide +kernel
theorem dX5_add_65 : decode cX5_add 65 = .ok (.iload_n 3, 1) := by decide +kernel
theorem dX5_add_66 : decode cX5_add 66 = .ok (.iload_n 2, 1) := by decide +kernel
theorem dX5_add_67 : decode cX5_add 67 = .ok (.invokevirtual 42, 3) := by decide +kernel
theorem dX5_add_70 : decode cX5_add 70 = .ok (.aload_n 0, 1) := by decide +kernel
theorem dX5_add_71 : decode cX5_add 71 = .ok (.dup, 1) := by decide +kernel
theorem dX5_add_72 : decode cX5_add 72 = .ok (.getfield 23, 3) := by decide +kernel
theorem dX5_add_75 : decode cX5_add 75 = .ok (.iload_n 2, 1) := by decide +kernel
theorem dX5_add_76 : decode cX5_add 76 = .ok (.iadd, 1) := by decide +kernel
theorem dX5_add_77 : decode cX5_add 77 = .ok (.putfield 23, 3) := by decide +kernel
theorem dX5_add_80 : decode cX5_add 80 = .ok (.return_, 1) := by decide +kernel
set_option maxRecDepth 20000 in
theorem ggX5_notAbove_X4_notAbove : GoodIn wsX5_notAbove wsX4_notAbove := goodIn_r _ [7, 8, 9, 10, 11, 6, 12, 13, 14, 15, 16, 17, 25, 26] (by decide +kernel) (by decide +kernel)
set_option maxRecDepth 20000 in
theorem gX5_notAbove_X4_notAbove : GoodIn wsX5_notAbove (wsV RX5 35 RX4 yX4_notAbove wsX4_notAbove) := goodIn_app (goodIn_of _ (by decide +kernel)) ggX5_notAbove_X4_notAbove
set_option maxRecDepth 20000 in
theorem ggX5_notAbove_X4_sumOfFirst : GoodIn wsX5_notAbove wsX4_sumOfFirst := goodIn_r _ [21, 8, 9, 10, 11, 6, 12, 13, 14, 15, 16, 17, 25, 26] (by decide +kernel) (by decide +kernel)
set_option maxRecDepth 20000 in
theorem gX5_notAbove_X4_sumOfFirst : GoodIn wsX5_notAbove (wsV RX5 45 RX4 yX4_sumOfFirst wsX4_sumOfFirst) := goodIn_app (goodIn_of _ (by decide +kernel)) ggX5_notAbove_X4_sumOfFirst
theorem dX5_notAbove_0 : decode cX5_notAbove 0 = .ok (.aload_n 0, 1) := by decide +kernel
theorem dX5_notAbove_1 : decode cX5_notAbove 1 = .ok (.getfield 16, 3) := by decide +kernel
theorem dX5_notAbove_4 : decode cX5_notAbove 4 = .ok (.aload_n 0, 1) := by decide +kernel
theorem dX5_notAbove_5 : decode cX5_notAbove 5 = .ok (.getfield 10, 3) := by decide +kernel
theorem dX5_notAbove_8 : decode cX5_notAbove 8 = .ok (.iload_n 1, 1) := by decide +kernel
theorem dX5_notAbove_9 : decode cX5_notAbove 9 = .ok (.invokevirtual 35, 3) := by decide +kernel
theorem dX5_notAbove_12 : decode cX5_notAbove 12 = .ok (.invokevirtual 45, 3) := by decide +kernel
theorem dX5_notAbove_15 : decode cX5_notAbove 15 = .ok (.ireturn, 1) := by decide +kernel
set_option maxRecDepth 20000 in
theorem ggX5_withRank_X4_size : GoodIn wsX5_withRank wsX4_size := goodIn_r _ [7, 8, 21, 22] (by decide +kernel) (by decide +kernel)
set_option maxRecDepth 20000 in
theorem gX5_withRank_X4_size : GoodIn wsX5_withRank (wsV RX5 27 RX4 yX4_size wsX4_size) := goodIn_app (goodIn_of _ (by decide +kernel)) ggX5_withRank_X4_size
set_option maxRecDepth 20000 in
theorem ggX5_withRank_X4_at : GoodIn wsX5_withRank wsX4_at := goodIn_r _ [12, 13, 14, 15, 16, 6, 17, 8, 21, 22] (by decide +kernel) (by decide +kernel)
set_option maxRecDepth 20000 in
theorem gX5_withRank_X4_at : GoodIn wsX5_withRank (wsV RX5 31 RX4 yX4_at wsX4_at) := goodIn_app (goodIn_of _ (by decide +kernel)) ggX5_withRank_X4_at
theorem dX5_withRank_0 : decode cX5_withRank 0 = .ok (.iconst 0, 1) := by decide +kernel
theorem dX5_withRank_1 : decode cX5_withRank 1 = .ok (.istore_n 2, 1) := by decide +kernel
theorem dX5_withRank_2 : decode cX5_withRank 2 = .ok (.iconst 0, 1) := by decide +kernel
theorem dX5_withRank_3 : decode cX5_withRank 3 = .ok (.istore_n 3, 1) := by decide +kernel
theorem dX5_withRank_4 : decode cX5_withRank 4 = .ok (.iload_n 3, 1) := by decide +kernel
theorem dX5_withRank_5 : decode cX5_withRank 5 = .ok (.aload_n 0, 1) := by decide +kernel
theorem dX5_withRank_6 : decode cX5_withRank 6 = .ok (.getfield 10, 3) := by decide +kernel
theorem dX5_withRank_9 : decode cX5_withRank 9 = .ok (.invokevirtual 27, 3) := by decide +kernel
theorem dX5_withRank_12 : decode cX5_withRank 12 = .ok (.if_icmp .ge 34, 3) := by decide +kernel
theorem dX5_withRank_15 : decode cX5_withRank 15 = .ok (.iload_n 2, 1) := by decide +kernel
theorem dX5_withRank_16 : decode cX5_withRank 16 = .ok (.aload_n 0, 1) := by decide +kernel
theorem dX5_withRank_17 : decode cX5_withRank 17 = .ok (.getfield 16, 3) := by decide +kernel
theorem dX5_withRank_20 : decode cX5_withRank 20 = .ok (.iload_n 3, 1) := by decide +kernel
theorem dX5_withRank_21 : decode cX5_withRank 21 = .ok (.invokevirtual 31, 3) := by decide +kernel
theorem dX5_withRank_24 : decode cX5_withRank 24 = .ok (.iadd, 1) := by decide +kernel
theorem dX5_withRank_25 : decode cX5_withRank 25 = .ok (.istore_n 2, 1) := by decide +kernel
theorem dX5_withRank_26 : decode cX5_withRank 26 = .ok (.iload_n 2, 1) := by decide +kernel
theorem dX5_withRank_27 : decode cX5_withRank 27 = .ok (.iload_n 1, 1) := by decide +kernel
theorem dX5_withRank_28 : decode cX5_withRank 28 = .ok (.if_icmp .lt 12, 3) := by decide +kernel
theorem dX5_withRank_31 : decode cX5_withRank 31 = .ok (.aload_n 0, 1) := by decide +kernel
theorem dX5_withRank_32 : decode cX5_withRank 32 = .ok (.getfield 10, 3) := by decide +kernel
theorem dX5_withRank_35 : decode cX5_withRank 35 = .ok (.iload_n 3, 1) := by decide +kernel
theorem dX5_withRank_36 : decode cX5_withRank 36 = .ok (.invokevirtual 31, 3) := by decide +kernel
theorem dX5_withRank_39 : decode cX5_withRank 39 = .ok (.ireturn, 1) := by decide +kernel
theorem dX5_withRank_40 : decode cX5_withRank 40 = .ok (.iinc 3 1, 3) := by decide +kernel
theorem dX5_withRank_43 : decode cX5_withRank 43 = .ok (.goto (-39), 3) := by decide +kernel
theorem dX5_withRank_46 : decode cX5_withRank 46 = .ok (.iconst 0, 1) := by decide +kernel
theorem dX5_withRank_47 : decode cX5_withRank 47 = .ok (.ireturn, 1) := by decide +kernel
set_option maxRecDepth 20000 in
theorem ggX6_init_X0_init : GoodIn wsX6_init wsX0_init := goodIn_r _ [9, 10, 2, 3, 11, 12, 13, 14, 15, 16, 17, 18, 19, 20, 21, 22, 23, 24, 25, 26, 27, 28, 29, 30, 31, 32, 33, 34, 35, 36, 37, 38, 39, 40, 41, 42, 43, 44, 45, 46, 47, 48, 49, 50, 51, 52, 53, 54, 55, 56, 62, 63, 64, 58, 59, 60, 61, 65, 66, 67, 68, 69, 70, 71, 72] (by decide +kernel) (by decide +kernel)
set_option maxRecDepth 20000 in
theorem gX6_init_X0_init_n15 : GoodIn wsX6_init (wsX0_init) := ggX6_init_X0_init
theorem dX6_init_0 : decode cX6_init 0 = .ok (.aload_n 0, 1) := by decide +kernel
theorem dX6_init_1 : decode cX6_init 1 = .ok (.invokespecial 1, 3) := by decide +kernel
theorem dX6_init_4 : decode cX6_init 4 = .ok (.aload_n 0, 1) := by decide +kernel
theorem dX6_init_5 : decode cX6_init 5 = .ok (.iconst 4, 1) := by decide +kernel
theorem dX6_init_6 : decode cX6_init 6 = .ok (.anewarray 9, 3) := by decide +kernel
theorem dX6_init_9 : decode cX6_init 9 = .ok (.putfield 11, 3) := by decide +kernel
theorem dX6_init_12 : decode cX6_init 12 = .ok (.iconst 0, 1) := by decide +kernel
theorem dX6_init_13 : decode cX6_init 13 = .ok (.istore_n 1, 1) := by decide +kernel
theorem dX6_init_14 : decode cX6_init 14 = .ok (.iload_n 1, 1) := by decide +kernel
theorem dX6_init_15 : decode cX6_init 15 = .ok (.aload_n 0, 1) := by decide +kernel
theorem dX6_init_16 : decode cX6_init 16 = .ok (.getfield 11, 3) := by decide +kernel
theorem dX6_init_19 : decode cX6_init 19 = .ok (.arraylength, 1) := by decide +kernel
theorem dX6_init_20 : decode cX6_init 20 = .ok (.if_icmp .ge 22, 3) := by decide +kernel
theorem dX6_init_23 : decode cX6_init 23 = .ok (.aload_n 0, 1) := by decide +kernel
theorem dX6_init_24 : decode cX6_init 24 = .ok (.getfield 11, 3) := by decide +kernel
theorem dX6_init_27 : decode cX6_init 27 = .ok (.iload_n 1, 1) := by decide +kernel
theorem dX6_init_28 : decode cX6_init 28 = .ok (.new 9, 3) := by decide +kernel
theorem dX6_init_31 : decode cX6_init 31 = .ok (.dup, 1) := by decide +kernel
theorem dX6_init_32 : decode cX6_init 32 = .ok (.invokespecial 15, 3) := by decide +kernel
theorem dX6_init_35 : decode cX6_init 35 = .ok (.aastore, 1) := by decide +kernel
theorem dX6_init_36 : decode cX6_init 36 = .ok (.iinc 1 1, 3) := by decide +kernel
theorem dX6_init_39 : decode cX6_init 39 = .ok (.goto (-25), 3) := by decide +kernel
theorem dX6_init_42 : decode cX6_init 42 = .ok (.return_, 1) := by decide +kernel
set_option maxRecDepth 20000 in
theorem ggX6_begin_X6_counterAt : GoodIn wsX6_begin wsX6_counterAt := goodIn_ca (goodIn_r _ [5, 6, 7, 8, 72] (by decide +kernel) (by decide +kernel)) (goodIn_sub (fun _ h => List.mem_cons_of_mem _ (List.mem_append_left _ (List.mem_append_right _ h))) (by decide +kernel))
set_option maxRecDepth 20000 in
theorem gX6_begin_X6_counterAt : GoodIn wsX6_begin (wsV RX6 16 RX6 yX6_counterAt wsX6_counterAt) := goodIn_app (goodIn_of _ (by decide +kernel)) ggX6_begin_X6_counterAt
set_option maxRecDepth 20000 in
theorem ggX6_begin_X6_demandInRange : GoodIn wsX6_begin wsX6_demandInRange := goodIn_ca (goodIn_r _ [11, 12, 13] (by decide +kernel) (by decide +kernel)) (goodIn_sub (fun _ h => List.mem_cons_of_mem _ (List.mem_append_right _ h)) (by decide +kernel))
set_option maxRecDepth 20000 in
theorem gX6_begin_X6_demandInRange : GoodIn wsX6_begin (va_wsS RX6 20 yX6_demandInRange wsX6_demandInRange) := goodIn_app (goodIn_of _ (by decide +kernel)) ggX6_begin_X6_demandInRange
set_option maxRecDepth 20000 in
theorem ggX6_begin_X5_total : GoodIn wsX6_begin wsX5_total := goodIn_r _ [18, 19, 73, 74, 75] (by decide +kernel) (by decide +kernel)
set_option maxRecDepth 20000 in
theorem gX6_begin_X5_total : GoodIn wsX6_begin (wsV RX6 28 RX5 yX5_total wsX5_total) := goodIn_app (goodIn_of _ (by decide +kernel)) ggX6_begin_X5_total
set_option maxRecDepth 20000 in
theorem ggX6_begin_X0_beginAnew : GoodIn wsX6_begin wsX0_beginAnew := goodIn_r _ [24, 25, 26, 27, 28, 29, 30, 31, 32, 33, 34, 35, 36, 37, 38, 39, 40, 41, 42, 43, 44, 45, 46, 47, 48, 49, 17, 50, 51, 52, 19, 53, 54, 55, 56, 57, 58, 59, 60, 61, 62, 63, 64, 65, 66, 67, 68, 69, 70, 71, 76, 77, 78, 79, 80, 73, 74, 75, 81, 82, 83] (by decide +kernel) (by decide +kernel)
set_option maxRecDepth 20000 in
theorem gX6_begin_X0_beginAnew : GoodIn wsX6_begin (wsV RX6 34 RX0 yX0_beginAnew wsX0_beginAnew) := goodIn_app (goodIn_of _ (by decide +kernel)) ggX6_begin_X0_beginAnew
theorem dX6_begin_0 : decode cX6_begin 0 = .ok (.aload_n 0, 1) := by decide +kernel
theorem dX6_begin_1 : decode cX6_begin 1 = .ok (.iload_n 1, 1) := by decide +kernel
theorem dX6_begin_2 : decode cX6_begin 2 = .ok (.invokevirtual 16, 3) := by decide +kernel
theorem dX6_begin_5 : decode cX6_begin 5 = .ok (.astore_n 3, 1) := by decide +kernel
theorem dX6_begin_6 : decode cX6_begin 6 = .ok (.iload_n 2, 1) := by decide +kernel
theorem dX6_begin_7 : decode cX6_begin 7 = .ok (.iconst 5, 1) := by decide +kernel
theorem dX6_begin_8 : decode cX6_begin 8 = .ok (.if_icmp .lt 14, 3) := by decide +kernel
theorem dX6_begin_11 : decode cX6_begin 11 = .ok (.iload_n 2, 1) := by decide +kernel
theorem dX6_begin_12 : decode cX6_begin 12 = .ok (.sipush 200, 3) := by decide +kernel
theorem dX6_begin_15 : decode cX6_begin 15 = .ok (.if_icmp .gt 7, 3) := by decide +kernel
theorem dX6_begin_18 : decode cX6_begin 18 = .ok (.iconst 1, 1) := by decide +kernel
theorem dX6_begin_19 : decode cX6_begin 19 = .ok (.goto 4, 3) := by decide +kernel
theorem dX6_begin_22 : decode cX6_begin 22 = .ok (.iconst 0, 1) := by decide +kernel
theorem dX6_begin_23 : decode cX6_begin 23 = .ok (.invokestatic 20, 3) := by decide +kernel
theorem dX6_begin_26 : decode cX6_begin 26 = .ok (.aload_n 3, 1) := by decide +kernel
theorem dX6_begin_27 : decode cX6_begin 27 = .ok (.getfield 24, 3) := by decide +kernel
theorem dX6_begin_30 : decode cX6_begin 30 = .ok (.invokevirtual 28, 3) := by decide +kernel
theorem dX6_begin_33 : decode cX6_begin 33 = .ok (.istore 4, 2) := by decide +kernel
theorem dX6_begin_35 : decode cX6_begin 35 = .ok (.aload_n 3, 1) := by decide +kernel
theorem dX6_begin_36 : decode cX6_begin 36 = .ok (.iload_n 2, 1) := by decide +kernel
theorem dX6_begin_37 : decode cX6_begin 37 = .ok (.invokevirtual 34, 3) := by decide +kernel
theorem dX6_begin_40 : decode cX6_begin 40 = .ok (.iload 4, 2) := by decide +kernel
theorem dX6_begin_42 : decode cX6_begin 42 = .ok (.ireturn, 1) := by decide +kernel
set_option maxRecDepth 20000 in
theorem ggX6_show_X6_counterAt : GoodIn wsX6_show wsX6_counterAt := goodIn_ca (goodIn_r _ [5, 6, 7, 8, 141] (by decide +kernel) (by decide +kernel)) (goodIn_sub (fun _ h => List.mem_cons_of_mem _ (List.mem_append_left _ (List.mem_append_left _ (List.mem_append_right _ h)))) (by decide +kernel))
set_option maxRecDepth 20000 in
theorem gX6_show_X6_counterAt : GoodIn wsX6_show (wsV RX6 16 RX6 yX6_counterAt wsX6_counterAt) := goodIn_app (goodIn_of _ (by decide +kernel)) ggX6_show_X6_counterAt
set_option maxRecDepth 20000 in
theorem ggX6_show_X6_isNumber : GoodIn wsX6_show wsX6_isNumber := goodIn_r _ [11] (by decide +kernel) (by decide +kernel)
set_option maxRecDepth 20000 in
theorem gX6_show_X6_isNumber : GoodIn wsX6_show (va_wsS RX6 38 yX6_isNumber wsX6_isNumber) := goodIn_app (goodIn_of _ (by decide +kernel)) ggX6_show_X6_isNumber
set_option maxRecDepth 20000 in
theorem ggX6_show_X6_demandInRange : GoodIn wsX6_show wsX6_demandInRange := goodIn_ca (goodIn_r _ [14, 15, 16] (by decide +kernel) (by decide +kernel)) (goodIn_sub (fun _ h => List.mem_cons_of_mem _ (List.mem_append_left _ (List.mem_append_right _ h))) (by decide +kernel))
set_option maxRecDepth 20000 in
theorem gX6_show_X6_demandInRange : GoodIn wsX6_show (va_wsS RX6 20 yX6_demandInRange wsX6_demandInRange) := goodIn_app (goodIn_of _ (by decide +kernel)) ggX6_show_X6_demandInRange
set_option maxRecDepth 20000 in
theorem ggX6_show_X0_demandRoomFor : GoodIn wsX6_show wsX0_demandRoomFor := goodIn_ca (goodIn_r _ [21, 22, 23, 24, 25, 26, 27, 28, 29, 30, 137, 138, 139, 140, 142, 143, 144] (by decide +kernel) (by decide +kernel)) (goodIn_sub (fun _ h => List.mem_cons_of_mem _ (List.mem_append_right _ h)) (by decide +kernel))
set_option maxRecDepth 20000 in
theorem gX6_show_X0_demandRoomFor : GoodIn wsX6_show (wsV RX6 42 RX0 yX0_demandRoomFor wsX0_demandRoomFor) := goodIn_app (goodIn_of _ (by decide +kernel)) ggX6_show_X0_demandRoomFor
set_option maxRecDepth 20000 in
theorem ggX6_show_X0_take : GoodIn wsX6_show wsX0_take := goodIn_r _ [34, 35, 24, 36, 37, 38, 39, 40, 41, 42, 43, 44, 45, 46, 47, 48, 49, 50, 51, 52, 53, 54, 55, 56, 57, 58, 59, 60, 61, 62, 63, 64, 65, 66, 67, 68, 69, 70, 71, 72, 73, 74, 75, 76, 77, 78, 79, 80, 81, 82, 83, 84, 85, 86, 87, 28, 88, 89, 90, 30, 91, 92, 93, 94, 95, 96, 97, 98, 99, 100, 101, 102, 103, 104, 105, 106, 107, 108, 109, 110, 111, 112, 113, 114, 115, 116, 117, 118, 119, 120, 121, 122, 123, 124, 125, 126, 127, 128, 129, 130, 131, 132, 133, 134, 135, 137, 138, 139, 140, 145, 146, 147, 148, 149, 142, 143, 144, 150, 151, 152] (by decide +kernel) (by decide +kernel)
set_option maxRecDepth 20000 in
theorem gX6_show_X0_take : GoodIn wsX6_show (wsV RX6 45 RX0 yX0_take wsX0_take) := goodIn_app (goodIn_of _ (by decide +kernel)) ggX6_show_X0_take
set_option maxRecDepth 20000 in
theorem ggX6_show_X3_length : GoodIn wsX6_show wsX3_length := goodIn_r _ [67, 42, 68, 69, 70, 52, 71, 54, 145, 146, 147, 148, 149] (by decide +kernel) (by decide +kernel)
set_option maxRecDepth 20000 in
theorem gX6_show_X3_length : GoodIn wsX6_show (wsV RX6 52 RX3 yX3_length wsX3_length) := goodIn_app (goodIn_of _ (by decide +kernel)) ggX6_show_X3_length
theorem dX6_show_0 : decode cX6_show 0 = .ok (.aload_n 0, 1) := by decide +kernel
theorem dX6_show_1 : decode cX6_show 1 = .ok (.iload_n 1, 1) := by decide +kernel
theorem dX6_show_2 : decode cX6_show 2 = .ok (.invokevirtual 16, 3) := by decide +kernel
theorem dX6_show_5 : decode cX6_show 5 = .ok (.astore_n 3, 1) := by decide +kernel
theorem dX6_show_6 : decode cX6_show 6 = .ok (.iload_n 2, 1) := by decide +kernel
theorem dX6_show_7 : decode cX6_show 7 = .ok (.invokestatic 38, 3) := by decide +kernel
theorem dX6_show_10 : decode cX6_show 10 = .ok (.invokestatic 20, 3) := by decide +kernel
theorem dX6_show_13 : decode cX6_show 13 = .ok (.aload_n 3, 1) := by decide +kernel
theorem dX6_show_14 : decode cX6_show 14 = .ok (.iconst 1, 1) := by decide +kernel
theorem dX6_show_15 : decode cX6_show 15 = .ok (.invokevirtual 42, 3) := by decide +kernel
theorem dX6_show_18 : decode cX6_show 18 = .ok (.aload_n 3, 1) := by decide +kernel
theorem dX6_show_19 : decode cX6_show 19 = .ok (.iload_n 2, 1) := by decide +kernel
theorem dX6_show_20 : decode cX6_show 20 = .ok (.invokevirtual 45, 3) := by decide +kernel
theorem dX6_show_23 : decode cX6_show 23 = .ok (.aload_n 3, 1) := by decide +kernel
theorem dX6_show_24 : decode cX6_show 24 = .ok (.getfield 48, 3) := by decide +kernel
theorem dX6_show_27 : decode cX6_show 27 = .ok (.invokevirtual 52, 3) := by decide +kernel
theorem dX6_show_30 : decode cX6_show 30 = .ok (.ireturn, 1) := by decide +kernel
set_option maxRecDepth 20000 in
theorem ggX6_showRow_X6_counterAt : GoodIn wsX6_showRow wsX6_counterAt := goodIn_ca (goodIn_r _ [5, 6, 7, 8, 141] (by decide +kernel) (by decide +kernel)) (goodIn_sub (fun _ h => List.mem_cons_of_mem _ (List.mem_append_left _ (List.mem_append_left _ (List.mem_append_right _ h)))) (by decide +kernel))
set_option maxRecDepth 20000 in
theorem gX6_showRow_X6_counterAt : GoodIn wsX6_showRow (wsV RX6 16 RX6 yX6_counterAt wsX6_counterAt) := goodIn_app (goodIn_of _ (by decide +kernel)) ggX6_showRow_X6_counterAt
set_option maxRecDepth 20000 in
theorem ggX6_showRow_X6_isNumber : GoodIn wsX6_showRow wsX6_isNumber := goodIn_r _ [11] (by decide +kernel) (by decide +kernel)
set_option maxRecDepth 20000 in
theorem gX6_showRow_X6_isNumber : GoodIn wsX6_showRow (va_wsS RX6 38 yX6_isNumber wsX6_isNumber) := goodIn_app (goodIn_of _ (by decide +kernel)) ggX6_showRow_X6_isNumber
set_option maxRecDepth 20000 in
theorem ggX6_showRow_X6_demandInRange : GoodIn wsX6_showRow wsX6_demandInRange := goodIn_ca (goodIn_r _ [14, 15, 16] (by decide +kernel) (by decide +kernel)) (goodIn_sub (fun _ h => List.mem_cons_of_mem _ (List.mem_append_left _ (List.mem_append_right _ h))) (by decide +kernel))
set_option maxRecDepth 20000 in
theorem gX6_showRow_X6_demandInRange : GoodIn wsX6_showRow (va_wsS RX6 20 yX6_demandInRange wsX6_demandInRange) := goodIn_app (goodIn_of _ (by decide +kernel)) ggX6_showRow_X6_demandInRange
set_option maxRecDepth 20000 in
theorem ggX6_showRow_X0_demandRoomFor : GoodIn wsX6_showRow wsX0_demandRoomFor := goodIn_ca (goodIn_r _ [21, 22, 23, 24, 25, 26, 27, 28, 29, 30, 137, 138, 139, 140, 142, 143, 144] (by decide +kernel) (by decide +kernel)) (goodIn_sub (fun _ h => List.mem_cons_of_mem _ (List.mem_append_right _ h)) (by decide +kernel))
set_option maxRecDepth 20000 in
theorem gX6_showRow_X0_demandRoomFor : GoodIn wsX6_showRow (wsV RX6 42 RX0 yX0_demandRoomFor wsX0_demandRoomFor) := goodIn_app (goodIn_of _ (by decide +kernel)) ggX6_showRow_X0_demandRoomFor
set_option maxRecDepth 20000 in
theorem ggX6_showRow_X0_take : GoodIn wsX6_showRow wsX0_take := goodIn_r _ [34, 35, 24, 36, 37, 38, 39, 40, 41, 42, 43, 44, 45, 46, 47, 48, 49, 50, 51, 52, 53, 54, 55, 56, 57, 58, 59, 60, 61, 62, 63, 64, 65, 66, 67, 68, 69, 70, 71, 72, 73, 74, 75, 76, 77, 78, 79, 80, 81, 82, 83, 84, 85, 86, 87, 28, 88, 89, 90, 30, 91, 92, 93, 94, 95, 96, 97, 98, 99, 100, 101, 102, 103, 104, 105, 106, 107, 108, 109, 110, 111, 112, 113, 114, 115, 116, 117, 118, 119, 120, 121, 122, 123, 124, 125, 126, 127, 128, 129, 130, 131, 132, 133, 134, 135, 137, 138, 139, 140, 145, 146, 147, 148, 149, 142, 143, 144, 150, 151, 152] (by decide +kernel) (by decide +kernel)
set_option maxRecDepth 20000 in
theorem gX6_showRow_X0_take : GoodIn wsX6_showRow (wsV RX6 45 RX0 yX0_take wsX0_take) := goodIn_app (goodIn_of _ (by decide +kernel)) ggX6_showRow_X0_take
set_option maxRecDepth 20000 in
theorem ggX6_showRow_X3_length : GoodIn wsX6_showRow wsX3_length := goodIn_r _ [67, 42, 68, 69, 70, 52, 71, 54, 145, 146, 147, 148, 149] (by decide +kernel) (by decide +kernel)
set_option maxRecDepth 20000 in
theorem gX6_showRow_X3_length : GoodIn wsX6_showRow (wsV RX6 52 RX3 yX3_length wsX3_length) := goodIn_app (goodIn_of _ (by decide +kernel)) ggX6_showRow_X3_length
theorem dX6_showRow_0 : decode cX6_showRow 0 = .ok (.aload_n 0, 1) := by decide +kernel
theorem dX6_showRow_1 : decode cX6_showRow 1 = .ok (.iload_n 1, 1) := by decide +kernel
theorem dX6_showRow_2 : decode cX6_showRow 2 = .ok (.invokevirtual 16, 3) := by decide +kernel
theorem dX6_showRow_5 : decode cX6_showRow 5 = .ok (.astore 5, 2) := by decide +kernel
theorem dX6_showRow_7 : decode cX6_showRow 7 = .ok (.iload_n 2, 1) := by decide +kernel
theorem dX6_showRow_8 : decode cX6_showRow 8 = .ok (.invokestatic 38, 3) := by decide +kernel
theorem dX6_showRow_11 : decode cX6_showRow 11 = .ok (.invokestatic 20, 3) := by decide +kernel
theorem dX6_showRow_14 : decode cX6_showRow 14 = .ok (.iload_n 3, 1) := by decide +kernel
theorem dX6_showRow_15 : decode cX6_showRow 15 = .ok (.ifCond .lt 14, 3) := by decide +kernel
theorem dX6_showRow_18 : decode cX6_showRow 18 = .ok (.iload_n 3, 1) := by decide +kernel
theorem dX6_showRow_19 : decode cX6_showRow 19 = .ok (.sipush 9999, 3) := by decide +kernel
theorem dX6_showRow_22 : decode cX6_showRow 22 = .ok (.if_icmp .gt 7, 3) := by decide +kernel
theorem dX6_showRow_25 : decode cX6_showRow 25 = .ok (.iconst 1, 1) := by decide +kernel
theorem dX6_showRow_26 : decode cX6_showRow 26 = .ok (.goto 4, 3) := by decide +kernel
theorem dX6_showRow_29 : decode cX6_showRow 29 = .ok (.iconst 0, 1) := by decide +kernel
theorem dX6_showRow_30 : decode cX6_showRow 30 = .ok (.invokestatic 20, 3) := by decide +kernel
theorem dX6_showRow_33 : decode cX6_showRow 33 = .ok (.iload 4, 2) := by decide +kernel
theorem dX6_showRow_35 : decode cX6_showRow 35 = .ok (.iconst 1, 1) := by decide +kernel
theorem dX6_showRow_36 : decode cX6_showRow 36 = .ok (.if_icmp .lt 14, 3) := by decide +kernel
theorem dX6_showRow_39 : decode cX6_showRow 39 = .ok (.iload 4, 2) := by decide +kernel
theorem dX6_showRow_41 : decode cX6_showRow 41 = .ok (.bipush 100, 2) := by decide +kernel
theorem dX6_showRow_43 : decode cX6_showRow 43 = .ok (.if_icmp .gt 7, 3) := by decide +kernel
theorem dX6_showRow_46 : decode cX6_showRow 46 = .ok (.iconst 1, 1) := by decide +kernel
theorem dX6_showRow_47 : decode cX6_showRow 47 = .ok (.goto 4, 3) := by decide +kernel
theorem dX6_showRow_50 : decode cX6_showRow 50 = .ok (.iconst 0, 1) := by decide +kernel
theorem dX6_showRow_51 : decode cX6_showRow 51 = .ok (.invokestatic 20, 3) := by decide +kernel
theorem dX6_showRow_54 : decode cX6_showRow 54 = .ok (.aload 5, 2) := by decide +kernel
theorem dX6_showRow_56 : decode cX6_showRow 56 = .ok (.iload 4, 2) := by decide +kernel
theorem dX6_showRow_58 : decode cX6_showRow 58 = .ok (.invokevirtual 42, 3) := by decide +kernel
theorem dX6_showRow_61 : decode cX6_showRow 61 = .ok (.iload_n 2, 1) := by decide +kernel
theorem dX6_showRow_62 : decode cX6_showRow 62 = .ok (.istore 6, 2) := by decide +kernel
theorem dX6_showRow_64 : decode cX6_showRow 64 = .ok (.iconst 0, 1) := by decide +kernel
theorem dX6_showRow_65 : decode cX6_showRow 65 = .ok (.istore 7, 2) := by decide +kernel
theorem dX6_showRow_67 : decode cX6_showRow 67 = .ok (.iload 7, 2) := by decide +kernel
theorem dX6_showRow_69 : decode cX6_showRow 69 = .ok (.iload 4, 2) := by decide +kernel
theorem dX6_showRow_71 : decode cX6_showRow 71 = .ok (.if_icmp .ge 36, 3) := by decide +kernel
theorem dX6_showRow_74 : decode cX6_showRow 74 = .ok (.aload 5, 2) := by decide +kernel
theorem dX6_showRow_76 : decode cX6_showRow 76 = .ok (.iload 6, 2) := by decide +kernel
theorem dX6_showRow_78 : decode cX6_showRow 78 = .ok (.invokevirtual 45, 3) := by decide +kernel
theorem dX6_showRow_81 : decode cX6_showRow 81 = .ok (.iload 6, 2) := by decide +kernel
theorem dX6_showRow_83 : decode cX6_showRow 83 = .ok (.iload_n 3, 1) := by decide +kernel
theorem dX6_showRow_84 : decode cX6_showRow 84 = .ok (.iadd, 1) := by decide +kernel
theorem dX6_showRow_85 : decode cX6_showRow 85 = .ok (.istore 6, 2) := by decide +kernel
theorem dX6_showRow_87 : decode cX6_showRow 87 = .ok (.iload 6, 2) := by decide +kernel
theorem dX6_showRow_89 : decode cX6_showRow 89 = .ok (.sipush 9999, 3) := by decide +kernel
theorem dX6_showRow_92 : decode cX6_showRow 92 = .ok (.if_icmp .le 9, 3) := by decide +kernel
theorem dX6_showRow_95 : decode cX6_showRow 95 = .ok (.iinc 6 (-20000), 6) := by decide +kernel
theorem dX6_showRow_101 : decode cX6_showRow 101 = .ok (.iinc 7 1, 3) := by decide +kernel
theorem dX6_showRow_104 : decode cX6_showRow 104 = .ok (.goto (-37), 3) := by decide +kernel
theorem dX6_showRow_107 : decode cX6_showRow 107 = .ok (.aload 5, 2) := by decide +kernel
theorem dX6_showRow_109 : decode cX6_showRow 109 = .ok (.getfield 48, 3) := by decide +kernel
theorem dX6_showRow_112 : decode cX6_showRow 112 = .ok (.invokevirtual 52, 3) := by decide +kernel
theorem dX6_showRow_115 : decode cX6_showRow 115 = .ok (.ireturn, 1) := by decide +kernel
set_option maxRecDepth 20000 in
theorem ggX6_thinOut_X6_counterAt : GoodIn wsX6_thinOut wsX6_counterAt := goodIn_ca (goodIn_r _ [5, 6, 7, 8, 78] (by decide +kernel) (by decide +kernel)) (goodIn_sub (fun _ h => List.mem_cons_of_mem _ (List.mem_append_right _ h)) (by decide +kernel))
set_option maxRecDepth 20000 in
theorem gX6_thinOut_X6_counterAt : GoodIn wsX6_thinOut (wsV RX6 16 RX6 yX6_counterAt wsX6_counterAt) := goodIn_app (goodIn_of _ (by decide +kernel)) ggX6_thinOut_X6_counterAt
set_option maxRecDepth 20000 in
theorem ggX6_thinOut_X3_length : GoodIn wsX6_thinOut wsX3_length := goodIn_r _ [13, 14, 15, 16, 17, 18, 19, 20, 79, 80, 81, 82, 83] (by decide +kernel) (by decide +kernel)
set_option maxRecDepth 20000 in
theorem gX6_thinOut_X3_length : GoodIn wsX6_thinOut (wsV RX6 52 RX3 yX3_length wsX3_length) := goodIn_app (goodIn_of _ (by decide +kernel)) ggX6_thinOut_X3_length
set_option maxRecDepth 20000 in
theorem ggX6_thinOut_X0_allowed : GoodIn wsX6_thinOut wsX0_allowed := goodIn_r _ [25, 26, 27, 28, 29, 30, 31, 32, 33, 74, 75, 76, 77, 84, 85, 86] (by decide +kernel) (by decide +kernel)
set_option maxRecDepth 20000 in
theorem gX6_thinOut_X0_allowed : GoodIn wsX6_thinOut (wsV RX6 57 RX0 yX0_allowed wsX0_allowed) := goodIn_app (goodIn_of _ (by decide +kernel)) ggX6_thinOut_X0_allowed
set_option maxRecDepth 20000 in
theorem ggX6_thinOut_X3_thin : GoodIn wsX6_thinOut wsX3_thin := goodIn_r _ [37, 38, 39, 10, 11, 12, 13, 14, 15, 16, 17, 18, 19, 20, 40, 41, 42, 43, 44, 45, 46, 47, 48, 49, 50, 51, 52, 53, 54, 55, 56, 57, 58, 59, 60, 61, 62, 63, 64, 65, 66, 67, 68, 69, 70, 71, 72, 73, 79, 80, 81, 82, 83] (by decide +kernel) (by decide +kernel)
set_option maxRecDepth 20000 in
theorem gX6_thinOut_X3_thin : GoodIn wsX6_thinOut (wsV RX6 60 RX3 yX3_thin wsX3_thin) := goodIn_app (goodIn_of _ (by decide +kernel)) ggX6_thinOut_X3_thin
theorem dX6_thinOut_0 : decode cX6_thinOut 0 = .ok (.aload_n 0, 1) := by decide +kernel
theorem dX6_thinOut_1 : decode cX6_thinOut 1 = .ok (.iload_n 1, 1) := by decide +kernel
theorem dX6_thinOut_2 : decode cX6_thinOut 2 = .ok (.invokevirtual 16, 3) := by decide +kernel
theorem dX6_thinOut_5 : decode cX6_thinOut 5 = .ok (.astore_n 2, 1) := by decide +kernel
theorem dX6_thinOut_6 : decode cX6_thinOut 6 = .ok (.aload_n 2, 1) := by decide +kernel
theorem dX6_thinOut_7 : decode cX6_thinOut 7 = .ok (.getfield 48, 3) := by decide +kernel
theorem dX6_thinOut_10 : decode cX6_thinOut 10 = .ok (.invokevirtual 52, 3) := by decide +kernel
theorem dX6_thinOut_13 : decode cX6_thinOut 13 = .ok (.istore_n 3, 1) := by decide +kernel
theorem dX6_thinOut_14 : decode cX6_thinOut 14 = .ok (.aload_n 2, 1) := by decide +kernel
theorem dX6_thinOut_15 : decode cX6_thinOut 15 = .ok (.getfield 48, 3) := by decide +kernel
theorem dX6_thinOut_18 : decode cX6_thinOut 18 = .ok (.aload_n 2, 1) := by decide +kernel
theorem dX6_thinOut_19 : decode cX6_thinOut 19 = .ok (.invokevirtual 57, 3) := by decide +kernel
theorem dX6_thinOut_22 : decode cX6_thinOut 22 = .ok (.invokevirtual 60, 3) := by decide +kernel
theorem dX6_thinOut_25 : decode cX6_thinOut 25 = .ok (.iload_n 3, 1) := by decide +kernel
theorem dX6_thinOut_26 : decode cX6_thinOut 26 = .ok (.aload_n 2, 1) := by decide +kernel
theorem dX6_thinOut_27 : decode cX6_thinOut 27 = .ok (.getfield 48, 3) := by decide +kernel
theorem dX6_thinOut_30 : decode cX6_thinOut 30 = .ok (.invokevirtual 52, 3) := by decide +kernel
theorem dX6_thinOut_33 : decode cX6_thinOut 33 = .ok (.isub, 1) := by decide +kernel
theorem dX6_thinOut_34 : decode cX6_thinOut 34 = .ok (.ireturn, 1) := by decide +kernel
set_option maxRecDepth 20000 in
theorem ggX6_pour_X6_counterAt : GoodIn wsX6_pour wsX6_counterAt := goodIn_ca (goodIn_r _ [7, 8, 9, 10, 160] (by decide +kernel) (by decide +kernel)) (goodIn_sub (fun _ h => List.mem_cons_of_mem _ (List.mem_append_left _ (List.mem_append_right _ h))) (by decide +kernel))
set_option maxRecDepth 20000 in
theorem gX6_pour_X6_counterAt : GoodIn wsX6_pour (wsV RX6 16 RX6 yX6_counterAt wsX6_counterAt) := goodIn_app (goodIn_of _ (by decide +kernel)) ggX6_pour_X6_counterAt
set_option maxRecDepth 20000 in
theorem ggX6_pour_X5_total : GoodIn wsX6_pour wsX5_total := goodIn_r _ [15, 16, 161, 162, 163] (by decide +kernel) (by decide +kernel)
set_option maxRecDepth 20000 in
theorem gX6_pour_X5_total : GoodIn wsX6_pour (wsV RX6 28 RX5 yX5_total wsX5_total) := goodIn_app (goodIn_of _ (by decide +kernel)) ggX6_pour_X5_total
set_option maxRecDepth 20000 in
theorem ggX6_pour_X0_demandRoomFor : GoodIn wsX6_pour wsX0_demandRoomFor := goodIn_ca (goodIn_r _ [21, 22, 23, 24, 25, 12, 13, 14, 15, 16, 156, 157, 158, 159, 161, 162, 163] (by decide +kernel) (by decide +kernel)) (goodIn_sub (fun _ h => List.mem_cons_of_mem _ (List.mem_append_right _ h)) (by decide +kernel))
set_option maxRecDepth 20000 in
theorem gX6_pour_X0_demandRoomFor : GoodIn wsX6_pour (wsV RX6 42 RX0 yX0_demandRoomFor wsX0_demandRoomFor) := goodIn_app (goodIn_of _ (by decide +kernel)) ggX6_pour_X0_demandRoomFor
set_option maxRecDepth 20000 in
theorem ggX6_pour_X0_takeAll : GoodIn wsX6_pour wsX0_takeAll := goodIn_r _ [29, 30, 31, 32, 33, 34, 35, 24, 36, 37, 38, 39, 40, 41, 42, 43, 44, 45, 46, 47, 48, 49, 50, 51, 52, 53, 54, 55, 56, 57, 58, 59, 60, 61, 62, 63, 64, 65, 66, 67, 68, 69, 70, 71, 72, 73, 74, 75, 76, 77, 78, 79, 80, 81, 82, 83, 84, 85, 86, 14, 87, 88, 89, 90, 91, 92, 93, 94, 95, 96, 97, 98, 99, 100, 101, 102, 103, 16, 104, 105, 106, 107, 108, 109, 110, 111, 112, 113, 114, 115, 116, 117, 118, 119, 120, 121, 122, 123, 124, 125, 126, 127, 128, 129, 130, 131, 132, 133, 134, 135, 136, 137, 138, 139, 140, 141, 142, 143, 144, 145, 146, 147, 148, 149, 150, 151, 152, 153, 154, 155, 156, 157, 158, 159, 164, 165, 166, 167, 168, 161, 162, 163, 169, 170, 171] (by decide +kernel) (by decide +kernel)
set_option maxRecDepth 20000 in
theorem gX6_pour_X0_takeAll : GoodIn wsX6_pour (wsV RX6 70 RX0 yX0_takeAll wsX0_takeAll) := goodIn_app (goodIn_of _ (by decide +kernel)) ggX6_pour_X0_takeAll
theorem dX6_pour_0 : decode cX6_pour 0 = .ok (.aload_n 0, 1) := by decide +kernel
theorem dX6_pour_1 : decode cX6_pour 1 = .ok (.iload_n 1, 1) := by decide +kernel
theorem dX6_pour_2 : decode cX6_pour 2 = .ok (.invokevirtual 16, 3) := by decide +kernel
theorem dX6_pour_5 : decode cX6_pour 5 = .ok (.astore_n 3, 1) := by decide +kernel
theorem dX6_pour_6 : decode cX6_pour 6 = .ok (.aload_n 0, 1) := by decide +kernel
theorem dX6_pour_7 : decode cX6_pour 7 = .ok (.iload_n 2, 1) := by decide +kernel
theorem dX6_pour_8 : decode cX6_pour 8 = .ok (.invokevirtual 16, 3) := by decide +kernel
theorem dX6_pour_11 : decode cX6_pour 11 = .ok (.astore 4, 2) := by decide +kernel
theorem dX6_pour_13 : decode cX6_pour 13 = .ok (.iload_n 1, 1) := by decide +kernel
theorem dX6_pour_14 : decode cX6_pour 14 = .ok (.iload_n 2, 1) := by decide +kernel
theorem dX6_pour_15 : decode cX6_pour 15 = .ok (.if_icmp .ne 13, 3) := by decide +kernel
theorem dX6_pour_18 : decode cX6_pour 18 = .ok (.new 63, 3) := by decide +kernel
theorem dX6_pour_21 : decode cX6_pour 21 = .ok (.dup, 1) := by decide +kernel
theorem dX6_pour_22 : decode cX6_pour 22 = .ok (.ldc 65, 2) := by decide +kernel
theorem dX6_pour_24 : decode cX6_pour 24 = .ok (.invokespecial 67, 3) := by decide +kernel
theorem dX6_pour_27 : decode cX6_pour 27 = .ok (.athrow, 1) := by decide +kernel
theorem dX6_pour_28 : decode cX6_pour 28 = .ok (.aload 4, 2) := by decide +kernel
theorem dX6_pour_30 : decode cX6_pour 30 = .ok (.aload_n 3, 1) := by decide +kernel
theorem dX6_pour_31 : decode cX6_pour 31 = .ok (.getfield 24, 3) := by decide +kernel
theorem dX6_pour_34 : decode cX6_pour 34 = .ok (.invokevirtual 28, 3) := by decide +kernel
theorem dX6_pour_37 : decode cX6_pour 37 = .ok (.invokevirtual 42, 3) := by decide +kernel
theorem dX6_pour_40 : decode cX6_pour 40 = .ok (.aload 4, 2) := by decide +kernel
theorem dX6_pour_42 : decode cX6_pour 42 = .ok (.aload_n 3, 1) := by decide +kernel
theorem dX6_pour_43 : decode cX6_pour 43 = .ok (.invokevirtual 70, 3) := by decide +kernel
theorem dX6_pour_46 : decode cX6_pour 46 = .ok (.aload 4, 2) := by decide +kernel
theorem dX6_pour_48 : decode cX6_pour 48 = .ok (.getfield 24, 3) := by decide +kernel
theorem dX6_pour_51 : decode cX6_pour 51 = .ok (.invokevirtual 28, 3) := by decide +kernel
theorem dX6_pour_54 : decode cX6_pour 54 = .ok (.ireturn, 1) := by decide +kernel
set_option maxRecDepth 20000 in
theorem ggX6_count_X6_counterAt : GoodIn wsX6_count wsX6_counterAt := goodIn_ca (goodIn_r _ [5, 6, 7, 8, 19] (by decide +kernel) (by decide +kernel)) (goodIn_sub (fun _ h => List.mem_cons_of_mem _ (List.mem_append_right _ h)) (by decide +kernel))
set_option maxRecDepth 20000 in
theorem gX6_count_X6_counterAt : GoodIn wsX6_count (wsV RX6 16 RX6 yX6_counterAt wsX6_counterAt) := goodIn_app (goodIn_of _ (by decide +kernel)) ggX6_count_X6_counterAt
set_option maxRecDepth 20000 in
theorem ggX6_count_X5_total : GoodIn wsX6_count wsX5_total := goodIn_r _ [13, 14, 20, 21, 22] (by decide +kernel) (by decide +kernel)
set_option maxRecDepth 20000 in
theorem gX6_count_X5_total : GoodIn wsX6_count (wsV RX6 28 RX5 yX5_total wsX5_total) := goodIn_app (goodIn_of _ (by decide +kernel)) ggX6_count_X5_total
theorem dX6_count_0 : decode cX6_count 0 = .ok (.aload_n 0, 1) := by decide +kernel
theorem dX6_count_1 : decode cX6_count 1 = .ok (.iload_n 1, 1) := by decide +kernel
theorem dX6_count_2 : decode cX6_count 2 = .ok (.invokevirtual 16, 3) := by decide +kernel
theorem dX6_count_5 : decode cX6_count 5 = .ok (.getfield 24, 3) := by decide +kernel
theorem dX6_count_8 : decode cX6_count 8 = .ok (.invokevirtual 28, 3) := by decide +kernel
theorem dX6_count_11 : decode cX6_count 11 = .ok (.ireturn, 1) := by decide +kernel
set_option maxRecDepth 20000 in
theorem ggX6_bound_X6_counterAt : GoodIn wsX6_bound wsX6_counterAt := goodIn_ca (goodIn_r _ [5, 6, 7, 8, 13] (by decide +kernel) (by decide +kernel)) (goodIn_sub (fun _ h => List.mem_cons_of_mem _ (List.mem_append_right _ h)) (by decide +kernel))
set_option maxRecDepth 20000 in
theorem gX6_bound_X6_counterAt : GoodIn wsX6_bound (wsV RX6 16 RX6 yX6_counterAt wsX6_counterAt) := goodIn_app (goodIn_of _ (by decide +kernel)) ggX6_bound_X6_counterAt
theorem dX6_bound_0 : decode cX6_bound 0 = .ok (.aload_n 0, 1) := by decide +kernel
theorem dX6_bound_1 : decode cX6_bound 1 = .ok (.iload_n 1, 1) := by decide +kernel
theorem dX6_bound_2 : decode cX6_bound 2 = .ok (.invokevirtual 16, 3) := by decide +kernel
theorem dX6_bound_5 : decode cX6_bound 5 = .ok (.getfield 74, 3) := by decide +kernel
theorem dX6_bound_8 : decode cX6_bound 8 = .ok (.ireturn, 1) := by decide +kernel
set_option maxRecDepth 20000 in
theorem ggX6_allowance_X6_counterAt : GoodIn wsX6_allowance wsX6_counterAt := goodIn_ca (goodIn_r _ [5, 6, 7, 8, 22] (by decide +kernel) (by decide +kernel)) (goodIn_sub (fun _ h => List.mem_cons_of_mem _ (List.mem_append_right _ h)) (by decide +kernel))
set_option maxRecDepth 20000 in
theorem gX6_allowance_X6_counterAt : GoodIn wsX6_allowance (wsV RX6 16 RX6 yX6_counterAt wsX6_counterAt) := goodIn_app (goodIn_of _ (by decide +kernel)) ggX6_allowance_X6_counterAt
set_option maxRecDepth 20000 in
theorem ggX6_allowance_X0_allowed : GoodIn wsX6_allowance wsX0_allowed := goodIn_r _ [13, 14, 15, 16, 17, 18, 19, 20, 21, 23, 24, 25, 26, 27, 28, 29] (by decide +kernel) (by decide +kernel)
set_option maxRecDepth 20000 in
theorem gX6_allowance_X0_allowed : GoodIn wsX6_allowance (wsV RX6 57 RX0 yX0_allowed wsX0_allowed) := goodIn_app (goodIn_of _ (by decide +kernel)) ggX6_allowance_X0_allowed
theorem dX6_allowance_0 : decode cX6_allowance 0 = .ok (.aload_n 0, 1) := by decide +kernel
theorem dX6_allowance_1 : decode cX6_allowance 1 = .ok (.iload_n 1, 1) := by decide +kernel
theorem dX6_allowance_2 : decode cX6_allowance 2 = .ok (.invokevirtual 16, 3) := by decide +kernel
theorem dX6_allowance_5 : decode cX6_allowance 5 = .ok (.invokevirtual 57, 3) := by decide +kernel
theorem dX6_allowance_8 : decode cX6_allowance 8 = .ok (.ireturn, 1) := by decide +kernel
set_option maxRecDepth 20000 in
theorem ggX6_marks_X6_counterAt : GoodIn wsX6_marks wsX6_counterAt := goodIn_ca (goodIn_r _ [5, 6, 7, 8, 25] (by decide +kernel) (by decide +kernel)) (goodIn_sub (fun _ h => List.mem_cons_of_mem _ (List.mem_append_right _ h)) (by decide +kernel))
set_option maxRecDepth 20000 in
theorem gX6_marks_X6_counterAt : GoodIn wsX6_marks (wsV RX6 16 RX6 yX6_counterAt wsX6_counterAt) := goodIn_app (goodIn_of _ (by decide +kernel)) ggX6_marks_X6_counterAt
set_option maxRecDepth 20000 in
theorem ggX6_marks_X3_length : GoodIn wsX6_marks wsX3_length := goodIn_r _ [13, 14, 15, 16, 17, 18, 19, 20, 26, 27, 28, 29, 30] (by decide +kernel) (by decide +kernel)
set_option maxRecDepth 20000 in
theorem gX6_marks_X3_length : GoodIn wsX6_marks (wsV RX6 52 RX3 yX3_length wsX3_length) := goodIn_app (goodIn_of _ (by decide +kernel)) ggX6_marks_X3_length
theorem dX6_marks_0 : decode cX6_marks 0 = .ok (.aload_n 0, 1) := by decide +kernel
theorem dX6_marks_1 : decode cX6_marks 1 = .ok (.iload_n 1, 1) := by decide +kernel
theorem dX6_marks_2 : decode cX6_marks 2 = .ok (.invokevirtual 16, 3) := by decide +kernel
theorem dX6_marks_5 : decode cX6_marks 5 = .ok (.getfield 48, 3) := by decide +kernel
theorem dX6_marks_8 : decode cX6_marks 8 = .ok (.invokevirtual 52, 3) := by decide +kernel
theorem dX6_marks_11 : decode cX6_marks 11 = .ok (.ireturn, 1) := by decide +kernel
set_option maxRecDepth 20000 in
theorem ggX6_value_X6_rowWith : GoodIn wsX6_value wsX6_rowWith := goodIn_ca (goodIn_r _ [5, 6, 7, 8, 9, 10, 4, 11, 12, 13, 14, 15, 16, 17, 18, 19, 20, 21, 22, 23, 24, 38, 39, 40, 41, 42, 43, 44, 45, 46, 47] (by decide +kernel) (by decide +kernel)) (goodIn_sub (fun _ h => List.mem_cons_of_mem _ (List.mem_append_right _ h)) (by decide +kernel))
set_option maxRecDepth 20000 in
theorem gX6_value_X6_rowWith : GoodIn wsX6_value (wsV RX6 78 RX6 yX6_rowWith wsX6_rowWith) := goodIn_app (goodIn_of _ (by decide +kernel)) ggX6_value_X6_rowWith
set_option maxRecDepth 20000 in
theorem ggX6_value_X3_valueOf : GoodIn wsX6_value wsX3_valueOf := goodIn_r _ [28, 18, 29, 30, 31, 22, 32, 33, 34, 35, 36, 37, 24, 43, 44, 45, 46, 47] (by decide +kernel) (by decide +kernel)
set_option maxRecDepth 20000 in
theorem gX6_value_X3_valueOf : GoodIn wsX6_value (wsV RX6 82 RX3 yX3_valueOf wsX3_valueOf) := goodIn_app (goodIn_of _ (by decide +kernel)) ggX6_value_X3_valueOf
theorem dX6_value_0 : decode cX6_value 0 = .ok (.aload_n 0, 1) := by decide +kernel
theorem dX6_value_1 : decode cX6_value 1 = .ok (.iload_n 1, 1) := by decide +kernel
theorem dX6_value_2 : decode cX6_value 2 = .ok (.iload_n 2, 1) := by decide +kernel
theorem dX6_value_3 : decode cX6_value 3 = .ok (.invokevirtual 78, 3) := by decide +kernel
theorem dX6_value_6 : decode cX6_value 6 = .ok (.iload_n 2, 1) := by decide +kernel
theorem dX6_value_7 : decode cX6_value 7 = .ok (.invokevirtual 82, 3) := by decide +kernel
theorem dX6_value_10 : decode cX6_value 10 = .ok (.ireturn, 1) := by decide +kernel
set_option maxRecDepth 20000 in
theorem ggX6_lowestRank_X6_rowWith : GoodIn wsX6_lowestRank wsX6_rowWith := goodIn_ca (goodIn_r _ [5, 6, 7, 8, 9, 10, 4, 11, 12, 13, 14, 15, 16, 17, 18, 19, 20, 21, 22, 23, 24, 43, 44, 45, 46, 47, 48, 49, 50, 51, 52] (by decide +kernel) (by decide +kernel)) (goodIn_sub (fun _ h => List.mem_cons_of_mem _ (List.mem_append_right _ h)) (by decide +kernel))
set_option maxRecDepth 20000 in
theorem gX6_lowestRank_X6_rowWith : GoodIn wsX6_lowestRank (wsV RX6 78 RX6 yX6_rowWith wsX6_rowWith) := goodIn_app (goodIn_of _ (by decide +kernel)) ggX6_lowestRank_X6_rowWith
set_option maxRecDepth 20000 in
theorem ggX6_lowestRank_X3_rankFrom : GoodIn wsX6_lowestRank wsX3_rankFrom := goodIn_r _ [28, 29, 30, 31, 32, 22, 33, 24, 34, 35, 36, 37, 38, 39, 40, 41, 42, 48, 49, 50, 51, 52] (by decide +kernel) (by decide +kernel)
set_option maxRecDepth 20000 in
theorem gX6_lowestRank_X3_rankFrom : GoodIn wsX6_lowestRank (wsV RX6 86 RX3 yX3_rankFrom wsX3_rankFrom) := goodIn_app (goodIn_of _ (by decide +kernel)) ggX6_lowestRank_X3_rankFrom
theorem dX6_lowestRank_0 : decode cX6_lowestRank 0 = .ok (.aload_n 0, 1) := by decide +kernel
theorem dX6_lowestRank_1 : decode cX6_lowestRank 1 = .ok (.iload_n 1, 1) := by decide +kernel
theorem dX6_lowestRank_2 : decode cX6_lowestRank 2 = .ok (.iload_n 2, 1) := by decide +kernel
theorem dX6_lowestRank_3 : decode cX6_lowestRank 3 = .ok (.invokevirtual 78, 3) := by decide +kernel
theorem dX6_lowestRank_6 : decode cX6_lowestRank 6 = .ok (.iload_n 2, 1) := by decide +kernel
theorem dX6_lowestRank_7 : decode cX6_lowestRank 7 = .ok (.invokevirtual 86, 3) := by decide +kernel
theorem dX6_lowestRank_10 : decode cX6_lowestRank 10 = .ok (.ireturn, 1) := by decide +kernel
set_option maxRecDepth 20000 in
theorem ggX6_highestRank_X6_rowWith : GoodIn wsX6_highestRank wsX6_rowWith := goodIn_ca (goodIn_r _ [5, 6, 7, 8, 9, 10, 4, 11, 12, 13, 14, 15, 16, 17, 18, 19, 20, 21, 22, 23, 24, 49, 50, 51, 52, 53, 54, 55, 56, 57, 58] (by decide +kernel) (by decide +kernel)) (goodIn_sub (fun _ h => List.mem_cons_of_mem _ (List.mem_append_right _ h)) (by decide +kernel))
set_option maxRecDepth 20000 in
theorem gX6_highestRank_X6_rowWith : GoodIn wsX6_highestRank (wsV RX6 78 RX6 yX6_rowWith wsX6_rowWith) := goodIn_app (goodIn_of _ (by decide +kernel)) ggX6_highestRank_X6_rowWith
set_option maxRecDepth 20000 in
theorem ggX6_highestRank_X3_rankTo : GoodIn wsX6_highestRank wsX3_rankTo := goodIn_r _ [28, 29, 30, 31, 32, 16, 33, 34, 35, 36, 37, 22, 38, 24, 39, 40, 41, 42, 43, 44, 45, 46, 47, 48, 54, 55, 56, 57, 58] (by decide +kernel) (by decide +kernel)
set_option maxRecDepth 20000 in
theorem gX6_highestRank_X3_rankTo : GoodIn wsX6_highestRank (wsV RX6 89 RX3 yX3_rankTo wsX3_rankTo) := goodIn_app (goodIn_of _ (by decide +kernel)) ggX6_highestRank_X3_rankTo
theorem dX6_highestRank_0 : decode cX6_highestRank 0 = .ok (.aload_n 0, 1) := by decide +kernel
theorem dX6_highestRank_1 : decode cX6_highestRank 1 = .ok (.iload_n 1, 1) := by decide +kernel
theorem dX6_highestRank_2 : decode cX6_highestRank 2 = .ok (.iload_n 2, 1) := by decide +kernel
theorem dX6_highestRank_3 : decode cX6_highestRank 3 = .ok (.invokevirtual 78, 3) := by decide +kernel
theorem dX6_highestRank_6 : decode cX6_highestRank 6 = .ok (.iload_n 2, 1) := by decide +kernel
theorem dX6_highestRank_7 : decode cX6_highestRank 7 = .ok (.invokevirtual 89, 3) := by decide +kernel
theorem dX6_highestRank_10 : decode cX6_highestRank 10 = .ok (.ireturn, 1) := by decide +kernel
set_option maxRecDepth 20000 in
theorem ggX6_widest_X6_counterAt : GoodIn wsX6_widest wsX6_counterAt := goodIn_ca (goodIn_r _ [5, 6, 7, 8, 48] (by decide +kernel) (by decide +kernel)) (goodIn_sub (fun _ h => List.mem_cons_of_mem _ (List.mem_append_right _ h)) (by decide +kernel))
set_option maxRecDepth 20000 in
theorem gX6_widest_X6_counterAt : GoodIn wsX6_widest (wsV RX6 16 RX6 yX6_counterAt wsX6_counterAt) := goodIn_app (goodIn_of _ (by decide +kernel)) ggX6_widest_X6_counterAt
set_option maxRecDepth 20000 in
theorem ggX6_widest_X3_greatestWidth : GoodIn wsX6_widest wsX3_greatestWidth := goodIn_r _ [13, 14, 15, 16, 17, 18, 19, 20, 12, 21, 22, 23, 24, 25, 26, 27, 28, 29, 30, 31, 32, 33, 34, 35, 36, 37, 38, 39, 40, 41, 42, 43, 49, 50, 51, 52, 53] (by decide +kernel) (by decide +kernel)
set_option maxRecDepth 20000 in
theorem gX6_widest_X3_greatestWidth : GoodIn wsX6_widest (wsV RX6 92 RX3 yX3_greatestWidth wsX3_greatestWidth) := goodIn_app (goodIn_of _ (by decide +kernel)) ggX6_widest_X3_greatestWidth
theorem dX6_widest_0 : decode cX6_widest 0 = .ok (.aload_n 0, 1) := by decide +kernel
theorem dX6_widest_1 : decode cX6_widest 1 = .ok (.iload_n 1, 1) := by decide +kernel
theorem dX6_widest_2 : decode cX6_widest 2 = .ok (.invokevirtual 16, 3) := by decide +kernel
theorem dX6_widest_5 : decode cX6_widest 5 = .ok (.getfield 48, 3) := by decide +kernel
theorem dX6_widest_8 : decode cX6_widest 8 = .ok (.invokevirtual 92, 3) := by decide +kernel
theorem dX6_widest_11 : decode cX6_widest 11 = .ok (.ireturn, 1) := by decide +kernel
set_option maxRecDepth 20000 in
theorem ggX6_ask_X6_counterForShare : GoodIn wsX6_ask wsX6_counterForShare := goodIn_ca (goodIn_ca (goodIn_ca (goodIn_r _ [5, 6, 7, 8, 4, 9, 10, 11, 12, 13, 14, 15, 16, 17, 18, 19, 20, 21, 22, 23, 24, 25, 26, 27, 28, 29, 30, 31, 93, 89, 90, 91, 92, 94, 95, 96] (by decide +kernel) (by decide +kernel)) (goodIn_sub (fun _ h => List.mem_cons_of_mem _ (List.mem_append_left _ (List.mem_append_left _ (List.mem_append_right _ h)))) (by decide +kernel))) (goodIn_sub (fun _ h => List.mem_cons_of_mem _ (List.mem_append_left _ (List.mem_append_right _ h))) (by decide +kernel))) (goodIn_sub (fun _ h => List.mem_cons_of_mem _ (List.mem_append_right _ h)) (by decide +kernel))
set_option maxRecDepth 20000 in
theorem gX6_ask_X6_counterForShare : GoodIn wsX6_ask (wsV RX6 95 RX6 yX6_counterForShare wsX6_counterForShare) := goodIn_app (goodIn_of _ (by decide +kernel)) ggX6_ask_X6_counterForShare
set_option maxRecDepth 20000 in
theorem ggX6_ask_X0_rankAt : GoodIn wsX6_ask wsX0_rankAt := goodIn_r _ [35, 25, 36, 37, 38, 39, 26, 27, 28, 29, 30, 31, 89, 90, 91, 92, 94, 95, 96] (by decide +kernel) (by decide +kernel)
set_option maxRecDepth 20000 in
theorem gX6_ask_X0_rankAt : GoodIn wsX6_ask (wsV RX6 99 RX0 yX0_rankAt wsX0_rankAt) := goodIn_app (goodIn_of _ (by decide +kernel)) ggX6_ask_X0_rankAt
set_option maxRecDepth 20000 in
theorem ggX6_ask_X3_answering : GoodIn wsX6_ask wsX3_answering := goodIn_r _ [44, 45, 46, 47, 37, 38, 39, 48, 49, 50, 43, 51, 52, 53, 54, 55, 56, 57, 58, 59, 60, 61, 62, 63, 64, 65, 66, 67, 68, 69, 70, 71, 72, 73, 74, 75, 76, 77, 78, 79, 80, 81, 82, 83, 84, 97, 98, 99, 100, 101] (by decide +kernel) (by decide +kernel)
set_option maxRecDepth 20000 in
theorem gX6_ask_X3_answering : GoodIn wsX6_ask (wsV RX6 102 RX3 yX3_answering wsX3_answering) := goodIn_app (goodIn_of _ (by decide +kernel)) ggX6_ask_X3_answering
set_option maxRecDepth 20000 in
theorem ggX6_ask_X3_valueOf : GoodIn wsX6_ask wsX3_valueOf := goodIn_r _ [88, 80, 75, 63, 64, 59, 65, 66, 67, 68, 69, 70, 61, 97, 98, 99, 100, 101] (by decide +kernel) (by decide +kernel)
set_option maxRecDepth 20000 in
theorem gX6_ask_X3_valueOf : GoodIn wsX6_ask (wsV RX6 82 RX3 yX3_valueOf wsX3_valueOf) := goodIn_app (goodIn_of _ (by decide +kernel)) ggX6_ask_X3_valueOf
theorem dX6_ask_0 : decode cX6_ask 0 = .ok (.aload_n 0, 1) := by decide +kernel
theorem dX6_ask_1 : decode cX6_ask 1 = .ok (.iload_n 1, 1) := by decide +kernel
theorem dX6_ask_2 : decode cX6_ask 2 = .ok (.iload_n 2, 1) := by decide +kernel
theorem dX6_ask_3 : decode cX6_ask 3 = .ok (.invokevirtual 95, 3) := by decide +kernel
theorem dX6_ask_6 : decode cX6_ask 6 = .ok (.astore_n 3, 1) := by decide +kernel
theorem dX6_ask_7 : decode cX6_ask 7 = .ok (.aload_n 3, 1) := by decide +kernel
theorem dX6_ask_8 : decode cX6_ask 8 = .ok (.getfield 48, 3) := by decide +kernel
theorem dX6_ask_11 : decode cX6_ask 11 = .ok (.aload_n 3, 1) := by decide +kernel
theorem dX6_ask_12 : decode cX6_ask 12 = .ok (.getfield 48, 3) := by decide +kernel
theorem dX6_ask_15 : decode cX6_ask 15 = .ok (.aload_n 3, 1) := by decide +kernel
theorem dX6_ask_16 : decode cX6_ask 16 = .ok (.iload_n 2, 1) := by decide +kernel
theorem dX6_ask_17 : decode cX6_ask 17 = .ok (.invokevirtual 99, 3) := by decide +kernel
theorem dX6_ask_20 : decode cX6_ask 20 = .ok (.invokevirtual 102, 3) := by decide +kernel
theorem dX6_ask_23 : decode cX6_ask 23 = .ok (.invokevirtual 82, 3) := by decide +kernel
theorem dX6_ask_26 : decode cX6_ask 26 = .ok (.ireturn, 1) := by decide +kernel
set_option maxRecDepth 20000 in
theorem ggX6_off_X6_counterForShare : GoodIn wsX6_off wsX6_counterForShare := goodIn_ca (goodIn_ca (goodIn_ca (goodIn_r _ [5, 6, 7, 8, 4, 9, 10, 11, 12, 13, 14, 15, 16, 17, 18, 19, 20, 21, 22, 23, 24, 25, 26, 27, 28, 29, 30, 31, 90, 86, 87, 88, 89, 91, 92, 93] (by decide +kernel) (by decide +kernel)) (goodIn_sub (fun _ h => List.mem_cons_of_mem _ (List.mem_append_left _ (List.mem_append_left _ (List.mem_append_right _ h)))) (by decide +kernel))) (goodIn_sub (fun _ h => List.mem_cons_of_mem _ (List.mem_append_left _ (List.mem_append_right _ h))) (by decide +kernel))) (goodIn_sub (fun _ h => List.mem_cons_of_mem _ (List.mem_append_right _ h)) (by decide +kernel))
set_option maxRecDepth 20000 in
theorem gX6_off_X6_counterForShare : GoodIn wsX6_off (wsV RX6 95 RX6 yX6_counterForShare wsX6_counterForShare) := goodIn_app (goodIn_of _ (by decide +kernel)) ggX6_off_X6_counterForShare
set_option maxRecDepth 20000 in
theorem ggX6_off_X0_rankAt : GoodIn wsX6_off wsX0_rankAt := goodIn_r _ [35, 25, 36, 37, 38, 39, 26, 27, 28, 29, 30, 31, 86, 87, 88, 89, 91, 92, 93] (by decide +kernel) (by decide +kernel)
set_option maxRecDepth 20000 in
theorem gX6_off_X0_rankAt : GoodIn wsX6_off (wsV RX6 99 RX0 yX0_rankAt wsX0_rankAt) := goodIn_app (goodIn_of _ (by decide +kernel)) ggX6_off_X0_rankAt
set_option maxRecDepth 20000 in
theorem ggX6_off_X3_answering : GoodIn wsX6_off wsX3_answering := goodIn_r _ [44, 45, 46, 47, 37, 38, 39, 48, 49, 50, 43, 51, 52, 53, 54, 55, 56, 57, 58, 59, 60, 61, 62, 63, 64, 65, 66, 67, 68, 69, 70, 71, 72, 73, 74, 75, 76, 77, 78, 79, 80, 81, 82, 83, 84, 94, 95, 96, 97, 98] (by decide +kernel) (by decide +kernel)
set_option maxRecDepth 20000 in
theorem gX6_off_X3_answering : GoodIn wsX6_off (wsV RX6 102 RX3 yX3_answering wsX3_answering) := goodIn_app (goodIn_of _ (by decide +kernel)) ggX6_off_X3_answering
set_option maxRecDepth 20000 in
theorem ggX6_off_X3_offBy : GoodIn wsX6_off wsX3_offBy := goodIn_r _ [51, 47, 37, 38, 39, 52, 53, 54, 43, 55, 45, 56, 57, 58, 59, 60, 61, 62, 63, 64, 65, 66, 67, 68, 69, 70, 71, 72, 73, 74, 46, 75, 94, 95, 96, 97, 98] (by decide +kernel) (by decide +kernel)
set_option maxRecDepth 20000 in
theorem gX6_off_X3_offBy : GoodIn wsX6_off (wsV RX6 105 RX3 yX3_offBy wsX3_offBy) := goodIn_app (goodIn_of _ (by decide +kernel)) ggX6_off_X3_offBy
theorem dX6_off_0 : decode cX6_off 0 = .ok (.aload_n 0, 1) := by decide +kernel
theorem dX6_off_1 : decode cX6_off 1 = .ok (.iload_n 1, 1) := by decide +kernel
theorem dX6_off_2 : decode cX6_off 2 = .ok (.iload_n 2, 1) := by decide +kernel
theorem dX6_off_3 : decode cX6_off 3 = .ok (.invokevirtual 95, 3) := by decide +kernel
theorem dX6_off_6 : decode cX6_off 6 = .ok (.astore_n 3, 1) := by decide +kernel
theorem dX6_off_7 : decode cX6_off 7 = .ok (.aload_n 3, 1) := by decide +kernel
theorem dX6_off_8 : decode cX6_off 8 = .ok (.iload_n 2, 1) := by decide +kernel
theorem dX6_off_9 : decode cX6_off 9 = .ok (.invokevirtual 99, 3) := by decide +kernel
theorem dX6_off_12 : decode cX6_off 12 = .ok (.istore 4, 2) := by decide +kernel
theorem dX6_off_14 : decode cX6_off 14 = .ok (.aload_n 3, 1) := by decide +kernel
theorem dX6_off_15 : decode cX6_off 15 = .ok (.getfield 48, 3) := by decide +kernel
theorem dX6_off_18 : decode cX6_off 18 = .ok (.aload_n 3, 1) := by decide +kernel
theorem dX6_off_19 : decode cX6_off 19 = .ok (.getfield 48, 3) := by decide +kernel
theorem dX6_off_22 : decode cX6_off 22 = .ok (.iload 4, 2) := by decide +kernel
theorem dX6_off_24 : decode cX6_off 24 = .ok (.invokevirtual 102, 3) := by decide +kernel
theorem dX6_off_27 : decode cX6_off 27 = .ok (.iload 4, 2) := by decide +kernel
theorem dX6_off_29 : decode cX6_off 29 = .ok (.invokevirtual 105, 3) := by decide +kernel
theorem dX6_off_32 : decode cX6_off 32 = .ok (.ireturn, 1) := by decide +kernel
set_option maxRecDepth 20000 in
theorem ggX6_reallyOff_X6_counterForShare : GoodIn wsX6_reallyOff wsX6_counterForShare := goodIn_ca (goodIn_ca (goodIn_ca (goodIn_r _ [5, 6, 7, 8, 4, 9, 10, 11, 12, 13, 14, 15, 16, 17, 18, 19, 20, 21, 22, 23, 24, 25, 26, 27, 28, 29, 30, 31, 104, 100, 101, 102, 103, 105, 106, 107] (by decide +kernel) (by decide +kernel)) (goodIn_sub (fun _ h => List.mem_cons_of_mem _ (List.mem_append_left _ (List.mem_append_left _ (List.mem_append_right _ h)))) (by decide +kernel))) (goodIn_sub (fun _ h => List.mem_cons_of_mem _ (List.mem_append_left _ (List.mem_append_right _ h))) (by decide +kernel))) (goodIn_sub (fun _ h => List.mem_cons_of_mem _ (List.mem_append_right _ h)) (by decide +kernel))
set_option maxRecDepth 20000 in
theorem gX6_reallyOff_X6_counterForShare : GoodIn wsX6_reallyOff (wsV RX6 95 RX6 yX6_counterForShare wsX6_counterForShare) := goodIn_app (goodIn_of _ (by decide +kernel)) ggX6_reallyOff_X6_counterForShare
set_option maxRecDepth 20000 in
theorem ggX6_reallyOff_X0_rankAt : GoodIn wsX6_reallyOff wsX0_rankAt := goodIn_r _ [35, 25, 36, 37, 38, 39, 26, 27, 28, 29, 30, 31, 100, 101, 102, 103, 105, 106, 107] (by decide +kernel) (by decide +kernel)
set_option maxRecDepth 20000 in
theorem gX6_reallyOff_X0_rankAt : GoodIn wsX6_reallyOff (wsV RX6 99 RX0 yX0_rankAt wsX0_rankAt) := goodIn_app (goodIn_of _ (by decide +kernel)) ggX6_reallyOff_X0_rankAt
set_option maxRecDepth 20000 in
theorem ggX6_reallyOff_X3_answering : GoodIn wsX6_reallyOff wsX3_answering := goodIn_r _ [44, 45, 46, 47, 37, 38, 39, 48, 49, 50, 43, 51, 52, 53, 54, 55, 56, 57, 58, 59, 60, 61, 62, 63, 64, 65, 66, 67, 68, 69, 70, 71, 72, 73, 74, 75, 76, 77, 78, 79, 80, 81, 82, 83, 84, 108, 109, 110, 111, 112] (by decide +kernel) (by decide +kernel)
set_option maxRecDepth 20000 in
theorem gX6_reallyOff_X3_answering : GoodIn wsX6_reallyOff (wsV RX6 102 RX3 yX3_answering wsX3_answering) := goodIn_app (goodIn_of _ (by decide +kernel)) ggX6_reallyOff_X3_answering
set_option maxRecDepth 20000 in
theorem ggX6_reallyOff_X3_valueOf : GoodIn wsX6_reallyOff wsX3_valueOf := goodIn_r _ [88, 80, 75, 63, 64, 59, 65, 66, 67, 68, 69, 70, 61, 108, 109, 110, 111, 112] (by decide +kernel) (by decide +kernel)
set_option maxRecDepth 20000 in
theorem gX6_reallyOff_X3_valueOf : GoodIn wsX6_reallyOff (wsV RX6 82 RX3 yX3_valueOf wsX3_valueOf) := goodIn_app (goodIn_of _ (by decide +kernel)) ggX6_reallyOff_X3_valueOf
set_option maxRecDepth 20000 in
theorem ggX6_reallyOff_X5_notAbove : GoodIn wsX6_reallyOff wsX5_notAbove := goodIn_r _ [92, 93, 94, 95, 96, 97, 59, 98, 61, 62, 63, 64, 65, 66, 67, 68, 69, 70, 99, 57, 58, 60, 105, 106, 107, 111, 112] (by decide +kernel) (by decide +kernel)
set_option maxRecDepth 20000 in
theorem gX6_reallyOff_X5_notAbove : GoodIn wsX6_reallyOff (wsV RX6 109 RX5 yX5_notAbove wsX5_notAbove) := goodIn_app (goodIn_of _ (by decide +kernel)) ggX6_reallyOff_X5_notAbove
theorem dX6_reallyOff_0 : decode cX6_reallyOff 0 = .ok (.aload_n 0, 1) := by decide +kernel
theorem dX6_reallyOff_1 : decode cX6_reallyOff 1 = .ok (.iload_n 1, 1) := by decide +kernel
theorem dX6_reallyOff_2 : decode cX6_reallyOff 2 = .ok (.iload_n 2, 1) := by decide +kernel
theorem dX6_reallyOff_3 : decode cX6_reallyOff 3 = .ok (.invokevirtual 95, 3) := by decide +kernel
theorem dX6_reallyOff_6 : decode cX6_reallyOff 6 = .ok (.astore_n 3, 1) := by decide +kernel
theorem dX6_reallyOff_7 : decode cX6_reallyOff 7 = .ok (.aload_n 3, 1) := by decide +kernel
theorem dX6_reallyOff_8 : decode cX6_reallyOff 8 = .ok (.iload_n 2, 1) := by decide +kernel
theorem dX6_reallyOff_9 : decode cX6_reallyOff 9 = .ok (.invokevirtual 99, 3) := by decide +kernel
theorem dX6_reallyOff_12 : decode cX6_reallyOff 12 = .ok (.istore 4, 2) := by decide +kernel
theorem dX6_reallyOff_14 : decode cX6_reallyOff 14 = .ok (.aload_n 3, 1) := by decide +kernel
theorem dX6_reallyOff_15 : decode cX6_reallyOff 15 = .ok (.getfield 48, 3) := by decide +kernel
theorem dX6_reallyOff_18 : decode cX6_reallyOff 18 = .ok (.aload_n 3, 1) := by decide +kernel
theorem dX6_reallyOff_19 : decode cX6_reallyOff 19 = .ok (.getfield 48, 3) := by decide +kernel
theorem dX6_reallyOff_22 : decode cX6_reallyOff 22 = .ok (.iload 4, 2) := by decide +kernel
theorem dX6_reallyOff_24 : decode cX6_reallyOff 24 = .ok (.invokevirtual 102, 3) := by decide +kernel
theorem dX6_reallyOff_27 : decode cX6_reallyOff 27 = .ok (.invokevirtual 82, 3) := by decide +kernel
theorem dX6_reallyOff_30 : decode cX6_reallyOff 30 = .ok (.istore 5, 2) := by decide +kernel
theorem dX6_reallyOff_32 : decode cX6_reallyOff 32 = .ok (.aload_n 3, 1) := by decide +kernel
theorem dX6_reallyOff_33 : decode cX6_reallyOff 33 = .ok (.getfield 24, 3) := by decide +kernel
theorem dX6_reallyOff_36 : decode cX6_reallyOff 36 = .ok (.iload 5, 2) := by decide +kernel
theorem dX6_reallyOff_38 : decode cX6_reallyOff 38 = .ok (.iconst 1, 1) := by decide +kernel
theorem dX6_reallyOff_39 : decode cX6_reallyOff 39 = .ok (.isub, 1) := by decide +kernel
theorem dX6_reallyOff_40 : decode cX6_reallyOff 40 = .ok (.invokevirtual 109, 3) := by decide +kernel
theorem dX6_reallyOff_43 : decode cX6_reallyOff 43 = .ok (.iconst 1, 1) := by decide +kernel
theorem dX6_reallyOff_44 : decode cX6_reallyOff 44 = .ok (.iadd, 1) := by decide +kernel
theorem dX6_reallyOff_45 : decode cX6_reallyOff 45 = .ok (.istore 6, 2) := by decide +kernel
theorem dX6_reallyOff_47 : decode cX6_reallyOff 47 = .ok (.aload_n 3, 1) := by decide +kernel
theorem dX6_reallyOff_48 : decode cX6_reallyOff 48 = .ok (.getfield 24, 3) := by decide +kernel
theorem dX6_reallyOff_51 : decode cX6_reallyOff 51 = .ok (.iload 5, 2) := by decide +kernel
theorem dX6_reallyOff_53 : decode cX6_reallyOff 53 = .ok (.invokevirtual 109, 3) := by decide +kernel
theorem dX6_reallyOff_56 : decode cX6_reallyOff 56 = .ok (.istore 7, 2) := by decide +kernel
theorem dX6_reallyOff_58 : decode cX6_reallyOff 58 = .ok (.iload 4, 2) := by decide +kernel
theorem dX6_reallyOff_60 : decode cX6_reallyOff 60 = .ok (.iload 6, 2) := by decide +kernel
theorem dX6_reallyOff_62 : decode cX6_reallyOff 62 = .ok (.if_icmp .ge 9, 3) := by decide +kernel
theorem dX6_reallyOff_65 : decode cX6_reallyOff 65 = .ok (.iload 6, 2) := by decide +kernel
theorem dX6_reallyOff_67 : decode cX6_reallyOff 67 = .ok (.iload 4, 2) := by decide +kernel
theorem dX6_reallyOff_69 : decode cX6_reallyOff 69 = .ok (.isub, 1) := by decide +kernel
theorem dX6_reallyOff_70 : decode cX6_reallyOff 70 = .ok (.ireturn, 1) := by decide +kernel
theorem dX6_reallyOff_71 : decode cX6_reallyOff 71 = .ok (.iload 4, 2) := by decide +kernel
theorem dX6_reallyOff_73 : decode cX6_reallyOff 73 = .ok (.iload 7, 2) := by decide +kernel
theorem dX6_reallyOff_75 : decode cX6_reallyOff 75 = .ok (.if_icmp .le 11, 3) := by decide +kernel
theorem dX6_reallyOff_78 : decode cX6_reallyOff 78 = .ok (.iload 4, 2) := by decide +kernel
theorem dX6_reallyOff_80 : decode cX6_reallyOff 80 = .ok (.iload 7, 2) := by decide +kernel
theorem dX6_reallyOff_82 : decode cX6_reallyOff 82 = .ok (.isub, 1) := by decide +kernel
theorem dX6_reallyOff_83 : decode cX6_reallyOff 83 = .ok (.goto 4, 3) := by decide +kernel
theorem dX6_reallyOff_86 : decode cX6_reallyOff 86 = .ok (.iconst 0, 1) := by decide +kernel
theorem dX6_reallyOff_87 : decode cX6_reallyOff 87 = .ok (.ireturn, 1) := by decide +kernel
set_option maxRecDepth 20000 in
theorem ggX6_atLeastUpTo_X6_counterAt : GoodIn wsX6_atLeastUpTo wsX6_counterAt := goodIn_ca (goodIn_r _ [5, 6, 7, 8, 39] (by decide +kernel) (by decide +kernel)) (goodIn_sub (fun _ h => List.mem_cons_of_mem _ (List.mem_append_right _ h)) (by decide +kernel))
set_option maxRecDepth 20000 in
theorem gX6_atLeastUpTo_X6_counterAt : GoodIn wsX6_atLeastUpTo (wsV RX6 16 RX6 yX6_counterAt wsX6_counterAt) := goodIn_app (goodIn_of _ (by decide +kernel)) ggX6_atLeastUpTo_X6_counterAt
set_option maxRecDepth 20000 in
theorem ggX6_atLeastUpTo_X3_atLeastNotAbove : GoodIn wsX6_atLeastUpTo wsX3_atLeastNotAbove := goodIn_r _ [13, 14, 15, 16, 17, 18, 19, 20, 21, 22, 23, 24, 25, 26, 27, 28, 29, 30, 31, 32, 33, 34, 40, 41, 42, 43, 44] (by decide +kernel) (by decide +kernel)
set_option maxRecDepth 20000 in
theorem gX6_atLeastUpTo_X3_atLeastNotAbove : GoodIn wsX6_atLeastUpTo (wsV RX6 112 RX3 yX3_atLeastNotAbove wsX3_atLeastNotAbove) := goodIn_app (goodIn_of _ (by decide +kernel)) ggX6_atLeastUpTo_X3_atLeastNotAbove
theorem dX6_atLeastUpTo_0 : decode cX6_atLeastUpTo 0 = .ok (.aload_n 0, 1) := by decide +kernel
theorem dX6_atLeastUpTo_1 : decode cX6_atLeastUpTo 1 = .ok (.iload_n 1, 1) := by decide +kernel
theorem dX6_atLeastUpTo_2 : decode cX6_atLeastUpTo 2 = .ok (.invokevirtual 16, 3) := by decide +kernel
theorem dX6_atLeastUpTo_5 : decode cX6_atLeastUpTo 5 = .ok (.getfield 48, 3) := by decide +kernel
theorem dX6_atLeastUpTo_8 : decode cX6_atLeastUpTo 8 = .ok (.iload_n 2, 1) := by decide +kernel
theorem dX6_atLeastUpTo_9 : decode cX6_atLeastUpTo 9 = .ok (.invokevirtual 112, 3) := by decide +kernel
theorem dX6_atLeastUpTo_12 : decode cX6_atLeastUpTo 12 = .ok (.ireturn, 1) := by decide +kernel
set_option maxRecDepth 20000 in
theorem ggX6_atMostUpTo_X6_counterAt : GoodIn wsX6_atMostUpTo wsX6_counterAt := goodIn_ca (goodIn_r _ [5, 6, 7, 8, 63] (by decide +kernel) (by decide +kernel)) (goodIn_sub (fun _ h => List.mem_cons_of_mem _ (List.mem_append_right _ h)) (by decide +kernel))
set_option maxRecDepth 20000 in
theorem gX6_atMostUpTo_X6_counterAt : GoodIn wsX6_atMostUpTo (wsV RX6 16 RX6 yX6_counterAt wsX6_counterAt) := goodIn_app (goodIn_of _ (by decide +kernel)) ggX6_atMostUpTo_X6_counterAt
set_option maxRecDepth 20000 in
theorem ggX6_atMostUpTo_X3_firstAbove : GoodIn wsX6_atMostUpTo wsX3_firstAbove := goodIn_r _ [13, 14, 15, 16, 17, 18, 19, 20, 21, 22, 23, 24, 25, 26, 27, 28, 29, 64, 65, 66, 67, 68] (by decide +kernel) (by decide +kernel)
set_option maxRecDepth 20000 in
theorem gX6_atMostUpTo_X3_firstAbove : GoodIn wsX6_atMostUpTo (wsV RX6 115 RX3 yX3_firstAbove wsX3_firstAbove) := goodIn_app (goodIn_of _ (by decide +kernel)) ggX6_atMostUpTo_X3_firstAbove
set_option maxRecDepth 20000 in
theorem ggX6_atMostUpTo_X3_length : GoodIn wsX6_atMostUpTo wsX3_length := goodIn_r _ [33, 14, 34, 35, 36, 18, 37, 20, 64, 65, 66, 67, 68] (by decide +kernel) (by decide +kernel)
set_option maxRecDepth 20000 in
theorem gX6_atMostUpTo_X3_length : GoodIn wsX6_atMostUpTo (wsV RX6 52 RX3 yX3_length wsX3_length) := goodIn_app (goodIn_of _ (by decide +kernel)) ggX6_atMostUpTo_X3_length
set_option maxRecDepth 20000 in
theorem ggX6_atMostUpTo_X3_rankTo : GoodIn wsX6_atMostUpTo wsX3_rankTo := goodIn_r _ [41, 42, 43, 44, 45, 12, 46, 47, 48, 49, 50, 18, 51, 20, 21, 22, 23, 24, 25, 26, 27, 28, 29, 52, 64, 65, 66, 67, 68] (by decide +kernel) (by decide +kernel)
set_option maxRecDepth 20000 in
theorem gX6_atMostUpTo_X3_rankTo : GoodIn wsX6_atMostUpTo (wsV RX6 89 RX3 yX3_rankTo wsX3_rankTo) := goodIn_app (goodIn_of _ (by decide +kernel)) ggX6_atMostUpTo_X3_rankTo
set_option maxRecDepth 20000 in
theorem ggX6_atMostUpTo_X5_total : GoodIn wsX6_atMostUpTo wsX5_total := goodIn_r _ [57, 58, 69, 70, 71] (by decide +kernel) (by decide +kernel)
set_option maxRecDepth 20000 in
theorem gX6_atMostUpTo_X5_total : GoodIn wsX6_atMostUpTo (wsV RX6 28 RX5 yX5_total wsX5_total) := goodIn_app (goodIn_of _ (by decide +kernel)) ggX6_atMostUpTo_X5_total
theorem dX6_atMostUpTo_0 : decode cX6_atMostUpTo 0 = .ok (.aload_n 0, 1) := by decide +kernel
theorem dX6_atMostUpTo_1 : decode cX6_atMostUpTo 1 = .ok (.iload_n 1, 1) := by decide +kernel
theorem dX6_atMostUpTo_2 : decode cX6_atMostUpTo 2 = .ok (.invokevirtual 16, 3) := by decide +kernel
theorem dX6_atMostUpTo_5 : decode cX6_atMostUpTo 5 = .ok (.astore_n 3, 1) := by decide +kernel
theorem dX6_atMostUpTo_6 : decode cX6_atMostUpTo 6 = .ok (.aload_n 3, 1) := by decide +kernel
theorem dX6_atMostUpTo_7 : decode cX6_atMostUpTo 7 = .ok (.getfield 48, 3) := by decide +kernel
theorem dX6_atMostUpTo_10 : decode cX6_atMostUpTo 10 = .ok (.iload_n 2, 1) := by decide +kernel
theorem dX6_atMostUpTo_11 : decode cX6_atMostUpTo 11 = .ok (.invokevirtual 115, 3) := by decide +kernel
theorem dX6_atMostUpTo_14 : decode cX6_atMostUpTo 14 = .ok (.istore 4, 2) := by decide +kernel
theorem dX6_atMostUpTo_16 : decode cX6_atMostUpTo 16 = .ok (.iload 4, 2) := by decide +kernel
theorem dX6_atMostUpTo_18 : decode cX6_atMostUpTo 18 = .ok (.aload_n 3, 1) := by decide +kernel
theorem dX6_atMostUpTo_19 : decode cX6_atMostUpTo 19 = .ok (.getfield 48, 3) := by decide +kernel
theorem dX6_atMostUpTo_22 : decode cX6_atMostUpTo 22 = .ok (.invokevirtual 52, 3) := by decide +kernel
theorem dX6_atMostUpTo_25 : decode cX6_atMostUpTo 25 = .ok (.if_icmp .ge 17, 3) := by decide +kernel
theorem dX6_atMostUpTo_28 : decode cX6_atMostUpTo 28 = .ok (.aload_n 3, 1) := by decide +kernel
theorem dX6_atMostUpTo_29 : decode cX6_atMostUpTo 29 = .ok (.getfield 48, 3) := by decide +kernel
theorem dX6_atMostUpTo_32 : decode cX6_atMostUpTo 32 = .ok (.iload 4, 2) := by decide +kernel
theorem dX6_atMostUpTo_34 : decode cX6_atMostUpTo 34 = .ok (.invokevirtual 89, 3) := by decide +kernel
theorem dX6_atMostUpTo_37 : decode cX6_atMostUpTo 37 = .ok (.iconst 1, 1) := by decide +kernel
theorem dX6_atMostUpTo_38 : decode cX6_atMostUpTo 38 = .ok (.isub, 1) := by decide +kernel
theorem dX6_atMostUpTo_39 : decode cX6_atMostUpTo 39 = .ok (.goto 10, 3) := by decide +kernel
theorem dX6_atMostUpTo_42 : decode cX6_atMostUpTo 42 = .ok (.aload_n 3, 1) := by decide +kernel
theorem dX6_atMostUpTo_43 : decode cX6_atMostUpTo 43 = .ok (.getfield 24, 3) := by decide +kernel
theorem dX6_atMostUpTo_46 : decode cX6_atMostUpTo 46 = .ok (.invokevirtual 28, 3) := by decide +kernel
theorem dX6_atMostUpTo_49 : decode cX6_atMostUpTo 49 = .ok (.ireturn, 1) := by decide +kernel
set_option maxRecDepth 20000 in
theorem ggX6_reallyUpTo_X6_counterAt : GoodIn wsX6_reallyUpTo wsX6_counterAt := goodIn_ca (goodIn_r _ [5, 6, 7, 8, 39] (by decide +kernel) (by decide +kernel)) (goodIn_sub (fun _ h => List.mem_cons_of_mem _ (List.mem_append_right _ h)) (by decide +kernel))
set_option maxRecDepth 20000 in
theorem gX6_reallyUpTo_X6_counterAt : GoodIn wsX6_reallyUpTo (wsV RX6 16 RX6 yX6_counterAt wsX6_counterAt) := goodIn_app (goodIn_of _ (by decide +kernel)) ggX6_reallyUpTo_X6_counterAt
set_option maxRecDepth 20000 in
theorem ggX6_reallyUpTo_X5_notAbove : GoodIn wsX6_reallyUpTo wsX5_notAbove := goodIn_r _ [13, 14, 15, 16, 17, 18, 19, 20, 21, 22, 23, 24, 25, 26, 27, 28, 29, 30, 31, 32, 33, 34, 40, 41, 42, 43, 44] (by decide +kernel) (by decide +kernel)
set_option maxRecDepth 20000 in
theorem gX6_reallyUpTo_X5_notAbove : GoodIn wsX6_reallyUpTo (wsV RX6 109 RX5 yX5_notAbove wsX5_notAbove) := goodIn_app (goodIn_of _ (by decide +kernel)) ggX6_reallyUpTo_X5_notAbove
theorem dX6_reallyUpTo_0 : decode cX6_reallyUpTo 0 = .ok (.aload_n 0, 1) := by decide +kernel
theorem dX6_reallyUpTo_1 : decode cX6_reallyUpTo 1 = .ok (.iload_n 1, 1) := by decide +kernel
theorem dX6_reallyUpTo_2 : decode cX6_reallyUpTo 2 = .ok (.invokevirtual 16, 3) := by decide +kernel
theorem dX6_reallyUpTo_5 : decode cX6_reallyUpTo 5 = .ok (.getfield 24, 3) := by decide +kernel
theorem dX6_reallyUpTo_8 : decode cX6_reallyUpTo 8 = .ok (.iload_n 2, 1) := by decide +kernel
theorem dX6_reallyUpTo_9 : decode cX6_reallyUpTo 9 = .ok (.invokevirtual 109, 3) := by decide +kernel
theorem dX6_reallyUpTo_12 : decode cX6_reallyUpTo 12 = .ok (.ireturn, 1) := by decide +kernel
set_option maxRecDepth 20000 in
theorem ggX6_middle_X6_counterAt : GoodIn wsX6_middle wsX6_counterAt := goodIn_ca (goodIn_r _ [5, 6, 7, 8, 49] (by decide +kernel) (by decide +kernel)) (goodIn_sub (fun _ h => List.mem_cons_of_mem _ (List.mem_append_left _ (List.mem_append_right _ h))) (by decide +kernel))
set_option maxRecDepth 20000 in
theorem gX6_middle_X6_counterAt : GoodIn wsX6_middle (wsV RX6 16 RX6 yX6_counterAt wsX6_counterAt) := goodIn_app (goodIn_of _ (by decide +kernel)) ggX6_middle_X6_counterAt
set_option maxRecDepth 20000 in
theorem ggX6_middle_X0_demandNumbers : GoodIn wsX6_middle wsX0_demandNumbers := goodIn_ca (goodIn_r _ [13, 14, 15, 16, 17, 18, 19, 20, 21, 22, 45, 46, 47, 48, 50, 51, 52] (by decide +kernel) (by decide +kernel)) (goodIn_sub (fun _ h => List.mem_cons_of_mem _ (List.mem_append_right _ h)) (by decide +kernel))
set_option maxRecDepth 20000 in
theorem gX6_middle_X0_demandNumbers : GoodIn wsX6_middle (wsV RX6 118 RX0 yX0_demandNumbers wsX0_demandNumbers) := goodIn_app (goodIn_of _ (by decide +kernel)) ggX6_middle_X0_demandNumbers
set_option maxRecDepth 20000 in
theorem ggX6_middle_X5_total : GoodIn wsX6_middle wsX5_total := goodIn_r _ [21, 22, 50, 51, 52] (by decide +kernel) (by decide +kernel)
set_option maxRecDepth 20000 in
theorem gX6_middle_X5_total : GoodIn wsX6_middle (wsV RX6 28 RX5 yX5_total wsX5_total) := goodIn_app (goodIn_of _ (by decide +kernel)) ggX6_middle_X5_total
set_option maxRecDepth 20000 in
theorem ggX6_middle_X5_withRank : GoodIn wsX6_middle wsX5_withRank := goodIn_r _ [27, 28, 29, 30, 31, 32, 33, 34, 35, 36, 37, 38, 39, 40, 41, 42, 43, 44, 50, 51, 52, 53, 54] (by decide +kernel) (by decide +kernel)
set_option maxRecDepth 20000 in
theorem gX6_middle_X5_withRank : GoodIn wsX6_middle (wsV RX6 121 RX5 yX5_withRank wsX5_withRank) := goodIn_app (goodIn_of _ (by decide +kernel)) ggX6_middle_X5_withRank
theorem dX6_middle_0 : decode cX6_middle 0 = .ok (.aload_n 0, 1) := by decide +kernel
theorem dX6_middle_1 : decode cX6_middle 1 = .ok (.iload_n 1, 1) := by decide +kernel
theorem dX6_middle_2 : decode cX6_middle 2 = .ok (.invokevirtual 16, 3) := by decide +kernel
theorem dX6_middle_5 : decode cX6_middle 5 = .ok (.astore_n 2, 1) := by decide +kernel
theorem dX6_middle_6 : decode cX6_middle 6 = .ok (.aload_n 2, 1) := by decide +kernel
theorem dX6_middle_7 : decode cX6_middle 7 = .ok (.invokevirtual 118, 3) := by decide +kernel
theorem dX6_middle_10 : decode cX6_middle 10 = .ok (.aload_n 2, 1) := by decide +kernel
theorem dX6_middle_11 : decode cX6_middle 11 = .ok (.getfield 24, 3) := by decide +kernel
theorem dX6_middle_14 : decode cX6_middle 14 = .ok (.aload_n 2, 1) := by decide +kernel
theorem dX6_middle_15 : decode cX6_middle 15 = .ok (.getfield 24, 3) := by decide +kernel
theorem dX6_middle_18 : decode cX6_middle 18 = .ok (.invokevirtual 28, 3) := by decide +kernel
theorem dX6_middle_21 : decode cX6_middle 21 = .ok (.iconst 1, 1) := by decide +kernel
theorem dX6_middle_22 : decode cX6_middle 22 = .ok (.iadd, 1) := by decide +kernel
theorem dX6_middle_23 : decode cX6_middle 23 = .ok (.iconst 2, 1) := by decide +kernel
theorem dX6_middle_24 : decode cX6_middle 24 = .ok (.idiv, 1) := by decide +kernel
theorem dX6_middle_25 : decode cX6_middle 25 = .ok (.invokevirtual 121, 3) := by decide +kernel
theorem dX6_middle_28 : decode cX6_middle 28 = .ok (.ireturn, 1) := by decide +kernel
set_option maxRecDepth 20000 in
theorem ggX6_middleByHeaps_X6_counterAt : GoodIn wsX6_middleByHeaps wsX6_counterAt := goodIn_ca (goodIn_r _ [5, 6, 7, 8, 50] (by decide +kernel) (by decide +kernel)) (goodIn_sub (fun _ h => List.mem_cons_of_mem _ (List.mem_append_left _ (List.mem_append_right _ h))) (by decide +kernel))
set_option maxRecDepth 20000 in
theorem gX6_middleByHeaps_X6_counterAt : GoodIn wsX6_middleByHeaps (wsV RX6 16 RX6 yX6_counterAt wsX6_counterAt) := goodIn_app (goodIn_of _ (by decide +kernel)) ggX6_middleByHeaps_X6_counterAt
set_option maxRecDepth 20000 in
theorem ggX6_middleByHeaps_X0_demandNumbers : GoodIn wsX6_middleByHeaps wsX0_demandNumbers := goodIn_ca (goodIn_r _ [13, 14, 15, 16, 17, 18, 19, 20, 21, 22, 46, 47, 48, 49, 51, 52, 53] (by decide +kernel) (by decide +kernel)) (goodIn_sub (fun _ h => List.mem_cons_of_mem _ (List.mem_append_right _ h)) (by decide +kernel))
set_option maxRecDepth 20000 in
theorem gX6_middleByHeaps_X0_demandNumbers : GoodIn wsX6_middleByHeaps (wsV RX6 118 RX0 yX0_demandNumbers wsX0_demandNumbers) := goodIn_app (goodIn_of _ (by decide +kernel)) ggX6_middleByHeaps_X0_demandNumbers
set_option maxRecDepth 20000 in
theorem ggX6_middleByHeaps_X1_greatestOfLesser : GoodIn wsX6_middleByHeaps wsX1_greatestOfLesser := goodIn_r _ [27, 28, 29, 30, 31, 32, 33, 34, 35, 36, 37, 38, 39, 40, 41, 42, 43, 44, 45, 54, 55, 56, 57, 58] (by decide +kernel) (by decide +kernel)
set_option maxRecDepth 20000 in
theorem gX6_middleByHeaps_X1_greatestOfLesser : GoodIn wsX6_middleByHeaps (wsV RX6 128 RX1 yX1_greatestOfLesser wsX1_greatestOfLesser) := goodIn_app (goodIn_of _ (by decide +kernel)) ggX6_middleByHeaps_X1_greatestOfLesser
theorem dX6_middleByHeaps_0 : decode cX6_middleByHeaps 0 = .ok (.aload_n 0, 1) := by decide +kernel
theorem dX6_middleByHeaps_1 : decode cX6_middleByHeaps 1 = .ok (.iload_n 1, 1) := by decide +kernel
theorem dX6_middleByHeaps_2 : decode cX6_middleByHeaps 2 = .ok (.invokevirtual 16, 3) := by decide +kernel
theorem dX6_middleByHeaps_5 : decode cX6_middleByHeaps 5 = .ok (.astore_n 2, 1) := by decide +kernel
theorem dX6_middleByHeaps_6 : decode cX6_middleByHeaps 6 = .ok (.aload_n 2, 1) := by decide +kernel
theorem dX6_middleByHeaps_7 : decode cX6_middleByHeaps 7 = .ok (.invokevirtual 118, 3) := by decide +kernel
theorem dX6_middleByHeaps_10 : decode cX6_middleByHeaps 10 = .ok (.aload_n 2, 1) := by decide +kernel
theorem dX6_middleByHeaps_11 : decode cX6_middleByHeaps 11 = .ok (.getfield 124, 3) := by decide +kernel
theorem dX6_middleByHeaps_14 : decode cX6_middleByHeaps 14 = .ok (.invokevirtual 128, 3) := by decide +kernel
theorem dX6_middleByHeaps_17 : decode cX6_middleByHeaps 17 = .ok (.ireturn, 1) := by decide +kernel
set_option maxRecDepth 20000 in
theorem ggX6_part_X6_counterAt : GoodIn wsX6_part wsX6_counterAt := goodIn_ca (goodIn_r _ [5, 6, 7, 8, 31] (by decide +kernel) (by decide +kernel)) (goodIn_sub (fun _ h => List.mem_cons_of_mem _ (List.mem_append_right _ h)) (by decide +kernel))
set_option maxRecDepth 20000 in
theorem gX6_part_X6_counterAt : GoodIn wsX6_part (wsV RX6 16 RX6 yX6_counterAt wsX6_counterAt) := goodIn_app (goodIn_of _ (by decide +kernel)) ggX6_part_X6_counterAt
set_option maxRecDepth 20000 in
theorem ggX6_part_X5_total : GoodIn wsX6_part wsX5_total := goodIn_r _ [13, 14, 32, 33, 34] (by decide +kernel) (by decide +kernel)
set_option maxRecDepth 20000 in
theorem gX6_part_X5_total : GoodIn wsX6_part (wsV RX6 28 RX5 yX5_total wsX5_total) := goodIn_app (goodIn_of _ (by decide +kernel)) ggX6_part_X5_total
set_option maxRecDepth 20000 in
theorem ggX6_part_X3_length : GoodIn wsX6_part wsX3_length := goodIn_r _ [19, 20, 21, 22, 23, 24, 25, 26, 35, 36, 37, 38, 39] (by decide +kernel) (by decide +kernel)
set_option maxRecDepth 20000 in
theorem gX6_part_X3_length : GoodIn wsX6_part (wsV RX6 52 RX3 yX3_length wsX3_length) := goodIn_app (goodIn_of _ (by decide +kernel)) ggX6_part_X3_length
theorem dX6_part_0 : decode cX6_part 0 = .ok (.aload_n 0, 1) := by decide +kernel
theorem dX6_part_1 : decode cX6_part 1 = .ok (.iload_n 1, 1) := by decide +kernel
theorem dX6_part_2 : decode cX6_part 2 = .ok (.invokevirtual 16, 3) := by decide +kernel
theorem dX6_part_5 : decode cX6_part 5 = .ok (.astore_n 2, 1) := by decide +kernel
theorem dX6_part_6 : decode cX6_part 6 = .ok (.aload_n 2, 1) := by decide +kernel
theorem dX6_part_7 : decode cX6_part 7 = .ok (.getfield 24, 3) := by decide +kernel
theorem dX6_part_10 : decode cX6_part 10 = .ok (.invokevirtual 28, 3) := by decide +kernel
theorem dX6_part_13 : decode cX6_part 13 = .ok (.istore_n 3, 1) := by decide +kernel
theorem dX6_part_14 : decode cX6_part 14 = .ok (.iload_n 3, 1) := by decide +kernel
theorem dX6_part_15 : decode cX6_part 15 = .ok (.ifCond .le 17, 3) := by decide +kernel
theorem dX6_part_18 : decode cX6_part 18 = .ok (.aload_n 2, 1) := by decide +kernel
theorem dX6_part_19 : decode cX6_part 19 = .ok (.getfield 48, 3) := by decide +kernel
theorem dX6_part_22 : decode cX6_part 22 = .ok (.invokevirtual 52, 3) := by decide +kernel
theorem dX6_part_25 : decode cX6_part 25 = .ok (.i2d, 1) := by decide +kernel
theorem dX6_part_26 : decode cX6_part 26 = .ok (.iload_n 3, 1) := by decide +kernel
theorem dX6_part_27 : decode cX6_part 27 = .ok (.i2d, 1) := by decide +kernel
theorem dX6_part_28 : decode cX6_part 28 = .ok (.ddiv, 1) := by decide +kernel
theorem dX6_part_29 : decode cX6_part 29 = .ok (.goto 4, 3) := by decide +kernel
theorem dX6_part_32 : decode cX6_part 32 = .ok (.dconst 0, 1) := by decide +kernel
theorem dX6_part_33 : decode cX6_part 33 = .ok (.dreturn, 1) := by decide +kernel
theorem dX6_counterAt_0 : decode cX6_counterAt 0 = .ok (.iload_n 1, 1) := by decide +kernel
theorem dX6_counterAt_1 : decode cX6_counterAt 1 = .ok (.ifCond .lt 12, 3) := by decide +kernel
theorem dX6_counterAt_4 : decode cX6_counterAt 4 = .ok (.iload_n 1, 1) := by decide +kernel
theorem dX6_counterAt_5 : decode cX6_counterAt 5 = .ok (.aload_n 0, 1) := by decide +kernel
theorem dX6_counterAt_6 : decode cX6_counterAt 6 = .ok (.getfield 11, 3) := by decide +kernel
theorem dX6_counterAt_9 : decode cX6_counterAt 9 = .ok (.arraylength, 1) := by decide +kernel
theorem dX6_counterAt_10 : decode cX6_counterAt 10 = .ok (.if_icmp .lt 13, 3) := by decide +kernel
theorem dX6_counterAt_13 : decode cX6_counterAt 13 = .ok (.new 133, 3) := by decide +kernel
theorem dX6_counterAt_16 : decode cX6_counterAt 16 = .ok (.dup, 1) := by decide +kernel
theorem dX6_counterAt_17 : decode cX6_counterAt 17 = .ok (.ldc 135, 2) := by decide +kernel
theorem dX6_counterAt_19 : decode cX6_counterAt 19 = .ok (.invokespecial 137, 3) := by decide +kernel
theorem dX6_counterAt_22 : decode cX6_counterAt 22 = .ok (.athrow, 1) := by decide +kernel
theorem dX6_counterAt_23 : decode cX6_counterAt 23 = .ok (.aload_n 0, 1) := by decide +kernel
theorem dX6_counterAt_24 : decode cX6_counterAt 24 = .ok (.getfield 11, 3) := by decide +kernel
theorem dX6_counterAt_27 : decode cX6_counterAt 27 = .ok (.iload_n 1, 1) := by decide +kernel
theorem dX6_counterAt_28 : decode cX6_counterAt 28 = .ok (.aaload, 1) := by decide +kernel
theorem dX6_counterAt_29 : decode cX6_counterAt 29 = .ok (.areturn, 1) := by decide +kernel
set_option maxRecDepth 20000 in
theorem ggX6_rowWith_X6_counterAt : GoodIn wsX6_rowWith wsX6_counterAt := goodIn_ca (goodIn_r _ [7, 1, 2, 8, 25] (by decide +kernel) (by decide +kernel)) (goodIn_sub (fun _ h => List.mem_cons_of_mem _ (List.mem_append_right _ h)) (by decide +kernel))
set_option maxRecDepth 20000 in
theorem gX6_rowWith_X6_counterAt : GoodIn wsX6_rowWith (wsV RX6 16 RX6 yX6_counterAt wsX6_counterAt) := goodIn_app (goodIn_of _ (by decide +kernel)) ggX6_rowWith_X6_counterAt
set_option maxRecDepth 20000 in
theorem ggX6_rowWith_X3_length : GoodIn wsX6_rowWith wsX3_length := goodIn_r _ [13, 14, 15, 16, 17, 18, 19, 20, 26, 27, 28, 29, 30] (by decide +kernel) (by decide +kernel)
set_option maxRecDepth 20000 in
theorem gX6_rowWith_X3_length : GoodIn wsX6_rowWith (wsV RX6 52 RX3 yX3_length wsX3_length) := goodIn_app (goodIn_of _ (by decide +kernel)) ggX6_rowWith_X3_length
theorem dX6_rowWith_0 : decode cX6_rowWith 0 = .ok (.aload_n 0, 1) := by decide +kernel
theorem dX6_rowWith_1 : decode cX6_rowWith 1 = .ok (.iload_n 1, 1) := by decide +kernel
theorem dX6_rowWith_2 : decode cX6_rowWith 2 = .ok (.invokevirtual 16, 3) := by decide +kernel
theorem dX6_rowWith_5 : decode cX6_rowWith 5 = .ok (.getfield 48, 3) := by decide +kernel
theorem dX6_rowWith_8 : decode cX6_rowWith 8 = .ok (.astore_n 3, 1) := by decide +kernel
theorem dX6_rowWith_9 : decode cX6_rowWith 9 = .ok (.iload_n 2, 1) := by decide +kernel
theorem dX6_rowWith_10 : decode cX6_rowWith 10 = .ok (.ifCond .lt 11, 3) := by decide +kernel
theorem dX6_rowWith_13 : decode cX6_rowWith 13 = .ok (.iload_n 2, 1) := by decide +kernel
theorem dX6_rowWith_14 : decode cX6_rowWith 14 = .ok (.aload_n 3, 1) := by decide +kernel
theorem dX6_rowWith_15 : decode cX6_rowWith 15 = .ok (.invokevirtual 52, 3) := by decide +kernel
theorem dX6_rowWith_18 : decode cX6_rowWith 18 = .ok (.if_icmp .lt 13, 3) := by decide +kernel
theorem dX6_rowWith_21 : decode cX6_rowWith 21 = .ok (.new 133, 3) := by decide +kernel
theorem dX6_rowWith_24 : decode cX6_rowWith 24 = .ok (.dup, 1) := by decide +kernel
theorem dX6_rowWith_25 : decode cX6_rowWith 25 = .ok (.ldc 138, 2) := by decide +kernel
theorem dX6_rowWith_27 : decode cX6_rowWith 27 = .ok (.invokespecial 137, 3) := by decide +kernel
theorem dX6_rowWith_30 : decode cX6_rowWith 30 = .ok (.athrow, 1) := by decide +kernel
theorem dX6_rowWith_31 : decode cX6_rowWith 31 = .ok (.aload_n 3, 1) := by decide +kernel
theorem dX6_rowWith_32 : decode cX6_rowWith 32 = .ok (.areturn, 1) := by decide +kernel
set_option maxRecDepth 20000 in
theorem ggX6_counterForShare_X6_counterAt : GoodIn wsX6_counterForShare wsX6_counterAt := goodIn_ca (goodIn_r _ [5, 6, 7, 8, 28] (by decide +kernel) (by decide +kernel)) (goodIn_sub (fun _ h => List.mem_cons_of_mem _ (List.mem_append_left _ (List.mem_append_left _ (List.mem_append_right _ h)))) (by decide +kernel))
set_option maxRecDepth 20000 in
theorem gX6_counterForShare_X6_counterAt : GoodIn wsX6_counterForShare (wsV RX6 16 RX6 yX6_counterAt wsX6_counterAt) := goodIn_app (goodIn_of _ (by decide +kernel)) ggX6_counterForShare_X6_counterAt
set_option maxRecDepth 20000 in
theorem ggX6_counterForShare_X6_demandInRange : GoodIn wsX6_counterForShare wsX6_demandInRange := goodIn_ca (goodIn_r _ [11, 12, 13] (by decide +kernel) (by decide +kernel)) (goodIn_sub (fun _ h => List.mem_cons_of_mem _ (List.mem_append_left _ (List.mem_append_right _ h))) (by decide +kernel))
set_option maxRecDepth 20000 in
theorem gX6_counterForShare_X6_demandInRange : GoodIn wsX6_counterForShare (va_wsS RX6 20 yX6_demandInRange wsX6_demandInRange) := goodIn_app (goodIn_of _ (by decide +kernel)) ggX6_counterForShare_X6_demandInRange
set_option maxRecDepth 20000 in
theorem ggX6_counterForShare_X0_demandNumbers : GoodIn wsX6_counterForShare wsX0_demandNumbers := goodIn_ca (goodIn_r _ [18, 19, 20, 21, 22, 23, 24, 25, 26, 27, 29, 30, 31, 32, 33, 34, 35] (by decide +kernel) (by decide +kernel)) (goodIn_sub (fun _ h => List.mem_cons_of_mem _ (List.mem_append_right _ h)) (by decide +kernel))
set_option maxRecDepth 20000 in
theorem gX6_counterForShare_X0_demandNumbers : GoodIn wsX6_counterForShare (wsV RX6 118 RX0 yX0_demandNumbers wsX0_demandNumbers) := goodIn_app (goodIn_of _ (by decide +kernel)) ggX6_counterForShare_X0_demandNumbers
theorem dX6_counterForShare_0 : decode cX6_counterForShare 0 = .ok (.aload_n 0, 1) := by decide +kernel
theorem dX6_counterForShare_1 : decode cX6_counterForShare 1 = .ok (.iload_n 1, 1) := by decide +kernel
theorem dX6_counterForShare_2 : decode cX6_counterForShare 2 = .ok (.invokevirtual 16, 3) := by decide +kernel
theorem dX6_counterForShare_5 : decode cX6_counterForShare 5 = .ok (.astore_n 3, 1) := by decide +kernel
theorem dX6_counterForShare_6 : decode cX6_counterForShare 6 = .ok (.iload_n 2, 1) := by decide +kernel
theorem dX6_counterForShare_7 : decode cX6_counterForShare 7 = .ok (.ifCond .lt 14, 3) := by decide +kernel
theorem dX6_counterForShare_10 : decode cX6_counterForShare 10 = .ok (.iload_n 2, 1) := by decide +kernel
theorem dX6_counterForShare_11 : decode cX6_counterForShare 11 = .ok (.sipush 1000, 3) := by decide +kernel
theorem dX6_counterForShare_14 : decode cX6_counterForShare 14 = .ok (.if_icmp .gt 7, 3) := by decide +kernel
theorem dX6_counterForShare_17 : decode cX6_counterForShare 17 = .ok (.iconst 1, 1) := by decide +kernel
theorem dX6_counterForShare_18 : decode cX6_counterForShare 18 = .ok (.goto 4, 3) := by decide +kernel
theorem dX6_counterForShare_21 : decode cX6_counterForShare 21 = .ok (.iconst 0, 1) := by decide +kernel
theorem dX6_counterForShare_22 : decode cX6_counterForShare 22 = .ok (.invokestatic 20, 3) := by decide +kernel
theorem dX6_counterForShare_25 : decode cX6_counterForShare 25 = .ok (.aload_n 3, 1) := by decide +kernel
theorem dX6_counterForShare_26 : decode cX6_counterForShare 26 = .ok (.invokevirtual 118, 3) := by decide +kernel
theorem dX6_counterForShare_29 : decode cX6_counterForShare 29 = .ok (.aload_n 3, 1) := by decide +kernel
theorem dX6_counterForShare_30 : decode cX6_counterForShare 30 = .ok (.areturn, 1) := by decide +kernel
theorem dX6_isNumber_0 : decode cX6_isNumber 0 = .ok (.iload_n 0, 1) := by decide +kernel
theorem dX6_isNumber_1 : decode cX6_isNumber 1 = .ok (.sipush (-9999), 3) := by decide +kernel
theorem dX6_isNumber_4 : decode cX6_isNumber 4 = .ok (.if_icmp .lt 14, 3) := by decide +kernel
theorem dX6_isNumber_7 : decode cX6_isNumber 7 = .ok (.iload_n 0, 1) := by decide +kernel
theorem dX6_isNumber_8 : decode cX6_isNumber 8 = .ok (.sipush 9999, 3) := by decide +kernel
theorem dX6_isNumber_11 : decode cX6_isNumber 11 = .ok (.if_icmp .gt 7, 3) := by decide +kernel
theorem dX6_isNumber_14 : decode cX6_isNumber 14 = .ok (.iconst 1, 1) := by decide +kernel
theorem dX6_isNumber_15 : decode cX6_isNumber 15 = .ok (.goto 4, 3) := by decide +kernel
theorem dX6_isNumber_18 : decode cX6_isNumber 18 = .ok (.iconst 0, 1) := by decide +kernel
theorem dX6_isNumber_19 : decode cX6_isNumber 19 = .ok (.ireturn, 1) := by decide +kernel
theorem dX6_demandInRange_0 : decode cX6_demandInRange 0 = .ok (.iload_n 0, 1) := by decide +kernel
theorem dX6_demandInRange_1 : decode cX6_demandInRange 1 = .ok (.ifCond .ne 13, 3) := by decide +kernel
theorem dX6_demandInRange_4 : decode cX6_demandInRange 4 = .ok (.new 63, 3) := by decide +kernel
theorem dX6_demandInRange_7 : decode cX6_demandInRange 7 = .ok (.dup, 1) := by decide +kernel
theorem dX6_demandInRange_8 : decode cX6_demandInRange 8 = .ok (.ldc 140, 2) := by decide +kernel
theorem dX6_demandInRange_10 : decode cX6_demandInRange 10 = .ok (.invokespecial 67, 3) := by decide +kernel
theorem dX6_demandInRange_13 : decode cX6_demandInRange 13 = .ok (.athrow, 1) := by decide +kernel
theorem dX6_demandInRange_14 : decode cX6_demandInRange 14 = .ok (.return_, 1) := by decide +kernel
theorem dJ9_max_7cf53_0 : decode cJ9_max_7cf53 0 = .ok (.iload_n 0, 1) := by decide +kernel
theorem dJ9_max_7cf53_1 : decode cJ9_max_7cf53 1 = .ok (.iload_n 1, 1) := by decide +kernel
theorem dJ9_max_7cf53_2 : decode cJ9_max_7cf53 2 = .ok (.if_icmp .lt 7, 3) := by decide +kernel
theorem dJ9_max_7cf53_5 : decode cJ9_max_7cf53 5 = .ok (.iload_n 0, 1) := by decide +kernel
theorem dJ9_max_7cf53_6 : decode cJ9_max_7cf53 6 = .ok (.goto 4, 3) := by decide +kernel
theorem dJ9_max_7cf53_9 : decode cJ9_max_7cf53 9 = .ok (.iload_n 1, 1) := by decide +kernel
theorem dJ9_max_7cf53_10 : decode cJ9_max_7cf53 10 = .ok (.ireturn, 1) := by decide +kernel
theorem dL_cell_0 : decode cL_cell 0 = .ok (.iload_n 1, 1) := by decide +kernel
theorem dL_cell_1 : decode cL_cell 1 = .ok (.aload_n 0, 1) := by decide +kernel
theorem dL_cell_2 : decode cL_cell 2 = .ok (.arraylength, 1) := by decide +kernel
theorem dL_cell_3 : decode cL_cell 3 = .ok (.if_icmp .ge 9, 3) := by decide +kernel
theorem dL_cell_6 : decode cL_cell 6 = .ok (.aload_n 0, 1) := by decide +kernel
theorem dL_cell_7 : decode cL_cell 7 = .ok (.iload_n 1, 1) := by decide +kernel
theorem dL_cell_8 : decode cL_cell 8 = .ok (.iaload, 1) := by decide +kernel
theorem dL_cell_9 : decode cL_cell 9 = .ok (.goto 15, 3) := by decide +kernel
theorem dL_cell_12 : decode cL_cell 12 = .ok (.sipush 7919, 3) := by decide +kernel
theorem dL_cell_15 : decode cL_cell 15 = .ok (.iload_n 1, 1) := by decide +kernel
theorem dL_cell_16 : decode cL_cell 16 = .ok (.iconst 3, 1) := by decide +kernel
theorem dL_cell_17 : decode cL_cell 17 = .ok (.iadd, 1) := by decide +kernel
theorem dL_cell_18 : decode cL_cell 18 = .ok (.imul, 1) := by decide +kernel
theorem dL_cell_19 : decode cL_cell 19 = .ok (.iload_n 1, 1) := by decide +kernel
theorem dL_cell_20 : decode cL_cell 20 = .ok (.bipush 11, 2) := by decide +kernel
theorem dL_cell_22 : decode cL_cell 22 = .ok (.iadd, 1) := by decide +kernel
theorem dL_cell_23 : decode cL_cell 23 = .ok (.imul, 1) := by decide +kernel
theorem dL_cell_24 : decode cL_cell 24 = .ok (.ireturn, 1) := by decide +kernel
theorem dL_low_0 : decode cL_low 0 = .ok (.iload_n 0, 1) := by decide +kernel
theorem dL_low_1 : decode cL_low 1 = .ok (.ldc 7, 2) := by decide +kernel
theorem dL_low_3 : decode cL_low 3 = .ok (.iand, 1) := by decide +kernel
theorem dL_low_4 : decode cL_low 4 = .ok (.iload_n 1, 1) := by decide +kernel
theorem dL_low_5 : decode cL_low 5 = .ok (.irem, 1) := by decide +kernel
theorem dL_low_6 : decode cL_low 6 = .ok (.ireturn, 1) := by decide +kernel
set_option maxRecDepth 20000 in
theorem ggL_number_L_low : GoodIn wsL_number wsL_low := goodIn_r _ [4, 5] (by decide +kernel) (by decide +kernel)
set_option maxRecDepth 20000 in
theorem gL_number_L_low : GoodIn wsL_number (va_wsS RL 8 yL_low wsL_low) := goodIn_app (goodIn_of _ (by decide +kernel)) ggL_number_L_low
theorem dL_number_0 : decode cL_number 0 = .ok (.iload_n 0, 1) := by decide +kernel
theorem dL_number_1 : decode cL_number 1 = .ok (.iconst 3, 1) := by decide +kernel
theorem dL_number_2 : decode cL_number 2 = .ok (.iand, 1) := by decide +kernel
theorem dL_number_3 : decode cL_number 3 = .ok (.ifCond .ne 17, 3) := by decide +kernel
theorem dL_number_6 : decode cL_number 6 = .ok (.iload_n 0, 1) := by decide +kernel
theorem dL_number_7 : decode cL_number 7 = .ok (.sipush 19999, 3) := by decide +kernel
theorem dL_number_10 : decode cL_number 10 = .ok (.invokestatic 8, 3) := by decide +kernel
theorem dL_number_13 : decode cL_number 13 = .ok (.sipush 9999, 3) := by decide +kernel
theorem dL_number_16 : decode cL_number 16 = .ok (.isub, 1) := by decide +kernel
theorem dL_number_17 : decode cL_number 17 = .ok (.goto 12, 3) := by decide +kernel
theorem dL_number_20 : decode cL_number 20 = .ok (.iload_n 0, 1) := by decide +kernel
theorem dL_number_21 : decode cL_number 21 = .ok (.bipush 41, 2) := by decide +kernel
theorem dL_number_23 : decode cL_number 23 = .ok (.invokestatic 8, 3) := by decide +kernel
theorem dL_number_26 : decode cL_number 26 = .ok (.bipush 20, 2) := by decide +kernel
theorem dL_number_28 : decode cL_number 28 = .ok (.isub, 1) := by decide +kernel
theorem dL_number_29 : decode cL_number 29 = .ok (.ireturn, 1) := by decide +kernel
set_option maxRecDepth 20000 in
theorem ggL_does_X6_count : GoodIn wsL_does wsX6_count := goodIn_ca (goodIn_r _ [5, 6, 7, 8, 4, 9, 10, 11, 12, 13, 14, 15, 16, 17, 18, 270, 271, 272, 273, 274, 275, 276, 277] (by decide +kernel) (by decide +kernel)) (goodIn_sub (fun _ h => List.mem_cons_of_mem _ (List.mem_append_left _ (List.mem_append_left _ (List.mem_append_right _ h)))) (by decide +kernel))
set_option maxRecDepth 20000 in
theorem gL_does_X6_count : GoodIn wsL_does (wsV RL 14 RX6 yX6_count wsX6_count) := goodIn_app (goodIn_of _ (by decide +kernel)) ggL_does_X6_count
set_option maxRecDepth 20000 in
theorem ggL_does_X6_marks : GoodIn wsL_does wsX6_marks := goodIn_ca (goodIn_r _ [22, 6, 7, 8, 4, 9, 10, 11, 12, 23, 24, 25, 26, 27, 28, 29, 30, 31, 32, 33, 34, 270, 271, 272, 273, 274, 278, 279, 280, 281, 282] (by decide +kernel) (by decide +kernel)) (goodIn_sub (fun _ h => List.mem_cons_of_mem _ (List.mem_append_left _ (List.mem_append_left _ (List.mem_append_right _ h)))) (by decide +kernel))
set_option maxRecDepth 20000 in
theorem gL_does_X6_marks : GoodIn wsL_does (wsV RL 20 RX6 yX6_marks wsX6_marks) := goodIn_app (goodIn_of _ (by decide +kernel)) ggL_does_X6_marks
set_option maxRecDepth 20000 in
theorem ggL_does_L_low : GoodIn wsL_does wsL_low := goodIn_r _ [38, 39] (by decide +kernel) (by decide +kernel)
set_option maxRecDepth 20000 in
theorem gL_does_L_low : GoodIn wsL_does (va_wsS RL 8 yL_low wsL_low) := goodIn_app (goodIn_of _ (by decide +kernel)) ggL_does_L_low
set_option maxRecDepth 20000 in
theorem ggL_does_X6_begin : GoodIn wsL_does wsX6_begin := goodIn_ca (goodIn_ca (goodIn_r _ [43, 6, 7, 8, 4, 9, 10, 11, 12, 44, 45, 46, 47, 48, 13, 14, 15, 16, 17, 18, 49, 50, 51, 52, 53, 54, 55, 56, 57, 58, 59, 60, 26, 61, 62, 63, 64, 65, 28, 66, 67, 68, 69, 70, 32, 71, 34, 72, 73, 74, 75, 76, 77, 78, 79, 80, 81, 82, 83, 84, 85, 86, 87, 88, 89, 90, 91, 92, 270, 271, 272, 273, 274, 275, 276, 277, 278, 279, 280, 281, 282, 283, 284, 285] (by decide +kernel) (by decide +kernel)) (goodIn_sub (fun _ h => List.mem_cons_of_mem _ (List.mem_append_left _ (List.mem_append_left _ (List.mem_append_right _ h)))) (by decide +kernel))) (goodIn_sub (fun _ h => List.mem_cons_of_mem _ (List.mem_append_left _ (List.mem_append_right _ h))) (by decide +kernel))
set_option maxRecDepth 20000 in
theorem gL_does_X6_begin : GoodIn wsL_does (wsV RL 23 RX6 yX6_begin wsX6_begin) := goodIn_app (goodIn_of _ (by decide +kernel)) ggL_does_X6_begin
set_option maxRecDepth 20000 in
theorem ggL_does_X6_bound : GoodIn wsL_does wsX6_bound := goodIn_ca (goodIn_r _ [96, 6, 7, 8, 4, 9, 10, 11, 12, 270, 271, 272, 273, 274] (by decide +kernel) (by decide +kernel)) (goodIn_sub (fun _ h => List.mem_cons_of_mem _ (List.mem_append_left _ (List.mem_append_left _ (List.mem_append_right _ h)))) (by decide +kernel))
set_option maxRecDepth 20000 in
theorem gL_does_X6_bound : GoodIn wsL_does (wsV RL 26 RX6 yX6_bound wsX6_bound) := goodIn_app (goodIn_of _ (by decide +kernel)) ggL_does_X6_bound
set_option maxRecDepth 20000 in
theorem ggL_does_L_number : GoodIn wsL_does wsL_number := goodIn_r _ [99, 35, 36, 37, 38, 39] (by decide +kernel) (by decide +kernel)
set_option maxRecDepth 20000 in
theorem gL_does_L_number : GoodIn wsL_does (va_wsS RL 29 yL_number wsL_number) := goodIn_app (goodIn_of _ (by decide +kernel)) ggL_does_L_number
set_option maxRecDepth 20000 in
theorem ggL_does_X6_showRow : GoodIn wsL_does wsX6_showRow := goodIn_ca (goodIn_ca (goodIn_ca (goodIn_r _ [103, 6, 7, 8, 4, 9, 10, 11, 12, 104, 105, 106, 44, 45, 46, 47, 48, 107, 108, 109, 52, 110, 111, 112, 56, 113, 14, 15, 16, 17, 18, 114, 115, 116, 117, 55, 57, 118, 119, 120, 26, 121, 28, 66, 67, 122, 123, 124, 125, 126, 127, 128, 32, 129, 34, 130, 131, 132, 133, 134, 135, 136, 137, 138, 139, 24, 25, 27, 29, 30, 31, 33, 140, 141, 142, 143, 144, 145, 146, 147, 148, 149, 150, 151, 152, 153, 154, 155, 156, 76, 77, 157, 158, 159, 160, 161, 162, 163, 164, 165, 166, 82, 167, 84, 85, 168, 169, 170, 89, 171, 91, 172, 173, 174, 175, 176, 177, 178, 179, 180, 181, 182, 183, 184, 185, 186, 187, 188, 189, 190, 191, 192, 92, 69, 70, 71, 23, 270, 271, 272, 273, 274, 275, 276, 277, 278, 279, 280, 281, 282, 283, 284, 285] (by decide +kernel) (by decide +kernel)) (goodIn_sub (fun _ h => List.mem_cons_of_mem _ (List.mem_append_left _ (List.mem_append_left _ (List.mem_append_right _ h)))) (by decide +kernel))) (goodIn_sub (fun _ h => List.mem_cons_of_mem _ (List.mem_append_left _ (List.mem_append_right _ h))) (by decide +kernel))) (goodIn_sub (fun _ h => List.mem_cons_of_mem _ (List.mem_append_right _ h)) (by decide +kernel))
set_option maxRecDepth 20000 in
theorem gL_does_X6_showRow : GoodIn wsL_does (wsV RL 32 RX6 yX6_showRow wsX6_showRow) := goodIn_app (goodIn_of _ (by decide +kernel)) ggL_does_X6_showRow
set_option maxRecDepth 20000 in
theorem ggL_does_X6_thinOut : GoodIn wsL_does wsX6_thinOut := goodIn_ca (goodIn_r _ [196, 6, 7, 8, 4, 9, 10, 11, 12, 23, 24, 25, 26, 27, 28, 29, 30, 31, 32, 33, 34, 197, 198, 199, 52, 200, 54, 56, 113, 14, 15, 16, 17, 18, 201, 202, 203, 204, 66, 139, 144, 131, 132, 133, 134, 135, 136, 137, 138, 140, 141, 142, 143, 67, 205, 160, 161, 162, 206, 207, 208, 209, 210, 211, 212, 213, 62, 63, 64, 65, 68, 69, 70, 71, 270, 271, 272, 273, 274, 278, 279, 280, 281, 282, 275, 276, 277] (by decide +kernel) (by decide +kernel)) (goodIn_sub (fun _ h => List.mem_cons_of_mem _ (List.mem_append_left _ (List.mem_append_left _ (List.mem_append_right _ h)))) (by decide +kernel))
set_option maxRecDepth 20000 in
theorem gL_does_X6_thinOut : GoodIn wsL_does (wsV RL 36 RX6 yX6_thinOut wsX6_thinOut) := goodIn_app (goodIn_of _ (by decide +kernel)) ggL_does_X6_thinOut
set_option maxRecDepth 20000 in
theorem ggL_does_L_isPoured : GoodIn wsL_does wsL_isPoured := goodIn_ca (goodIn_ca (goodIn_ca (goodIn_r _ [216, 1, 2, 3, 4, 5, 6, 7, 8, 9, 10, 11, 12, 13, 14, 15, 16, 17, 18, 19, 20, 21, 22, 23, 24, 25, 26, 27, 28, 29, 30, 31, 32, 33, 34, 93, 94, 95, 96, 217, 218, 219, 220, 221, 222, 223, 224, 77, 76, 157, 127, 128, 129, 130, 131, 132, 133, 134, 135, 136, 137, 138, 225, 226, 227, 228, 229, 230, 231, 232, 47, 48, 107, 108, 109, 52, 110, 111, 112, 56, 113, 233, 234, 235, 236, 54, 237, 238, 239, 240, 55, 57, 241, 242, 243, 244, 67, 66, 139, 144, 245, 246, 247, 248, 249, 250, 251, 252, 210, 211, 212, 213, 205, 160, 161, 162, 140, 141, 142, 143, 253, 254, 255, 256, 257, 258, 259, 260, 261, 158, 262, 263, 264, 265, 153, 154, 155, 156, 159, 163, 146, 147, 148, 149, 150, 151, 152, 164, 165, 166, 82, 167, 84, 85, 168, 169, 170, 89, 171, 91, 172, 173, 174, 175, 176, 177, 178, 179, 180, 181, 182, 183, 184, 185, 186, 187, 188, 189, 190, 191, 192, 92, 69, 70, 71, 270, 271, 272, 273, 274, 275, 276, 277, 278, 279, 280, 281, 282, 283, 284, 285] (by decide +kernel) (by decide +kernel)) (goodIn_sub (fun _ h => List.mem_cons_of_mem _ (List.mem_append_left _ (List.mem_append_left _ (List.mem_append_right _ h)))) (by decide +kernel))) (goodIn_sub (fun _ h => List.mem_cons_of_mem _ (List.mem_append_left _ (List.mem_append_right _ h))) (by decide +kernel))) (goodIn_sub (fun _ h => List.mem_cons_of_mem _ (List.mem_append_right _ h)) (by decide +kernel))
set_option maxRecDepth 20000 in
theorem gL_does_L_isPoured : GoodIn wsL_does (va_wsS RL 39 yL_isPoured wsL_isPoured) := goodIn_app (goodIn_of _ (by decide +kernel)) ggL_does_L_isPoured
set_option maxRecDepth 20000 in
theorem ggL_does_X6_show : GoodIn wsL_does wsX6_show := goodIn_ca (goodIn_ca (goodIn_ca (goodIn_r _ [269, 6, 7, 8, 4, 9, 10, 11, 12, 104, 105, 106, 44, 45, 46, 47, 48, 107, 108, 109, 52, 110, 111, 112, 56, 113, 14, 15, 16, 17, 18, 114, 115, 116, 117, 55, 57, 118, 119, 120, 26, 121, 28, 66, 67, 122, 123, 124, 125, 126, 127, 128, 32, 129, 34, 130, 131, 132, 133, 134, 135, 136, 137, 138, 139, 24, 25, 27, 29, 30, 31, 33, 140, 141, 142, 143, 144, 145, 146, 147, 148, 149, 150, 151, 152, 153, 154, 155, 156, 76, 77, 157, 158, 159, 160, 161, 162, 163, 164, 165, 166, 82, 167, 84, 85, 168, 169, 170, 89, 171, 91, 172, 173, 174, 175, 176, 177, 178, 179, 180, 181, 182, 183, 184, 185, 186, 187, 188, 189, 190, 191, 192, 92, 69, 70, 71, 23, 270, 271, 272, 273, 274, 275, 276, 277, 278, 279, 280, 281, 282, 283, 284, 285] (by decide +kernel) (by decide +kernel)) (goodIn_sub (fun _ h => List.mem_cons_of_mem _ (List.mem_append_left _ (List.mem_append_left _ (List.mem_append_right _ h)))) (by decide +kernel))) (goodIn_sub (fun _ h => List.mem_cons_of_mem _ (List.mem_append_left _ (List.mem_append_right _ h))) (by decide +kernel))) (goodIn_sub (fun _ h => List.mem_cons_of_mem _ (List.mem_append_right _ h)) (by decide +kernel))
set_option maxRecDepth 20000 in
theorem gL_does_X6_show : GoodIn wsL_does (wsV RL 43 RX6 yX6_show wsX6_show) := goodIn_app (goodIn_of _ (by decide +kernel)) ggL_does_X6_show
set_option maxRecDepth 20000 in
theorem ggL_does_X6_reallyUpTo : GoodIn wsL_does wsX6_reallyUpTo := goodIn_ca (goodIn_r _ [220, 6, 7, 8, 4, 9, 10, 11, 12, 221, 222, 223, 16, 224, 77, 76, 157, 127, 128, 32, 129, 34, 130, 131, 132, 133, 134, 135, 136, 137, 138, 225, 226, 227, 228, 270, 271, 272, 273, 274, 275, 276, 277, 281, 282] (by decide +kernel) (by decide +kernel)) (goodIn_sub (fun _ h => List.mem_cons_of_mem _ (List.mem_append_left _ (List.mem_append_left _ (List.mem_append_right _ h)))) (by decide +kernel))
set_option maxRecDepth 20000 in
theorem gL_does_X6_reallyUpTo : GoodIn wsL_does (wsV RL 46 RX6 yX6_reallyUpTo wsX6_reallyUpTo) := goodIn_app (goodIn_of _ (by decide +kernel)) ggL_does_X6_reallyUpTo
theorem dL_does_0 : decode cL_does 0 = .ok (.aload_n 0, 1) := by decide +kernel
theorem dL_does_1 : decode cL_does 1 = .ok (.iload_n 1, 1) := by decide +kernel
theorem dL_does_2 : decode cL_does 2 = .ok (.invokevirtual 14, 3) := by decide +kernel
theorem dL_does_5 : decode cL_does 5 = .ok (.istore 4, 2) := by decide +kernel
theorem dL_does_7 : decode cL_does 7 = .ok (.aload_n 0, 1) := by decide +kernel
theorem dL_does_8 : decode cL_does 8 = .ok (.iload_n 1, 1) := by decide +kernel
theorem dL_does_9 : decode cL_does 9 = .ok (.invokevirtual 20, 3) := by decide +kernel
theorem dL_does_12 : decode cL_does 12 = .ok (.istore 5, 2) := by decide +kernel
theorem dL_does_14 : decode cL_does 14 = .ok (.iload_n 2, 1) := by decide +kernel
theorem dL_does_15 : decode cL_does 15 = .ok (.bipush 15, 2) := by decide +kernel
theorem dL_does_17 : decode cL_does 17 = .ok (.iand, 1) := by decide +kernel
theorem dL_does_18 : decode cL_does 18 = .ok (.tableswitch 288 0 8 #[50, 114, 114, 114, 114, 201, 201, 201, 277], 50) := by decide +kernel
theorem dL_does_68 : decode cL_does 68 = .ok (.iconst 5, 1) := by decide +kernel
theorem dL_does_69 : decode cL_does 69 = .ok (.iload_n 3, 1) := by decide +kernel
theorem dL_does_70 : decode cL_does 70 = .ok (.iconst 3, 1) := by decide +kernel
theorem dL_does_71 : decode cL_does 71 = .ok (.ishr, 1) := by decide +kernel
theorem dL_does_72 : decode cL_does 72 = .ok (.sipush 196, 3) := by decide +kernel
theorem dL_does_75 : decode cL_does 75 = .ok (.invokestatic 8, 3) := by decide +kernel
theorem dL_does_78 : decode cL_does 78 = .ok (.iadd, 1) := by decide +kernel
theorem dL_does_79 : decode cL_does 79 = .ok (.istore 6, 2) := by decide +kernel
theorem dL_does_81 : decode cL_does 81 = .ok (.iload_n 3, 1) := by decide +kernel
theorem dL_does_82 : decode cL_does 82 = .ok (.bipush 7, 2) := by decide +kernel
theorem dL_does_84 : decode cL_does 84 = .ok (.iand, 1) := by decide +kernel
theorem dL_does_85 : decode cL_does 85 = .ok (.ifCond .gt 41, 3) := by decide +kernel
theorem dL_does_88 : decode cL_does 88 = .ok (.aload_n 0, 1) := by decide +kernel
theorem dL_does_89 : decode cL_does 89 = .ok (.iload_n 1, 1) := by decide +kernel
theorem dL_does_90 : decode cL_does 90 = .ok (.iload 6, 2) := by decide +kernel
theorem dL_does_92 : decode cL_does 92 = .ok (.invokevirtual 23, 3) := by decide +kernel
theorem dL_does_95 : decode cL_does 95 = .ok (.iload 4, 2) := by decide +kernel
theorem dL_does_97 : decode cL_does 97 = .ok (.if_icmp .ne 33, 3) := by decide +kernel
theorem dL_does_100 : decode cL_does 100 = .ok (.aload_n 0, 1) := by decide +kernel
theorem dL_does_101 : decode cL_does 101 = .ok (.iload_n 1, 1) := by decide +kernel
theorem dL_does_102 : decode cL_does 102 = .ok (.invokevirtual 14, 3) := by decide +kernel
theorem dL_does_105 : decode cL_does 105 = .ok (.ifCond .ne 25, 3) := by decide +kernel
theorem dL_does_108 : decode cL_does 108 = .ok (.aload_n 0, 1) := by decide +kernel
theorem dL_does_109 : decode cL_does 109 = .ok (.iload_n 1, 1) := by decide +kernel
theorem dL_does_110 : decode cL_does 110 = .ok (.invokevirtual 20, 3) := by decide +kernel
theorem dL_does_113 : decode cL_does 113 = .ok (.ifCond .ne 17, 3) := by decide +kernel
theorem dL_does_116 : decode cL_does 116 = .ok (.aload_n 0, 1) := by decide +kernel
theorem dL_does_117 : decode cL_does 117 = .ok (.iload_n 1, 1) := by decide +kernel
theorem dL_does_118 : decode cL_does 118 = .ok (.invokevirtual 26, 3) := by decide +kernel
theorem dL_does_121 : decode cL_does 121 = .ok (.iload 6, 2) := by decide +kernel
theorem dL_does_123 : decode cL_does 123 = .ok (.if_icmp .ne 7, 3) := by decide +kernel
theorem dL_does_126 : decode cL_does 126 = .ok (.iconst 1, 1) := by decide +kernel
theorem dL_does_127 : decode cL_does 127 = .ok (.goto 4, 3) := by decide +kernel
theorem dL_does_130 : decode cL_does 130 = .ok (.iconst 0, 1) := by decide +kernel
theorem dL_does_131 : decode cL_does 131 = .ok (.ireturn, 1) := by decide +kernel
theorem dL_does_132 : decode cL_does 132 = .ok (.iconst 1, 1) := by decide +kernel
theorem dL_does_133 : decode cL_does 133 = .ok (.iload_n 3, 1) := by decide +kernel
theorem dL_does_134 : decode cL_does 134 = .ok (.iconst 4, 1) := by decide +kernel
theorem dL_does_135 : decode cL_does 135 = .ok (.ishr, 1) := by decide +kernel
theorem dL_does_136 : decode cL_does 136 = .ok (.bipush 40, 2) := by decide +kernel
theorem dL_does_138 : decode cL_does 138 = .ok (.invokestatic 8, 3) := by decide +kernel
theorem dL_does_141 : decode cL_does 141 = .ok (.iadd, 1) := by decide +kernel
theorem dL_does_142 : decode cL_does 142 = .ok (.istore 7, 2) := by decide +kernel
theorem dL_does_144 : decode cL_does 144 = .ok (.iload_n 3, 1) := by decide +kernel
theorem dL_does_145 : decode cL_does 145 = .ok (.iconst 4, 1) := by decide +kernel
theorem dL_does_146 : decode cL_does 146 = .ok (.iand, 1) := by decide +kernel
theorem dL_does_147 : decode cL_does 147 = .ok (.ifCond .ne 13, 3) := by decide +kernel
theorem dL_does_150 : decode cL_does 150 = .ok (.iload_n 3, 1) := by decide +kernel
theorem dL_does_151 : decode cL_does 151 = .ok (.sipush 10000, 3) := by decide +kernel
theorem dL_does_154 : decode cL_does 154 = .ok (.invokestatic 8, 3) := by decide +kernel
theorem dL_does_157 : decode cL_does 157 = .ok (.goto 9, 3) := by decide +kernel
theorem dL_does_160 : decode cL_does 160 = .ok (.iload_n 3, 1) := by decide +kernel
theorem dL_does_161 : decode cL_does 161 = .ok (.bipush 8, 2) := by decide +kernel
theorem dL_does_163 : decode cL_does 163 = .ok (.invokestatic 8, 3) := by decide +kernel
theorem dL_does_166 : decode cL_does 166 = .ok (.istore 8, 2) := by decide +kernel
theorem dL_does_168 : decode cL_does 168 = .ok (.iload 4, 2) := by decide +kernel
theorem dL_does_170 : decode cL_does 170 = .ok (.iload 7, 2) := by decide +kernel
theorem dL_does_172 : decode cL_does 172 = .ok (.iadd, 1) := by decide +kernel
theorem dL_does_173 : decode cL_does 173 = .ok (.sipush 600, 3) := by decide +kernel
theorem dL_does_176 : decode cL_does 176 = .ok (.if_icmp .gt 37, 3) := by decide +kernel
theorem dL_does_179 : decode cL_does 179 = .ok (.aload_n 0, 1) := by decide +kernel
theorem dL_does_180 : decode cL_does 180 = .ok (.iload_n 1, 1) := by decide +kernel
theorem dL_does_181 : decode cL_does 181 = .ok (.iload_n 3, 1) := by decide +kernel
theorem dL_does_182 : decode cL_does 182 = .ok (.invokestatic 29, 3) := by decide +kernel
theorem dL_does_185 : decode cL_does 185 = .ok (.iload 8, 2) := by decide +kernel
theorem dL_does_187 : decode cL_does 187 = .ok (.iload 7, 2) := by decide +kernel
theorem dL_does_189 : decode cL_does 189 = .ok (.invokevirtual 32, 3) := by decide +kernel
theorem dL_does_192 : decode cL_does 192 = .ok (.iload 5, 2) := by decide +kernel
theorem dL_does_194 : decode cL_does 194 = .ok (.iload 7, 2) := by decide +kernel
theorem dL_does_196 : decode cL_does 196 = .ok (.iadd, 1) := by decide +kernel
theorem dL_does_197 : decode cL_does 197 = .ok (.if_icmp .ne 20, 3) := by decide +kernel
theorem dL_does_200 : decode cL_does 200 = .ok (.aload_n 0, 1) := by decide +kernel
theorem dL_does_201 : decode cL_does 201 = .ok (.iload_n 1, 1) := by decide +kernel
theorem dL_does_202 : decode cL_does 202 = .ok (.invokevirtual 14, 3) := by decide +kernel
theorem dL_does_205 : decode cL_does 205 = .ok (.iload 4, 2) := by decide +kernel
theorem dL_does_207 : decode cL_does 207 = .ok (.iload 7, 2) := by decide +kernel
theorem dL_does_209 : decode cL_does 209 = .ok (.iadd, 1) := by decide +kernel
theorem dL_does_210 : decode cL_does 210 = .ok (.if_icmp .ne 7, 3) := by decide +kernel
theorem dL_does_213 : decode cL_does 213 = .ok (.iconst 1, 1) := by decide +kernel
theorem dL_does_214 : decode cL_does 214 = .ok (.goto 4, 3) := by decide +kernel
theorem dL_does_217 : decode cL_does 217 = .ok (.iconst 0, 1) := by decide +kernel
theorem dL_does_218 : decode cL_does 218 = .ok (.ireturn, 1) := by decide +kernel
theorem dL_does_219 : decode cL_does 219 = .ok (.aload_n 0, 1) := by decide +kernel
theorem dL_does_220 : decode cL_does 220 = .ok (.iload_n 1, 1) := by decide +kernel
theorem dL_does_221 : decode cL_does 221 = .ok (.invokevirtual 36, 3) := by decide +kernel
theorem dL_does_224 : decode cL_does 224 = .ok (.istore 9, 2) := by decide +kernel
theorem dL_does_226 : decode cL_does 226 = .ok (.aload_n 0, 1) := by decide +kernel
theorem dL_does_227 : decode cL_does 227 = .ok (.iload_n 1, 1) := by decide +kernel
theorem dL_does_228 : decode cL_does 228 = .ok (.invokevirtual 36, 3) := by decide +kernel
theorem dL_does_231 : decode cL_does 231 = .ok (.istore 10, 2) := by decide +kernel
theorem dL_does_233 : decode cL_does 233 = .ok (.aload_n 0, 1) := by decide +kernel
theorem dL_does_234 : decode cL_does 234 = .ok (.iload_n 1, 1) := by decide +kernel
theorem dL_does_235 : decode cL_does 235 = .ok (.invokevirtual 20, 3) := by decide +kernel
theorem dL_does_238 : decode cL_does 238 = .ok (.iload 5, 2) := by decide +kernel
theorem dL_does_240 : decode cL_does 240 = .ok (.iload 9, 2) := by decide +kernel
theorem dL_does_242 : decode cL_does 242 = .ok (.isub, 1) := by decide +kernel
theorem dL_does_243 : decode cL_does 243 = .ok (.iload 10, 2) := by decide +kernel
theorem dL_does_245 : decode cL_does 245 = .ok (.isub, 1) := by decide +kernel
theorem dL_does_246 : decode cL_does 246 = .ok (.if_icmp .ne 47, 3) := by decide +kernel
theorem dL_does_249 : decode cL_does 249 = .ok (.iload 10, 2) := by decide +kernel
theorem dL_does_251 : decode cL_does 251 = .ok (.iload 9, 2) := by decide +kernel
theorem dL_does_253 : decode cL_does 253 = .ok (.if_icmp .gt 40, 3) := by decide +kernel
theorem dL_does_256 : decode cL_does 256 = .ok (.iload 5, 2) := by decide +kernel
theorem dL_does_258 : decode cL_does 258 = .ok (.iconst 3, 1) := by decide +kernel
theorem dL_does_259 : decode cL_does 259 = .ok (.if_icmp .ge 11, 3) := by decide +kernel
theorem dL_does_262 : decode cL_does 262 = .ok (.iload 9, 2) := by decide +kernel
theorem dL_does_264 : decode cL_does 264 = .ok (.ifCond .ne 29, 3) := by decide +kernel
theorem dL_does_267 : decode cL_does 267 = .ok (.goto 12, 3) := by decide +kernel
theorem dL_does_270 : decode cL_does 270 = .ok (.aload_n 0, 1) := by decide +kernel
theorem dL_does_271 : decode cL_does 271 = .ok (.iload_n 1, 1) := by decide +kernel
theorem dL_does_272 : decode cL_does 272 = .ok (.invokevirtual 20, 3) := by decide +kernel
theorem dL_does_275 : decode cL_does 275 = .ok (.iconst 2, 1) := by decide +kernel
theorem dL_does_276 : decode cL_does 276 = .ok (.if_icmp .lt 17, 3) := by decide +kernel
theorem dL_does_279 : decode cL_does 279 = .ok (.aload_n 0, 1) := by decide +kernel
theorem dL_does_280 : decode cL_does 280 = .ok (.iload_n 1, 1) := by decide +kernel
theorem dL_does_281 : decode cL_does 281 = .ok (.invokevirtual 14, 3) := by decide +kernel
theorem dL_does_284 : decode cL_does 284 = .ok (.iload 4, 2) := by decide +kernel
theorem dL_does_286 : decode cL_does 286 = .ok (.if_icmp .ne 7, 3) := by decide +kernel
theorem dL_does_289 : decode cL_does 289 = .ok (.iconst 1, 1) := by decide +kernel
theorem dL_does_290 : decode cL_does 290 = .ok (.goto 4, 3) := by decide +kernel
theorem dL_does_293 : decode cL_does 293 = .ok (.iconst 0, 1) := by decide +kernel
theorem dL_does_294 : decode cL_does 294 = .ok (.ireturn, 1) := by decide +kernel
theorem dL_does_295 : decode cL_does 295 = .ok (.aload_n 0, 1) := by decide +kernel
theorem dL_does_296 : decode cL_does 296 = .ok (.iload_n 3, 1) := by decide +kernel
theorem dL_does_297 : decode cL_does 297 = .ok (.iconst 4, 1) := by decide +kernel
theorem dL_does_298 : decode cL_does 298 = .ok (.invokestatic 8, 3) := by decide +kernel
theorem dL_does_301 : decode cL_does 301 = .ok (.iload_n 1, 1) := by decide +kernel
theorem dL_does_302 : decode cL_does 302 = .ok (.invokestatic 39, 3) := by decide +kernel
theorem dL_does_305 : decode cL_does 305 = .ok (.ireturn, 1) := by decide +kernel
theorem dL_does_306 : decode cL_does 306 = .ok (.iload 4, 2) := by decide +kernel
theorem dL_does_308 : decode cL_does 308 = .ok (.sipush 600, 3) := by decide +kernel
theorem dL_does_311 : decode cL_does 311 = .ok (.if_icmp .eq 43, 3) := by decide +kernel
theorem dL_does_314 : decode cL_does 314 = .ok (.aload_n 0, 1) := by decide +kernel
theorem dL_does_315 : decode cL_does 315 = .ok (.iload_n 1, 1) := by decide +kernel
theorem dL_does_316 : decode cL_does 316 = .ok (.iload_n 3, 1) := by decide +kernel
theorem dL_does_317 : decode cL_does 317 = .ok (.invokestatic 29, 3) := by decide +kernel
theorem dL_does_320 : decode cL_does 320 = .ok (.invokevirtual 43, 3) := by decide +kernel
theorem dL_does_323 : decode cL_does 323 = .ok (.iload 5, 2) := by decide +kernel
theorem dL_does_325 : decode cL_does 325 = .ok (.iconst 1, 1) := by decide +kernel
theorem dL_does_326 : decode cL_does 326 = .ok (.iadd, 1) := by decide +kernel
theorem dL_does_327 : decode cL_does 327 = .ok (.if_icmp .ne 31, 3) := by decide +kernel
theorem dL_does_330 : decode cL_does 330 = .ok (.aload_n 0, 1) := by decide +kernel
theorem dL_does_331 : decode cL_does 331 = .ok (.iload_n 1, 1) := by decide +kernel
theorem dL_does_332 : decode cL_does 332 = .ok (.invokevirtual 14, 3) := by decide +kernel
theorem dL_does_335 : decode cL_does 335 = .ok (.iload 4, 2) := by decide +kernel
theorem dL_does_337 : decode cL_does 337 = .ok (.iconst 1, 1) := by decide +kernel
theorem dL_does_338 : decode cL_does 338 = .ok (.iadd, 1) := by decide +kernel
theorem dL_does_339 : decode cL_does 339 = .ok (.if_icmp .ne 19, 3) := by decide +kernel
theorem dL_does_342 : decode cL_does 342 = .ok (.aload_n 0, 1) := by decide +kernel
theorem dL_does_343 : decode cL_does 343 = .ok (.iload_n 1, 1) := by decide +kernel
theorem dL_does_344 : decode cL_does 344 = .ok (.iload_n 3, 1) := by decide +kernel
theorem dL_does_345 : decode cL_does 345 = .ok (.invokestatic 29, 3) := by decide +kernel
theorem dL_does_348 : decode cL_does 348 = .ok (.invokevirtual 46, 3) := by decide +kernel
theorem dL_does_351 : decode cL_does 351 = .ok (.ifCond .le 7, 3) := by decide +kernel
theorem dL_does_354 : decode cL_does 354 = .ok (.iconst 1, 1) := by decide +kernel
theorem dL_does_355 : decode cL_does 355 = .ok (.goto 4, 3) := by decide +kernel
theorem dL_does_358 : decode cL_does 358 = .ok (.iconst 0, 1) := by decide +kernel
theorem dL_does_359 : decode cL_does 359 = .ok (.ireturn, 1) := by decide +kernel
set_option maxRecDepth 20000 in
theorem ggL_isPoured_X6_count : GoodIn wsL_isPoured wsX6_count := goodIn_ca (goodIn_r _ [5, 6, 7, 8, 4, 9, 10, 11, 12, 13, 14, 15, 16, 17, 18, 185, 186, 187, 188, 189, 190, 191, 192] (by decide +kernel) (by decide +kernel)) (goodIn_sub (fun _ h => List.mem_cons_of_mem _ (List.mem_append_left _ (List.mem_append_left _ (List.mem_append_right _ h)))) (by decide +kernel))
set_option maxRecDepth 20000 in
theorem gL_isPoured_X6_count : GoodIn wsL_isPoured (wsV RL 14 RX6 yX6_count wsX6_count) := goodIn_app (goodIn_of _ (by decide +kernel)) ggL_isPoured_X6_count
set_option maxRecDepth 20000 in
theorem ggL_isPoured_X6_marks : GoodIn wsL_isPoured wsX6_marks := goodIn_ca (goodIn_r _ [22, 6, 7, 8, 4, 9, 10, 11, 12, 23, 24, 25, 26, 27, 28, 29, 30, 31, 32, 33, 34, 185, 186, 187, 188, 189, 193, 194, 195, 196, 197] (by decide +kernel) (by decide +kernel)) (goodIn_sub (fun _ h => List.mem_cons_of_mem _ (List.mem_append_left _ (List.mem_append_left _ (List.mem_append_right _ h)))) (by decide +kernel))
set_option maxRecDepth 20000 in
theorem gL_isPoured_X6_marks : GoodIn wsL_isPoured (wsV RL 20 RX6 yX6_marks wsX6_marks) := goodIn_app (goodIn_of _ (by decide +kernel)) ggL_isPoured_X6_marks
set_option maxRecDepth 20000 in
theorem ggL_isPoured_X6_bound : GoodIn wsL_isPoured wsX6_bound := goodIn_ca (goodIn_r _ [38, 6, 7, 8, 4, 9, 10, 11, 12, 185, 186, 187, 188, 189] (by decide +kernel) (by decide +kernel)) (goodIn_sub (fun _ h => List.mem_cons_of_mem _ (List.mem_append_left _ (List.mem_append_left _ (List.mem_append_right _ h)))) (by decide +kernel))
set_option maxRecDepth 20000 in
theorem gL_isPoured_X6_bound : GoodIn wsL_isPoured (wsV RL 26 RX6 yX6_bound wsX6_bound) := goodIn_app (goodIn_of _ (by decide +kernel)) ggL_isPoured_X6_bound
set_option maxRecDepth 20000 in
theorem ggL_isPoured_X6_reallyUpTo : GoodIn wsL_isPoured wsX6_reallyUpTo := goodIn_ca (goodIn_r _ [42, 6, 7, 8, 4, 9, 10, 11, 12, 43, 44, 45, 16, 46, 47, 48, 49, 50, 51, 32, 52, 34, 53, 54, 55, 56, 57, 58, 59, 60, 61, 62, 63, 64, 65, 185, 186, 187, 188, 189, 190, 191, 192, 196, 197] (by decide +kernel) (by decide +kernel)) (goodIn_sub (fun _ h => List.mem_cons_of_mem _ (List.mem_append_left _ (List.mem_append_left _ (List.mem_append_right _ h)))) (by decide +kernel))
set_option maxRecDepth 20000 in
theorem gL_isPoured_X6_reallyUpTo : GoodIn wsL_isPoured (wsV RL 46 RX6 yX6_reallyUpTo wsX6_reallyUpTo) := goodIn_app (goodIn_of _ (by decide +kernel)) ggL_isPoured_X6_reallyUpTo
set_option maxRecDepth 20000 in
theorem ggL_isPoured_X6_pour : GoodIn wsL_isPoured wsX6_pour := goodIn_ca (goodIn_ca (goodIn_ca (goodIn_r _ [69, 70, 71, 6, 7, 8, 4, 9, 10, 11, 12, 13, 14, 15, 16, 17, 18, 72, 73, 74, 75, 76, 77, 78, 79, 80, 81, 82, 83, 84, 85, 86, 87, 88, 89, 90, 91, 92, 93, 94, 26, 95, 96, 28, 97, 98, 24, 25, 27, 29, 30, 31, 32, 33, 34, 99, 54, 55, 56, 57, 58, 59, 60, 61, 100, 101, 102, 103, 104, 105, 106, 107, 108, 109, 110, 111, 112, 113, 114, 115, 116, 117, 118, 119, 120, 121, 122, 123, 48, 124, 125, 126, 127, 128, 129, 130, 131, 132, 133, 47, 134, 135, 136, 137, 49, 50, 51, 52, 53, 138, 139, 140, 141, 142, 143, 144, 145, 146, 147, 148, 149, 150, 151, 152, 153, 154, 155, 156, 157, 158, 159, 160, 161, 162, 163, 164, 165, 166, 167, 168, 169, 170, 171, 172, 173, 174, 175, 176, 177, 178, 179, 180, 181, 182, 183, 184, 185, 186, 187, 188, 189, 190, 191, 192, 193, 194, 195, 196, 197, 198, 199, 200] (by decide +kernel) (by decide +kernel)) (goodIn_sub (fun _ h => List.mem_cons_of_mem _ (List.mem_append_left _ (List.mem_append_right _ h))) (by decide +kernel))) (goodIn_sub (fun _ h => List.mem_cons_of_mem _ (List.mem_append_left _ (List.mem_append_left _ (List.mem_append_right _ h)))) (by decide +kernel))) (goodIn_sub (fun _ h => List.mem_cons_of_mem _ (List.mem_append_right _ h)) (by decide +kernel))
set_option maxRecDepth 20000 in
theorem gL_isPoured_X6_pour : GoodIn wsL_isPoured (wsV RL 49 RX6 yX6_pour wsX6_pour) := goodIn_app (goodIn_of _ (by decide +kernel)) ggL_isPoured_X6_pour
theorem dL_isPoured_0 : decode cL_isPoured 0 = .ok (.iload_n 1, 1) := by decide +kernel
theorem dL_isPoured_1 : decode cL_isPoured 1 = .ok (.iload_n 2, 1) := by decide +kernel
theorem dL_isPoured_2 : decode cL_isPoured 2 = .ok (.if_icmp .eq 20, 3) := by decide +kernel
theorem dL_isPoured_5 : decode cL_isPoured 5 = .ok (.aload_n 0, 1) := by decide +kernel
theorem dL_isPoured_6 : decode cL_isPoured 6 = .ok (.iload_n 1, 1) := by decide +kernel
theorem dL_isPoured_7 : decode cL_isPoured 7 = .ok (.invokevirtual 14, 3) := by decide +kernel
theorem dL_isPoured_10 : decode cL_isPoured 10 = .ok (.aload_n 0, 1) := by decide +kernel
theorem dL_isPoured_11 : decode cL_isPoured 11 = .ok (.iload_n 2, 1) := by decide +kernel
theorem dL_isPoured_12 : decode cL_isPoured 12 = .ok (.invokevirtual 14, 3) := by decide +kernel
theorem dL_isPoured_15 : decode cL_isPoured 15 = .ok (.iadd, 1) := by decide +kernel
theorem dL_isPoured_16 : decode cL_isPoured 16 = .ok (.sipush 600, 3) := by decide +kernel
theorem dL_isPoured_19 : decode cL_isPoured 19 = .ok (.if_icmp .le 5, 3) := by decide +kernel
theorem dL_isPoured_22 : decode cL_isPoured 22 = .ok (.iconst 1, 1) := by decide +kernel
theorem dL_isPoured_23 : decode cL_isPoured 23 = .ok (.ireturn, 1) := by decide +kernel
theorem dL_isPoured_24 : decode cL_isPoured 24 = .ok (.aload_n 0, 1) := by decide +kernel
theorem dL_isPoured_25 : decode cL_isPoured 25 = .ok (.iload_n 2, 1) := by decide +kernel
theorem dL_isPoured_26 : decode cL_isPoured 26 = .ok (.invokevirtual 14, 3) := by decide +kernel
theorem dL_isPoured_29 : decode cL_isPoured 29 = .ok (.istore_n 3, 1) := by decide +kernel
theorem dL_isPoured_30 : decode cL_isPoured 30 = .ok (.aload_n 0, 1) := by decide +kernel
theorem dL_isPoured_31 : decode cL_isPoured 31 = .ok (.iload_n 2, 1) := by decide +kernel
theorem dL_isPoured_32 : decode cL_isPoured 32 = .ok (.invokevirtual 20, 3) := by decide +kernel
theorem dL_isPoured_35 : decode cL_isPoured 35 = .ok (.istore 4, 2) := by decide +kernel
theorem dL_isPoured_37 : decode cL_isPoured 37 = .ok (.aload_n 0, 1) := by decide +kernel
theorem dL_isPoured_38 : decode cL_isPoured 38 = .ok (.iload_n 2, 1) := by decide +kernel
theorem dL_isPoured_39 : decode cL_isPoured 39 = .ok (.invokevirtual 26, 3) := by decide +kernel
theorem dL_isPoured_42 : decode cL_isPoured 42 = .ok (.aload_n 0, 1) := by decide +kernel
theorem dL_isPoured_43 : decode cL_isPoured 43 = .ok (.iload_n 1, 1) := by decide +kernel
theorem dL_isPoured_44 : decode cL_isPoured 44 = .ok (.invokevirtual 26, 3) := by decide +kernel
theorem dL_isPoured_47 : decode cL_isPoured 47 = .ok (.if_icmp .le 11, 3) := by decide +kernel
theorem dL_isPoured_50 : decode cL_isPoured 50 = .ok (.aload_n 0, 1) := by decide +kernel
theorem dL_isPoured_51 : decode cL_isPoured 51 = .ok (.iload_n 2, 1) := by decide +kernel
theorem dL_isPoured_52 : decode cL_isPoured 52 = .ok (.invokevirtual 26, 3) := by decide +kernel
theorem dL_isPoured_55 : decode cL_isPoured 55 = .ok (.goto 8, 3) := by decide +kernel
theorem dL_isPoured_58 : decode cL_isPoured 58 = .ok (.aload_n 0, 1) := by decide +kernel
theorem dL_isPoured_59 : decode cL_isPoured 59 = .ok (.iload_n 1, 1) := by decide +kernel
theorem dL_isPoured_60 : decode cL_isPoured 60 = .ok (.invokevirtual 26, 3) := by decide +kernel
theorem dL_isPoured_63 : decode cL_isPoured 63 = .ok (.istore 5, 2) := by decide +kernel
theorem dL_isPoured_65 : decode cL_isPoured 65 = .ok (.aload_n 0, 1) := by decide +kernel
theorem dL_isPoured_66 : decode cL_isPoured 66 = .ok (.iload_n 1, 1) := by decide +kernel
theorem dL_isPoured_67 : decode cL_isPoured 67 = .ok (.bipush 7, 2) := by decide +kernel
theorem dL_isPoured_69 : decode cL_isPoured 69 = .ok (.invokevirtual 46, 3) := by decide +kernel
theorem dL_isPoured_72 : decode cL_isPoured 72 = .ok (.istore 6, 2) := by decide +kernel
theorem dL_isPoured_74 : decode cL_isPoured 74 = .ok (.aload_n 0, 1) := by decide +kernel
theorem dL_isPoured_75 : decode cL_isPoured 75 = .ok (.iload_n 2, 1) := by decide +kernel
theorem dL_isPoured_76 : decode cL_isPoured 76 = .ok (.bipush 7, 2) := by decide +kernel
theorem dL_isPoured_78 : decode cL_isPoured 78 = .ok (.invokevirtual 46, 3) := by decide +kernel
theorem dL_isPoured_81 : decode cL_isPoured 81 = .ok (.istore 7, 2) := by decide +kernel
theorem dL_isPoured_83 : decode cL_isPoured 83 = .ok (.aload_n 0, 1) := by decide +kernel
theorem dL_isPoured_84 : decode cL_isPoured 84 = .ok (.iload_n 1, 1) := by decide +kernel
theorem dL_isPoured_85 : decode cL_isPoured 85 = .ok (.iload_n 2, 1) := by decide +kernel
theorem dL_isPoured_86 : decode cL_isPoured 86 = .ok (.invokevirtual 49, 3) := by decide +kernel
theorem dL_isPoured_89 : decode cL_isPoured 89 = .ok (.iload_n 3, 1) := by decide +kernel
theorem dL_isPoured_90 : decode cL_isPoured 90 = .ok (.aload_n 0, 1) := by decide +kernel
theorem dL_isPoured_91 : decode cL_isPoured 91 = .ok (.iload_n 1, 1) := by decide +kernel
theorem dL_isPoured_92 : decode cL_isPoured 92 = .ok (.invokevirtual 14, 3) := by decide +kernel
theorem dL_isPoured_95 : decode cL_isPoured 95 = .ok (.iadd, 1) := by decide +kernel
theorem dL_isPoured_96 : decode cL_isPoured 96 = .ok (.if_icmp .ne 33, 3) := by decide +kernel
theorem dL_isPoured_99 : decode cL_isPoured 99 = .ok (.aload_n 0, 1) := by decide +kernel
theorem dL_isPoured_100 : decode cL_isPoured 100 = .ok (.iload_n 2, 1) := by decide +kernel
theorem dL_isPoured_101 : decode cL_isPoured 101 = .ok (.invokevirtual 20, 3) := by decide +kernel
theorem dL_isPoured_104 : decode cL_isPoured 104 = .ok (.iload 4, 2) := by decide +kernel
theorem dL_isPoured_106 : decode cL_isPoured 106 = .ok (.aload_n 0, 1) := by decide +kernel
theorem dL_isPoured_107 : decode cL_isPoured 107 = .ok (.iload_n 1, 1) := by decide +kernel
theorem dL_isPoured_108 : decode cL_isPoured 108 = .ok (.invokevirtual 20, 3) := by decide +kernel
theorem dL_isPoured_111 : decode cL_isPoured 111 = .ok (.iadd, 1) := by decide +kernel
theorem dL_isPoured_112 : decode cL_isPoured 112 = .ok (.if_icmp .ne 17, 3) := by decide +kernel
theorem dL_isPoured_115 : decode cL_isPoured 115 = .ok (.aload_n 0, 1) := by decide +kernel
theorem dL_isPoured_116 : decode cL_isPoured 116 = .ok (.iload_n 2, 1) := by decide +kernel
theorem dL_isPoured_117 : decode cL_isPoured 117 = .ok (.invokevirtual 26, 3) := by decide +kernel
theorem dL_isPoured_120 : decode cL_isPoured 120 = .ok (.iload 5, 2) := by decide +kernel
theorem dL_isPoured_122 : decode cL_isPoured 122 = .ok (.if_icmp .ne 7, 3) := by decide +kernel
theorem dL_isPoured_125 : decode cL_isPoured 125 = .ok (.iconst 1, 1) := by decide +kernel
theorem dL_isPoured_126 : decode cL_isPoured 126 = .ok (.goto 4, 3) := by decide +kernel
theorem dL_isPoured_129 : decode cL_isPoured 129 = .ok (.iconst 0, 1) := by decide +kernel
theorem dL_isPoured_130 : decode cL_isPoured 130 = .ok (.istore 8, 2) := by decide +kernel
theorem dL_isPoured_132 : decode cL_isPoured 132 = .ok (.iload 8, 2) := by decide +kernel
theorem dL_isPoured_134 : decode cL_isPoured 134 = .ok (.ifCond .eq 34, 3) := by decide +kernel
theorem dL_isPoured_137 : decode cL_isPoured 137 = .ok (.aload_n 0, 1) := by decide +kernel
theorem dL_isPoured_138 : decode cL_isPoured 138 = .ok (.iload_n 2, 1) := by decide +kernel
theorem dL_isPoured_139 : decode cL_isPoured 139 = .ok (.bipush 7, 2) := by decide +kernel
theorem dL_isPoured_141 : decode cL_isPoured 141 = .ok (.invokevirtual 46, 3) := by decide +kernel
theorem dL_isPoured_144 : decode cL_isPoured 144 = .ok (.iload 6, 2) := by decide +kernel
theorem dL_isPoured_146 : decode cL_isPoured 146 = .ok (.iload 7, 2) := by decide +kernel
theorem dL_isPoured_148 : decode cL_isPoured 148 = .ok (.iadd, 1) := by decide +kernel
theorem dL_isPoured_149 : decode cL_isPoured 149 = .ok (.if_icmp .ne 19, 3) := by decide +kernel
theorem dL_isPoured_152 : decode cL_isPoured 152 = .ok (.aload_n 0, 1) := by decide +kernel
theorem dL_isPoured_153 : decode cL_isPoured 153 = .ok (.iload_n 1, 1) := by decide +kernel
theorem dL_isPoured_154 : decode cL_isPoured 154 = .ok (.bipush 7, 2) := by decide +kernel
theorem dL_isPoured_156 : decode cL_isPoured 156 = .ok (.invokevirtual 46, 3) := by decide +kernel
theorem dL_isPoured_159 : decode cL_isPoured 159 = .ok (.iload 6, 2) := by decide +kernel
theorem dL_isPoured_161 : decode cL_isPoured 161 = .ok (.if_icmp .ne 7, 3) := by decide +kernel
theorem dL_isPoured_164 : decode cL_isPoured 164 = .ok (.iconst 1, 1) := by decide +kernel
theorem dL_isPoured_165 : decode cL_isPoured 165 = .ok (.goto 4, 3) := by decide +kernel
theorem dL_isPoured_168 : decode cL_isPoured 168 = .ok (.iconst 0, 1) := by decide +kernel
theorem dL_isPoured_169 : decode cL_isPoured 169 = .ok (.ireturn, 1) := by decide +kernel
set_option maxRecDepth 20000 in
theorem ggL_areMarksSo_X6_marks : GoodIn wsL_areMarksSo wsX6_marks := goodIn_ca (goodIn_r _ [5, 6, 7, 8, 4, 9, 10, 11, 12, 13, 14, 15, 16, 17, 18, 19, 20, 21, 22, 23, 24, 132, 133, 134, 135, 136, 137, 138, 139, 140, 141] (by decide +kernel) (by decide +kernel)) (goodIn_sub (fun _ h => List.mem_cons_of_mem _ (List.mem_append_right _ h)) (by decide +kernel))
set_option maxRecDepth 20000 in
theorem gL_areMarksSo_X6_marks : GoodIn wsL_areMarksSo (wsV RL 20 RX6 yX6_marks wsX6_marks) := goodIn_app (goodIn_of _ (by decide +kernel)) ggL_areMarksSo_X6_marks
set_option maxRecDepth 20000 in
theorem ggL_areMarksSo_X6_count : GoodIn wsL_areMarksSo wsX6_count := goodIn_ca (goodIn_r _ [28, 6, 7, 8, 4, 9, 10, 11, 12, 29, 30, 31, 32, 33, 34, 132, 133, 134, 135, 136, 142, 143, 144] (by decide +kernel) (by decide +kernel)) (goodIn_sub (fun _ h => List.mem_cons_of_mem _ (List.mem_append_right _ h)) (by decide +kernel))
set_option maxRecDepth 20000 in
theorem gL_areMarksSo_X6_count : GoodIn wsL_areMarksSo (wsV RL 14 RX6 yX6_count wsX6_count) := goodIn_app (goodIn_of _ (by decide +kernel)) ggL_areMarksSo_X6_count
set_option maxRecDepth 20000 in
theorem ggL_areMarksSo_X6_allowance : GoodIn wsL_areMarksSo wsX6_allowance := goodIn_ca (goodIn_r _ [38, 6, 7, 8, 4, 9, 10, 11, 12, 39, 40, 41, 42, 43, 44, 45, 46, 30, 31, 32, 33, 34, 136, 132, 133, 134, 135, 142, 143, 144] (by decide +kernel) (by decide +kernel)) (goodIn_sub (fun _ h => List.mem_cons_of_mem _ (List.mem_append_right _ h)) (by decide +kernel))
set_option maxRecDepth 20000 in
theorem gL_areMarksSo_X6_allowance : GoodIn wsL_areMarksSo (wsV RL 52 RX6 yX6_allowance wsX6_allowance) := goodIn_app (goodIn_of _ (by decide +kernel)) ggL_areMarksSo_X6_allowance
set_option maxRecDepth 20000 in
theorem ggL_areMarksSo_X6_bound : GoodIn wsL_areMarksSo wsX6_bound := goodIn_ca (goodIn_r _ [50, 6, 7, 8, 4, 9, 10, 11, 12, 132, 133, 134, 135, 136] (by decide +kernel) (by decide +kernel)) (goodIn_sub (fun _ h => List.mem_cons_of_mem _ (List.mem_append_right _ h)) (by decide +kernel))
set_option maxRecDepth 20000 in
theorem gL_areMarksSo_X6_bound : GoodIn wsL_areMarksSo (wsV RL 26 RX6 yX6_bound wsX6_bound) := goodIn_app (goodIn_of _ (by decide +kernel)) ggL_areMarksSo_X6_bound
set_option maxRecDepth 20000 in
theorem ggL_areMarksSo_X6_value : GoodIn wsL_areMarksSo wsX6_value := goodIn_ca (goodIn_r _ [54, 55, 56, 57, 4, 58, 10, 11, 6, 7, 8, 9, 12, 13, 14, 15, 16, 17, 18, 19, 20, 21, 22, 23, 24, 59, 60, 61, 62, 63, 64, 65, 66, 67, 68, 69, 70, 71, 132, 133, 134, 135, 136, 137, 138, 139, 140, 141] (by decide +kernel) (by decide +kernel)) (goodIn_sub (fun _ h => List.mem_cons_of_mem _ (List.mem_append_right _ h)) (by decide +kernel))
set_option maxRecDepth 20000 in
theorem gL_areMarksSo_X6_value : GoodIn wsL_areMarksSo (wsV RL 55 RX6 yX6_value wsX6_value) := goodIn_app (goodIn_of _ (by decide +kernel)) ggL_areMarksSo_X6_value
set_option maxRecDepth 20000 in
theorem ggL_areMarksSo_X6_lowestRank : GoodIn wsL_areMarksSo wsX6_lowestRank := goodIn_ca (goodIn_r _ [75, 55, 56, 57, 4, 58, 10, 11, 6, 7, 8, 9, 12, 13, 14, 15, 16, 17, 18, 19, 20, 21, 22, 23, 24, 76, 77, 78, 79, 80, 81, 82, 83, 84, 85, 64, 65, 66, 67, 68, 69, 70, 71, 132, 133, 134, 135, 136, 137, 138, 139, 140, 141] (by decide +kernel) (by decide +kernel)) (goodIn_sub (fun _ h => List.mem_cons_of_mem _ (List.mem_append_right _ h)) (by decide +kernel))
set_option maxRecDepth 20000 in
theorem gL_areMarksSo_X6_lowestRank : GoodIn wsL_areMarksSo (wsV RL 58 RX6 yX6_lowestRank wsX6_lowestRank) := goodIn_app (goodIn_of _ (by decide +kernel)) ggL_areMarksSo_X6_lowestRank
set_option maxRecDepth 20000 in
theorem ggL_areMarksSo_X6_highestRank : GoodIn wsL_areMarksSo wsX6_highestRank := goodIn_ca (goodIn_r _ [89, 55, 56, 57, 4, 58, 10, 11, 6, 7, 8, 9, 12, 13, 14, 15, 16, 17, 18, 19, 20, 21, 22, 23, 24, 90, 91, 92, 93, 94, 95, 77, 78, 79, 80, 81, 82, 83, 84, 85, 64, 65, 66, 67, 68, 69, 70, 71, 63, 132, 133, 134, 135, 136, 137, 138, 139, 140, 141] (by decide +kernel) (by decide +kernel)) (goodIn_sub (fun _ h => List.mem_cons_of_mem _ (List.mem_append_right _ h)) (by decide +kernel))
set_option maxRecDepth 20000 in
theorem gL_areMarksSo_X6_highestRank : GoodIn wsL_areMarksSo (wsV RL 61 RX6 yX6_highestRank wsX6_highestRank) := goodIn_app (goodIn_of _ (by decide +kernel)) ggL_areMarksSo_X6_highestRank
set_option maxRecDepth 20000 in
theorem ggL_areMarksSo_X6_reallyUpTo : GoodIn wsL_areMarksSo wsX6_reallyUpTo := goodIn_ca (goodIn_r _ [99, 6, 7, 8, 4, 9, 10, 11, 12, 100, 101, 102, 32, 103, 104, 105, 106, 107, 108, 22, 109, 24, 85, 64, 65, 66, 67, 68, 69, 70, 71, 110, 82, 83, 84, 132, 133, 134, 135, 136, 142, 143, 144, 140, 141] (by decide +kernel) (by decide +kernel)) (goodIn_sub (fun _ h => List.mem_cons_of_mem _ (List.mem_append_right _ h)) (by decide +kernel))
set_option maxRecDepth 20000 in
theorem gL_areMarksSo_X6_reallyUpTo : GoodIn wsL_areMarksSo (wsV RL 46 RX6 yX6_reallyUpTo wsX6_reallyUpTo) := goodIn_app (goodIn_of _ (by decide +kernel)) ggL_areMarksSo_X6_reallyUpTo
set_option maxRecDepth 20000 in
theorem ggL_areMarksSo_X6_widest : GoodIn wsL_areMarksSo wsX6_widest := goodIn_ca (goodIn_r _ [114, 6, 7, 8, 4, 9, 10, 11, 12, 115, 116, 117, 16, 118, 119, 120, 121, 122, 123, 14, 15, 17, 18, 19, 20, 21, 22, 23, 24, 124, 125, 126, 127, 80, 94, 63, 64, 65, 66, 67, 68, 69, 70, 71, 132, 133, 134, 135, 136, 137, 138, 139, 140, 141] (by decide +kernel) (by decide +kernel)) (goodIn_sub (fun _ h => List.mem_cons_of_mem _ (List.mem_append_right _ h)) (by decide +kernel))
set_option maxRecDepth 20000 in
theorem gL_areMarksSo_X6_widest : GoodIn wsL_areMarksSo (wsV RL 64 RX6 yX6_widest wsX6_widest) := goodIn_app (goodIn_of _ (by decide +kernel)) ggL_areMarksSo_X6_widest
set_option maxRecDepth 20000 in
theorem ggL_areMarksSo_X6_part : GoodIn wsL_areMarksSo wsX6_part := goodIn_ca (goodIn_r _ [131, 6, 7, 8, 4, 9, 10, 11, 12, 29, 30, 31, 32, 33, 34, 13, 14, 15, 16, 17, 18, 19, 20, 21, 22, 23, 24, 132, 133, 134, 135, 136, 142, 143, 144, 137, 138, 139, 140, 141] (by decide +kernel) (by decide +kernel)) (goodIn_sub (fun _ h => List.mem_cons_of_mem _ (List.mem_append_right _ h)) (by decide +kernel))
set_option maxRecDepth 20000 in
theorem gL_areMarksSo_X6_part : GoodIn wsL_areMarksSo (wsV RL 67 RX6 yX6_part wsX6_part) := goodIn_app (goodIn_of _ (by decide +kernel)) ggL_areMarksSo_X6_part
theorem dL_areMarksSo_0 : decode cL_areMarksSo 0 = .ok (.aload_n 0, 1) := by decide +kernel
theorem dL_areMarksSo_1 : decode cL_areMarksSo 1 = .ok (.iload_n 1, 1) := by decide +kernel
theorem dL_areMarksSo_2 : decode cL_areMarksSo 2 = .ok (.invokevirtual 20, 3) := by decide +kernel
theorem dL_areMarksSo_5 : decode cL_areMarksSo 5 = .ok (.istore_n 2, 1) := by decide +kernel
theorem dL_areMarksSo_6 : decode cL_areMarksSo 6 = .ok (.aload_n 0, 1) := by decide +kernel
theorem dL_areMarksSo_7 : decode cL_areMarksSo 7 = .ok (.iload_n 1, 1) := by decide +kernel
theorem dL_areMarksSo_8 : decode cL_areMarksSo 8 = .ok (.invokevirtual 14, 3) := by decide +kernel
theorem dL_areMarksSo_11 : decode cL_areMarksSo 11 = .ok (.istore_n 3, 1) := by decide +kernel
theorem dL_areMarksSo_12 : decode cL_areMarksSo 12 = .ok (.iload_n 2, 1) := by decide +kernel
theorem dL_areMarksSo_13 : decode cL_areMarksSo 13 = .ok (.ifCond .ne 7, 3) := by decide +kernel
theorem dL_areMarksSo_16 : decode cL_areMarksSo 16 = .ok (.iconst 1, 1) := by decide +kernel
theorem dL_areMarksSo_17 : decode cL_areMarksSo 17 = .ok (.goto 4, 3) := by decide +kernel
theorem dL_areMarksSo_20 : decode cL_areMarksSo 20 = .ok (.iconst 0, 1) := by decide +kernel
theorem dL_areMarksSo_21 : decode cL_areMarksSo 21 = .ok (.iload_n 3, 1) := by decide +kernel
theorem dL_areMarksSo_22 : decode cL_areMarksSo 22 = .ok (.ifCond .ne 7, 3) := by decide +kernel
theorem dL_areMarksSo_25 : decode cL_areMarksSo 25 = .ok (.iconst 1, 1) := by decide +kernel
theorem dL_areMarksSo_26 : decode cL_areMarksSo 26 = .ok (.goto 4, 3) := by decide +kernel
theorem dL_areMarksSo_29 : decode cL_areMarksSo 29 = .ok (.iconst 0, 1) := by decide +kernel
theorem dL_areMarksSo_30 : decode cL_areMarksSo 30 = .ok (.if_icmp .ne 28, 3) := by decide +kernel
theorem dL_areMarksSo_33 : decode cL_areMarksSo 33 = .ok (.aload_n 0, 1) := by decide +kernel
theorem dL_areMarksSo_34 : decode cL_areMarksSo 34 = .ok (.iload_n 1, 1) := by decide +kernel
theorem dL_areMarksSo_35 : decode cL_areMarksSo 35 = .ok (.invokevirtual 52, 3) := by decide +kernel
theorem dL_areMarksSo_38 : decode cL_areMarksSo 38 = .ok (.iconst 2, 1) := by decide +kernel
theorem dL_areMarksSo_39 : decode cL_areMarksSo 39 = .ok (.aload_n 0, 1) := by decide +kernel
theorem dL_areMarksSo_40 : decode cL_areMarksSo 40 = .ok (.iload_n 1, 1) := by decide +kernel
theorem dL_areMarksSo_41 : decode cL_areMarksSo 41 = .ok (.invokevirtual 26, 3) := by decide +kernel
theorem dL_areMarksSo_44 : decode cL_areMarksSo 44 = .ok (.imul, 1) := by decide +kernel
theorem dL_areMarksSo_45 : decode cL_areMarksSo 45 = .ok (.iload_n 3, 1) := by decide +kernel
theorem dL_areMarksSo_46 : decode cL_areMarksSo 46 = .ok (.imul, 1) := by decide +kernel
theorem dL_areMarksSo_47 : decode cL_areMarksSo 47 = .ok (.sipush 1000, 3) := by decide +kernel
theorem dL_areMarksSo_50 : decode cL_areMarksSo 50 = .ok (.idiv, 1) := by decide +kernel
theorem dL_areMarksSo_51 : decode cL_areMarksSo 51 = .ok (.if_icmp .ne 7, 3) := by decide +kernel
theorem dL_areMarksSo_54 : decode cL_areMarksSo 54 = .ok (.iconst 1, 1) := by decide +kernel
theorem dL_areMarksSo_55 : decode cL_areMarksSo 55 = .ok (.goto 4, 3) := by decide +kernel
theorem dL_areMarksSo_58 : decode cL_areMarksSo 58 = .ok (.iconst 0, 1) := by decide +kernel
theorem dL_areMarksSo_59 : decode cL_areMarksSo 59 = .ok (.istore 4, 2) := by decide +kernel
theorem dL_areMarksSo_61 : decode cL_areMarksSo 61 = .ok (.iconst 0, 1) := by decide +kernel
theorem dL_areMarksSo_62 : decode cL_areMarksSo 62 = .ok (.istore 5, 2) := by decide +kernel
theorem dL_areMarksSo_64 : decode cL_areMarksSo 64 = .ok (.iconst 0, 1) := by decide +kernel
theorem dL_areMarksSo_65 : decode cL_areMarksSo 65 = .ok (.istore 6, 2) := by decide +kernel
theorem dL_areMarksSo_67 : decode cL_areMarksSo 67 = .ok (.iload 6, 2) := by decide +kernel
theorem dL_areMarksSo_69 : decode cL_areMarksSo 69 = .ok (.iload_n 2, 1) := by decide +kernel
theorem dL_areMarksSo_70 : decode cL_areMarksSo 70 = .ok (.if_icmp .ge 221, 3) := by decide +kernel
theorem dL_areMarksSo_73 : decode cL_areMarksSo 73 = .ok (.iload 4, 2) := by decide +kernel
theorem dL_areMarksSo_75 : decode cL_areMarksSo 75 = .ok (.ifCond .eq 216, 3) := by decide +kernel
theorem dL_areMarksSo_78 : decode cL_areMarksSo 78 = .ok (.aload_n 0, 1) := by decide +kernel
theorem dL_areMarksSo_79 : decode cL_areMarksSo 79 = .ok (.iload_n 1, 1) := by decide +kernel
theorem dL_areMarksSo_80 : decode cL_areMarksSo 80 = .ok (.iload 6, 2) := by decide +kernel
theorem dL_areMarksSo_82 : decode cL_areMarksSo 82 = .ok (.invokevirtual 55, 3) := by decide +kernel
theorem dL_areMarksSo_85 : decode cL_areMarksSo 85 = .ok (.istore 7, 2) := by decide +kernel
theorem dL_areMarksSo_87 : decode cL_areMarksSo 87 = .ok (.aload_n 0, 1) := by decide +kernel
theorem dL_areMarksSo_88 : decode cL_areMarksSo 88 = .ok (.iload_n 1, 1) := by decide +kernel
theorem dL_areMarksSo_89 : decode cL_areMarksSo 89 = .ok (.iload 6, 2) := by decide +kernel
theorem dL_areMarksSo_91 : decode cL_areMarksSo 91 = .ok (.invokevirtual 58, 3) := by decide +kernel
theorem dL_areMarksSo_94 : decode cL_areMarksSo 94 = .ok (.istore 8, 2) := by decide +kernel
theorem dL_areMarksSo_96 : decode cL_areMarksSo 96 = .ok (.aload_n 0, 1) := by decide +kernel
theorem dL_areMarksSo_97 : decode cL_areMarksSo 97 = .ok (.iload_n 1, 1) := by decide +kernel
theorem dL_areMarksSo_98 : decode cL_areMarksSo 98 = .ok (.iload 6, 2) := by decide +kernel
theorem dL_areMarksSo_100 : decode cL_areMarksSo 100 = .ok (.invokevirtual 61, 3) := by decide +kernel
theorem dL_areMarksSo_103 : decode cL_areMarksSo 103 = .ok (.istore 9, 2) := by decide +kernel
theorem dL_areMarksSo_105 : decode cL_areMarksSo 105 = .ok (.iload 6, 2) := by decide +kernel
theorem dL_areMarksSo_107 : decode cL_areMarksSo 107 = .ok (.ifCond .ne 7, 3) := by decide +kernel
theorem dL_areMarksSo_110 : decode cL_areMarksSo 110 = .ok (.iconst 0, 1) := by decide +kernel
theorem dL_areMarksSo_111 : decode cL_areMarksSo 111 = .ok (.goto 12, 3) := by decide +kernel
theorem dL_areMarksSo_114 : decode cL_areMarksSo 114 = .ok (.aload_n 0, 1) := by decide +kernel
theorem dL_areMarksSo_115 : decode cL_areMarksSo 115 = .ok (.iload_n 1, 1) := by decide +kernel
theorem dL_areMarksSo_116 : decode cL_areMarksSo 116 = .ok (.iload 6, 2) := by decide +kernel
theorem dL_areMarksSo_118 : decode cL_areMarksSo 118 = .ok (.iconst 1, 1) := by decide +kernel
theorem dL_areMarksSo_119 : decode cL_areMarksSo 119 = .ok (.isub, 1) := by decide +kernel
theorem dL_areMarksSo_120 : decode cL_areMarksSo 120 = .ok (.invokevirtual 58, 3) := by decide +kernel
theorem dL_areMarksSo_123 : decode cL_areMarksSo 123 = .ok (.istore 10, 2) := by decide +kernel
theorem dL_areMarksSo_125 : decode cL_areMarksSo 125 = .ok (.iload 8, 2) := by decide +kernel
theorem dL_areMarksSo_127 : decode cL_areMarksSo 127 = .ok (.iload 10, 2) := by decide +kernel
theorem dL_areMarksSo_129 : decode cL_areMarksSo 129 = .ok (.if_icmp .le 59, 3) := by decide +kernel
theorem dL_areMarksSo_132 : decode cL_areMarksSo 132 = .ok (.iload 8, 2) := by decide +kernel
theorem dL_areMarksSo_134 : decode cL_areMarksSo 134 = .ok (.iload 9, 2) := by decide +kernel
theorem dL_areMarksSo_136 : decode cL_areMarksSo 136 = .ok (.if_icmp .gt 52, 3) := by decide +kernel
theorem dL_areMarksSo_139 : decode cL_areMarksSo 139 = .ok (.iload 6, 2) := by decide +kernel
theorem dL_areMarksSo_141 : decode cL_areMarksSo 141 = .ok (.ifCond .eq 17, 3) := by decide +kernel
theorem dL_areMarksSo_144 : decode cL_areMarksSo 144 = .ok (.aload_n 0, 1) := by decide +kernel
theorem dL_areMarksSo_145 : decode cL_areMarksSo 145 = .ok (.iload_n 1, 1) := by decide +kernel
theorem dL_areMarksSo_146 : decode cL_areMarksSo 146 = .ok (.iload 6, 2) := by decide +kernel
theorem dL_areMarksSo_148 : decode cL_areMarksSo 148 = .ok (.iconst 1, 1) := by decide +kernel
theorem dL_areMarksSo_149 : decode cL_areMarksSo 149 = .ok (.isub, 1) := by decide +kernel
theorem dL_areMarksSo_150 : decode cL_areMarksSo 150 = .ok (.invokevirtual 55, 3) := by decide +kernel
theorem dL_areMarksSo_153 : decode cL_areMarksSo 153 = .ok (.iload 7, 2) := by decide +kernel
theorem dL_areMarksSo_155 : decode cL_areMarksSo 155 = .ok (.if_icmp .gt 33, 3) := by decide +kernel
theorem dL_areMarksSo_158 : decode cL_areMarksSo 158 = .ok (.aload_n 0, 1) := by decide +kernel
theorem dL_areMarksSo_159 : decode cL_areMarksSo 159 = .ok (.iload_n 1, 1) := by decide +kernel
theorem dL_areMarksSo_160 : decode cL_areMarksSo 160 = .ok (.iload 7, 2) := by decide +kernel
theorem dL_areMarksSo_162 : decode cL_areMarksSo 162 = .ok (.invokevirtual 46, 3) := by decide +kernel
theorem dL_areMarksSo_165 : decode cL_areMarksSo 165 = .ok (.iload 8, 2) := by decide +kernel
theorem dL_areMarksSo_167 : decode cL_areMarksSo 167 = .ok (.if_icmp .lt 21, 3) := by decide +kernel
theorem dL_areMarksSo_170 : decode cL_areMarksSo 170 = .ok (.aload_n 0, 1) := by decide +kernel
theorem dL_areMarksSo_171 : decode cL_areMarksSo 171 = .ok (.iload_n 1, 1) := by decide +kernel
theorem dL_areMarksSo_172 : decode cL_areMarksSo 172 = .ok (.iload 7, 2) := by decide +kernel
theorem dL_areMarksSo_174 : decode cL_areMarksSo 174 = .ok (.iconst 1, 1) := by decide +kernel
theorem dL_areMarksSo_175 : decode cL_areMarksSo 175 = .ok (.isub, 1) := by decide +kernel
theorem dL_areMarksSo_176 : decode cL_areMarksSo 176 = .ok (.invokevirtual 46, 3) := by decide +kernel
theorem dL_areMarksSo_179 : decode cL_areMarksSo 179 = .ok (.iload 9, 2) := by decide +kernel
theorem dL_areMarksSo_181 : decode cL_areMarksSo 181 = .ok (.if_icmp .ge 7, 3) := by decide +kernel
theorem dL_areMarksSo_184 : decode cL_areMarksSo 184 = .ok (.iconst 1, 1) := by decide +kernel
theorem dL_areMarksSo_185 : decode cL_areMarksSo 185 = .ok (.goto 4, 3) := by decide +kernel
theorem dL_areMarksSo_188 : decode cL_areMarksSo 188 = .ok (.iconst 0, 1) := by decide +kernel
theorem dL_areMarksSo_189 : decode cL_areMarksSo 189 = .ok (.istore 4, 2) := by decide +kernel
theorem dL_areMarksSo_191 : decode cL_areMarksSo 191 = .ok (.iload 4, 2) := by decide +kernel
theorem dL_areMarksSo_193 : decode cL_areMarksSo 193 = .ok (.ifCond .eq 67, 3) := by decide +kernel
theorem dL_areMarksSo_196 : decode cL_areMarksSo 196 = .ok (.iload 6, 2) := by decide +kernel
theorem dL_areMarksSo_198 : decode cL_areMarksSo 198 = .ok (.ifCond .gt 27, 3) := by decide +kernel
theorem dL_areMarksSo_201 : decode cL_areMarksSo 201 = .ok (.iload 8, 2) := by decide +kernel
theorem dL_areMarksSo_203 : decode cL_areMarksSo 203 = .ok (.iconst 1, 1) := by decide +kernel
theorem dL_areMarksSo_204 : decode cL_areMarksSo 204 = .ok (.if_icmp .ne 56, 3) := by decide +kernel
theorem dL_areMarksSo_207 : decode cL_areMarksSo 207 = .ok (.iload 9, 2) := by decide +kernel
theorem dL_areMarksSo_209 : decode cL_areMarksSo 209 = .ok (.iconst 1, 1) := by decide +kernel
theorem dL_areMarksSo_210 : decode cL_areMarksSo 210 = .ok (.if_icmp .ne 50, 3) := by decide +kernel
theorem dL_areMarksSo_213 : decode cL_areMarksSo 213 = .ok (.aload_n 0, 1) := by decide +kernel
theorem dL_areMarksSo_214 : decode cL_areMarksSo 214 = .ok (.iload_n 1, 1) := by decide +kernel
theorem dL_areMarksSo_215 : decode cL_areMarksSo 215 = .ok (.iload 7, 2) := by decide +kernel
theorem dL_areMarksSo_217 : decode cL_areMarksSo 217 = .ok (.iconst 1, 1) := by decide +kernel
theorem dL_areMarksSo_218 : decode cL_areMarksSo 218 = .ok (.isub, 1) := by decide +kernel
theorem dL_areMarksSo_219 : decode cL_areMarksSo 219 = .ok (.invokevirtual 46, 3) := by decide +kernel
theorem dL_areMarksSo_222 : decode cL_areMarksSo 222 = .ok (.ifCond .ne 38, 3) := by decide +kernel
theorem dL_areMarksSo_225 : decode cL_areMarksSo 225 = .ok (.iload 6, 2) := by decide +kernel
theorem dL_areMarksSo_227 : decode cL_areMarksSo 227 = .ok (.iload_n 2, 1) := by decide +kernel
theorem dL_areMarksSo_228 : decode cL_areMarksSo 228 = .ok (.iconst 1, 1) := by decide +kernel
theorem dL_areMarksSo_229 : decode cL_areMarksSo 229 = .ok (.isub, 1) := by decide +kernel
theorem dL_areMarksSo_230 : decode cL_areMarksSo 230 = .ok (.if_icmp .lt 26, 3) := by decide +kernel
theorem dL_areMarksSo_233 : decode cL_areMarksSo 233 = .ok (.iload 8, 2) := by decide +kernel
theorem dL_areMarksSo_235 : decode cL_areMarksSo 235 = .ok (.iload_n 3, 1) := by decide +kernel
theorem dL_areMarksSo_236 : decode cL_areMarksSo 236 = .ok (.if_icmp .ne 24, 3) := by decide +kernel
theorem dL_areMarksSo_239 : decode cL_areMarksSo 239 = .ok (.iload 9, 2) := by decide +kernel
theorem dL_areMarksSo_241 : decode cL_areMarksSo 241 = .ok (.iload_n 3, 1) := by decide +kernel
theorem dL_areMarksSo_242 : decode cL_areMarksSo 242 = .ok (.if_icmp .ne 18, 3) := by decide +kernel
theorem dL_areMarksSo_245 : decode cL_areMarksSo 245 = .ok (.aload_n 0, 1) := by decide +kernel
theorem dL_areMarksSo_246 : decode cL_areMarksSo 246 = .ok (.iload_n 1, 1) := by decide +kernel
theorem dL_areMarksSo_247 : decode cL_areMarksSo 247 = .ok (.iload 7, 2) := by decide +kernel
theorem dL_areMarksSo_249 : decode cL_areMarksSo 249 = .ok (.invokevirtual 46, 3) := by decide +kernel
theorem dL_areMarksSo_252 : decode cL_areMarksSo 252 = .ok (.iload_n 3, 1) := by decide +kernel
theorem dL_areMarksSo_253 : decode cL_areMarksSo 253 = .ok (.if_icmp .ne 7, 3) := by decide +kernel
theorem dL_areMarksSo_256 : decode cL_areMarksSo 256 = .ok (.iconst 1, 1) := by decide +kernel
theorem dL_areMarksSo_257 : decode cL_areMarksSo 257 = .ok (.goto 4, 3) := by decide +kernel
theorem dL_areMarksSo_260 : decode cL_areMarksSo 260 = .ok (.iconst 0, 1) := by decide +kernel
theorem dL_areMarksSo_261 : decode cL_areMarksSo 261 = .ok (.istore 4, 2) := by decide +kernel
theorem dL_areMarksSo_263 : decode cL_areMarksSo 263 = .ok (.iload 9, 2) := by decide +kernel
theorem dL_areMarksSo_265 : decode cL_areMarksSo 265 = .ok (.iload 10, 2) := by decide +kernel
theorem dL_areMarksSo_267 : decode cL_areMarksSo 267 = .ok (.isub, 1) := by decide +kernel
theorem dL_areMarksSo_268 : decode cL_areMarksSo 268 = .ok (.iload 5, 2) := by decide +kernel
theorem dL_areMarksSo_270 : decode cL_areMarksSo 270 = .ok (.if_icmp .le 11, 3) := by decide +kernel
theorem dL_areMarksSo_273 : decode cL_areMarksSo 273 = .ok (.iload 9, 2) := by decide +kernel
theorem dL_areMarksSo_275 : decode cL_areMarksSo 275 = .ok (.iload 10, 2) := by decide +kernel
theorem dL_areMarksSo_277 : decode cL_areMarksSo 277 = .ok (.isub, 1) := by decide +kernel
theorem dL_areMarksSo_278 : decode cL_areMarksSo 278 = .ok (.goto 5, 3) := by decide +kernel
theorem dL_areMarksSo_281 : decode cL_areMarksSo 281 = .ok (.iload 5, 2) := by decide +kernel
theorem dL_areMarksSo_283 : decode cL_areMarksSo 283 = .ok (.istore 5, 2) := by decide +kernel
theorem dL_areMarksSo_285 : decode cL_areMarksSo 285 = .ok (.iinc 6 1, 3) := by decide +kernel
theorem dL_areMarksSo_288 : decode cL_areMarksSo 288 = .ok (.goto (-221), 3) := by decide +kernel
theorem dL_areMarksSo_291 : decode cL_areMarksSo 291 = .ok (.aload_n 0, 1) := by decide +kernel
theorem dL_areMarksSo_292 : decode cL_areMarksSo 292 = .ok (.iload_n 1, 1) := by decide +kernel
theorem dL_areMarksSo_293 : decode cL_areMarksSo 293 = .ok (.invokevirtual 52, 3) := by decide +kernel
theorem dL_areMarksSo_296 : decode cL_areMarksSo 296 = .ok (.iconst 1, 1) := by decide +kernel
theorem dL_areMarksSo_297 : decode cL_areMarksSo 297 = .ok (.if_icmp .le 11, 3) := by decide +kernel
theorem dL_areMarksSo_300 : decode cL_areMarksSo 300 = .ok (.aload_n 0, 1) := by decide +kernel
theorem dL_areMarksSo_301 : decode cL_areMarksSo 301 = .ok (.iload_n 1, 1) := by decide +kernel
theorem dL_areMarksSo_302 : decode cL_areMarksSo 302 = .ok (.invokevirtual 52, 3) := by decide +kernel
theorem dL_areMarksSo_305 : decode cL_areMarksSo 305 = .ok (.goto 4, 3) := by decide +kernel
theorem dL_areMarksSo_308 : decode cL_areMarksSo 308 = .ok (.iconst 1, 1) := by decide +kernel
theorem dL_areMarksSo_309 : decode cL_areMarksSo 309 = .ok (.istore 6, 2) := by decide +kernel
theorem dL_areMarksSo_311 : decode cL_areMarksSo 311 = .ok (.iload 4, 2) := by decide +kernel
theorem dL_areMarksSo_313 : decode cL_areMarksSo 313 = .ok (.ifCond .eq 65, 3) := by decide +kernel
theorem dL_areMarksSo_316 : decode cL_areMarksSo 316 = .ok (.aload_n 0, 1) := by decide +kernel
theorem dL_areMarksSo_317 : decode cL_areMarksSo 317 = .ok (.iload_n 1, 1) := by decide +kernel
theorem dL_areMarksSo_318 : decode cL_areMarksSo 318 = .ok (.invokevirtual 64, 3) := by decide +kernel
theorem dL_areMarksSo_321 : decode cL_areMarksSo 321 = .ok (.iload 5, 2) := by decide +kernel
theorem dL_areMarksSo_323 : decode cL_areMarksSo 323 = .ok (.if_icmp .ne 55, 3) := by decide +kernel
theorem dL_areMarksSo_326 : decode cL_areMarksSo 326 = .ok (.iload 5, 2) := by decide +kernel
theorem dL_areMarksSo_328 : decode cL_areMarksSo 328 = .ok (.iload 6, 2) := by decide +kernel
theorem dL_areMarksSo_330 : decode cL_areMarksSo 330 = .ok (.if_icmp .le 7, 3) := by decide +kernel
theorem dL_areMarksSo_333 : decode cL_areMarksSo 333 = .ok (.iload_n 2, 1) := by decide +kernel
theorem dL_areMarksSo_334 : decode cL_areMarksSo 334 = .ok (.ifCond .ne 44, 3) := by decide +kernel
theorem dL_areMarksSo_337 : decode cL_areMarksSo 337 = .ok (.iload_n 3, 1) := by decide +kernel
theorem dL_areMarksSo_338 : decode cL_areMarksSo 338 = .ok (.ifCond .ne 16, 3) := by decide +kernel
theorem dL_areMarksSo_341 : decode cL_areMarksSo 341 = .ok (.aload_n 0, 1) := by decide +kernel
theorem dL_areMarksSo_342 : decode cL_areMarksSo 342 = .ok (.iload_n 1, 1) := by decide +kernel
theorem dL_areMarksSo_343 : decode cL_areMarksSo 343 = .ok (.invokevirtual 67, 3) := by decide +kernel
theorem dL_areMarksSo_346 : decode cL_areMarksSo 346 = .ok (.dconst 0, 1) := by decide +kernel
theorem dL_areMarksSo_347 : decode cL_areMarksSo 347 = .ok (.dcmp .l, 1) := by decide +kernel
theorem dL_areMarksSo_348 : decode cL_areMarksSo 348 = .ok (.ifCond .ne 30, 3) := by decide +kernel
theorem dL_areMarksSo_351 : decode cL_areMarksSo 351 = .ok (.goto 23, 3) := by decide +kernel
theorem dL_areMarksSo_354 : decode cL_areMarksSo 354 = .ok (.aload_n 0, 1) := by decide +kernel
theorem dL_areMarksSo_355 : decode cL_areMarksSo 355 = .ok (.iload_n 1, 1) := by decide +kernel
theorem dL_areMarksSo_356 : decode cL_areMarksSo 356 = .ok (.invokevirtual 67, 3) := by decide +kernel
theorem dL_areMarksSo_359 : decode cL_areMarksSo 359 = .ok (.dconst 0, 1) := by decide +kernel
theorem dL_areMarksSo_360 : decode cL_areMarksSo 360 = .ok (.dcmp .l, 1) := by decide +kernel
theorem dL_areMarksSo_361 : decode cL_areMarksSo 361 = .ok (.ifCond .le 17, 3) := by decide +kernel
theorem dL_areMarksSo_364 : decode cL_areMarksSo 364 = .ok (.aload_n 0, 1) := by decide +kernel
theorem dL_areMarksSo_365 : decode cL_areMarksSo 365 = .ok (.iload_n 1, 1) := by decide +kernel
theorem dL_areMarksSo_366 : decode cL_areMarksSo 366 = .ok (.invokevirtual 67, 3) := by decide +kernel
theorem dL_areMarksSo_369 : decode cL_areMarksSo 369 = .ok (.dconst 1, 1) := by decide +kernel
theorem dL_areMarksSo_370 : decode cL_areMarksSo 370 = .ok (.dcmp .g, 1) := by decide +kernel
theorem dL_areMarksSo_371 : decode cL_areMarksSo 371 = .ok (.ifCond .gt 7, 3) := by decide +kernel
theorem dL_areMarksSo_374 : decode cL_areMarksSo 374 = .ok (.iconst 1, 1) := by decide +kernel
theorem dL_areMarksSo_375 : decode cL_areMarksSo 375 = .ok (.goto 4, 3) := by decide +kernel
theorem dL_areMarksSo_378 : decode cL_areMarksSo 378 = .ok (.iconst 0, 1) := by decide +kernel
theorem dL_areMarksSo_379 : decode cL_areMarksSo 379 = .ok (.ireturn, 1) := by decide +kernel
set_option maxRecDepth 20000 in
theorem ggL_areAnswersSo_X6_count : GoodIn wsL_areAnswersSo wsX6_count := goodIn_ca (goodIn_r _ [5, 6, 7, 8, 4, 9, 10, 11, 12, 13, 14, 15, 16, 17, 18, 168, 169, 170, 171, 172, 173, 174, 175] (by decide +kernel) (by decide +kernel)) (goodIn_sub (fun _ h => List.mem_cons_of_mem _ (List.mem_append_left _ (List.mem_append_left _ (List.mem_append_right _ h)))) (by decide +kernel))
set_option maxRecDepth 20000 in
theorem gL_areAnswersSo_X6_count : GoodIn wsL_areAnswersSo (wsV RL 14 RX6 yX6_count wsX6_count) := goodIn_app (goodIn_of _ (by decide +kernel)) ggL_areAnswersSo_X6_count
set_option maxRecDepth 20000 in
theorem ggL_areAnswersSo_X6_atLeastUpTo : GoodIn wsL_areAnswersSo wsX6_atLeastUpTo := goodIn_ca (goodIn_r _ [22, 6, 7, 8, 4, 9, 10, 11, 12, 23, 24, 25, 26, 27, 28, 29, 30, 31, 32, 33, 34, 35, 36, 37, 38, 39, 40, 41, 42, 43, 44, 45, 46, 47, 48, 168, 169, 170, 171, 172, 176, 177, 178, 179, 180] (by decide +kernel) (by decide +kernel)) (goodIn_sub (fun _ h => List.mem_cons_of_mem _ (List.mem_append_left _ (List.mem_append_left _ (List.mem_append_right _ h)))) (by decide +kernel))
set_option maxRecDepth 20000 in
theorem gL_areAnswersSo_X6_atLeastUpTo : GoodIn wsL_areAnswersSo (wsV RL 71 RX6 yX6_atLeastUpTo wsX6_atLeastUpTo) := goodIn_app (goodIn_of _ (by decide +kernel)) ggL_areAnswersSo_X6_atLeastUpTo
set_option maxRecDepth 20000 in
theorem ggL_areAnswersSo_X6_reallyUpTo : GoodIn wsL_areAnswersSo wsX6_reallyUpTo := goodIn_ca (goodIn_r _ [52, 6, 7, 8, 4, 9, 10, 11, 12, 53, 54, 55, 16, 56, 57, 58, 59, 31, 32, 33, 34, 35, 36, 37, 38, 39, 40, 41, 42, 43, 44, 60, 46, 47, 48, 168, 169, 170, 171, 172, 173, 174, 175, 179, 180] (by decide +kernel) (by decide +kernel)) (goodIn_sub (fun _ h => List.mem_cons_of_mem _ (List.mem_append_left _ (List.mem_append_left _ (List.mem_append_right _ h)))) (by decide +kernel))
set_option maxRecDepth 20000 in
theorem gL_areAnswersSo_X6_reallyUpTo : GoodIn wsL_areAnswersSo (wsV RL 46 RX6 yX6_reallyUpTo wsX6_reallyUpTo) := goodIn_app (goodIn_of _ (by decide +kernel)) ggL_areAnswersSo_X6_reallyUpTo
set_option maxRecDepth 20000 in
theorem ggL_areAnswersSo_X6_atMostUpTo : GoodIn wsL_areAnswersSo wsX6_atMostUpTo := goodIn_ca (goodIn_r _ [64, 6, 7, 8, 4, 9, 10, 11, 12, 65, 66, 67, 26, 68, 29, 30, 31, 32, 33, 34, 35, 36, 37, 38, 39, 40, 41, 42, 43, 44, 69, 70, 71, 72, 73, 74, 75, 76, 77, 78, 79, 80, 81, 82, 83, 84, 85, 28, 45, 46, 47, 48, 86, 13, 14, 15, 16, 17, 18, 168, 169, 170, 171, 172, 176, 177, 178, 179, 180, 173, 174, 175] (by decide +kernel) (by decide +kernel)) (goodIn_sub (fun _ h => List.mem_cons_of_mem _ (List.mem_append_left _ (List.mem_append_left _ (List.mem_append_right _ h)))) (by decide +kernel))
set_option maxRecDepth 20000 in
theorem gL_areAnswersSo_X6_atMostUpTo : GoodIn wsL_areAnswersSo (wsV RL 74 RX6 yX6_atMostUpTo wsX6_atMostUpTo) := goodIn_app (goodIn_of _ (by decide +kernel)) ggL_areAnswersSo_X6_atMostUpTo
set_option maxRecDepth 20000 in
theorem ggL_areAnswersSo_X6_ask : GoodIn wsL_areAnswersSo wsX6_ask := goodIn_ca (goodIn_ca (goodIn_ca (goodIn_r _ [90, 91, 92, 93, 4, 94, 6, 7, 8, 9, 10, 11, 12, 95, 96, 97, 98, 99, 100, 101, 102, 103, 104, 105, 106, 107, 108, 14, 15, 16, 17, 18, 109, 110, 111, 112, 113, 114, 115, 116, 117, 118, 119, 26, 120, 28, 81, 121, 122, 123, 124, 125, 82, 83, 84, 85, 45, 46, 47, 33, 48, 35, 36, 37, 38, 39, 40, 41, 42, 43, 44, 126, 78, 79, 80, 86, 127, 70, 71, 72, 29, 73, 74, 75, 76, 128, 129, 130, 131, 168, 169, 170, 171, 172, 173, 174, 175, 176, 177, 178, 179, 180] (by decide +kernel) (by decide +kernel)) (goodIn_sub (fun _ h => List.mem_cons_of_mem _ (List.mem_append_left _ (List.mem_append_left _ (List.mem_append_right _ h)))) (by decide +kernel))) (goodIn_sub (fun _ h => List.mem_cons_of_mem _ (List.mem_append_left _ (List.mem_append_right _ h))) (by decide +kernel))) (goodIn_sub (fun _ h => List.mem_cons_of_mem _ (List.mem_append_right _ h)) (by decide +kernel))
set_option maxRecDepth 20000 in
theorem gL_areAnswersSo_X6_ask : GoodIn wsL_areAnswersSo (wsV RL 77 RX6 yX6_ask wsX6_ask) := goodIn_app (goodIn_of _ (by decide +kernel)) ggL_areAnswersSo_X6_ask
set_option maxRecDepth 20000 in
theorem ggL_areAnswersSo_X6_middle : GoodIn wsL_areAnswersSo wsX6_middle := goodIn_ca (goodIn_ca (goodIn_r _ [135, 6, 7, 8, 4, 9, 10, 11, 12, 100, 101, 102, 103, 104, 105, 106, 107, 108, 14, 15, 16, 17, 18, 13, 136, 137, 138, 139, 58, 57, 140, 74, 75, 33, 76, 35, 141, 37, 38, 39, 40, 41, 42, 43, 44, 168, 169, 170, 171, 172, 173, 174, 175, 179, 180] (by decide +kernel) (by decide +kernel)) (goodIn_sub (fun _ h => List.mem_cons_of_mem _ (List.mem_append_left _ (List.mem_append_left _ (List.mem_append_right _ h)))) (by decide +kernel))) (goodIn_sub (fun _ h => List.mem_cons_of_mem _ (List.mem_append_right _ h)) (by decide +kernel))
set_option maxRecDepth 20000 in
theorem gL_areAnswersSo_X6_middle : GoodIn wsL_areAnswersSo (wsV RL 80 RX6 yX6_middle wsX6_middle) := goodIn_app (goodIn_of _ (by decide +kernel)) ggL_areAnswersSo_X6_middle
set_option maxRecDepth 20000 in
theorem ggL_areAnswersSo_X6_reallyOff : GoodIn wsL_areAnswersSo wsX6_reallyOff := goodIn_ca (goodIn_ca (goodIn_ca (goodIn_r _ [145, 91, 92, 93, 4, 94, 6, 7, 8, 9, 10, 11, 12, 95, 96, 97, 98, 99, 100, 101, 102, 103, 104, 105, 106, 107, 108, 14, 15, 16, 17, 18, 109, 110, 111, 112, 113, 114, 115, 116, 117, 118, 119, 26, 120, 28, 81, 121, 122, 123, 124, 125, 82, 83, 84, 85, 45, 46, 47, 33, 48, 35, 36, 37, 38, 39, 40, 41, 42, 43, 44, 126, 78, 79, 80, 86, 127, 70, 71, 72, 29, 73, 74, 75, 76, 128, 129, 130, 131, 53, 54, 55, 56, 57, 58, 59, 31, 32, 34, 60, 168, 169, 170, 171, 172, 173, 174, 175, 176, 177, 178, 179, 180] (by decide +kernel) (by decide +kernel)) (goodIn_sub (fun _ h => List.mem_cons_of_mem _ (List.mem_append_left _ (List.mem_append_left _ (List.mem_append_right _ h)))) (by decide +kernel))) (goodIn_sub (fun _ h => List.mem_cons_of_mem _ (List.mem_append_left _ (List.mem_append_right _ h))) (by decide +kernel))) (goodIn_sub (fun _ h => List.mem_cons_of_mem _ (List.mem_append_right _ h)) (by decide +kernel))
set_option maxRecDepth 20000 in
theorem gL_areAnswersSo_X6_reallyOff : GoodIn wsL_areAnswersSo (wsV RL 83 RX6 yX6_reallyOff wsX6_reallyOff) := goodIn_app (goodIn_of _ (by decide +kernel)) ggL_areAnswersSo_X6_reallyOff
set_option maxRecDepth 20000 in
theorem ggL_areAnswersSo_X6_off : GoodIn wsL_areAnswersSo wsX6_off := goodIn_ca (goodIn_ca (goodIn_ca (goodIn_r _ [149, 91, 92, 93, 4, 94, 6, 7, 8, 9, 10, 11, 12, 95, 96, 97, 98, 99, 100, 101, 102, 103, 104, 105, 106, 107, 108, 14, 15, 16, 17, 18, 109, 110, 111, 112, 113, 114, 115, 116, 117, 118, 119, 26, 120, 28, 81, 121, 122, 123, 124, 125, 82, 83, 84, 85, 45, 46, 47, 33, 48, 35, 36, 37, 38, 39, 40, 41, 42, 43, 44, 126, 78, 79, 80, 86, 127, 70, 71, 72, 29, 73, 74, 75, 76, 150, 168, 169, 170, 171, 172, 173, 174, 175, 176, 177, 178, 179, 180] (by decide +kernel) (by decide +kernel)) (goodIn_sub (fun _ h => List.mem_cons_of_mem _ (List.mem_append_left _ (List.mem_append_left _ (List.mem_append_right _ h)))) (by decide +kernel))) (goodIn_sub (fun _ h => List.mem_cons_of_mem _ (List.mem_append_left _ (List.mem_append_right _ h))) (by decide +kernel))) (goodIn_sub (fun _ h => List.mem_cons_of_mem _ (List.mem_append_right _ h)) (by decide +kernel))
set_option maxRecDepth 20000 in
theorem gL_areAnswersSo_X6_off : GoodIn wsL_areAnswersSo (wsV RL 86 RX6 yX6_off wsX6_off) := goodIn_app (goodIn_of _ (by decide +kernel)) ggL_areAnswersSo_X6_off
set_option maxRecDepth 20000 in
theorem ggL_areAnswersSo_X6_middleByHeaps : GoodIn wsL_areAnswersSo wsX6_middleByHeaps := goodIn_ca (goodIn_ca (goodIn_r _ [154, 6, 7, 8, 4, 9, 10, 11, 12, 100, 101, 102, 103, 104, 105, 106, 107, 108, 14, 15, 16, 17, 18, 155, 156, 157, 158, 159, 160, 161, 162, 163, 164, 165, 166, 167, 37, 38, 33, 39, 40, 41, 42, 43, 44, 35, 168, 169, 170, 171, 172, 173, 174, 175, 181, 182, 183, 179, 180] (by decide +kernel) (by decide +kernel)) (goodIn_sub (fun _ h => List.mem_cons_of_mem _ (List.mem_append_left _ (List.mem_append_left _ (List.mem_append_right _ h)))) (by decide +kernel))) (goodIn_sub (fun _ h => List.mem_cons_of_mem _ (List.mem_append_right _ h)) (by decide +kernel))
set_option maxRecDepth 20000 in
theorem gL_areAnswersSo_X6_middleByHeaps : GoodIn wsL_areAnswersSo (wsV RL 89 RX6 yX6_middleByHeaps wsX6_middleByHeaps) := goodIn_app (goodIn_of _ (by decide +kernel)) ggL_areAnswersSo_X6_middleByHeaps
theorem dL_areAnswersSo_0 : decode cL_areAnswersSo 0 = .ok (.aload_n 0, 1) := by decide +kernel
theorem dL_areAnswersSo_1 : decode cL_areAnswersSo 1 = .ok (.iload_n 1, 1) := by decide +kernel
theorem dL_areAnswersSo_2 : decode cL_areAnswersSo 2 = .ok (.invokevirtual 14, 3) := by decide +kernel
theorem dL_areAnswersSo_5 : decode cL_areAnswersSo 5 = .ok (.istore 4, 2) := by decide +kernel
theorem dL_areAnswersSo_7 : decode cL_areAnswersSo 7 = .ok (.aload_n 0, 1) := by decide +kernel
theorem dL_areAnswersSo_8 : decode cL_areAnswersSo 8 = .ok (.iload_n 1, 1) := by decide +kernel
theorem dL_areAnswersSo_9 : decode cL_areAnswersSo 9 = .ok (.iload_n 3, 1) := by decide +kernel
theorem dL_areAnswersSo_10 : decode cL_areAnswersSo 10 = .ok (.invokevirtual 71, 3) := by decide +kernel
theorem dL_areAnswersSo_13 : decode cL_areAnswersSo 13 = .ok (.aload_n 0, 1) := by decide +kernel
theorem dL_areAnswersSo_14 : decode cL_areAnswersSo 14 = .ok (.iload_n 1, 1) := by decide +kernel
theorem dL_areAnswersSo_15 : decode cL_areAnswersSo 15 = .ok (.iload_n 3, 1) := by decide +kernel
theorem dL_areAnswersSo_16 : decode cL_areAnswersSo 16 = .ok (.invokevirtual 46, 3) := by decide +kernel
theorem dL_areAnswersSo_19 : decode cL_areAnswersSo 19 = .ok (.if_icmp .gt 33, 3) := by decide +kernel
theorem dL_areAnswersSo_22 : decode cL_areAnswersSo 22 = .ok (.aload_n 0, 1) := by decide +kernel
theorem dL_areAnswersSo_23 : decode cL_areAnswersSo 23 = .ok (.iload_n 1, 1) := by decide +kernel
theorem dL_areAnswersSo_24 : decode cL_areAnswersSo 24 = .ok (.iload_n 3, 1) := by decide +kernel
theorem dL_areAnswersSo_25 : decode cL_areAnswersSo 25 = .ok (.invokevirtual 46, 3) := by decide +kernel
theorem dL_areAnswersSo_28 : decode cL_areAnswersSo 28 = .ok (.aload_n 0, 1) := by decide +kernel
theorem dL_areAnswersSo_29 : decode cL_areAnswersSo 29 = .ok (.iload_n 1, 1) := by decide +kernel
theorem dL_areAnswersSo_30 : decode cL_areAnswersSo 30 = .ok (.iload_n 3, 1) := by decide +kernel
theorem dL_areAnswersSo_31 : decode cL_areAnswersSo 31 = .ok (.invokevirtual 74, 3) := by decide +kernel
theorem dL_areAnswersSo_34 : decode cL_areAnswersSo 34 = .ok (.if_icmp .gt 18, 3) := by decide +kernel
theorem dL_areAnswersSo_37 : decode cL_areAnswersSo 37 = .ok (.aload_n 0, 1) := by decide +kernel
theorem dL_areAnswersSo_38 : decode cL_areAnswersSo 38 = .ok (.iload_n 1, 1) := by decide +kernel
theorem dL_areAnswersSo_39 : decode cL_areAnswersSo 39 = .ok (.iload_n 3, 1) := by decide +kernel
theorem dL_areAnswersSo_40 : decode cL_areAnswersSo 40 = .ok (.invokevirtual 74, 3) := by decide +kernel
theorem dL_areAnswersSo_43 : decode cL_areAnswersSo 43 = .ok (.iload 4, 2) := by decide +kernel
theorem dL_areAnswersSo_45 : decode cL_areAnswersSo 45 = .ok (.if_icmp .gt 7, 3) := by decide +kernel
theorem dL_areAnswersSo_48 : decode cL_areAnswersSo 48 = .ok (.iconst 1, 1) := by decide +kernel
theorem dL_areAnswersSo_49 : decode cL_areAnswersSo 49 = .ok (.goto 4, 3) := by decide +kernel
theorem dL_areAnswersSo_52 : decode cL_areAnswersSo 52 = .ok (.iconst 0, 1) := by decide +kernel
theorem dL_areAnswersSo_53 : decode cL_areAnswersSo 53 = .ok (.istore 5, 2) := by decide +kernel
theorem dL_areAnswersSo_55 : decode cL_areAnswersSo 55 = .ok (.iload 4, 2) := by decide +kernel
theorem dL_areAnswersSo_57 : decode cL_areAnswersSo 57 = .ok (.ifCond .le 132, 3) := by decide +kernel
theorem dL_areAnswersSo_60 : decode cL_areAnswersSo 60 = .ok (.aload_n 0, 1) := by decide +kernel
theorem dL_areAnswersSo_61 : decode cL_areAnswersSo 61 = .ok (.iload_n 1, 1) := by decide +kernel
theorem dL_areAnswersSo_62 : decode cL_areAnswersSo 62 = .ok (.iload_n 2, 1) := by decide +kernel
theorem dL_areAnswersSo_63 : decode cL_areAnswersSo 63 = .ok (.invokevirtual 77, 3) := by decide +kernel
theorem dL_areAnswersSo_66 : decode cL_areAnswersSo 66 = .ok (.istore 6, 2) := by decide +kernel
theorem dL_areAnswersSo_68 : decode cL_areAnswersSo 68 = .ok (.aload_n 0, 1) := by decide +kernel
theorem dL_areAnswersSo_69 : decode cL_areAnswersSo 69 = .ok (.iload_n 1, 1) := by decide +kernel
theorem dL_areAnswersSo_70 : decode cL_areAnswersSo 70 = .ok (.invokevirtual 80, 3) := by decide +kernel
theorem dL_areAnswersSo_73 : decode cL_areAnswersSo 73 = .ok (.istore 7, 2) := by decide +kernel
theorem dL_areAnswersSo_75 : decode cL_areAnswersSo 75 = .ok (.iload 4, 2) := by decide +kernel
theorem dL_areAnswersSo_77 : decode cL_areAnswersSo 77 = .ok (.iconst 2, 1) := by decide +kernel
theorem dL_areAnswersSo_78 : decode cL_areAnswersSo 78 = .ok (.idiv, 1) := by decide +kernel
theorem dL_areAnswersSo_79 : decode cL_areAnswersSo 79 = .ok (.iload 4, 2) := by decide +kernel
theorem dL_areAnswersSo_81 : decode cL_areAnswersSo 81 = .ok (.iconst 2, 1) := by decide +kernel
theorem dL_areAnswersSo_82 : decode cL_areAnswersSo 82 = .ok (.irem, 1) := by decide +kernel
theorem dL_areAnswersSo_83 : decode cL_areAnswersSo 83 = .ok (.iadd, 1) := by decide +kernel
theorem dL_areAnswersSo_84 : decode cL_areAnswersSo 84 = .ok (.istore 8, 2) := by decide +kernel
theorem dL_areAnswersSo_86 : decode cL_areAnswersSo 86 = .ok (.iload 5, 2) := by decide +kernel
theorem dL_areAnswersSo_88 : decode cL_areAnswersSo 88 = .ok (.ifCond .eq 50, 3) := by decide +kernel
theorem dL_areAnswersSo_91 : decode cL_areAnswersSo 91 = .ok (.aload_n 0, 1) := by decide +kernel
theorem dL_areAnswersSo_92 : decode cL_areAnswersSo 92 = .ok (.iload_n 1, 1) := by decide +kernel
theorem dL_areAnswersSo_93 : decode cL_areAnswersSo 93 = .ok (.iload 6, 2) := by decide +kernel
theorem dL_areAnswersSo_95 : decode cL_areAnswersSo 95 = .ok (.invokevirtual 46, 3) := by decide +kernel
theorem dL_areAnswersSo_98 : decode cL_areAnswersSo 98 = .ok (.aload_n 0, 1) := by decide +kernel
theorem dL_areAnswersSo_99 : decode cL_areAnswersSo 99 = .ok (.iload_n 1, 1) := by decide +kernel
theorem dL_areAnswersSo_100 : decode cL_areAnswersSo 100 = .ok (.iload 6, 2) := by decide +kernel
theorem dL_areAnswersSo_102 : decode cL_areAnswersSo 102 = .ok (.iconst 1, 1) := by decide +kernel
theorem dL_areAnswersSo_103 : decode cL_areAnswersSo 103 = .ok (.isub, 1) := by decide +kernel
theorem dL_areAnswersSo_104 : decode cL_areAnswersSo 104 = .ok (.invokevirtual 46, 3) := by decide +kernel
theorem dL_areAnswersSo_107 : decode cL_areAnswersSo 107 = .ok (.if_icmp .le 31, 3) := by decide +kernel
theorem dL_areAnswersSo_110 : decode cL_areAnswersSo 110 = .ok (.aload_n 0, 1) := by decide +kernel
theorem dL_areAnswersSo_111 : decode cL_areAnswersSo 111 = .ok (.iload_n 1, 1) := by decide +kernel
theorem dL_areAnswersSo_112 : decode cL_areAnswersSo 112 = .ok (.iload_n 2, 1) := by decide +kernel
theorem dL_areAnswersSo_113 : decode cL_areAnswersSo 113 = .ok (.invokevirtual 83, 3) := by decide +kernel
theorem dL_areAnswersSo_116 : decode cL_areAnswersSo 116 = .ok (.aload_n 0, 1) := by decide +kernel
theorem dL_areAnswersSo_117 : decode cL_areAnswersSo 117 = .ok (.iload_n 1, 1) := by decide +kernel
theorem dL_areAnswersSo_118 : decode cL_areAnswersSo 118 = .ok (.iload_n 2, 1) := by decide +kernel
theorem dL_areAnswersSo_119 : decode cL_areAnswersSo 119 = .ok (.invokevirtual 86, 3) := by decide +kernel
theorem dL_areAnswersSo_122 : decode cL_areAnswersSo 122 = .ok (.if_icmp .gt 16, 3) := by decide +kernel
theorem dL_areAnswersSo_125 : decode cL_areAnswersSo 125 = .ok (.aload_n 0, 1) := by decide +kernel
theorem dL_areAnswersSo_126 : decode cL_areAnswersSo 126 = .ok (.iload_n 1, 1) := by decide +kernel
theorem dL_areAnswersSo_127 : decode cL_areAnswersSo 127 = .ok (.iload_n 2, 1) := by decide +kernel
theorem dL_areAnswersSo_128 : decode cL_areAnswersSo 128 = .ok (.invokevirtual 86, 3) := by decide +kernel
theorem dL_areAnswersSo_131 : decode cL_areAnswersSo 131 = .ok (.ifCond .lt 7, 3) := by decide +kernel
theorem dL_areAnswersSo_134 : decode cL_areAnswersSo 134 = .ok (.iconst 1, 1) := by decide +kernel
theorem dL_areAnswersSo_135 : decode cL_areAnswersSo 135 = .ok (.goto 4, 3) := by decide +kernel
theorem dL_areAnswersSo_138 : decode cL_areAnswersSo 138 = .ok (.iconst 0, 1) := by decide +kernel
theorem dL_areAnswersSo_139 : decode cL_areAnswersSo 139 = .ok (.istore 5, 2) := by decide +kernel
theorem dL_areAnswersSo_141 : decode cL_areAnswersSo 141 = .ok (.iload 5, 2) := by decide +kernel
theorem dL_areAnswersSo_143 : decode cL_areAnswersSo 143 = .ok (.ifCond .eq 43, 3) := by decide +kernel
theorem dL_areAnswersSo_146 : decode cL_areAnswersSo 146 = .ok (.iload 7, 2) := by decide +kernel
theorem dL_areAnswersSo_148 : decode cL_areAnswersSo 148 = .ok (.aload_n 0, 1) := by decide +kernel
theorem dL_areAnswersSo_149 : decode cL_areAnswersSo 149 = .ok (.iload_n 1, 1) := by decide +kernel
theorem dL_areAnswersSo_150 : decode cL_areAnswersSo 150 = .ok (.invokevirtual 89, 3) := by decide +kernel
theorem dL_areAnswersSo_153 : decode cL_areAnswersSo 153 = .ok (.if_icmp .ne 33, 3) := by decide +kernel
theorem dL_areAnswersSo_156 : decode cL_areAnswersSo 156 = .ok (.aload_n 0, 1) := by decide +kernel
theorem dL_areAnswersSo_157 : decode cL_areAnswersSo 157 = .ok (.iload_n 1, 1) := by decide +kernel
theorem dL_areAnswersSo_158 : decode cL_areAnswersSo 158 = .ok (.iload 7, 2) := by decide +kernel
theorem dL_areAnswersSo_160 : decode cL_areAnswersSo 160 = .ok (.invokevirtual 46, 3) := by decide +kernel
theorem dL_areAnswersSo_163 : decode cL_areAnswersSo 163 = .ok (.iload 8, 2) := by decide +kernel
theorem dL_areAnswersSo_165 : decode cL_areAnswersSo 165 = .ok (.if_icmp .lt 21, 3) := by decide +kernel
theorem dL_areAnswersSo_168 : decode cL_areAnswersSo 168 = .ok (.aload_n 0, 1) := by decide +kernel
theorem dL_areAnswersSo_169 : decode cL_areAnswersSo 169 = .ok (.iload_n 1, 1) := by decide +kernel
theorem dL_areAnswersSo_170 : decode cL_areAnswersSo 170 = .ok (.iload 7, 2) := by decide +kernel
theorem dL_areAnswersSo_172 : decode cL_areAnswersSo 172 = .ok (.iconst 1, 1) := by decide +kernel
theorem dL_areAnswersSo_173 : decode cL_areAnswersSo 173 = .ok (.isub, 1) := by decide +kernel
theorem dL_areAnswersSo_174 : decode cL_areAnswersSo 174 = .ok (.invokevirtual 46, 3) := by decide +kernel
theorem dL_areAnswersSo_177 : decode cL_areAnswersSo 177 = .ok (.iload 8, 2) := by decide +kernel
theorem dL_areAnswersSo_179 : decode cL_areAnswersSo 179 = .ok (.if_icmp .ge 7, 3) := by decide +kernel
theorem dL_areAnswersSo_182 : decode cL_areAnswersSo 182 = .ok (.iconst 1, 1) := by decide +kernel
theorem dL_areAnswersSo_183 : decode cL_areAnswersSo 183 = .ok (.goto 4, 3) := by decide +kernel
theorem dL_areAnswersSo_186 : decode cL_areAnswersSo 186 = .ok (.iconst 0, 1) := by decide +kernel
theorem dL_areAnswersSo_187 : decode cL_areAnswersSo 187 = .ok (.istore 5, 2) := by decide +kernel
theorem dL_areAnswersSo_189 : decode cL_areAnswersSo 189 = .ok (.iload 5, 2) := by decide +kernel
theorem dL_areAnswersSo_191 : decode cL_areAnswersSo 191 = .ok (.ireturn, 1) := by decide +kernel
abbrev vwCl : List vw_C := [(RX0, TX0, 4), (RX1, TX1, 2), (RX2, TX2, 1), (RX3, TX3, 3), (RX4, TX4, 2), (RX5, TX5, 3), (RX6, TX6, 1)]
