set_option maxRecDepth 20000 in
theorem ggX0_init_X3_init : GoodIn wsX0_init wsX3_init := goodIn_r _ [18, 19, 2, 3, 20, 21, 22, 23, 24, 25, 26, 27, 28, 29, 30, 62, 63, 50, 51, 52] (by decide +kernel) (by decide +kernel)
set_option maxRecDepth 20000 in
theorem gX0_init_X3_init_n11 : GoodIn wsX0_init (wsX3_init) := ggX0_init_X3_init
set_option maxRecDepth 20000 in
theorem ggX0_init_X5_init : GoodIn wsX0_init wsX5_init := goodIn_r _ [32, 33, 2, 3, 34, 21, 22, 35, 36, 26, 27, 28, 29, 30, 62, 63, 57, 58, 59] (by decide +kernel) (by decide +kernel)
set_option maxRecDepth 20000 in
theorem gX0_init_X5_init_n20 : GoodIn wsX0_init (wsX5_init) := ggX0_init_X5_init
set_option maxRecDepth 20000 in
theorem ggX0_init_X1_init : GoodIn wsX0_init wsX1_init := goodIn_r _ [38, 39, 2, 3, 40, 41, 42, 43, 44, 45, 46, 47, 48, 21, 22, 49, 26, 27, 28, 29, 30, 64, 60, 61, 62, 63] (by decide +kernel) (by decide +kernel)
set_option maxRecDepth 20000 in
theorem gX0_init_X1_init_n27 : GoodIn wsX0_init (wsX1_init) := ggX0_init_X1_init
theorem dX0_init_0 : decode cX0_init 0 = .ok (.aload_n 0, 1) := by decide +kernel
theorem dX0_init_1 : decode cX0_init 1 = .ok (.invokespecial 3, 3) := by decide +kernel
theorem dX0_init_4 : decode cX0_init 4 = .ok (.aload_n 0, 1) := by decide +kernel
theorem dX0_init_5 : decode cX0_init 5 = .ok (.new 9, 3) := by decide +kernel
theorem dX0_init_8 : decode cX0_init 8 = .ok (.dup, 1) := by decide +kernel
theorem dX0_init_9 : decode cX0_init 9 = .ok (.invokespecial 11, 3) := by decide +kernel
theorem dX0_init_12 : decode cX0_init 12 = .ok (.putfield 12, 3) := by decide +kernel
theorem dX0_init_15 : decode cX0_init 15 = .ok (.aload_n 0, 1) := by decide +kernel
theorem dX0_init_16 : decode cX0_init 16 = .ok (.new 18, 3) := by decide +kernel
theorem dX0_init_19 : decode cX0_init 19 = .ok (.dup, 1) := by decide +kernel
theorem dX0_init_20 : decode cX0_init 20 = .ok (.invokespecial 20, 3) := by decide +kernel
theorem dX0_init_23 : decode cX0_init 23 = .ok (.putfield 21, 3) := by decide +kernel
theorem dX0_init_26 : decode cX0_init 26 = .ok (.aload_n 0, 1) := by decide +kernel
theorem dX0_init_27 : decode cX0_init 27 = .ok (.new 25, 3) := by decide +kernel
theorem dX0_init_30 : decode cX0_init 30 = .ok (.dup, 1) := by decide +kernel
theorem dX0_init_31 : decode cX0_init 31 = .ok (.invokespecial 27, 3) := by decide +kernel
theorem dX0_init_34 : decode cX0_init 34 = .ok (.putfield 28, 3) := by decide +kernel
theorem dX0_init_37 : decode cX0_init 37 = .ok (.aload_n 0, 1) := by decide +kernel
theorem dX0_init_38 : decode cX0_init 38 = .ok (.bipush 50, 2) := by decide +kernel
theorem dX0_init_40 : decode cX0_init 40 = .ok (.putfield 32, 3) := by decide +kernel
theorem dX0_init_43 : decode cX0_init 43 = .ok (.return_, 1) := by decide +kernel
set_option maxRecDepth 20000 in
theorem ggX0_beginAnew_X3_clear : GoodIn wsX0_beginAnew wsX3_clear := goodIn_r _ [9, 10, 11, 12, 8, 13, 14, 15, 16, 17, 18, 19, 20, 21, 22, 50, 51, 52, 53, 54] (by decide +kernel) (by decide +kernel)
set_option maxRecDepth 20000 in
theorem gX0_beginAnew_X3_clear : GoodIn wsX0_beginAnew (wsV RX0 36 RX3 yX3_clear wsX3_clear) := goodIn_app (goodIn_of _ (by decide +kernel)) ggX0_beginAnew_X3_clear
set_option maxRecDepth 20000 in
theorem ggX0_beginAnew_X5_clear : GoodIn wsX0_beginAnew wsX5_clear := goodIn_r _ [27, 28, 29, 30, 31, 18, 19, 20, 21, 22, 55, 56, 57, 53, 54] (by decide +kernel) (by decide +kernel)
set_option maxRecDepth 20000 in
theorem gX0_beginAnew_X5_clear : GoodIn wsX0_beginAnew (wsV RX0 39 RX5 yX5_clear wsX5_clear) := goodIn_app (goodIn_of _ (by decide +kernel)) ggX0_beginAnew_X5_clear
set_option maxRecDepth 20000 in
theorem ggX0_beginAnew_X1_clear : GoodIn wsX0_beginAnew wsX1_clear := goodIn_r _ [36, 37, 38, 39, 40, 41, 42, 43, 44, 45, 18, 19, 20, 21, 22, 58, 59, 60, 53, 54] (by decide +kernel) (by decide +kernel)
set_option maxRecDepth 20000 in
theorem gX0_beginAnew_X1_clear : GoodIn wsX0_beginAnew (wsV RX0 40 RX1 yX1_clear wsX1_clear) := goodIn_app (goodIn_of _ (by decide +kernel)) ggX0_beginAnew_X1_clear
theorem dX0_beginAnew_0 : decode cX0_beginAnew 0 = .ok (.aload_n 0, 1) := by decide +kernel
theorem dX0_beginAnew_1 : decode cX0_beginAnew 1 = .ok (.iload_n 1, 1) := by decide +kernel
theorem dX0_beginAnew_2 : decode cX0_beginAnew 2 = .ok (.putfield 32, 3) := by decide +kernel
theorem dX0_beginAnew_5 : decode cX0_beginAnew 5 = .ok (.aload_n 0, 1) := by decide +kernel
theorem dX0_beginAnew_6 : decode cX0_beginAnew 6 = .ok (.getfield 12, 3) := by decide +kernel
theorem dX0_beginAnew_9 : decode cX0_beginAnew 9 = .ok (.invokevirtual 36, 3) := by decide +kernel
theorem dX0_beginAnew_12 : decode cX0_beginAnew 12 = .ok (.aload_n 0, 1) := by decide +kernel
theorem dX0_beginAnew_13 : decode cX0_beginAnew 13 = .ok (.getfield 21, 3) := by decide +kernel
theorem dX0_beginAnew_16 : decode cX0_beginAnew 16 = .ok (.invokevirtual 39, 3) := by decide +kernel
theorem dX0_beginAnew_19 : decode cX0_beginAnew 19 = .ok (.aload_n 0, 1) := by decide +kernel
theorem dX0_beginAnew_20 : decode cX0_beginAnew 20 = .ok (.getfield 28, 3) := by decide +kernel
theorem dX0_beginAnew_23 : decode cX0_beginAnew 23 = .ok (.invokevirtual 40, 3) := by decide +kernel
theorem dX0_beginAnew_26 : decode cX0_beginAnew 26 = .ok (.return_, 1) := by decide +kernel
set_option maxRecDepth 20000 in
theorem ggX0_demandRoomFor_X5_total : GoodIn wsX0_demandRoomFor wsX5_total := goodIn_r _ [8, 9, 14, 15, 16] (by decide +kernel) (by decide +kernel)
set_option maxRecDepth 20000 in
theorem gX0_demandRoomFor_X5_total : GoodIn wsX0_demandRoomFor (wsV RX0 41 RX5 yX5_total wsX5_total) := goodIn_app (goodIn_of _ (by decide +kernel)) ggX0_demandRoomFor_X5_total
theorem dX0_demandRoomFor_0 : decode cX0_demandRoomFor 0 = .ok (.aload_n 0, 1) := by decide +kernel
theorem dX0_demandRoomFor_1 : decode cX0_demandRoomFor 1 = .ok (.getfield 21, 3) := by decide +kernel
theorem dX0_demandRoomFor_4 : decode cX0_demandRoomFor 4 = .ok (.invokevirtual 41, 3) := by decide +kernel
theorem dX0_demandRoomFor_7 : decode cX0_demandRoomFor 7 = .ok (.iload_n 1, 1) := by decide +kernel
theorem dX0_demandRoomFor_8 : decode cX0_demandRoomFor 8 = .ok (.iadd, 1) := by decide +kernel
theorem dX0_demandRoomFor_9 : decode cX0_demandRoomFor 9 = .ok (.sipush 600, 3) := by decide +kernel
theorem dX0_demandRoomFor_12 : decode cX0_demandRoomFor 12 = .ok (.if_icmp .le 13, 3) := by decide +kernel
theorem dX0_demandRoomFor_15 : decode cX0_demandRoomFor 15 = .ok (.new 45, 3) := by decide +kernel
theorem dX0_demandRoomFor_18 : decode cX0_demandRoomFor 18 = .ok (.dup, 1) := by decide +kernel
theorem dX0_demandRoomFor_19 : decode cX0_demandRoomFor 19 = .ok (.ldc 47, 2) := by decide +kernel
theorem dX0_demandRoomFor_21 : decode cX0_demandRoomFor 21 = .ok (.invokespecial 49, 3) := by decide +kernel
theorem dX0_demandRoomFor_24 : decode cX0_demandRoomFor 24 = .ok (.athrow, 1) := by decide +kernel
theorem dX0_demandRoomFor_25 : decode cX0_demandRoomFor 25 = .ok (.return_, 1) := by decide +kernel
set_option maxRecDepth 20000 in
theorem ggX0_demandNumbers_X5_total : GoodIn wsX0_demandNumbers wsX5_total := goodIn_r _ [8, 9, 14, 15, 16] (by decide +kernel) (by decide +kernel)
set_option maxRecDepth 20000 in
theorem gX0_demandNumbers_X5_total : GoodIn wsX0_demandNumbers (wsV RX0 41 RX5 yX5_total wsX5_total) := goodIn_app (goodIn_of _ (by decide +kernel)) ggX0_demandNumbers_X5_total
theorem dX0_demandNumbers_0 : decode cX0_demandNumbers 0 = .ok (.aload_n 0, 1) := by decide +kernel
theorem dX0_demandNumbers_1 : decode cX0_demandNumbers 1 = .ok (.getfield 21, 3) := by decide +kernel
theorem dX0_demandNumbers_4 : decode cX0_demandNumbers 4 = .ok (.invokevirtual 41, 3) := by decide +kernel
theorem dX0_demandNumbers_7 : decode cX0_demandNumbers 7 = .ok (.ifCond .gt 13, 3) := by decide +kernel
theorem dX0_demandNumbers_10 : decode cX0_demandNumbers 10 = .ok (.new 45, 3) := by decide +kernel
theorem dX0_demandNumbers_13 : decode cX0_demandNumbers 13 = .ok (.dup, 1) := by decide +kernel
theorem dX0_demandNumbers_14 : decode cX0_demandNumbers 14 = .ok (.ldc 52, 2) := by decide +kernel
theorem dX0_demandNumbers_16 : decode cX0_demandNumbers 16 = .ok (.invokespecial 49, 3) := by decide +kernel
theorem dX0_demandNumbers_19 : decode cX0_demandNumbers 19 = .ok (.athrow, 1) := by decide +kernel
theorem dX0_demandNumbers_20 : decode cX0_demandNumbers 20 = .ok (.return_, 1) := by decide +kernel
set_option maxRecDepth 20000 in
theorem ggX0_allowed_X5_total : GoodIn wsX0_allowed wsX5_total := goodIn_r _ [7, 8, 13, 14, 15] (by decide +kernel) (by decide +kernel)
set_option maxRecDepth 20000 in
theorem gX0_allowed_X5_total : GoodIn wsX0_allowed (wsV RX0 41 RX5 yX5_total wsX5_total) := goodIn_app (goodIn_of _ (by decide +kernel)) ggX0_allowed_X5_total
theorem dX0_allowed_0 : decode cX0_allowed 0 = .ok (.iconst 2, 1) := by decide +kernel
theorem dX0_allowed_1 : decode cX0_allowed 1 = .ok (.aload_n 0, 1) := by decide +kernel
theorem dX0_allowed_2 : decode cX0_allowed 2 = .ok (.getfield 32, 3) := by decide +kernel
theorem dX0_allowed_5 : decode cX0_allowed 5 = .ok (.imul, 1) := by decide +kernel
theorem dX0_allowed_6 : decode cX0_allowed 6 = .ok (.aload_n 0, 1) := by decide +kernel
theorem dX0_allowed_7 : decode cX0_allowed 7 = .ok (.getfield 21, 3) := by decide +kernel
theorem dX0_allowed_10 : decode cX0_allowed 10 = .ok (.invokevirtual 41, 3) := by decide +kernel
theorem dX0_allowed_13 : decode cX0_allowed 13 = .ok (.imul, 1) := by decide +kernel
theorem dX0_allowed_14 : decode cX0_allowed 14 = .ok (.sipush 1000, 3) := by decide +kernel
theorem dX0_allowed_17 : decode cX0_allowed 17 = .ok (.idiv, 1) := by decide +kernel
theorem dX0_allowed_18 : decode cX0_allowed 18 = .ok (.ireturn, 1) := by decide +kernel
set_option maxRecDepth 20000 in
theorem ggX0_rankAt_X5_total : GoodIn wsX0_rankAt wsX5_total := goodIn_r _ [10, 11, 16, 17, 18] (by decide +kernel) (by decide +kernel)
set_option maxRecDepth 20000 in
theorem gX0_rankAt_X5_total : GoodIn wsX0_rankAt (wsV RX0 41 RX5 yX5_total wsX5_total) := goodIn_app (goodIn_of _ (by decide +kernel)) ggX0_rankAt_X5_total
theorem dX0_rankAt_0 : decode cX0_rankAt 0 = .ok (.iconst 1, 1) := by decide +kernel
theorem dX0_rankAt_1 : decode cX0_rankAt 1 = .ok (.iload_n 1, 1) := by decide +kernel
theorem dX0_rankAt_2 : decode cX0_rankAt 2 = .ok (.aload_n 0, 1) := by decide +kernel
theorem dX0_rankAt_3 : decode cX0_rankAt 3 = .ok (.getfield 21, 3) := by decide +kernel
theorem dX0_rankAt_6 : decode cX0_rankAt 6 = .ok (.invokevirtual 41, 3) := by decide +kernel
theorem dX0_rankAt_9 : decode cX0_rankAt 9 = .ok (.imul, 1) := by decide +kernel
theorem dX0_rankAt_10 : decode cX0_rankAt 10 = .ok (.sipush 1000, 3) := by decide +kernel
theorem dX0_rankAt_13 : decode cX0_rankAt 13 = .ok (.iadd, 1) := by decide +kernel
theorem dX0_rankAt_14 : decode cX0_rankAt 14 = .ok (.iconst 1, 1) := by decide +kernel
theorem dX0_rankAt_15 : decode cX0_rankAt 15 = .ok (.isub, 1) := by decide +kernel
theorem dX0_rankAt_16 : decode cX0_rankAt 16 = .ok (.sipush 1000, 3) := by decide +kernel
theorem dX0_rankAt_19 : decode cX0_rankAt 19 = .ok (.idiv, 1) := by decide +kernel
theorem dX0_rankAt_20 : decode cX0_rankAt 20 = .ok (.invokestatic 54, 3) := by decide +kernel
theorem dX0_rankAt_23 : decode cX0_rankAt 23 = .ok (.ireturn, 1) := by decide +kernel
set_option maxRecDepth 20000 in
theorem ggX0_take_X3_add : GoodIn wsX0_take wsX3_add := goodIn_r _ [8, 9, 10, 11, 12, 13, 14, 7, 15, 16, 17, 18, 19, 20, 21, 22, 23, 24, 25, 26, 27, 28, 29, 30, 31, 32, 33, 34, 35, 36, 37, 38, 39, 40, 41, 42, 43, 44, 45, 46, 47, 48, 49, 50, 51, 109, 110, 111, 112, 113] (by decide +kernel) (by decide +kernel)
set_option maxRecDepth 20000 in
theorem gX0_take_X3_add : GoodIn wsX0_take (wsV RX0 60 RX3 yX3_add wsX3_add) := goodIn_app (goodIn_of _ (by decide +kernel)) ggX0_take_X3_add
set_option maxRecDepth 20000 in
theorem ggX0_take_X5_add : GoodIn wsX0_take wsX5_add := goodIn_r _ [56, 57, 58, 59, 60, 17, 18, 19, 20, 21, 22, 23, 24, 25, 26, 27, 28, 29, 30, 61, 62, 63, 64, 65, 66, 45, 46, 47, 48, 49, 50, 51, 114, 115, 116, 112, 113] (by decide +kernel) (by decide +kernel)
set_option maxRecDepth 20000 in
theorem gX0_take_X5_add : GoodIn wsX0_take (wsV RX0 64 RX5 yX5_add wsX5_add) := goodIn_app (goodIn_of _ (by decide +kernel)) ggX0_take_X5_add
set_option maxRecDepth 20000 in
theorem ggX0_take_X1_add : GoodIn wsX0_take wsX1_add := goodIn_r _ [71, 72, 73, 74, 75, 76, 77, 78, 79, 80, 36, 37, 19, 38, 21, 81, 82, 83, 70, 84, 85, 86, 87, 88, 89, 23, 24, 25, 26, 27, 28, 29, 30, 90, 91, 92, 93, 94, 45, 46, 47, 48, 49, 50, 51, 95, 63, 64, 65, 96, 97, 98, 99, 100, 101, 102, 103, 104, 117, 118, 119, 112, 113] (by decide +kernel) (by decide +kernel)
set_option maxRecDepth 20000 in
theorem gX0_take_X1_add : GoodIn wsX0_take (wsV RX0 67 RX1 yX1_add wsX1_add) := goodIn_app (goodIn_of _ (by decide +kernel)) ggX0_take_X1_add
theorem dX0_take_0 : decode cX0_take 0 = .ok (.aload_n 0, 1) := by decide +kernel
theorem dX0_take_1 : decode cX0_take 1 = .ok (.getfield 12, 3) := by decide +kernel
theorem dX0_take_4 : decode cX0_take 4 = .ok (.iload_n 1, 1) := by decide +kernel
theorem dX0_take_5 : decode cX0_take 5 = .ok (.invokevirtual 60, 3) := by decide +kernel
theorem dX0_take_8 : decode cX0_take 8 = .ok (.aload_n 0, 1) := by decide +kernel
theorem dX0_take_9 : decode cX0_take 9 = .ok (.getfield 21, 3) := by decide +kernel
theorem dX0_take_12 : decode cX0_take 12 = .ok (.iload_n 1, 1) := by decide +kernel
theorem dX0_take_13 : decode cX0_take 13 = .ok (.iconst 1, 1) := by decide +kernel
theorem dX0_take_14 : decode cX0_take 14 = .ok (.invokevirtual 64, 3) := by decide +kernel
theorem dX0_take_17 : decode cX0_take 17 = .ok (.aload_n 0, 1) := by decide +kernel
theorem dX0_take_18 : decode cX0_take 18 = .ok (.getfield 28, 3) := by decide +kernel
theorem dX0_take_21 : decode cX0_take 21 = .ok (.iload_n 1, 1) := by decide +kernel
theorem dX0_take_22 : decode cX0_take 22 = .ok (.invokevirtual 67, 3) := by decide +kernel
theorem dX0_take_25 : decode cX0_take 25 = .ok (.return_, 1) := by decide +kernel
set_option maxRecDepth 20000 in
theorem ggX0_takeAll_X3_mergeWith : GoodIn wsX0_takeAll wsX3_mergeWith := goodIn_r _ [13, 14, 15, 16, 17, 18, 19, 12, 20, 21, 22, 23, 24, 25, 26, 27, 28, 29, 30, 31, 32, 33, 34, 35, 36, 37, 38, 39, 40, 41, 42, 43, 44, 45, 46, 47, 48, 49, 50, 51, 52, 53, 54, 55, 134, 135, 136, 137, 138] (by decide +kernel) (by decide +kernel)
set_option maxRecDepth 20000 in
theorem gX0_takeAll_X3_mergeWith : GoodIn wsX0_takeAll (wsV RX0 68 RX3 yX3_mergeWith wsX3_mergeWith) := goodIn_app (goodIn_of _ (by decide +kernel)) ggX0_takeAll_X3_mergeWith
set_option maxRecDepth 20000 in
theorem ggX0_takeAll_X5_kinds : GoodIn wsX0_takeAll wsX5_kinds := goodIn_r _ [60, 61, 62, 22, 23, 24, 25, 26, 139, 140, 141, 137, 138] (by decide +kernel) (by decide +kernel)
set_option maxRecDepth 20000 in
theorem gX0_takeAll_X5_kinds : GoodIn wsX0_takeAll (wsV RX0 72 RX5 yX5_kinds wsX5_kinds) := goodIn_app (goodIn_of _ (by decide +kernel)) ggX0_takeAll_X5_kinds
set_option maxRecDepth 20000 in
theorem ggX0_takeAll_X5_numberAt : GoodIn wsX0_takeAll wsX5_numberAt := goodIn_r _ [66, 61, 67, 28, 29, 24, 30, 31, 32, 33, 34, 35, 26, 139, 140, 141, 137, 138] (by decide +kernel) (by decide +kernel)
set_option maxRecDepth 20000 in
theorem gX0_takeAll_X5_numberAt : GoodIn wsX0_takeAll (wsV RX0 75 RX5 yX5_numberAt wsX5_numberAt) := goodIn_app (goodIn_of _ (by decide +kernel)) ggX0_takeAll_X5_numberAt
set_option maxRecDepth 20000 in
theorem ggX0_takeAll_X5_timesAt : GoodIn wsX0_takeAll wsX5_timesAt := goodIn_r _ [71, 72, 67, 28, 29, 24, 30, 31, 32, 33, 34, 35, 26, 139, 140, 141, 137, 138] (by decide +kernel) (by decide +kernel)
set_option maxRecDepth 20000 in
theorem gX0_takeAll_X5_timesAt : GoodIn wsX0_takeAll (wsV RX0 79 RX5 yX5_timesAt wsX5_timesAt) := goodIn_app (goodIn_of _ (by decide +kernel)) ggX0_takeAll_X5_timesAt
set_option maxRecDepth 20000 in
theorem ggX0_takeAll_X5_add : GoodIn wsX0_takeAll wsX5_add := goodIn_r _ [76, 61, 72, 77, 78, 79, 80, 24, 81, 26, 82, 28, 29, 30, 31, 32, 33, 34, 35, 67, 83, 49, 50, 51, 84, 85, 86, 87, 88, 89, 90, 91, 139, 140, 141, 137, 138] (by decide +kernel) (by decide +kernel)
set_option maxRecDepth 20000 in
theorem gX0_takeAll_X5_add : GoodIn wsX0_takeAll (wsV RX0 64 RX5 yX5_add wsX5_add) := goodIn_app (goodIn_of _ (by decide +kernel)) ggX0_takeAll_X5_add
set_option maxRecDepth 20000 in
theorem ggX0_takeAll_X1_add : GoodIn wsX0_takeAll wsX1_add := goodIn_r _ [96, 97, 98, 99, 100, 101, 102, 103, 104, 105, 22, 23, 24, 25, 26, 106, 107, 108, 95, 109, 110, 111, 112, 113, 114, 28, 29, 30, 31, 32, 33, 34, 35, 115, 116, 117, 118, 119, 85, 86, 87, 88, 89, 90, 91, 120, 49, 50, 51, 121, 122, 123, 124, 125, 126, 127, 128, 129, 142, 143, 144, 137, 138] (by decide +kernel) (by decide +kernel)
set_option maxRecDepth 20000 in
theorem gX0_takeAll_X1_add : GoodIn wsX0_takeAll (wsV RX0 67 RX1 yX1_add wsX1_add) := goodIn_app (goodIn_of _ (by decide +kernel)) ggX0_takeAll_X1_add
theorem dX0_takeAll_0 : decode cX0_takeAll 0 = .ok (.aload_n 0, 1) := by decide +kernel
theorem dX0_takeAll_1 : decode cX0_takeAll 1 = .ok (.aload_n 0, 1) := by decide +kernel
theorem dX0_takeAll_2 : decode cX0_takeAll 2 = .ok (.getfield 32, 3) := by decide +kernel
theorem dX0_takeAll_5 : decode cX0_takeAll 5 = .ok (.aload_n 1, 1) := by decide +kernel
theorem dX0_takeAll_6 : decode cX0_takeAll 6 = .ok (.getfield 32, 3) := by decide +kernel
theorem dX0_takeAll_9 : decode cX0_takeAll 9 = .ok (.invokestatic 54, 3) := by decide +kernel
theorem dX0_takeAll_12 : decode cX0_takeAll 12 = .ok (.putfield 32, 3) := by decide +kernel
theorem dX0_takeAll_15 : decode cX0_takeAll 15 = .ok (.aload_n 0, 1) := by decide +kernel
theorem dX0_takeAll_16 : decode cX0_takeAll 16 = .ok (.getfield 12, 3) := by decide +kernel
theorem dX0_takeAll_19 : decode cX0_takeAll 19 = .ok (.aload_n 1, 1) := by decide +kernel
theorem dX0_takeAll_20 : decode cX0_takeAll 20 = .ok (.getfield 12, 3) := by decide +kernel
theorem dX0_takeAll_23 : decode cX0_takeAll 23 = .ok (.invokevirtual 68, 3) := by decide +kernel
theorem dX0_takeAll_26 : decode cX0_takeAll 26 = .ok (.iconst 0, 1) := by decide +kernel
theorem dX0_takeAll_27 : decode cX0_takeAll 27 = .ok (.istore_n 2, 1) := by decide +kernel
theorem dX0_takeAll_28 : decode cX0_takeAll 28 = .ok (.iload_n 2, 1) := by decide +kernel
theorem dX0_takeAll_29 : decode cX0_takeAll 29 = .ok (.aload_n 1, 1) := by decide +kernel
theorem dX0_takeAll_30 : decode cX0_takeAll 30 = .ok (.getfield 21, 3) := by decide +kernel
theorem dX0_takeAll_33 : decode cX0_takeAll 33 = .ok (.invokevirtual 72, 3) := by decide +kernel
theorem dX0_takeAll_36 : decode cX0_takeAll 36 = .ok (.if_icmp .ge 62, 3) := by decide +kernel
theorem dX0_takeAll_39 : decode cX0_takeAll 39 = .ok (.aload_n 1, 1) := by decide +kernel
theorem dX0_takeAll_40 : decode cX0_takeAll 40 = .ok (.getfield 21, 3) := by decide +kernel
theorem dX0_takeAll_43 : decode cX0_takeAll 43 = .ok (.iload_n 2, 1) := by decide +kernel
theorem dX0_takeAll_44 : decode cX0_takeAll 44 = .ok (.invokevirtual 75, 3) := by decide +kernel
theorem dX0_takeAll_47 : decode cX0_takeAll 47 = .ok (.istore_n 3, 1) := by decide +kernel
theorem dX0_takeAll_48 : decode cX0_takeAll 48 = .ok (.aload_n 1, 1) := by decide +kernel
theorem dX0_takeAll_49 : decode cX0_takeAll 49 = .ok (.getfield 21, 3) := by decide +kernel
theorem dX0_takeAll_52 : decode cX0_takeAll 52 = .ok (.iload_n 2, 1) := by decide +kernel
theorem dX0_takeAll_53 : decode cX0_takeAll 53 = .ok (.invokevirtual 79, 3) := by decide +kernel
theorem dX0_takeAll_56 : decode cX0_takeAll 56 = .ok (.istore 4, 2) := by decide +kernel
theorem dX0_takeAll_58 : decode cX0_takeAll 58 = .ok (.aload_n 0, 1) := by decide +kernel
theorem dX0_takeAll_59 : decode cX0_takeAll 59 = .ok (.getfield 21, 3) := by decide +kernel
theorem dX0_takeAll_62 : decode cX0_takeAll 62 = .ok (.iload_n 3, 1) := by decide +kernel
theorem dX0_takeAll_63 : decode cX0_takeAll 63 = .ok (.iload 4, 2) := by decide +kernel
theorem dX0_takeAll_65 : decode cX0_takeAll 65 = .ok (.invokevirtual 64, 3) := by decide +kernel
theorem dX0_takeAll_68 : decode cX0_takeAll 68 = .ok (.iconst 0, 1) := by decide +kernel
theorem dX0_takeAll_69 : decode cX0_takeAll 69 = .ok (.istore 5, 2) := by decide +kernel
theorem dX0_takeAll_71 : decode cX0_takeAll 71 = .ok (.iload 5, 2) := by decide +kernel
theorem dX0_takeAll_73 : decode cX0_takeAll 73 = .ok (.iload 4, 2) := by decide +kernel
theorem dX0_takeAll_75 : decode cX0_takeAll 75 = .ok (.if_icmp .ge 17, 3) := by decide +kernel
theorem dX0_takeAll_78 : decode cX0_takeAll 78 = .ok (.aload_n 0, 1) := by decide +kernel
theorem dX0_takeAll_79 : decode cX0_takeAll 79 = .ok (.getfield 28, 3) := by decide +kernel
theorem dX0_takeAll_82 : decode cX0_takeAll 82 = .ok (.iload_n 3, 1) := by decide +kernel
theorem dX0_takeAll_83 : decode cX0_takeAll 83 = .ok (.invokevirtual 67, 3) := by decide +kernel
theorem dX0_takeAll_86 : decode cX0_takeAll 86 = .ok (.iinc 5 1, 3) := by decide +kernel
theorem dX0_takeAll_89 : decode cX0_takeAll 89 = .ok (.goto (-18), 3) := by decide +kernel
theorem dX0_takeAll_92 : decode cX0_takeAll 92 = .ok (.iinc 2 1, 3) := by decide +kernel
theorem dX0_takeAll_95 : decode cX0_takeAll 95 = .ok (.goto (-67), 3) := by decide +kernel
theorem dX0_takeAll_98 : decode cX0_takeAll 98 = .ok (.return_, 1) := by decide +kernel
set_option maxRecDepth 20000 in
theorem ggX1_init_X2_init : GoodIn wsX1_init wsX2_init := goodIn_r _ [10, 11, 2, 3, 12, 13, 14, 15, 16, 17, 18, 19, 20, 24, 25, 21] (by decide +kernel) (by decide +kernel)
set_option maxRecDepth 20000 in
theorem gX1_init_X2_init_n9 : GoodIn wsX1_init (wsX2_init) := ggX1_init_X2_init
theorem dX1_init_0 : decode cX1_init 0 = .ok (.aload_n 0, 1) := by decide +kernel
theorem dX1_init_1 : decode cX1_init 1 = .ok (.invokespecial 1, 3) := by decide +kernel
theorem dX1_init_4 : decode cX1_init 4 = .ok (.aload_n 0, 1) := by decide +kernel
theorem dX1_init_5 : decode cX1_init 5 = .ok (.new 7, 3) := by decide +kernel
theorem dX1_init_8 : decode cX1_init 8 = .ok (.dup, 1) := by decide +kernel
theorem dX1_init_9 : decode cX1_init 9 = .ok (.invokespecial 9, 3) := by decide +kernel
theorem dX1_init_12 : decode cX1_init 12 = .ok (.putfield 10, 3) := by decide +kernel
theorem dX1_init_15 : decode cX1_init 15 = .ok (.aload_n 0, 1) := by decide +kernel
theorem dX1_init_16 : decode cX1_init 16 = .ok (.new 7, 3) := by decide +kernel
theorem dX1_init_19 : decode cX1_init 19 = .ok (.dup, 1) := by decide +kernel
theorem dX1_init_20 : decode cX1_init 20 = .ok (.invokespecial 9, 3) := by decide +kernel
theorem dX1_init_23 : decode cX1_init 23 = .ok (.putfield 16, 3) := by decide +kernel
theorem dX1_init_26 : decode cX1_init 26 = .ok (.return_, 1) := by decide +kernel
set_option maxRecDepth 20000 in
theorem ggX1_clear_X2_clear : GoodIn wsX1_clear wsX2_clear := goodIn_r _ [7, 8, 9, 10, 11, 12, 13, 14, 17, 18, 19] (by decide +kernel) (by decide +kernel)
set_option maxRecDepth 20000 in
theorem gX1_clear_X2_clear : GoodIn wsX1_clear (wsV RX1 19 RX2 yX2_clear wsX2_clear) := goodIn_app (goodIn_of _ (by decide +kernel)) ggX1_clear_X2_clear
theorem dX1_clear_0 : decode cX1_clear 0 = .ok (.aload_n 0, 1) := by decide +kernel
theorem dX1_clear_1 : decode cX1_clear 1 = .ok (.getfield 10, 3) := by decide +kernel
theorem dX1_clear_4 : decode cX1_clear 4 = .ok (.invokevirtual 19, 3) := by decide +kernel
theorem dX1_clear_7 : decode cX1_clear 7 = .ok (.aload_n 0, 1) := by decide +kernel
theorem dX1_clear_8 : decode cX1_clear 8 = .ok (.getfield 16, 3) := by decide +kernel
theorem dX1_clear_11 : decode cX1_clear 11 = .ok (.invokevirtual 19, 3) := by decide +kernel
theorem dX1_clear_14 : decode cX1_clear 14 = .ok (.return_, 1) := by decide +kernel
set_option maxRecDepth 20000 in
theorem ggX1_greatestOfLesser_X2_least : GoodIn wsX1_greatestOfLesser wsX2_least := goodIn_r _ [6, 7, 8, 9, 10, 11, 12, 13, 14, 15, 16, 17, 18, 21, 22, 23] (by decide +kernel) (by decide +kernel)
set_option maxRecDepth 20000 in
theorem gX1_greatestOfLesser_X2_least : GoodIn wsX1_greatestOfLesser (wsV RX1 22 RX2 yX2_least wsX2_least) := goodIn_app (goodIn_of _ (by decide +kernel)) ggX1_greatestOfLesser_X2_least
theorem dX1_greatestOfLesser_0 : decode cX1_greatestOfLesser 0 = .ok (.aload_n 0, 1) := by decide +kernel
theorem dX1_greatestOfLesser_1 : decode cX1_greatestOfLesser 1 = .ok (.getfield 10, 3) := by decide +kernel
theorem dX1_greatestOfLesser_4 : decode cX1_greatestOfLesser 4 = .ok (.invokevirtual 22, 3) := by decide +kernel
theorem dX1_greatestOfLesser_7 : decode cX1_greatestOfLesser 7 = .ok (.ineg, 1) := by decide +kernel
theorem dX1_greatestOfLesser_8 : decode cX1_greatestOfLesser 8 = .ok (.ireturn, 1) := by decide +kernel
set_option maxRecDepth 20000 in
theorem ggX1_add_X2_size : GoodIn wsX1_add wsX2_size := goodIn_r _ [7, 8, 9, 10, 11, 12, 13, 14, 60, 61, 62] (by decide +kernel) (by decide +kernel)
set_option maxRecDepth 20000 in
theorem gX1_add_X2_size : GoodIn wsX1_add (wsV RX1 26 RX2 yX2_size wsX2_size) := goodIn_app (goodIn_of _ (by decide +kernel)) ggX1_add_X2_size
set_option maxRecDepth 20000 in
theorem ggX1_add_X1_greatestOfLesser : GoodIn wsX1_add wsX1_greatestOfLesser := goodIn_r _ [19, 1, 20, 21, 22, 6, 23, 8, 24, 25, 26, 12, 27, 28, 29, 30, 31, 32, 14, 58, 59, 60, 61, 62] (by decide +kernel) (by decide +kernel)
set_option maxRecDepth 20000 in
theorem gX1_add_X1_greatestOfLesser : GoodIn wsX1_add (wsV RX1 29 RX1 yX1_greatestOfLesser wsX1_greatestOfLesser) := goodIn_app (goodIn_of _ (by decide +kernel)) ggX1_add_X1_greatestOfLesser
set_option maxRecDepth 20000 in
theorem ggX1_add_X2_push : GoodIn wsX1_add wsX2_push := goodIn_r _ [36, 8, 9, 10, 11, 12, 13, 14, 37, 38, 39, 40, 28, 41, 42, 43, 44, 24, 25, 26, 27, 29, 30, 31, 32, 45, 46, 47, 48, 60, 61, 62] (by decide +kernel) (by decide +kernel)
set_option maxRecDepth 20000 in
theorem gX1_add_X2_push : GoodIn wsX1_add (wsV RX1 32 RX2 yX2_push wsX2_push) := goodIn_app (goodIn_of _ (by decide +kernel)) ggX1_add_X2_push
set_option maxRecDepth 20000 in
theorem ggX1_add_X2_pop : GoodIn wsX1_add wsX2_pop := goodIn_r _ [52, 8, 53, 21, 22, 6, 23, 24, 25, 26, 12, 27, 28, 29, 30, 31, 32, 14, 9, 10, 11, 13, 54, 55, 56, 57, 45, 46, 47, 48, 60, 61, 62] (by decide +kernel) (by decide +kernel)
set_option maxRecDepth 20000 in
theorem gX1_add_X2_pop : GoodIn wsX1_add (wsV RX1 36 RX2 yX2_pop wsX2_pop) := goodIn_app (goodIn_of _ (by decide +kernel)) ggX1_add_X2_pop
theorem dX1_add_0 : decode cX1_add 0 = .ok (.aload_n 0, 1) := by decide +kernel
theorem dX1_add_1 : decode cX1_add 1 = .ok (.getfield 10, 3) := by decide +kernel
theorem dX1_add_4 : decode cX1_add 4 = .ok (.invokevirtual 26, 3) := by decide +kernel
theorem dX1_add_7 : decode cX1_add 7 = .ok (.ifCond .le 22, 3) := by decide +kernel
theorem dX1_add_10 : decode cX1_add 10 = .ok (.iload_n 1, 1) := by decide +kernel
theorem dX1_add_11 : decode cX1_add 11 = .ok (.aload_n 0, 1) := by decide +kernel
theorem dX1_add_12 : decode cX1_add 12 = .ok (.invokevirtual 29, 3) := by decide +kernel
theorem dX1_add_15 : decode cX1_add 15 = .ok (.if_icmp .le 14, 3) := by decide +kernel
theorem dX1_add_18 : decode cX1_add 18 = .ok (.aload_n 0, 1) := by decide +kernel
theorem dX1_add_19 : decode cX1_add 19 = .ok (.getfield 16, 3) := by decide +kernel
theorem dX1_add_22 : decode cX1_add 22 = .ok (.iload_n 1, 1) := by decide +kernel
theorem dX1_add_23 : decode cX1_add 23 = .ok (.invokevirtual 32, 3) := by decide +kernel
theorem dX1_add_26 : decode cX1_add 26 = .ok (.goto 12, 3) := by decide +kernel
theorem dX1_add_29 : decode cX1_add 29 = .ok (.aload_n 0, 1) := by decide +kernel
theorem dX1_add_30 : decode cX1_add 30 = .ok (.getfield 10, 3) := by decide +kernel
theorem dX1_add_33 : decode cX1_add 33 = .ok (.iload_n 1, 1) := by decide +kernel
theorem dX1_add_34 : decode cX1_add 34 = .ok (.ineg, 1) := by decide +kernel
theorem dX1_add_35 : decode cX1_add 35 = .ok (.invokevirtual 32, 3) := by decide +kernel
theorem dX1_add_38 : decode cX1_add 38 = .ok (.aload_n 0, 1) := by decide +kernel
theorem dX1_add_39 : decode cX1_add 39 = .ok (.getfield 10, 3) := by decide +kernel
theorem dX1_add_42 : decode cX1_add 42 = .ok (.invokevirtual 26, 3) := by decide +kernel
theorem dX1_add_45 : decode cX1_add 45 = .ok (.aload_n 0, 1) := by decide +kernel
theorem dX1_add_46 : decode cX1_add 46 = .ok (.getfield 16, 3) := by decide +kernel
theorem dX1_add_49 : decode cX1_add 49 = .ok (.invokevirtual 26, 3) := by decide +kernel
theorem dX1_add_52 : decode cX1_add 52 = .ok (.iconst 1, 1) := by decide +kernel
theorem dX1_add_53 : decode cX1_add 53 = .ok (.iadd, 1) := by decide +kernel
theorem dX1_add_54 : decode cX1_add 54 = .ok (.if_icmp .le 21, 3) := by decide +kernel
theorem dX1_add_57 : decode cX1_add 57 = .ok (.aload_n 0, 1) := by decide +kernel
theorem dX1_add_58 : decode cX1_add 58 = .ok (.getfield 16, 3) := by decide +kernel
theorem dX1_add_61 : decode cX1_add 61 = .ok (.aload_n 0, 1) := by decide +kernel
theorem dX1_add_62 : decode cX1_add 62 = .ok (.getfield 10, 3) := by decide +kernel
theorem dX1_add_65 : decode cX1_add 65 = .ok (.invokevirtual 36, 3) := by decide +kernel
theorem dX1_add_68 : decode cX1_add 68 = .ok (.ineg, 1) := by decide +kernel
theorem dX1_add_69 : decode cX1_add 69 = .ok (.invokevirtual 32, 3) := by decide +kernel
theorem dX1_add_72 : decode cX1_add 72 = .ok (.goto 35, 3) := by decide +kernel
theorem dX1_add_75 : decode cX1_add 75 = .ok (.aload_n 0, 1) := by decide +kernel
theorem dX1_add_76 : decode cX1_add 76 = .ok (.getfield 16, 3) := by decide +kernel
theorem dX1_add_79 : decode cX1_add 79 = .ok (.invokevirtual 26, 3) := by decide +kernel
theorem dX1_add_82 : decode cX1_add 82 = .ok (.aload_n 0, 1) := by decide +kernel
theorem dX1_add_83 : decode cX1_add 83 = .ok (.getfield 10, 3) := by decide +kernel
theorem dX1_add_86 : decode cX1_add 86 = .ok (.invokevirtual 26, 3) := by decide +kernel
theorem dX1_add_89 : decode cX1_add 89 = .ok (.if_icmp .le 18, 3) := by decide +kernel
theorem dX1_add_92 : decode cX1_add 92 = .ok (.aload_n 0, 1) := by decide +kernel
theorem dX1_add_93 : decode cX1_add 93 = .ok (.getfield 10, 3) := by decide +kernel
theorem dX1_add_96 : decode cX1_add 96 = .ok (.aload_n 0, 1) := by decide +kernel
theorem dX1_add_97 : decode cX1_add 97 = .ok (.getfield 16, 3) := by decide +kernel
theorem dX1_add_100 : decode cX1_add 100 = .ok (.invokevirtual 36, 3) := by decide +kernel
theorem dX1_add_103 : decode cX1_add 103 = .ok (.ineg, 1) := by decide +kernel
theorem dX1_add_104 : decode cX1_add 104 = .ok (.invokevirtual 32, 3) := by decide +kernel
theorem dX1_add_107 : decode cX1_add 107 = .ok (.return_, 1) := by decide +kernel
set_option maxRecDepth 20000 in
theorem ggX2_init_X4_init : GoodIn wsX2_init wsX4_init := goodIn_r _ [9, 10, 2, 3, 11, 12, 13, 14] (by decide +kernel) (by decide +kernel)
set_option maxRecDepth 20000 in
theorem gX2_init_X4_init_n9 : GoodIn wsX2_init (wsX4_init) := ggX2_init_X4_init
theorem dX2_init_0 : decode cX2_init 0 = .ok (.aload_n 0, 1) := by decide +kernel
theorem dX2_init_1 : decode cX2_init 1 = .ok (.invokespecial 1, 3) := by decide +kernel
theorem dX2_init_4 : decode cX2_init 4 = .ok (.aload_n 0, 1) := by decide +kernel
theorem dX2_init_5 : decode cX2_init 5 = .ok (.new 7, 3) := by decide +kernel
theorem dX2_init_8 : decode cX2_init 8 = .ok (.dup, 1) := by decide +kernel
theorem dX2_init_9 : decode cX2_init 9 = .ok (.invokespecial 9, 3) := by decide +kernel
theorem dX2_init_12 : decode cX2_init 12 = .ok (.putfield 10, 3) := by decide +kernel
theorem dX2_init_15 : decode cX2_init 15 = .ok (.return_, 1) := by decide +kernel
set_option maxRecDepth 20000 in
theorem ggX2_clear_X4_cutTo : GoodIn wsX2_clear wsX4_cutTo := goodIn_r _ [6, 7, 9, 10] (by decide +kernel) (by decide +kernel)
set_option maxRecDepth 20000 in
theorem gX2_clear_X4_cutTo : GoodIn wsX2_clear (wsV RX2 16 RX4 yX4_cutTo wsX4_cutTo) := goodIn_app (goodIn_of _ (by decide +kernel)) ggX2_clear_X4_cutTo
theorem dX2_clear_0 : decode cX2_clear 0 = .ok (.aload_n 0, 1) := by decide +kernel
theorem dX2_clear_1 : decode cX2_clear 1 = .ok (.getfield 10, 3) := by decide +kernel
theorem dX2_clear_4 : decode cX2_clear 4 = .ok (.iconst 0, 1) := by decide +kernel
theorem dX2_clear_5 : decode cX2_clear 5 = .ok (.invokevirtual 16, 3) := by decide +kernel
theorem dX2_clear_8 : decode cX2_clear 8 = .ok (.return_, 1) := by decide +kernel
set_option maxRecDepth 20000 in
theorem ggX2_size_X4_size : GoodIn wsX2_size wsX4_size := goodIn_r _ [6, 7, 9, 10] (by decide +kernel) (by decide +kernel)
set_option maxRecDepth 20000 in
theorem gX2_size_X4_size : GoodIn wsX2_size (wsV RX2 20 RX4 yX4_size wsX4_size) := goodIn_app (goodIn_of _ (by decide +kernel)) ggX2_size_X4_size
theorem dX2_size_0 : decode cX2_size 0 = .ok (.aload_n 0, 1) := by decide +kernel
theorem dX2_size_1 : decode cX2_size 1 = .ok (.getfield 10, 3) := by decide +kernel
theorem dX2_size_4 : decode cX2_size 4 = .ok (.invokevirtual 20, 3) := by decide +kernel
theorem dX2_size_7 : decode cX2_size 7 = .ok (.ireturn, 1) := by decide +kernel
set_option maxRecDepth 20000 in
theorem ggX2_least_X4_at : GoodIn wsX2_least wsX4_at := goodIn_r _ [6, 7, 8, 9, 10, 5, 11, 12, 14, 15] (by decide +kernel) (by decide +kernel)
set_option maxRecDepth 20000 in
theorem gX2_least_X4_at : GoodIn wsX2_least (wsV RX2 24 RX4 yX4_at wsX4_at) := goodIn_app (goodIn_of _ (by decide +kernel)) ggX2_least_X4_at
theorem dX2_least_0 : decode cX2_least 0 = .ok (.aload_n 0, 1) := by decide +kernel
theorem dX2_least_1 : decode cX2_least 1 = .ok (.getfield 10, 3) := by decide +kernel
theorem dX2_least_4 : decode cX2_least 4 = .ok (.iconst 0, 1) := by decide +kernel
theorem dX2_least_5 : decode cX2_least 5 = .ok (.invokevirtual 24, 3) := by decide +kernel
theorem dX2_least_8 : decode cX2_least 8 = .ok (.ireturn, 1) := by decide +kernel
set_option maxRecDepth 20000 in
theorem ggX2_push_X4_size : GoodIn wsX2_push wsX4_size := goodIn_r _ [6, 7, 30, 31] (by decide +kernel) (by decide +kernel)
set_option maxRecDepth 20000 in
theorem gX2_push_X4_size : GoodIn wsX2_push (wsV RX2 20 RX4 yX4_size wsX4_size) := goodIn_app (goodIn_of _ (by decide +kernel)) ggX2_push_X4_size
set_option maxRecDepth 20000 in
theorem ggX2_push_X4_insert : GoodIn wsX2_push wsX4_insert := goodIn_r _ [11, 7, 12, 13, 14, 15, 16, 30, 31] (by decide +kernel) (by decide +kernel)
set_option maxRecDepth 20000 in
theorem gX2_push_X4_insert : GoodIn wsX2_push (wsV RX2 28 RX4 yX4_insert wsX4_insert) := goodIn_app (goodIn_of _ (by decide +kernel)) ggX2_push_X4_insert
set_option maxRecDepth 20000 in
theorem ggX2_push_X4_at : GoodIn wsX2_push wsX4_at := goodIn_r _ [20, 12, 21, 22, 23, 5, 24, 7, 30, 31] (by decide +kernel) (by decide +kernel)
set_option maxRecDepth 20000 in
theorem gX2_push_X4_at : GoodIn wsX2_push (wsV RX2 24 RX4 yX4_at wsX4_at) := goodIn_app (goodIn_of _ (by decide +kernel)) ggX2_push_X4_at
set_option maxRecDepth 20000 in
theorem ggX2_push_X4_put : GoodIn wsX2_push wsX4_put := goodIn_r _ [28, 12, 21, 22, 23, 5, 24, 7, 30, 31] (by decide +kernel) (by decide +kernel)
set_option maxRecDepth 20000 in
theorem gX2_push_X4_put : GoodIn wsX2_push (wsV RX2 32 RX4 yX4_put wsX4_put) := goodIn_app (goodIn_of _ (by decide +kernel)) ggX2_push_X4_put
theorem dX2_push_0 : decode cX2_push 0 = .ok (.aload_n 0, 1) := by decide +kernel
theorem dX2_push_1 : decode cX2_push 1 = .ok (.getfield 10, 3) := by decide +kernel
theorem dX2_push_4 : decode cX2_push 4 = .ok (.invokevirtual 20, 3) := by decide +kernel
theorem dX2_push_7 : decode cX2_push 7 = .ok (.istore_n 2, 1) := by decide +kernel
theorem dX2_push_8 : decode cX2_push 8 = .ok (.aload_n 0, 1) := by decide +kernel
theorem dX2_push_9 : decode cX2_push 9 = .ok (.getfield 10, 3) := by decide +kernel
theorem dX2_push_12 : decode cX2_push 12 = .ok (.iload_n 2, 1) := by decide +kernel
theorem dX2_push_13 : decode cX2_push 13 = .ok (.iload_n 1, 1) := by decide +kernel
theorem dX2_push_14 : decode cX2_push 14 = .ok (.invokevirtual 28, 3) := by decide +kernel
theorem dX2_push_17 : decode cX2_push 17 = .ok (.iload_n 2, 1) := by decide +kernel
theorem dX2_push_18 : decode cX2_push 18 = .ok (.ifCond .le 45, 3) := by decide +kernel
theorem dX2_push_21 : decode cX2_push 21 = .ok (.iload_n 2, 1) := by decide +kernel
theorem dX2_push_22 : decode cX2_push 22 = .ok (.iconst 1, 1) := by decide +kernel
theorem dX2_push_23 : decode cX2_push 23 = .ok (.isub, 1) := by decide +kernel
theorem dX2_push_24 : decode cX2_push 24 = .ok (.iconst 2, 1) := by decide +kernel
theorem dX2_push_25 : decode cX2_push 25 = .ok (.idiv, 1) := by decide +kernel
theorem dX2_push_26 : decode cX2_push 26 = .ok (.istore_n 3, 1) := by decide +kernel
theorem dX2_push_27 : decode cX2_push 27 = .ok (.aload_n 0, 1) := by decide +kernel
theorem dX2_push_28 : decode cX2_push 28 = .ok (.getfield 10, 3) := by decide +kernel
theorem dX2_push_31 : decode cX2_push 31 = .ok (.iload_n 3, 1) := by decide +kernel
theorem dX2_push_32 : decode cX2_push 32 = .ok (.invokevirtual 24, 3) := by decide +kernel
theorem dX2_push_35 : decode cX2_push 35 = .ok (.iload_n 1, 1) := by decide +kernel
theorem dX2_push_36 : decode cX2_push 36 = .ok (.if_icmp .gt 6, 3) := by decide +kernel
theorem dX2_push_39 : decode cX2_push 39 = .ok (.goto 24, 3) := by decide +kernel
theorem dX2_push_42 : decode cX2_push 42 = .ok (.aload_n 0, 1) := by decide +kernel
theorem dX2_push_43 : decode cX2_push 43 = .ok (.getfield 10, 3) := by decide +kernel
theorem dX2_push_46 : decode cX2_push 46 = .ok (.iload_n 2, 1) := by decide +kernel
theorem dX2_push_47 : decode cX2_push 47 = .ok (.aload_n 0, 1) := by decide +kernel
theorem dX2_push_48 : decode cX2_push 48 = .ok (.getfield 10, 3) := by decide +kernel
theorem dX2_push_51 : decode cX2_push 51 = .ok (.iload_n 3, 1) := by decide +kernel
theorem dX2_push_52 : decode cX2_push 52 = .ok (.invokevirtual 24, 3) := by decide +kernel
theorem dX2_push_55 : decode cX2_push 55 = .ok (.invokevirtual 32, 3) := by decide +kernel
theorem dX2_push_58 : decode cX2_push 58 = .ok (.iload_n 3, 1) := by decide +kernel
theorem dX2_push_59 : decode cX2_push 59 = .ok (.istore_n 2, 1) := by decide +kernel
theorem dX2_push_60 : decode cX2_push 60 = .ok (.goto (-43), 3) := by decide +kernel
theorem dX2_push_63 : decode cX2_push 63 = .ok (.aload_n 0, 1) := by decide +kernel
theorem dX2_push_64 : decode cX2_push 64 = .ok (.getfield 10, 3) := by decide +kernel
theorem dX2_push_67 : decode cX2_push 67 = .ok (.iload_n 2, 1) := by decide +kernel
theorem dX2_push_68 : decode cX2_push 68 = .ok (.iload_n 1, 1) := by decide +kernel
theorem dX2_push_69 : decode cX2_push 69 = .ok (.invokevirtual 32, 3) := by decide +kernel
theorem dX2_push_72 : decode cX2_push 72 = .ok (.return_, 1) := by decide +kernel
set_option maxRecDepth 20000 in
theorem ggX2_pop_X2_least : GoodIn wsX2_pop wsX2_least := goodIn_r _ [6, 1, 7, 8, 9, 10, 11, 12, 13, 14, 15, 16, 17, 30, 31, 32] (by decide +kernel) (by decide +kernel)
set_option maxRecDepth 20000 in
theorem gX2_pop_X2_least : GoodIn wsX2_pop (wsV RX2 35 RX2 yX2_least wsX2_least) := goodIn_app (goodIn_of _ (by decide +kernel)) ggX2_pop_X2_least
set_option maxRecDepth 20000 in
theorem ggX2_pop_X4_size : GoodIn wsX2_pop wsX4_size := goodIn_r _ [21, 17, 31, 32] (by decide +kernel) (by decide +kernel)
set_option maxRecDepth 20000 in
theorem gX2_pop_X4_size : GoodIn wsX2_pop (wsV RX2 20 RX4 yX4_size wsX4_size) := goodIn_app (goodIn_of _ (by decide +kernel)) ggX2_pop_X4_size
set_option maxRecDepth 20000 in
theorem ggX2_pop_X4_at : GoodIn wsX2_pop wsX4_at := goodIn_r _ [11, 12, 13, 14, 15, 10, 16, 17, 31, 32] (by decide +kernel) (by decide +kernel)
set_option maxRecDepth 20000 in
theorem gX2_pop_X4_at : GoodIn wsX2_pop (wsV RX2 24 RX4 yX4_at wsX4_at) := goodIn_app (goodIn_of _ (by decide +kernel)) ggX2_pop_X4_at
set_option maxRecDepth 20000 in
theorem ggX2_pop_X4_cutTo : GoodIn wsX2_pop wsX4_cutTo := goodIn_r _ [25, 17, 31, 32] (by decide +kernel) (by decide +kernel)
set_option maxRecDepth 20000 in
theorem gX2_pop_X4_cutTo : GoodIn wsX2_pop (wsV RX2 16 RX4 yX4_cutTo wsX4_cutTo) := goodIn_app (goodIn_of _ (by decide +kernel)) ggX2_pop_X4_cutTo
set_option maxRecDepth 20000 in
theorem ggX2_pop_X4_put : GoodIn wsX2_pop wsX4_put := goodIn_r _ [29, 12, 13, 14, 15, 10, 16, 17, 31, 32] (by decide +kernel) (by decide +kernel)
set_option maxRecDepth 20000 in
theorem gX2_pop_X4_put : GoodIn wsX2_pop (wsV RX2 32 RX4 yX4_put wsX4_put) := goodIn_app (goodIn_of _ (by decide +kernel)) ggX2_pop_X4_put
theorem dX2_pop_0 : decode cX2_pop 0 = .ok (.aload_n 0, 1) := by decide +kernel
theorem dX2_pop_1 : decode cX2_pop 1 = .ok (.invokevirtual 35, 3) := by decide +kernel
theorem dX2_pop_4 : decode cX2_pop 4 = .ok (.istore_n 1, 1) := by decide +kernel
theorem dX2_pop_5 : decode cX2_pop 5 = .ok (.aload_n 0, 1) := by decide +kernel
theorem dX2_pop_6 : decode cX2_pop 6 = .ok (.getfield 10, 3) := by decide +kernel
theorem dX2_pop_9 : decode cX2_pop 9 = .ok (.aload_n 0, 1) := by decide +kernel
theorem dX2_pop_10 : decode cX2_pop 10 = .ok (.getfield 10, 3) := by decide +kernel
theorem dX2_pop_13 : decode cX2_pop 13 = .ok (.invokevirtual 20, 3) := by decide +kernel
theorem dX2_pop_16 : decode cX2_pop 16 = .ok (.iconst 1, 1) := by decide +kernel
theorem dX2_pop_17 : decode cX2_pop 17 = .ok (.isub, 1) := by decide +kernel
theorem dX2_pop_18 : decode cX2_pop 18 = .ok (.invokevirtual 24, 3) := by decide +kernel
theorem dX2_pop_21 : decode cX2_pop 21 = .ok (.istore_n 2, 1) := by decide +kernel
theorem dX2_pop_22 : decode cX2_pop 22 = .ok (.aload_n 0, 1) := by decide +kernel
theorem dX2_pop_23 : decode cX2_pop 23 = .ok (.getfield 10, 3) := by decide +kernel
theorem dX2_pop_26 : decode cX2_pop 26 = .ok (.aload_n 0, 1) := by decide +kernel
theorem dX2_pop_27 : decode cX2_pop 27 = .ok (.getfield 10, 3) := by decide +kernel
theorem dX2_pop_30 : decode cX2_pop 30 = .ok (.invokevirtual 20, 3) := by decide +kernel
theorem dX2_pop_33 : decode cX2_pop 33 = .ok (.iconst 1, 1) := by decide +kernel
theorem dX2_pop_34 : decode cX2_pop 34 = .ok (.isub, 1) := by decide +kernel
theorem dX2_pop_35 : decode cX2_pop 35 = .ok (.invokevirtual 16, 3) := by decide +kernel
theorem dX2_pop_38 : decode cX2_pop 38 = .ok (.iconst 0, 1) := by decide +kernel
theorem dX2_pop_39 : decode cX2_pop 39 = .ok (.istore_n 3, 1) := by decide +kernel
theorem dX2_pop_40 : decode cX2_pop 40 = .ok (.iconst 1, 1) := by decide +kernel
theorem dX2_pop_41 : decode cX2_pop 41 = .ok (.istore 4, 2) := by decide +kernel
theorem dX2_pop_43 : decode cX2_pop 43 = .ok (.iload 4, 2) := by decide +kernel
theorem dX2_pop_45 : decode cX2_pop 45 = .ok (.aload_n 0, 1) := by decide +kernel
theorem dX2_pop_46 : decode cX2_pop 46 = .ok (.getfield 10, 3) := by decide +kernel
theorem dX2_pop_49 : decode cX2_pop 49 = .ok (.invokevirtual 20, 3) := by decide +kernel
theorem dX2_pop_52 : decode cX2_pop 52 = .ok (.if_icmp .ge 98, 3) := by decide +kernel
theorem dX2_pop_55 : decode cX2_pop 55 = .ok (.iload 4, 2) := by decide +kernel
theorem dX2_pop_57 : decode cX2_pop 57 = .ok (.iconst 1, 1) := by decide +kernel
theorem dX2_pop_58 : decode cX2_pop 58 = .ok (.iadd, 1) := by decide +kernel
theorem dX2_pop_59 : decode cX2_pop 59 = .ok (.istore 5, 2) := by decide +kernel
theorem dX2_pop_61 : decode cX2_pop 61 = .ok (.iload 5, 2) := by decide +kernel
theorem dX2_pop_63 : decode cX2_pop 63 = .ok (.aload_n 0, 1) := by decide +kernel
theorem dX2_pop_64 : decode cX2_pop 64 = .ok (.getfield 10, 3) := by decide +kernel
theorem dX2_pop_67 : decode cX2_pop 67 = .ok (.invokevirtual 20, 3) := by decide +kernel
theorem dX2_pop_70 : decode cX2_pop 70 = .ok (.if_icmp .ge 29, 3) := by decide +kernel
theorem dX2_pop_73 : decode cX2_pop 73 = .ok (.aload_n 0, 1) := by decide +kernel
theorem dX2_pop_74 : decode cX2_pop 74 = .ok (.getfield 10, 3) := by decide +kernel
theorem dX2_pop_77 : decode cX2_pop 77 = .ok (.iload 5, 2) := by decide +kernel
theorem dX2_pop_79 : decode cX2_pop 79 = .ok (.invokevirtual 24, 3) := by decide +kernel
theorem dX2_pop_82 : decode cX2_pop 82 = .ok (.aload_n 0, 1) := by decide +kernel
theorem dX2_pop_83 : decode cX2_pop 83 = .ok (.getfield 10, 3) := by decide +kernel
theorem dX2_pop_86 : decode cX2_pop 86 = .ok (.iload 4, 2) := by decide +kernel
theorem dX2_pop_88 : decode cX2_pop 88 = .ok (.invokevirtual 24, 3) := by decide +kernel
theorem dX2_pop_91 : decode cX2_pop 91 = .ok (.if_icmp .ge 8, 3) := by decide +kernel
theorem dX2_pop_94 : decode cX2_pop 94 = .ok (.iload 5, 2) := by decide +kernel
theorem dX2_pop_96 : decode cX2_pop 96 = .ok (.goto 5, 3) := by decide +kernel
theorem dX2_pop_99 : decode cX2_pop 99 = .ok (.iload 4, 2) := by decide +kernel
theorem dX2_pop_101 : decode cX2_pop 101 = .ok (.istore 6, 2) := by decide +kernel
theorem dX2_pop_103 : decode cX2_pop 103 = .ok (.aload_n 0, 1) := by decide +kernel
theorem dX2_pop_104 : decode cX2_pop 104 = .ok (.getfield 10, 3) := by decide +kernel
theorem dX2_pop_107 : decode cX2_pop 107 = .ok (.iload 6, 2) := by decide +kernel
theorem dX2_pop_109 : decode cX2_pop 109 = .ok (.invokevirtual 24, 3) := by decide +kernel
theorem dX2_pop_112 : decode cX2_pop 112 = .ok (.iload_n 2, 1) := by decide +kernel
theorem dX2_pop_113 : decode cX2_pop 113 = .ok (.if_icmp .lt 6, 3) := by decide +kernel
theorem dX2_pop_116 : decode cX2_pop 116 = .ok (.goto 34, 3) := by decide +kernel
theorem dX2_pop_119 : decode cX2_pop 119 = .ok (.aload_n 0, 1) := by decide +kernel
theorem dX2_pop_120 : decode cX2_pop 120 = .ok (.getfield 10, 3) := by decide +kernel
theorem dX2_pop_123 : decode cX2_pop 123 = .ok (.iload_n 3, 1) := by decide +kernel
theorem dX2_pop_124 : decode cX2_pop 124 = .ok (.aload_n 0, 1) := by decide +kernel
theorem dX2_pop_125 : decode cX2_pop 125 = .ok (.getfield 10, 3) := by decide +kernel
theorem dX2_pop_128 : decode cX2_pop 128 = .ok (.iload 6, 2) := by decide +kernel
theorem dX2_pop_130 : decode cX2_pop 130 = .ok (.invokevirtual 24, 3) := by decide +kernel
theorem dX2_pop_133 : decode cX2_pop 133 = .ok (.invokevirtual 32, 3) := by decide +kernel
theorem dX2_pop_136 : decode cX2_pop 136 = .ok (.iload 6, 2) := by decide +kernel
theorem dX2_pop_138 : decode cX2_pop 138 = .ok (.istore_n 3, 1) := by decide +kernel
theorem dX2_pop_139 : decode cX2_pop 139 = .ok (.iconst 2, 1) := by decide +kernel
theorem dX2_pop_140 : decode cX2_pop 140 = .ok (.iload 6, 2) := by decide +kernel
theorem dX2_pop_142 : decode cX2_pop 142 = .ok (.imul, 1) := by decide +kernel
theorem dX2_pop_143 : decode cX2_pop 143 = .ok (.iconst 1, 1) := by decide +kernel
theorem dX2_pop_144 : decode cX2_pop 144 = .ok (.iadd, 1) := by decide +kernel
theorem dX2_pop_145 : decode cX2_pop 145 = .ok (.istore 4, 2) := by decide +kernel
theorem dX2_pop_147 : decode cX2_pop 147 = .ok (.goto (-104), 3) := by decide +kernel
theorem dX2_pop_150 : decode cX2_pop 150 = .ok (.aload_n 0, 1) := by decide +kernel
theorem dX2_pop_151 : decode cX2_pop 151 = .ok (.getfield 10, 3) := by decide +kernel
theorem dX2_pop_154 : decode cX2_pop 154 = .ok (.iload_n 3, 1) := by decide +kernel
theorem dX2_pop_155 : decode cX2_pop 155 = .ok (.iload_n 2, 1) := by decide +kernel
theorem dX2_pop_156 : decode cX2_pop 156 = .ok (.invokevirtual 32, 3) := by decide +kernel
theorem dX2_pop_159 : decode cX2_pop 159 = .ok (.iload_n 1, 1) := by decide +kernel
theorem dX2_pop_160 : decode cX2_pop 160 = .ok (.ireturn, 1) := by decide +kernel
set_option maxRecDepth 20000 in
theorem ggX3_init_X4_init : GoodIn wsX3_init wsX4_init := goodIn_r _ [11, 12, 2, 3, 13, 14, 15, 16] (by decide +kernel) (by decide +kernel)
set_option maxRecDepth 20000 in
theorem gX3_init_X4_init_n9 : GoodIn wsX3_init (wsX4_init) := ggX3_init_X4_init
theorem dX3_init_0 : decode cX3_init 0 = .ok (.aload_n 0, 1) := by decide +kernel
theorem dX3_init_1 : decode cX3_init 1 = .ok (.invokespecial 1, 3) := by decide +kernel
theorem dX3_init_4 : decode cX3_init 4 = .ok (.aload_n 0, 1) := by decide +kernel
theorem dX3_init_5 : decode cX3_init 5 = .ok (.new 7, 3) := by decide +kernel
theorem dX3_init_8 : decode cX3_init 8 = .ok (.dup, 1) := by decide +kernel
theorem dX3_init_9 : decode cX3_init 9 = .ok (.invokespecial 9, 3) := by decide +kernel
theorem dX3_init_12 : decode cX3_init 12 = .ok (.putfield 10, 3) := by decide +kernel
theorem dX3_init_15 : decode cX3_init 15 = .ok (.aload_n 0, 1) := by decide +kernel
theorem dX3_init_16 : decode cX3_init 16 = .ok (.new 7, 3) := by decide +kernel
theorem dX3_init_19 : decode cX3_init 19 = .ok (.dup, 1) := by decide +kernel
theorem dX3_init_20 : decode cX3_init 20 = .ok (.invokespecial 9, 3) := by decide +kernel
theorem dX3_init_23 : decode cX3_init 23 = .ok (.putfield 16, 3) := by decide +kernel
theorem dX3_init_26 : decode cX3_init 26 = .ok (.aload_n 0, 1) := by decide +kernel
theorem dX3_init_27 : decode cX3_init 27 = .ok (.new 7, 3) := by decide +kernel
theorem dX3_init_30 : decode cX3_init 30 = .ok (.dup, 1) := by decide +kernel
theorem dX3_init_31 : decode cX3_init 31 = .ok (.invokespecial 9, 3) := by decide +kernel
theorem dX3_init_34 : decode cX3_init 34 = .ok (.putfield 19, 3) := by decide +kernel
theorem dX3_init_37 : decode cX3_init 37 = .ok (.return_, 1) := by decide +kernel
set_option maxRecDepth 20000 in
theorem ggX3_length_X4_size : GoodIn wsX3_length wsX4_size := goodIn_r _ [6, 7, 11, 12] (by decide +kernel) (by decide +kernel)
set_option maxRecDepth 20000 in
theorem gX3_length_X4_size : GoodIn wsX3_length (wsV RX3 22 RX4 yX4_size wsX4_size) := goodIn_app (goodIn_of _ (by decide +kernel)) ggX3_length_X4_size
theorem dX3_length_0 : decode cX3_length 0 = .ok (.aload_n 0, 1) := by decide +kernel
theorem dX3_length_1 : decode cX3_length 1 = .ok (.getfield 10, 3) := by decide +kernel
theorem dX3_length_4 : decode cX3_length 4 = .ok (.invokevirtual 22, 3) := by decide +kernel
theorem dX3_length_7 : decode cX3_length 7 = .ok (.ireturn, 1) := by decide +kernel
set_option maxRecDepth 20000 in
theorem ggX3_clear_X3_cutTo : GoodIn wsX3_clear wsX3_cutTo := goodIn_r _ [5, 6, 7, 8, 9, 10, 11, 12, 13, 14, 15, 16, 17, 18, 19] (by decide +kernel) (by decide +kernel)
set_option maxRecDepth 20000 in
theorem gX3_clear_X3_cutTo : GoodIn wsX3_clear (wsV RX3 26 RX3 yX3_cutTo wsX3_cutTo) := goodIn_app (goodIn_of _ (by decide +kernel)) ggX3_clear_X3_cutTo
theorem dX3_clear_0 : decode cX3_clear 0 = .ok (.aload_n 0, 1) := by decide +kernel
theorem dX3_clear_1 : decode cX3_clear 1 = .ok (.iconst 0, 1) := by decide +kernel
theorem dX3_clear_2 : decode cX3_clear 2 = .ok (.invokevirtual 26, 3) := by decide +kernel
theorem dX3_clear_5 : decode cX3_clear 5 = .ok (.return_, 1) := by decide +kernel
set_option maxRecDepth 20000 in
theorem ggX3_valueOf_X4_at : GoodIn wsX3_valueOf wsX4_at := goodIn_r _ [6, 7, 8, 9, 10, 5, 11, 12, 16, 17] (by decide +kernel) (by decide +kernel)
set_option maxRecDepth 20000 in
theorem gX3_valueOf_X4_at : GoodIn wsX3_valueOf (wsV RX3 30 RX4 yX4_at wsX4_at) := goodIn_app (goodIn_of _ (by decide +kernel)) ggX3_valueOf_X4_at
theorem dX3_valueOf_0 : decode cX3_valueOf 0 = .ok (.aload_n 0, 1) := by decide +kernel
theorem dX3_valueOf_1 : decode cX3_valueOf 1 = .ok (.getfield 10, 3) := by decide +kernel
theorem dX3_valueOf_4 : decode cX3_valueOf 4 = .ok (.iload_n 1, 1) := by decide +kernel
theorem dX3_valueOf_5 : decode cX3_valueOf 5 = .ok (.invokevirtual 30, 3) := by decide +kernel
theorem dX3_valueOf_8 : decode cX3_valueOf 8 = .ok (.ireturn, 1) := by decide +kernel
set_option maxRecDepth 20000 in
theorem ggX3_rankFrom_X4_sumOfFirst : GoodIn wsX3_rankFrom wsX4_sumOfFirst := goodIn_r _ [6, 7, 8, 9, 10, 5, 11, 12, 13, 14, 15, 16, 20, 21] (by decide +kernel) (by decide +kernel)
set_option maxRecDepth 20000 in
theorem gX3_rankFrom_X4_sumOfFirst : GoodIn wsX3_rankFrom (wsV RX3 34 RX4 yX4_sumOfFirst wsX4_sumOfFirst) := goodIn_app (goodIn_of _ (by decide +kernel)) ggX3_rankFrom_X4_sumOfFirst
theorem dX3_rankFrom_0 : decode cX3_rankFrom 0 = .ok (.aload_n 0, 1) := by decide +kernel
theorem dX3_rankFrom_1 : decode cX3_rankFrom 1 = .ok (.getfield 16, 3) := by decide +kernel
theorem dX3_rankFrom_4 : decode cX3_rankFrom 4 = .ok (.iload_n 1, 1) := by decide +kernel
theorem dX3_rankFrom_5 : decode cX3_rankFrom 5 = .ok (.iconst 1, 1) := by decide +kernel
theorem dX3_rankFrom_6 : decode cX3_rankFrom 6 = .ok (.iadd, 1) := by decide +kernel
theorem dX3_rankFrom_7 : decode cX3_rankFrom 7 = .ok (.invokevirtual 34, 3) := by decide +kernel
theorem dX3_rankFrom_10 : decode cX3_rankFrom 10 = .ok (.ireturn, 1) := by decide +kernel
set_option maxRecDepth 20000 in
theorem ggX3_rankTo_X3_rankFrom : GoodIn wsX3_rankTo wsX3_rankFrom := goodIn_r _ [6, 7, 8, 9, 10, 11, 12, 13, 14, 15, 16, 17, 18, 19, 20, 21, 22, 24, 25, 26, 27, 28] (by decide +kernel) (by decide +kernel)
set_option maxRecDepth 20000 in
theorem gX3_rankTo_X3_rankFrom : GoodIn wsX3_rankTo (wsV RX3 37 RX3 yX3_rankFrom wsX3_rankFrom) := goodIn_app (goodIn_of _ (by decide +kernel)) ggX3_rankTo_X3_rankFrom
set_option maxRecDepth 20000 in
theorem ggX3_rankTo_X4_at : GoodIn wsX3_rankTo wsX4_at := goodIn_r _ [17, 18, 19, 20, 21, 11, 22, 13, 27, 28] (by decide +kernel) (by decide +kernel)
set_option maxRecDepth 20000 in
theorem gX3_rankTo_X4_at : GoodIn wsX3_rankTo (wsV RX3 30 RX4 yX4_at wsX4_at) := goodIn_app (goodIn_of _ (by decide +kernel)) ggX3_rankTo_X4_at
theorem dX3_rankTo_0 : decode cX3_rankTo 0 = .ok (.aload_n 0, 1) := by decide +kernel
theorem dX3_rankTo_1 : decode cX3_rankTo 1 = .ok (.iload_n 1, 1) := by decide +kernel
theorem dX3_rankTo_2 : decode cX3_rankTo 2 = .ok (.invokevirtual 37, 3) := by decide +kernel
theorem dX3_rankTo_5 : decode cX3_rankTo 5 = .ok (.aload_n 0, 1) := by decide +kernel
theorem dX3_rankTo_6 : decode cX3_rankTo 6 = .ok (.getfield 19, 3) := by decide +kernel
theorem dX3_rankTo_9 : decode cX3_rankTo 9 = .ok (.iload_n 1, 1) := by decide +kernel
theorem dX3_rankTo_10 : decode cX3_rankTo 10 = .ok (.invokevirtual 30, 3) := by decide +kernel
theorem dX3_rankTo_13 : decode cX3_rankTo 13 = .ok (.iadd, 1) := by decide +kernel
theorem dX3_rankTo_14 : decode cX3_rankTo 14 = .ok (.ireturn, 1) := by decide +kernel
set_option maxRecDepth 20000 in
theorem ggX3_widthOf_X4_at : GoodIn wsX3_widthOf wsX4_at := goodIn_r _ [7, 8, 9, 10, 11, 6, 12, 13, 17, 18] (by decide +kernel) (by decide +kernel)
set_option maxRecDepth 20000 in
theorem gX3_widthOf_X4_at : GoodIn wsX3_widthOf (wsV RX3 30 RX4 yX4_at wsX4_at) := goodIn_app (goodIn_of _ (by decide +kernel)) ggX3_widthOf_X4_at
theorem dX3_widthOf_0 : decode cX3_widthOf 0 = .ok (.aload_n 0, 1) := by decide +kernel
theorem dX3_widthOf_1 : decode cX3_widthOf 1 = .ok (.getfield 16, 3) := by decide +kernel
theorem dX3_widthOf_4 : decode cX3_widthOf 4 = .ok (.iload_n 1, 1) := by decide +kernel
theorem dX3_widthOf_5 : decode cX3_widthOf 5 = .ok (.invokevirtual 30, 3) := by decide +kernel
theorem dX3_widthOf_8 : decode cX3_widthOf 8 = .ok (.aload_n 0, 1) := by decide +kernel
theorem dX3_widthOf_9 : decode cX3_widthOf 9 = .ok (.getfield 19, 3) := by decide +kernel
theorem dX3_widthOf_12 : decode cX3_widthOf 12 = .ok (.iload_n 1, 1) := by decide +kernel
theorem dX3_widthOf_13 : decode cX3_widthOf 13 = .ok (.invokevirtual 30, 3) := by decide +kernel
theorem dX3_widthOf_16 : decode cX3_widthOf 16 = .ok (.iadd, 1) := by decide +kernel
theorem dX3_widthOf_17 : decode cX3_widthOf 17 = .ok (.ireturn, 1) := by decide +kernel
set_option maxRecDepth 20000 in
theorem ggX3_greatestWidth_X3_length : GoodIn wsX3_greatestWidth wsX3_length := goodIn_r _ [9, 10, 11, 12, 13, 14, 15, 16, 32, 33, 34, 35, 36] (by decide +kernel) (by decide +kernel)
set_option maxRecDepth 20000 in
theorem gX3_greatestWidth_X3_length : GoodIn wsX3_greatestWidth (wsV RX3 40 RX3 yX3_length wsX3_length) := goodIn_app (goodIn_of _ (by decide +kernel)) ggX3_greatestWidth_X3_length
set_option maxRecDepth 20000 in
theorem ggX3_greatestWidth_X3_widthOf : GoodIn wsX3_greatestWidth wsX3_widthOf := goodIn_r _ [20, 21, 22, 23, 24, 25, 14, 26, 27, 28, 29, 30, 31, 16, 32, 33, 34, 35, 36] (by decide +kernel) (by decide +kernel)
set_option maxRecDepth 20000 in
theorem gX3_greatestWidth_X3_widthOf : GoodIn wsX3_greatestWidth (wsV RX3 43 RX3 yX3_widthOf wsX3_widthOf) := goodIn_app (goodIn_of _ (by decide +kernel)) ggX3_greatestWidth_X3_widthOf
theorem dX3_greatestWidth_0 : decode cX3_greatestWidth 0 = .ok (.iconst 0, 1) := by decide +kernel
theorem dX3_greatestWidth_1 : decode cX3_greatestWidth 1 = .ok (.istore_n 1, 1) := by decide +kernel
theorem dX3_greatestWidth_2 : decode cX3_greatestWidth 2 = .ok (.iconst 0, 1) := by decide +kernel
theorem dX3_greatestWidth_3 : decode cX3_greatestWidth 3 = .ok (.istore_n 2, 1) := by decide +kernel
theorem dX3_greatestWidth_4 : decode cX3_greatestWidth 4 = .ok (.iload_n 2, 1) := by decide +kernel
theorem dX3_greatestWidth_5 : decode cX3_greatestWidth 5 = .ok (.aload_n 0, 1) := by decide +kernel
theorem dX3_greatestWidth_6 : decode cX3_greatestWidth 6 = .ok (.invokevirtual 40, 3) := by decide +kernel
theorem dX3_greatestWidth_9 : decode cX3_greatestWidth 9 = .ok (.if_icmp .ge 19, 3) := by decide +kernel
theorem dX3_greatestWidth_12 : decode cX3_greatestWidth 12 = .ok (.iload_n 1, 1) := by decide +kernel
theorem dX3_greatestWidth_13 : decode cX3_greatestWidth 13 = .ok (.aload_n 0, 1) := by decide +kernel
theorem dX3_greatestWidth_14 : decode cX3_greatestWidth 14 = .ok (.iload_n 2, 1) := by decide +kernel
theorem dX3_greatestWidth_15 : decode cX3_greatestWidth 15 = .ok (.invokevirtual 43, 3) := by decide +kernel
theorem dX3_greatestWidth_18 : decode cX3_greatestWidth 18 = .ok (.invokestatic 46, 3) := by decide +kernel
theorem dX3_greatestWidth_21 : decode cX3_greatestWidth 21 = .ok (.istore_n 1, 1) := by decide +kernel
theorem dX3_greatestWidth_22 : decode cX3_greatestWidth 22 = .ok (.iinc 2 1, 3) := by decide +kernel
theorem dX3_greatestWidth_25 : decode cX3_greatestWidth 25 = .ok (.goto (-21), 3) := by decide +kernel
theorem dX3_greatestWidth_28 : decode cX3_greatestWidth 28 = .ok (.iload_n 1, 1) := by decide +kernel
theorem dX3_greatestWidth_29 : decode cX3_greatestWidth 29 = .ok (.ireturn, 1) := by decide +kernel
set_option maxRecDepth 20000 in
theorem ggX3_firstAbove_X4_notAbove : GoodIn wsX3_firstAbove wsX4_notAbove := goodIn_r _ [6, 7, 8, 9, 10, 5, 11, 12, 13, 14, 15, 16, 20, 21] (by decide +kernel) (by decide +kernel)
set_option maxRecDepth 20000 in
theorem gX3_firstAbove_X4_notAbove : GoodIn wsX3_firstAbove (wsV RX3 52 RX4 yX4_notAbove wsX4_notAbove) := goodIn_app (goodIn_of _ (by decide +kernel)) ggX3_firstAbove_X4_notAbove
theorem dX3_firstAbove_0 : decode cX3_firstAbove 0 = .ok (.aload_n 0, 1) := by decide +kernel
theorem dX3_firstAbove_1 : decode cX3_firstAbove 1 = .ok (.getfield 10, 3) := by decide +kernel
theorem dX3_firstAbove_4 : decode cX3_firstAbove 4 = .ok (.iload_n 1, 1) := by decide +kernel
theorem dX3_firstAbove_5 : decode cX3_firstAbove 5 = .ok (.invokevirtual 52, 3) := by decide +kernel
theorem dX3_firstAbove_8 : decode cX3_firstAbove 8 = .ok (.ireturn, 1) := by decide +kernel
set_option maxRecDepth 20000 in
theorem ggX3_atLeastNotAbove_X4_notAbove : GoodIn wsX3_atLeastNotAbove wsX4_notAbove := goodIn_r _ [7, 8, 9, 10, 11, 6, 12, 13, 14, 15, 16, 17, 25, 26] (by decide +kernel) (by decide +kernel)
set_option maxRecDepth 20000 in
theorem gX3_atLeastNotAbove_X4_notAbove : GoodIn wsX3_atLeastNotAbove (wsV RX3 52 RX4 yX4_notAbove wsX4_notAbove) := goodIn_app (goodIn_of _ (by decide +kernel)) ggX3_atLeastNotAbove_X4_notAbove
set_option maxRecDepth 20000 in
theorem ggX3_atLeastNotAbove_X4_sumOfFirst : GoodIn wsX3_atLeastNotAbove wsX4_sumOfFirst := goodIn_r _ [21, 8, 9, 10, 11, 6, 12, 13, 14, 15, 16, 17, 25, 26] (by decide +kernel) (by decide +kernel)
set_option maxRecDepth 20000 in
theorem gX3_atLeastNotAbove_X4_sumOfFirst : GoodIn wsX3_atLeastNotAbove (wsV RX3 34 RX4 yX4_sumOfFirst wsX4_sumOfFirst) := goodIn_app (goodIn_of _ (by decide +kernel)) ggX3_atLeastNotAbove_X4_sumOfFirst
theorem dX3_atLeastNotAbove_0 : decode cX3_atLeastNotAbove 0 = .ok (.aload_n 0, 1) := by decide +kernel
theorem dX3_atLeastNotAbove_1 : decode cX3_atLeastNotAbove 1 = .ok (.getfield 16, 3) := by decide +kernel
theorem dX3_atLeastNotAbove_4 : decode cX3_atLeastNotAbove 4 = .ok (.aload_n 0, 1) := by decide +kernel
theorem dX3_atLeastNotAbove_5 : decode cX3_atLeastNotAbove 5 = .ok (.getfield 10, 3) := by decide +kernel
theorem dX3_atLeastNotAbove_8 : decode cX3_atLeastNotAbove 8 = .ok (.iload_n 1, 1) := by decide +kernel
theorem dX3_atLeastNotAbove_9 : decode cX3_atLeastNotAbove 9 = .ok (.invokevirtual 52, 3) := by decide +kernel
theorem dX3_atLeastNotAbove_12 : decode cX3_atLeastNotAbove 12 = .ok (.invokevirtual 34, 3) := by decide +kernel
theorem dX3_atLeastNotAbove_15 : decode cX3_atLeastNotAbove 15 = .ok (.ireturn, 1) := by decide +kernel
set_option maxRecDepth 20000 in
theorem ggX3_offBy_X3_rankFrom : GoodIn wsX3_offBy wsX3_rankFrom := goodIn_r _ [9, 10, 11, 12, 13, 14, 15, 16, 17, 18, 19, 20, 21, 22, 23, 24, 25, 32, 33, 34, 35, 36] (by decide +kernel) (by decide +kernel)
set_option maxRecDepth 20000 in
theorem gX3_offBy_X3_rankFrom : GoodIn wsX3_offBy (wsV RX3 37 RX3 yX3_rankFrom wsX3_rankFrom) := goodIn_app (goodIn_of _ (by decide +kernel)) ggX3_offBy_X3_rankFrom
set_option maxRecDepth 20000 in
theorem ggX3_offBy_X3_rankTo : GoodIn wsX3_offBy wsX3_rankTo := goodIn_r _ [29, 30, 5, 6, 7, 8, 9, 10, 11, 12, 13, 14, 15, 16, 17, 18, 19, 20, 21, 22, 23, 24, 25, 31, 32, 33, 34, 35, 36] (by decide +kernel) (by decide +kernel)
set_option maxRecDepth 20000 in
theorem gX3_offBy_X3_rankTo : GoodIn wsX3_offBy (wsV RX3 55 RX3 yX3_rankTo wsX3_rankTo) := goodIn_app (goodIn_of _ (by decide +kernel)) ggX3_offBy_X3_rankTo
theorem dX3_offBy_0 : decode cX3_offBy 0 = .ok (.iload_n 2, 1) := by decide +kernel
theorem dX3_offBy_1 : decode cX3_offBy 1 = .ok (.aload_n 0, 1) := by decide +kernel
theorem dX3_offBy_2 : decode cX3_offBy 2 = .ok (.iload_n 1, 1) := by decide +kernel
theorem dX3_offBy_3 : decode cX3_offBy 3 = .ok (.invokevirtual 37, 3) := by decide +kernel
theorem dX3_offBy_6 : decode cX3_offBy 6 = .ok (.isub, 1) := by decide +kernel
theorem dX3_offBy_7 : decode cX3_offBy 7 = .ok (.aload_n 0, 1) := by decide +kernel
theorem dX3_offBy_8 : decode cX3_offBy 8 = .ok (.iload_n 1, 1) := by decide +kernel
theorem dX3_offBy_9 : decode cX3_offBy 9 = .ok (.invokevirtual 55, 3) := by decide +kernel
theorem dX3_offBy_12 : decode cX3_offBy 12 = .ok (.iload_n 2, 1) := by decide +kernel
theorem dX3_offBy_13 : decode cX3_offBy 13 = .ok (.isub, 1) := by decide +kernel
theorem dX3_offBy_14 : decode cX3_offBy 14 = .ok (.invokestatic 46, 3) := by decide +kernel
theorem dX3_offBy_17 : decode cX3_offBy 17 = .ok (.ireturn, 1) := by decide +kernel
set_option maxRecDepth 20000 in
theorem ggX3_answering_X3_offBy : GoodIn wsX3_answering wsX3_offBy := goodIn_r _ [11, 3, 4, 5, 6, 12, 13, 14, 10, 15, 1, 16, 17, 18, 19, 20, 21, 22, 23, 24, 25, 26, 27, 28, 29, 30, 31, 32, 33, 34, 2, 35, 45, 46, 47, 48, 49] (by decide +kernel) (by decide +kernel)
set_option maxRecDepth 20000 in
theorem gX3_answering_X3_offBy : GoodIn wsX3_answering (wsV RX3 58 RX3 yX3_offBy wsX3_offBy) := goodIn_app (goodIn_of _ (by decide +kernel)) ggX3_answering_X3_offBy
set_option maxRecDepth 20000 in
theorem ggX3_answering_X3_rankFrom : GoodIn wsX3_answering wsX3_rankFrom := goodIn_r _ [15, 1, 16, 17, 18, 19, 20, 21, 22, 23, 24, 25, 26, 27, 28, 29, 30, 45, 46, 47, 48, 49] (by decide +kernel) (by decide +kernel)
set_option maxRecDepth 20000 in
theorem gX3_answering_X3_rankFrom : GoodIn wsX3_answering (wsV RX3 37 RX3 yX3_rankFrom wsX3_rankFrom) := goodIn_app (goodIn_of _ (by decide +kernel)) ggX3_answering_X3_rankFrom
set_option maxRecDepth 20000 in
theorem ggX3_answering_X3_length : GoodIn wsX3_answering wsX3_length := goodIn_r _ [39, 40, 41, 42, 43, 19, 44, 21, 45, 46, 47, 48, 49] (by decide +kernel) (by decide +kernel)
set_option maxRecDepth 20000 in
theorem gX3_answering_X3_length : GoodIn wsX3_answering (wsV RX3 40 RX3 yX3_length wsX3_length) := goodIn_app (goodIn_of _ (by decide +kernel)) ggX3_answering_X3_length
set_option maxRecDepth 20000 in
theorem ggX3_answering_X4_at : GoodIn wsX3_answering wsX4_at := goodIn_r _ [25, 26, 27, 28, 29, 19, 30, 21, 48, 49] (by decide +kernel) (by decide +kernel)
set_option maxRecDepth 20000 in
theorem gX3_answering_X4_at : GoodIn wsX3_answering (wsV RX3 30 RX4 yX4_at wsX4_at) := goodIn_app (goodIn_of _ (by decide +kernel)) ggX3_answering_X4_at
theorem dX3_answering_0 : decode cX3_answering 0 = .ok (.iconst 0, 1) := by decide +kernel
theorem dX3_answering_1 : decode cX3_answering 1 = .ok (.istore_n 2, 1) := by decide +kernel
theorem dX3_answering_2 : decode cX3_answering 2 = .ok (.aload_n 0, 1) := by decide +kernel
theorem dX3_answering_3 : decode cX3_answering 3 = .ok (.iconst 0, 1) := by decide +kernel
theorem dX3_answering_4 : decode cX3_answering 4 = .ok (.iload_n 1, 1) := by decide +kernel
theorem dX3_answering_5 : decode cX3_answering 5 = .ok (.invokevirtual 58, 3) := by decide +kernel
theorem dX3_answering_8 : decode cX3_answering 8 = .ok (.istore_n 3, 1) := by decide +kernel
theorem dX3_answering_9 : decode cX3_answering 9 = .ok (.aload_n 0, 1) := by decide +kernel
theorem dX3_answering_10 : decode cX3_answering 10 = .ok (.iconst 0, 1) := by decide +kernel
theorem dX3_answering_11 : decode cX3_answering 11 = .ok (.invokevirtual 37, 3) := by decide +kernel
theorem dX3_answering_14 : decode cX3_answering 14 = .ok (.istore 4, 2) := by decide +kernel
theorem dX3_answering_16 : decode cX3_answering 16 = .ok (.iconst 1, 1) := by decide +kernel
theorem dX3_answering_17 : decode cX3_answering 17 = .ok (.istore 5, 2) := by decide +kernel
theorem dX3_answering_19 : decode cX3_answering 19 = .ok (.iload 5, 2) := by decide +kernel
theorem dX3_answering_21 : decode cX3_answering 21 = .ok (.aload_n 0, 1) := by decide +kernel
theorem dX3_answering_22 : decode cX3_answering 22 = .ok (.invokevirtual 40, 3) := by decide +kernel
theorem dX3_answering_25 : decode cX3_answering 25 = .ok (.if_icmp .ge 58, 3) := by decide +kernel
theorem dX3_answering_28 : decode cX3_answering 28 = .ok (.iload 4, 2) := by decide +kernel
theorem dX3_answering_30 : decode cX3_answering 30 = .ok (.aload_n 0, 1) := by decide +kernel
theorem dX3_answering_31 : decode cX3_answering 31 = .ok (.getfield 16, 3) := by decide +kernel
theorem dX3_answering_34 : decode cX3_answering 34 = .ok (.iload 5, 2) := by decide +kernel
theorem dX3_answering_36 : decode cX3_answering 36 = .ok (.invokevirtual 30, 3) := by decide +kernel
theorem dX3_answering_39 : decode cX3_answering 39 = .ok (.iadd, 1) := by decide +kernel
theorem dX3_answering_40 : decode cX3_answering 40 = .ok (.istore 4, 2) := by decide +kernel
theorem dX3_answering_42 : decode cX3_answering 42 = .ok (.iload_n 1, 1) := by decide +kernel
theorem dX3_answering_43 : decode cX3_answering 43 = .ok (.iload 4, 2) := by decide +kernel
theorem dX3_answering_45 : decode cX3_answering 45 = .ok (.isub, 1) := by decide +kernel
theorem dX3_answering_46 : decode cX3_answering 46 = .ok (.iload 4, 2) := by decide +kernel
theorem dX3_answering_48 : decode cX3_answering 48 = .ok (.aload_n 0, 1) := by decide +kernel
theorem dX3_answering_49 : decode cX3_answering 49 = .ok (.getfield 19, 3) := by decide +kernel
theorem dX3_answering_52 : decode cX3_answering 52 = .ok (.iload 5, 2) := by decide +kernel
theorem dX3_answering_54 : decode cX3_answering 54 = .ok (.invokevirtual 30, 3) := by decide +kernel
theorem dX3_answering_57 : decode cX3_answering 57 = .ok (.iadd, 1) := by decide +kernel
theorem dX3_answering_58 : decode cX3_answering 58 = .ok (.iload_n 1, 1) := by decide +kernel
theorem dX3_answering_59 : decode cX3_answering 59 = .ok (.isub, 1) := by decide +kernel
theorem dX3_answering_60 : decode cX3_answering 60 = .ok (.invokestatic 46, 3) := by decide +kernel
theorem dX3_answering_63 : decode cX3_answering 63 = .ok (.istore 6, 2) := by decide +kernel
theorem dX3_answering_65 : decode cX3_answering 65 = .ok (.iload 6, 2) := by decide +kernel
theorem dX3_answering_67 : decode cX3_answering 67 = .ok (.iload_n 3, 1) := by decide +kernel
theorem dX3_answering_68 : decode cX3_answering 68 = .ok (.if_icmp .ge 9, 3) := by decide +kernel
theorem dX3_answering_71 : decode cX3_answering 71 = .ok (.iload 6, 2) := by decide +kernel
theorem dX3_answering_73 : decode cX3_answering 73 = .ok (.istore_n 3, 1) := by decide +kernel
theorem dX3_answering_74 : decode cX3_answering 74 = .ok (.iload 5, 2) := by decide +kernel
theorem dX3_answering_76 : decode cX3_answering 76 = .ok (.istore_n 2, 1) := by decide +kernel
theorem dX3_answering_77 : decode cX3_answering 77 = .ok (.iinc 5 1, 3) := by decide +kernel
theorem dX3_answering_80 : decode cX3_answering 80 = .ok (.goto (-61), 3) := by decide +kernel
theorem dX3_answering_83 : decode cX3_answering 83 = .ok (.iload_n 2, 1) := by decide +kernel
theorem dX3_answering_84 : decode cX3_answering 84 = .ok (.ireturn, 1) := by decide +kernel
set_option maxRecDepth 20000 in
theorem ggX3_add_X3_firstAbove : GoodIn wsX3_add wsX3_firstAbove := goodIn_r _ [8, 1, 9, 10, 11, 12, 13, 14, 15, 16, 17, 18, 19, 20, 21, 22, 23, 45, 46, 47, 48, 49] (by decide +kernel) (by decide +kernel)
set_option maxRecDepth 20000 in
theorem gX3_add_X3_firstAbove : GoodIn wsX3_add (wsV RX3 61 RX3 yX3_firstAbove wsX3_firstAbove) := goodIn_app (goodIn_of _ (by decide +kernel)) ggX3_add_X3_firstAbove
set_option maxRecDepth 20000 in
theorem ggX3_add_X3_length : GoodIn wsX3_add wsX3_length := goodIn_r _ [27, 1, 28, 29, 30, 12, 31, 14, 45, 46, 47, 48, 49] (by decide +kernel) (by decide +kernel)
set_option maxRecDepth 20000 in
theorem gX3_add_X3_length : GoodIn wsX3_add (wsV RX3 40 RX3 yX3_length wsX3_length) := goodIn_app (goodIn_of _ (by decide +kernel)) ggX3_add_X3_length
set_option maxRecDepth 20000 in
theorem ggX3_add_X3_widthOf : GoodIn wsX3_add wsX3_widthOf := goodIn_r _ [35, 2, 3, 36, 16, 17, 12, 18, 19, 20, 21, 22, 23, 14, 45, 46, 47, 48, 49] (by decide +kernel) (by decide +kernel)
set_option maxRecDepth 20000 in
theorem gX3_add_X3_widthOf : GoodIn wsX3_add (wsV RX3 43 RX3 yX3_widthOf wsX3_widthOf) := goodIn_app (goodIn_of _ (by decide +kernel)) ggX3_add_X3_widthOf
set_option maxRecDepth 20000 in
theorem ggX3_add_X4_insert : GoodIn wsX3_add wsX4_insert := goodIn_r _ [40, 14, 19, 41, 42, 43, 44, 48, 49] (by decide +kernel) (by decide +kernel)
set_option maxRecDepth 20000 in
theorem gX3_add_X4_insert : GoodIn wsX3_add (wsV RX3 64 RX4 yX4_insert wsX4_insert) := goodIn_app (goodIn_of _ (by decide +kernel)) ggX3_add_X4_insert
theorem dX3_add_0 : decode cX3_add 0 = .ok (.aload_n 0, 1) := by decide +kernel
theorem dX3_add_1 : decode cX3_add 1 = .ok (.iload_n 1, 1) := by decide +kernel
theorem dX3_add_2 : decode cX3_add 2 = .ok (.invokevirtual 61, 3) := by decide +kernel
theorem dX3_add_5 : decode cX3_add 5 = .ok (.istore_n 2, 1) := by decide +kernel
theorem dX3_add_6 : decode cX3_add 6 = .ok (.iload_n 2, 1) := by decide +kernel
theorem dX3_add_7 : decode cX3_add 7 = .ok (.aload_n 0, 1) := by decide +kernel
theorem dX3_add_8 : decode cX3_add 8 = .ok (.invokevirtual 40, 3) := by decide +kernel
theorem dX3_add_11 : decode cX3_add 11 = .ok (.if_icmp .ge 13, 3) := by decide +kernel
theorem dX3_add_14 : decode cX3_add 14 = .ok (.aload_n 0, 1) := by decide +kernel
theorem dX3_add_15 : decode cX3_add 15 = .ok (.iload_n 2, 1) := by decide +kernel
theorem dX3_add_16 : decode cX3_add 16 = .ok (.invokevirtual 43, 3) := by decide +kernel
theorem dX3_add_19 : decode cX3_add 19 = .ok (.iconst 1, 1) := by decide +kernel
theorem dX3_add_20 : decode cX3_add 20 = .ok (.isub, 1) := by decide +kernel
theorem dX3_add_21 : decode cX3_add 21 = .ok (.goto 4, 3) := by decide +kernel
theorem dX3_add_24 : decode cX3_add 24 = .ok (.iconst 0, 1) := by decide +kernel
theorem dX3_add_25 : decode cX3_add 25 = .ok (.istore_n 3, 1) := by decide +kernel
theorem dX3_add_26 : decode cX3_add 26 = .ok (.aload_n 0, 1) := by decide +kernel
theorem dX3_add_27 : decode cX3_add 27 = .ok (.getfield 10, 3) := by decide +kernel
theorem dX3_add_30 : decode cX3_add 30 = .ok (.iload_n 2, 1) := by decide +kernel
theorem dX3_add_31 : decode cX3_add 31 = .ok (.iload_n 1, 1) := by decide +kernel
theorem dX3_add_32 : decode cX3_add 32 = .ok (.invokevirtual 64, 3) := by decide +kernel
theorem dX3_add_35 : decode cX3_add 35 = .ok (.aload_n 0, 1) := by decide +kernel
theorem dX3_add_36 : decode cX3_add 36 = .ok (.getfield 16, 3) := by decide +kernel
theorem dX3_add_39 : decode cX3_add 39 = .ok (.iload_n 2, 1) := by decide +kernel
theorem dX3_add_40 : decode cX3_add 40 = .ok (.iconst 1, 1) := by decide +kernel
theorem dX3_add_41 : decode cX3_add 41 = .ok (.invokevirtual 64, 3) := by decide +kernel
theorem dX3_add_44 : decode cX3_add 44 = .ok (.aload_n 0, 1) := by decide +kernel
theorem dX3_add_45 : decode cX3_add 45 = .ok (.getfield 19, 3) := by decide +kernel
theorem dX3_add_48 : decode cX3_add 48 = .ok (.iload_n 2, 1) := by decide +kernel
theorem dX3_add_49 : decode cX3_add 49 = .ok (.iload_n 3, 1) := by decide +kernel
theorem dX3_add_50 : decode cX3_add 50 = .ok (.invokevirtual 64, 3) := by decide +kernel
theorem dX3_add_53 : decode cX3_add 53 = .ok (.return_, 1) := by decide +kernel
set_option maxRecDepth 20000 in
theorem ggX3_thin_X3_length : GoodIn wsX3_thin wsX3_length := goodIn_r _ [6, 7, 8, 9, 10, 11, 12, 13, 48, 49, 50, 51, 52] (by decide +kernel) (by decide +kernel)
set_option maxRecDepth 20000 in
theorem gX3_thin_X3_length : GoodIn wsX3_thin (wsV RX3 40 RX3 yX3_length wsX3_length) := goodIn_app (goodIn_of _ (by decide +kernel)) ggX3_thin_X3_length
set_option maxRecDepth 20000 in
theorem ggX3_thin_X4_at : GoodIn wsX3_thin wsX4_at := goodIn_r _ [17, 18, 19, 20, 21, 11, 22, 13, 51, 52] (by decide +kernel) (by decide +kernel)
set_option maxRecDepth 20000 in
theorem gX3_thin_X4_at : GoodIn wsX3_thin (wsV RX3 30 RX4 yX4_at wsX4_at) := goodIn_app (goodIn_of _ (by decide +kernel)) ggX3_thin_X4_at
set_option maxRecDepth 20000 in
theorem ggX3_thin_X3_widthOf : GoodIn wsX3_thin wsX3_widthOf := goodIn_r _ [26, 1, 27, 14, 15, 16, 11, 17, 18, 19, 20, 21, 22, 13, 48, 49, 50, 51, 52] (by decide +kernel) (by decide +kernel)
set_option maxRecDepth 20000 in
theorem gX3_thin_X3_widthOf : GoodIn wsX3_thin (wsV RX3 43 RX3 yX3_widthOf wsX3_widthOf) := goodIn_app (goodIn_of _ (by decide +kernel)) ggX3_thin_X3_widthOf
set_option maxRecDepth 20000 in
theorem ggX3_thin_X4_put : GoodIn wsX3_thin wsX4_put := goodIn_r _ [31, 18, 19, 20, 21, 11, 22, 13, 51, 52] (by decide +kernel) (by decide +kernel)
set_option maxRecDepth 20000 in
theorem gX3_thin_X4_put : GoodIn wsX3_thin (wsV RX3 68 RX4 yX4_put wsX4_put) := goodIn_app (goodIn_of _ (by decide +kernel)) ggX3_thin_X4_put
set_option maxRecDepth 20000 in
theorem ggX3_thin_X3_dropWithoutGap : GoodIn wsX3_thin wsX3_dropWithoutGap := goodIn_r _ [35, 1, 7, 27, 2, 3, 4, 5, 6, 8, 9, 10, 11, 12, 13, 14, 15, 16, 17, 18, 19, 20, 21, 22, 36, 37, 38, 39, 28, 29, 30, 31, 40, 41, 42, 43, 44, 45, 46, 47, 48, 49, 50, 51, 52] (by decide +kernel) (by decide +kernel)
set_option maxRecDepth 20000 in
theorem gX3_thin_X3_dropWithoutGap : GoodIn wsX3_thin (wsV RX3 71 RX3 yX3_dropWithoutGap wsX3_dropWithoutGap) := goodIn_app (goodIn_of _ (by decide +kernel)) ggX3_thin_X3_dropWithoutGap
theorem dX3_thin_0 : decode cX3_thin 0 = .ok (.aload_n 0, 1) := by decide +kernel
theorem dX3_thin_1 : decode cX3_thin 1 = .ok (.invokevirtual 40, 3) := by decide +kernel
theorem dX3_thin_4 : decode cX3_thin 4 = .ok (.iconst 1, 1) := by decide +kernel
theorem dX3_thin_5 : decode cX3_thin 5 = .ok (.isub, 1) := by decide +kernel
theorem dX3_thin_6 : decode cX3_thin 6 = .ok (.istore_n 2, 1) := by decide +kernel
theorem dX3_thin_7 : decode cX3_thin 7 = .ok (.aload_n 0, 1) := by decide +kernel
theorem dX3_thin_8 : decode cX3_thin 8 = .ok (.invokevirtual 40, 3) := by decide +kernel
theorem dX3_thin_11 : decode cX3_thin 11 = .ok (.iconst 2, 1) := by decide +kernel
theorem dX3_thin_12 : decode cX3_thin 12 = .ok (.isub, 1) := by decide +kernel
theorem dX3_thin_13 : decode cX3_thin 13 = .ok (.istore_n 3, 1) := by decide +kernel
theorem dX3_thin_14 : decode cX3_thin 14 = .ok (.iload_n 3, 1) := by decide +kernel
theorem dX3_thin_15 : decode cX3_thin 15 = .ok (.iconst 1, 1) := by decide +kernel
theorem dX3_thin_16 : decode cX3_thin 16 = .ok (.if_icmp .lt 66, 3) := by decide +kernel
theorem dX3_thin_19 : decode cX3_thin 19 = .ok (.aload_n 0, 1) := by decide +kernel
theorem dX3_thin_20 : decode cX3_thin 20 = .ok (.getfield 16, 3) := by decide +kernel
theorem dX3_thin_23 : decode cX3_thin 23 = .ok (.iload_n 3, 1) := by decide +kernel
theorem dX3_thin_24 : decode cX3_thin 24 = .ok (.invokevirtual 30, 3) := by decide +kernel
theorem dX3_thin_27 : decode cX3_thin 27 = .ok (.aload_n 0, 1) := by decide +kernel
theorem dX3_thin_28 : decode cX3_thin 28 = .ok (.iload_n 2, 1) := by decide +kernel
theorem dX3_thin_29 : decode cX3_thin 29 = .ok (.invokevirtual 43, 3) := by decide +kernel
theorem dX3_thin_32 : decode cX3_thin 32 = .ok (.iadd, 1) := by decide +kernel
theorem dX3_thin_33 : decode cX3_thin 33 = .ok (.iload_n 1, 1) := by decide +kernel
theorem dX3_thin_34 : decode cX3_thin 34 = .ok (.if_icmp .gt 40, 3) := by decide +kernel
theorem dX3_thin_37 : decode cX3_thin 37 = .ok (.aload_n 0, 1) := by decide +kernel
theorem dX3_thin_38 : decode cX3_thin 38 = .ok (.getfield 16, 3) := by decide +kernel
theorem dX3_thin_41 : decode cX3_thin 41 = .ok (.iload_n 2, 1) := by decide +kernel
theorem dX3_thin_42 : decode cX3_thin 42 = .ok (.aload_n 0, 1) := by decide +kernel
theorem dX3_thin_43 : decode cX3_thin 43 = .ok (.getfield 16, 3) := by decide +kernel
theorem dX3_thin_46 : decode cX3_thin 46 = .ok (.iload_n 2, 1) := by decide +kernel
theorem dX3_thin_47 : decode cX3_thin 47 = .ok (.invokevirtual 30, 3) := by decide +kernel
theorem dX3_thin_50 : decode cX3_thin 50 = .ok (.aload_n 0, 1) := by decide +kernel
theorem dX3_thin_51 : decode cX3_thin 51 = .ok (.getfield 16, 3) := by decide +kernel
theorem dX3_thin_54 : decode cX3_thin 54 = .ok (.iload_n 3, 1) := by decide +kernel
theorem dX3_thin_55 : decode cX3_thin 55 = .ok (.invokevirtual 30, 3) := by decide +kernel
theorem dX3_thin_58 : decode cX3_thin 58 = .ok (.iadd, 1) := by decide +kernel
theorem dX3_thin_59 : decode cX3_thin 59 = .ok (.invokevirtual 68, 3) := by decide +kernel
theorem dX3_thin_62 : decode cX3_thin 62 = .ok (.aload_n 0, 1) := by decide +kernel
theorem dX3_thin_63 : decode cX3_thin 63 = .ok (.getfield 16, 3) := by decide +kernel
theorem dX3_thin_66 : decode cX3_thin 66 = .ok (.iload_n 3, 1) := by decide +kernel
theorem dX3_thin_67 : decode cX3_thin 67 = .ok (.iconst 0, 1) := by decide +kernel
theorem dX3_thin_68 : decode cX3_thin 68 = .ok (.invokevirtual 68, 3) := by decide +kernel
theorem dX3_thin_71 : decode cX3_thin 71 = .ok (.goto 5, 3) := by decide +kernel
theorem dX3_thin_74 : decode cX3_thin 74 = .ok (.iload_n 3, 1) := by decide +kernel
theorem dX3_thin_75 : decode cX3_thin 75 = .ok (.istore_n 2, 1) := by decide +kernel
theorem dX3_thin_76 : decode cX3_thin 76 = .ok (.iinc 3 (-1), 3) := by decide +kernel
theorem dX3_thin_79 : decode cX3_thin 79 = .ok (.goto (-65), 3) := by decide +kernel
theorem dX3_thin_82 : decode cX3_thin 82 = .ok (.aload_n 0, 1) := by decide +kernel
theorem dX3_thin_83 : decode cX3_thin 83 = .ok (.invokevirtual 71, 3) := by decide +kernel
theorem dX3_thin_86 : decode cX3_thin 86 = .ok (.return_, 1) := by decide +kernel
set_option maxRecDepth 20000 in
theorem ggX3_dropWithoutGap_X3_length : GoodIn wsX3_dropWithoutGap wsX3_length := goodIn_r _ [8, 2, 9, 10, 11, 12, 13, 14, 40, 41, 42, 43, 44] (by decide +kernel) (by decide +kernel)
set_option maxRecDepth 20000 in
theorem gX3_dropWithoutGap_X3_length : GoodIn wsX3_dropWithoutGap (wsV RX3 40 RX3 yX3_length wsX3_length) := goodIn_app (goodIn_of _ (by decide +kernel)) ggX3_dropWithoutGap_X3_length
set_option maxRecDepth 20000 in
theorem ggX3_dropWithoutGap_X4_at : GoodIn wsX3_dropWithoutGap wsX4_at := goodIn_r _ [18, 19, 20, 21, 22, 12, 23, 14, 43, 44] (by decide +kernel) (by decide +kernel)
set_option maxRecDepth 20000 in
theorem gX3_dropWithoutGap_X4_at : GoodIn wsX3_dropWithoutGap (wsV RX3 30 RX4 yX4_at wsX4_at) := goodIn_app (goodIn_of _ (by decide +kernel)) ggX3_dropWithoutGap_X4_at
set_option maxRecDepth 20000 in
theorem ggX3_dropWithoutGap_X3_write : GoodIn wsX3_dropWithoutGap wsX3_write := goodIn_r _ [27, 2, 1, 3, 28, 29, 30, 12, 31, 19, 20, 21, 22, 23, 14, 40, 41, 42, 43, 44] (by decide +kernel) (by decide +kernel)
set_option maxRecDepth 20000 in
theorem gX3_dropWithoutGap_X3_write : GoodIn wsX3_dropWithoutGap (wsV RX3 74 RX3 yX3_write wsX3_write) := goodIn_app (goodIn_of _ (by decide +kernel)) ggX3_dropWithoutGap_X3_write
set_option maxRecDepth 20000 in
theorem ggX3_dropWithoutGap_X3_cutTo : GoodIn wsX3_dropWithoutGap wsX3_cutTo := goodIn_r _ [35, 2, 1, 3, 36, 37, 38, 12, 39, 14, 40, 41, 42, 43, 44] (by decide +kernel) (by decide +kernel)
set_option maxRecDepth 20000 in
theorem gX3_dropWithoutGap_X3_cutTo : GoodIn wsX3_dropWithoutGap (wsV RX3 26 RX3 yX3_cutTo wsX3_cutTo) := goodIn_app (goodIn_of _ (by decide +kernel)) ggX3_dropWithoutGap_X3_cutTo
theorem dX3_dropWithoutGap_0 : decode cX3_dropWithoutGap 0 = .ok (.iconst 0, 1) := by decide +kernel
theorem dX3_dropWithoutGap_1 : decode cX3_dropWithoutGap 1 = .ok (.istore_n 1, 1) := by decide +kernel
theorem dX3_dropWithoutGap_2 : decode cX3_dropWithoutGap 2 = .ok (.iconst 0, 1) := by decide +kernel
theorem dX3_dropWithoutGap_3 : decode cX3_dropWithoutGap 3 = .ok (.istore_n 2, 1) := by decide +kernel
theorem dX3_dropWithoutGap_4 : decode cX3_dropWithoutGap 4 = .ok (.iload_n 2, 1) := by decide +kernel
theorem dX3_dropWithoutGap_5 : decode cX3_dropWithoutGap 5 = .ok (.aload_n 0, 1) := by decide +kernel
theorem dX3_dropWithoutGap_6 : decode cX3_dropWithoutGap 6 = .ok (.invokevirtual 40, 3) := by decide +kernel
theorem dX3_dropWithoutGap_9 : decode cX3_dropWithoutGap 9 = .ok (.if_icmp .ge 52, 3) := by decide +kernel
theorem dX3_dropWithoutGap_12 : decode cX3_dropWithoutGap 12 = .ok (.aload_n 0, 1) := by decide +kernel
theorem dX3_dropWithoutGap_13 : decode cX3_dropWithoutGap 13 = .ok (.getfield 16, 3) := by decide +kernel
theorem dX3_dropWithoutGap_16 : decode cX3_dropWithoutGap 16 = .ok (.iload_n 2, 1) := by decide +kernel
theorem dX3_dropWithoutGap_17 : decode cX3_dropWithoutGap 17 = .ok (.invokevirtual 30, 3) := by decide +kernel
theorem dX3_dropWithoutGap_20 : decode cX3_dropWithoutGap 20 = .ok (.ifCond .le 35, 3) := by decide +kernel
theorem dX3_dropWithoutGap_23 : decode cX3_dropWithoutGap 23 = .ok (.aload_n 0, 1) := by decide +kernel
theorem dX3_dropWithoutGap_24 : decode cX3_dropWithoutGap 24 = .ok (.iload_n 1, 1) := by decide +kernel
theorem dX3_dropWithoutGap_25 : decode cX3_dropWithoutGap 25 = .ok (.aload_n 0, 1) := by decide +kernel
theorem dX3_dropWithoutGap_26 : decode cX3_dropWithoutGap 26 = .ok (.getfield 10, 3) := by decide +kernel
theorem dX3_dropWithoutGap_29 : decode cX3_dropWithoutGap 29 = .ok (.iload_n 2, 1) := by decide +kernel
theorem dX3_dropWithoutGap_30 : decode cX3_dropWithoutGap 30 = .ok (.invokevirtual 30, 3) := by decide +kernel
theorem dX3_dropWithoutGap_33 : decode cX3_dropWithoutGap 33 = .ok (.aload_n 0, 1) := by decide +kernel
theorem dX3_dropWithoutGap_34 : decode cX3_dropWithoutGap 34 = .ok (.getfield 16, 3) := by decide +kernel
theorem dX3_dropWithoutGap_37 : decode cX3_dropWithoutGap 37 = .ok (.iload_n 2, 1) := by decide +kernel
theorem dX3_dropWithoutGap_38 : decode cX3_dropWithoutGap 38 = .ok (.invokevirtual 30, 3) := by decide +kernel
theorem dX3_dropWithoutGap_41 : decode cX3_dropWithoutGap 41 = .ok (.aload_n 0, 1) := by decide +kernel
theorem dX3_dropWithoutGap_42 : decode cX3_dropWithoutGap 42 = .ok (.getfield 19, 3) := by decide +kernel
theorem dX3_dropWithoutGap_45 : decode cX3_dropWithoutGap 45 = .ok (.iload_n 2, 1) := by decide +kernel
theorem dX3_dropWithoutGap_46 : decode cX3_dropWithoutGap 46 = .ok (.invokevirtual 30, 3) := by decide +kernel
theorem dX3_dropWithoutGap_49 : decode cX3_dropWithoutGap 49 = .ok (.invokevirtual 74, 3) := by decide +kernel
theorem dX3_dropWithoutGap_52 : decode cX3_dropWithoutGap 52 = .ok (.iinc 1 1, 3) := by decide +kernel
theorem dX3_dropWithoutGap_55 : decode cX3_dropWithoutGap 55 = .ok (.iinc 2 1, 3) := by decide +kernel
theorem dX3_dropWithoutGap_58 : decode cX3_dropWithoutGap 58 = .ok (.goto (-54), 3) := by decide +kernel
theorem dX3_dropWithoutGap_61 : decode cX3_dropWithoutGap 61 = .ok (.aload_n 0, 1) := by decide +kernel
theorem dX3_dropWithoutGap_62 : decode cX3_dropWithoutGap 62 = .ok (.iload_n 1, 1) := by decide +kernel
theorem dX3_dropWithoutGap_63 : decode cX3_dropWithoutGap 63 = .ok (.invokevirtual 26, 3) := by decide +kernel
theorem dX3_dropWithoutGap_66 : decode cX3_dropWithoutGap 66 = .ok (.return_, 1) := by decide +kernel
set_option maxRecDepth 20000 in
theorem ggX3_mergeWith_X3_length : GoodIn wsX3_mergeWith wsX3_length := goodIn_r _ [8, 2, 9, 10, 11, 12, 13, 14, 44, 45, 46, 47, 48] (by decide +kernel) (by decide +kernel)
set_option maxRecDepth 20000 in
theorem gX3_mergeWith_X3_length : GoodIn wsX3_mergeWith (wsV RX3 40 RX3 yX3_length wsX3_length) := goodIn_app (goodIn_of _ (by decide +kernel)) ggX3_mergeWith_X3_length
set_option maxRecDepth 20000 in
theorem ggX3_mergeWith_X4_at : GoodIn wsX3_mergeWith wsX4_at := goodIn_r _ [18, 19, 20, 21, 22, 12, 23, 14, 47, 48] (by decide +kernel) (by decide +kernel)
set_option maxRecDepth 20000 in
theorem gX3_mergeWith_X4_at : GoodIn wsX3_mergeWith (wsV RX3 30 RX4 yX4_at wsX4_at) := goodIn_app (goodIn_of _ (by decide +kernel)) ggX3_mergeWith_X4_at
set_option maxRecDepth 20000 in
theorem ggX3_mergeWith_X3_growTo : GoodIn wsX3_mergeWith wsX3_growTo := goodIn_r _ [27, 2, 3, 1, 28, 29, 30, 12, 31, 14, 19, 44, 45, 46, 47, 48] (by decide +kernel) (by decide +kernel)
set_option maxRecDepth 20000 in
theorem gX3_mergeWith_X3_growTo : GoodIn wsX3_mergeWith (wsV RX3 78 RX3 yX3_growTo wsX3_growTo) := goodIn_app (goodIn_of _ (by decide +kernel)) ggX3_mergeWith_X3_growTo
set_option maxRecDepth 20000 in
theorem ggX3_mergeWith_X3_write : GoodIn wsX3_mergeWith wsX3_write := goodIn_r _ [35, 2, 3, 1, 36, 37, 38, 12, 39, 19, 20, 21, 22, 23, 14, 44, 45, 46, 47, 48] (by decide +kernel) (by decide +kernel)
set_option maxRecDepth 20000 in
theorem gX3_mergeWith_X3_write : GoodIn wsX3_mergeWith (wsV RX3 74 RX3 yX3_write wsX3_write) := goodIn_app (goodIn_of _ (by decide +kernel)) ggX3_mergeWith_X3_write
set_option maxRecDepth 20000 in
theorem ggX3_mergeWith_X3_widthOf : GoodIn wsX3_mergeWith wsX3_widthOf := goodIn_r _ [43, 3, 1, 15, 16, 17, 12, 18, 19, 20, 21, 22, 23, 14, 44, 45, 46, 47, 48] (by decide +kernel) (by decide +kernel)
set_option maxRecDepth 20000 in
theorem gX3_mergeWith_X3_widthOf : GoodIn wsX3_mergeWith (wsV RX3 43 RX3 yX3_widthOf wsX3_widthOf) := goodIn_app (goodIn_of _ (by decide +kernel)) ggX3_mergeWith_X3_widthOf
theorem dX3_mergeWith_0 : decode cX3_mergeWith 0 = .ok (.aload_n 0, 1) := by decide +kernel
theorem dX3_mergeWith_1 : decode cX3_mergeWith 1 = .ok (.invokevirtual 40, 3) := by decide +kernel
theorem dX3_mergeWith_4 : decode cX3_mergeWith 4 = .ok (.iconst 1, 1) := by decide +kernel
theorem dX3_mergeWith_5 : decode cX3_mergeWith 5 = .ok (.isub, 1) := by decide +kernel
theorem dX3_mergeWith_6 : decode cX3_mergeWith 6 = .ok (.istore_n 2, 1) := by decide +kernel
theorem dX3_mergeWith_7 : decode cX3_mergeWith 7 = .ok (.aload_n 1, 1) := by decide +kernel
theorem dX3_mergeWith_8 : decode cX3_mergeWith 8 = .ok (.invokevirtual 40, 3) := by decide +kernel
theorem dX3_mergeWith_11 : decode cX3_mergeWith 11 = .ok (.iconst 1, 1) := by decide +kernel
theorem dX3_mergeWith_12 : decode cX3_mergeWith 12 = .ok (.isub, 1) := by decide +kernel
theorem dX3_mergeWith_13 : decode cX3_mergeWith 13 = .ok (.istore_n 3, 1) := by decide +kernel
theorem dX3_mergeWith_14 : decode cX3_mergeWith 14 = .ok (.aload_n 0, 1) := by decide +kernel
theorem dX3_mergeWith_15 : decode cX3_mergeWith 15 = .ok (.getfield 19, 3) := by decide +kernel
theorem dX3_mergeWith_18 : decode cX3_mergeWith 18 = .ok (.iload_n 2, 1) := by decide +kernel
theorem dX3_mergeWith_19 : decode cX3_mergeWith 19 = .ok (.invokevirtual 30, 3) := by decide +kernel
theorem dX3_mergeWith_22 : decode cX3_mergeWith 22 = .ok (.istore 4, 2) := by decide +kernel
theorem dX3_mergeWith_24 : decode cX3_mergeWith 24 = .ok (.aload_n 1, 1) := by decide +kernel
theorem dX3_mergeWith_25 : decode cX3_mergeWith 25 = .ok (.getfield 19, 3) := by decide +kernel
theorem dX3_mergeWith_28 : decode cX3_mergeWith 28 = .ok (.iload_n 3, 1) := by decide +kernel
theorem dX3_mergeWith_29 : decode cX3_mergeWith 29 = .ok (.invokevirtual 30, 3) := by decide +kernel
theorem dX3_mergeWith_32 : decode cX3_mergeWith 32 = .ok (.istore 5, 2) := by decide +kernel
theorem dX3_mergeWith_34 : decode cX3_mergeWith 34 = .ok (.aload_n 0, 1) := by decide +kernel
theorem dX3_mergeWith_35 : decode cX3_mergeWith 35 = .ok (.aload_n 0, 1) := by decide +kernel
theorem dX3_mergeWith_36 : decode cX3_mergeWith 36 = .ok (.invokevirtual 40, 3) := by decide +kernel
theorem dX3_mergeWith_39 : decode cX3_mergeWith 39 = .ok (.aload_n 1, 1) := by decide +kernel
theorem dX3_mergeWith_40 : decode cX3_mergeWith 40 = .ok (.invokevirtual 40, 3) := by decide +kernel
theorem dX3_mergeWith_43 : decode cX3_mergeWith 43 = .ok (.iadd, 1) := by decide +kernel
theorem dX3_mergeWith_44 : decode cX3_mergeWith 44 = .ok (.invokevirtual 78, 3) := by decide +kernel
theorem dX3_mergeWith_47 : decode cX3_mergeWith 47 = .ok (.aload_n 0, 1) := by decide +kernel
theorem dX3_mergeWith_48 : decode cX3_mergeWith 48 = .ok (.invokevirtual 40, 3) := by decide +kernel
theorem dX3_mergeWith_51 : decode cX3_mergeWith 51 = .ok (.iconst 1, 1) := by decide +kernel
theorem dX3_mergeWith_52 : decode cX3_mergeWith 52 = .ok (.isub, 1) := by decide +kernel
theorem dX3_mergeWith_53 : decode cX3_mergeWith 53 = .ok (.istore 6, 2) := by decide +kernel
theorem dX3_mergeWith_55 : decode cX3_mergeWith 55 = .ok (.iload 6, 2) := by decide +kernel
theorem dX3_mergeWith_57 : decode cX3_mergeWith 57 = .ok (.ifCond .lt 133, 3) := by decide +kernel
theorem dX3_mergeWith_60 : decode cX3_mergeWith 60 = .ok (.iload_n 3, 1) := by decide +kernel
theorem dX3_mergeWith_61 : decode cX3_mergeWith 61 = .ok (.ifCond .lt 74, 3) := by decide +kernel
theorem dX3_mergeWith_64 : decode cX3_mergeWith 64 = .ok (.iload_n 2, 1) := by decide +kernel
theorem dX3_mergeWith_65 : decode cX3_mergeWith 65 = .ok (.ifCond .lt 22, 3) := by decide +kernel
theorem dX3_mergeWith_68 : decode cX3_mergeWith 68 = .ok (.aload_n 1, 1) := by decide +kernel
theorem dX3_mergeWith_69 : decode cX3_mergeWith 69 = .ok (.getfield 10, 3) := by decide +kernel
theorem dX3_mergeWith_72 : decode cX3_mergeWith 72 = .ok (.iload_n 3, 1) := by decide +kernel
theorem dX3_mergeWith_73 : decode cX3_mergeWith 73 = .ok (.invokevirtual 30, 3) := by decide +kernel
theorem dX3_mergeWith_76 : decode cX3_mergeWith 76 = .ok (.aload_n 0, 1) := by decide +kernel
theorem dX3_mergeWith_77 : decode cX3_mergeWith 77 = .ok (.getfield 10, 3) := by decide +kernel
theorem dX3_mergeWith_80 : decode cX3_mergeWith 80 = .ok (.iload_n 2, 1) := by decide +kernel
theorem dX3_mergeWith_81 : decode cX3_mergeWith 81 = .ok (.invokevirtual 30, 3) := by decide +kernel
theorem dX3_mergeWith_84 : decode cX3_mergeWith 84 = .ok (.if_icmp .lt 51, 3) := by decide +kernel
theorem dX3_mergeWith_87 : decode cX3_mergeWith 87 = .ok (.aload_n 0, 1) := by decide +kernel
theorem dX3_mergeWith_88 : decode cX3_mergeWith 88 = .ok (.iload 6, 2) := by decide +kernel
theorem dX3_mergeWith_90 : decode cX3_mergeWith 90 = .ok (.aload_n 1, 1) := by decide +kernel
theorem dX3_mergeWith_91 : decode cX3_mergeWith 91 = .ok (.getfield 10, 3) := by decide +kernel
theorem dX3_mergeWith_94 : decode cX3_mergeWith 94 = .ok (.iload_n 3, 1) := by decide +kernel
theorem dX3_mergeWith_95 : decode cX3_mergeWith 95 = .ok (.invokevirtual 30, 3) := by decide +kernel
theorem dX3_mergeWith_98 : decode cX3_mergeWith 98 = .ok (.aload_n 1, 1) := by decide +kernel
theorem dX3_mergeWith_99 : decode cX3_mergeWith 99 = .ok (.getfield 16, 3) := by decide +kernel
theorem dX3_mergeWith_102 : decode cX3_mergeWith 102 = .ok (.iload_n 3, 1) := by decide +kernel
theorem dX3_mergeWith_103 : decode cX3_mergeWith 103 = .ok (.invokevirtual 30, 3) := by decide +kernel
theorem dX3_mergeWith_106 : decode cX3_mergeWith 106 = .ok (.aload_n 1, 1) := by decide +kernel
theorem dX3_mergeWith_107 : decode cX3_mergeWith 107 = .ok (.getfield 19, 3) := by decide +kernel
theorem dX3_mergeWith_110 : decode cX3_mergeWith 110 = .ok (.iload_n 3, 1) := by decide +kernel
theorem dX3_mergeWith_111 : decode cX3_mergeWith 111 = .ok (.invokevirtual 30, 3) := by decide +kernel
theorem dX3_mergeWith_114 : decode cX3_mergeWith 114 = .ok (.iload 4, 2) := by decide +kernel
theorem dX3_mergeWith_116 : decode cX3_mergeWith 116 = .ok (.iadd, 1) := by decide +kernel
theorem dX3_mergeWith_117 : decode cX3_mergeWith 117 = .ok (.invokevirtual 74, 3) := by decide +kernel
theorem dX3_mergeWith_120 : decode cX3_mergeWith 120 = .ok (.aload_n 1, 1) := by decide +kernel
theorem dX3_mergeWith_121 : decode cX3_mergeWith 121 = .ok (.iload_n 3, 1) := by decide +kernel
theorem dX3_mergeWith_122 : decode cX3_mergeWith 122 = .ok (.invokevirtual 43, 3) := by decide +kernel
theorem dX3_mergeWith_125 : decode cX3_mergeWith 125 = .ok (.iconst 1, 1) := by decide +kernel
theorem dX3_mergeWith_126 : decode cX3_mergeWith 126 = .ok (.isub, 1) := by decide +kernel
theorem dX3_mergeWith_127 : decode cX3_mergeWith 127 = .ok (.istore 5, 2) := by decide +kernel
theorem dX3_mergeWith_129 : decode cX3_mergeWith 129 = .ok (.iinc 3 (-1), 3) := by decide +kernel
theorem dX3_mergeWith_132 : decode cX3_mergeWith 132 = .ok (.goto 52, 3) := by decide +kernel
theorem dX3_mergeWith_135 : decode cX3_mergeWith 135 = .ok (.aload_n 0, 1) := by decide +kernel
theorem dX3_mergeWith_136 : decode cX3_mergeWith 136 = .ok (.iload_n 2, 1) := by decide +kernel
theorem dX3_mergeWith_137 : decode cX3_mergeWith 137 = .ok (.invokevirtual 43, 3) := by decide +kernel
theorem dX3_mergeWith_140 : decode cX3_mergeWith 140 = .ok (.istore 7, 2) := by decide +kernel
theorem dX3_mergeWith_142 : decode cX3_mergeWith 142 = .ok (.aload_n 0, 1) := by decide +kernel
theorem dX3_mergeWith_143 : decode cX3_mergeWith 143 = .ok (.iload 6, 2) := by decide +kernel
theorem dX3_mergeWith_145 : decode cX3_mergeWith 145 = .ok (.aload_n 0, 1) := by decide +kernel
theorem dX3_mergeWith_146 : decode cX3_mergeWith 146 = .ok (.getfield 10, 3) := by decide +kernel
theorem dX3_mergeWith_149 : decode cX3_mergeWith 149 = .ok (.iload_n 2, 1) := by decide +kernel
theorem dX3_mergeWith_150 : decode cX3_mergeWith 150 = .ok (.invokevirtual 30, 3) := by decide +kernel
theorem dX3_mergeWith_153 : decode cX3_mergeWith 153 = .ok (.aload_n 0, 1) := by decide +kernel
theorem dX3_mergeWith_154 : decode cX3_mergeWith 154 = .ok (.getfield 16, 3) := by decide +kernel
theorem dX3_mergeWith_157 : decode cX3_mergeWith 157 = .ok (.iload_n 2, 1) := by decide +kernel
theorem dX3_mergeWith_158 : decode cX3_mergeWith 158 = .ok (.invokevirtual 30, 3) := by decide +kernel
theorem dX3_mergeWith_161 : decode cX3_mergeWith 161 = .ok (.aload_n 0, 1) := by decide +kernel
theorem dX3_mergeWith_162 : decode cX3_mergeWith 162 = .ok (.getfield 19, 3) := by decide +kernel
theorem dX3_mergeWith_165 : decode cX3_mergeWith 165 = .ok (.iload_n 2, 1) := by decide +kernel
theorem dX3_mergeWith_166 : decode cX3_mergeWith 166 = .ok (.invokevirtual 30, 3) := by decide +kernel
theorem dX3_mergeWith_169 : decode cX3_mergeWith 169 = .ok (.iload 5, 2) := by decide +kernel
theorem dX3_mergeWith_171 : decode cX3_mergeWith 171 = .ok (.iadd, 1) := by decide +kernel
theorem dX3_mergeWith_172 : decode cX3_mergeWith 172 = .ok (.invokevirtual 74, 3) := by decide +kernel
theorem dX3_mergeWith_175 : decode cX3_mergeWith 175 = .ok (.iload 7, 2) := by decide +kernel
theorem dX3_mergeWith_177 : decode cX3_mergeWith 177 = .ok (.iconst 1, 1) := by decide +kernel
theorem dX3_mergeWith_178 : decode cX3_mergeWith 178 = .ok (.isub, 1) := by decide +kernel
theorem dX3_mergeWith_179 : decode cX3_mergeWith 179 = .ok (.istore 4, 2) := by decide +kernel
theorem dX3_mergeWith_181 : decode cX3_mergeWith 181 = .ok (.iinc 2 (-1), 3) := by decide +kernel
theorem dX3_mergeWith_184 : decode cX3_mergeWith 184 = .ok (.iinc 6 (-1), 3) := by decide +kernel
theorem dX3_mergeWith_187 : decode cX3_mergeWith 187 = .ok (.goto (-132), 3) := by decide +kernel
theorem dX3_mergeWith_190 : decode cX3_mergeWith 190 = .ok (.return_, 1) := by decide +kernel
set_option maxRecDepth 20000 in
theorem ggX3_write_X4_put : GoodIn wsX3_write wsX4_put := goodIn_r _ [8, 9, 10, 11, 12, 7, 13, 14, 18, 19] (by decide +kernel) (by decide +kernel)
set_option maxRecDepth 20000 in
theorem gX3_write_X4_put : GoodIn wsX3_write (wsV RX3 68 RX4 yX4_put wsX4_put) := goodIn_app (goodIn_of _ (by decide +kernel)) ggX3_write_X4_put
theorem dX3_write_0 : decode cX3_write 0 = .ok (.aload_n 0, 1) := by decide +kernel
theorem dX3_write_1 : decode cX3_write 1 = .ok (.getfield 10, 3) := by decide +kernel
theorem dX3_write_4 : decode cX3_write 4 = .ok (.iload_n 1, 1) := by decide +kernel
theorem dX3_write_5 : decode cX3_write 5 = .ok (.iload_n 2, 1) := by decide +kernel
theorem dX3_write_6 : decode cX3_write 6 = .ok (.invokevirtual 68, 3) := by decide +kernel
theorem dX3_write_9 : decode cX3_write 9 = .ok (.aload_n 0, 1) := by decide +kernel
theorem dX3_write_10 : decode cX3_write 10 = .ok (.getfield 16, 3) := by decide +kernel
theorem dX3_write_13 : decode cX3_write 13 = .ok (.iload_n 1, 1) := by decide +kernel
theorem dX3_write_14 : decode cX3_write 14 = .ok (.iload_n 3, 1) := by decide +kernel
theorem dX3_write_15 : decode cX3_write 15 = .ok (.invokevirtual 68, 3) := by decide +kernel
theorem dX3_write_18 : decode cX3_write 18 = .ok (.aload_n 0, 1) := by decide +kernel
theorem dX3_write_19 : decode cX3_write 19 = .ok (.getfield 19, 3) := by decide +kernel
theorem dX3_write_22 : decode cX3_write 22 = .ok (.iload_n 1, 1) := by decide +kernel
theorem dX3_write_23 : decode cX3_write 23 = .ok (.iload 4, 2) := by decide +kernel
theorem dX3_write_25 : decode cX3_write 25 = .ok (.invokevirtual 68, 3) := by decide +kernel
theorem dX3_write_28 : decode cX3_write 28 = .ok (.return_, 1) := by decide +kernel
set_option maxRecDepth 20000 in
theorem ggX3_cutTo_X4_cutTo : GoodIn wsX3_cutTo wsX4_cutTo := goodIn_r _ [8, 9, 13, 14] (by decide +kernel) (by decide +kernel)
set_option maxRecDepth 20000 in
theorem gX3_cutTo_X4_cutTo : GoodIn wsX3_cutTo (wsV RX3 81 RX4 yX4_cutTo wsX4_cutTo) := goodIn_app (goodIn_of _ (by decide +kernel)) ggX3_cutTo_X4_cutTo
theorem dX3_cutTo_0 : decode cX3_cutTo 0 = .ok (.aload_n 0, 1) := by decide +kernel
theorem dX3_cutTo_1 : decode cX3_cutTo 1 = .ok (.getfield 10, 3) := by decide +kernel
theorem dX3_cutTo_4 : decode cX3_cutTo 4 = .ok (.iload_n 1, 1) := by decide +kernel
theorem dX3_cutTo_5 : decode cX3_cutTo 5 = .ok (.invokevirtual 81, 3) := by decide +kernel
theorem dX3_cutTo_8 : decode cX3_cutTo 8 = .ok (.aload_n 0, 1) := by decide +kernel
theorem dX3_cutTo_9 : decode cX3_cutTo 9 = .ok (.getfield 16, 3) := by decide +kernel
theorem dX3_cutTo_12 : decode cX3_cutTo 12 = .ok (.iload_n 1, 1) := by decide +kernel
theorem dX3_cutTo_13 : decode cX3_cutTo 13 = .ok (.invokevirtual 81, 3) := by decide +kernel
theorem dX3_cutTo_16 : decode cX3_cutTo 16 = .ok (.aload_n 0, 1) := by decide +kernel
theorem dX3_cutTo_17 : decode cX3_cutTo 17 = .ok (.getfield 19, 3) := by decide +kernel
theorem dX3_cutTo_20 : decode cX3_cutTo 20 = .ok (.iload_n 1, 1) := by decide +kernel
theorem dX3_cutTo_21 : decode cX3_cutTo 21 = .ok (.invokevirtual 81, 3) := by decide +kernel
theorem dX3_cutTo_24 : decode cX3_cutTo 24 = .ok (.return_, 1) := by decide +kernel
set_option maxRecDepth 20000 in
theorem ggX3_growTo_X4_growTo : GoodIn wsX3_growTo wsX4_growTo := goodIn_r _ [8, 9, 10, 14, 15] (by decide +kernel) (by decide +kernel)
set_option maxRecDepth 20000 in
theorem gX3_growTo_X4_growTo : GoodIn wsX3_growTo (wsV RX3 82 RX4 yX4_growTo wsX4_growTo) := goodIn_app (goodIn_of _ (by decide +kernel)) ggX3_growTo_X4_growTo
theorem dX3_growTo_0 : decode cX3_growTo 0 = .ok (.aload_n 0, 1) := by decide +kernel
theorem dX3_growTo_1 : decode cX3_growTo 1 = .ok (.getfield 10, 3) := by decide +kernel
theorem dX3_growTo_4 : decode cX3_growTo 4 = .ok (.iload_n 1, 1) := by decide +kernel
theorem dX3_growTo_5 : decode cX3_growTo 5 = .ok (.invokevirtual 82, 3) := by decide +kernel
theorem dX3_growTo_8 : decode cX3_growTo 8 = .ok (.aload_n 0, 1) := by decide +kernel
theorem dX3_growTo_9 : decode cX3_growTo 9 = .ok (.getfield 16, 3) := by decide +kernel
theorem dX3_growTo_12 : decode cX3_growTo 12 = .ok (.iload_n 1, 1) := by decide +kernel
theorem dX3_growTo_13 : decode cX3_growTo 13 = .ok (.invokevirtual 82, 3) := by decide +kernel
theorem dX3_growTo_16 : decode cX3_growTo 16 = .ok (.aload_n 0, 1) := by decide +kernel
theorem dX3_growTo_17 : decode cX3_growTo 17 = .ok (.getfield 19, 3) := by decide +kernel
theorem dX3_growTo_20 : decode cX3_growTo 20 = .ok (.iload_n 1, 1) := by decide +kernel
theorem dX3_growTo_21 : decode cX3_growTo 21 = .ok (.invokevirtual 82, 3) := by decide +kernel
theorem dX3_growTo_24 : decode cX3_growTo 24 = .ok (.return_, 1) := by decide +kernel
theorem dX4_init_0 : decode cX4_init 0 = .ok (.aload_n 0, 1) := by decide +kernel
theorem dX4_init_1 : decode cX4_init 1 = .ok (.invokespecial 3, 3) := by decide +kernel
theorem dX4_init_4 : decode cX4_init 4 = .ok (.aload_n 0, 1) := by decide +kernel
theorem dX4_init_5 : decode cX4_init 5 = .ok (.sipush 600, 3) := by decide +kernel
theorem dX4_init_8 : decode cX4_init 8 = .ok (.newarray .int, 2) := by decide +kernel
theorem dX4_init_10 : decode cX4_init 10 = .ok (.putfield 9, 3) := by decide +kernel
theorem dX4_init_13 : decode cX4_init 13 = .ok (.return_, 1) := by decide +kernel
theorem dX4_size_0 : decode cX4_size 0 = .ok (.aload_n 0, 1) := by decide +kernel
theorem dX4_size_1 : decode cX4_size 1 = .ok (.getfield 15, 3) := by decide +kernel
theorem dX4_size_4 : decode cX4_size 4 = .ok (.ireturn, 1) := by decide +kernel
theorem dX4_holds_0 : decode cX4_holds 0 = .ok (.iload_n 1, 1) := by decide +kernel
theorem dX4_holds_1 : decode cX4_holds 1 = .ok (.ifCond .lt 24, 3) := by decide +kernel
theorem dX4_holds_4 : decode cX4_holds 4 = .ok (.iload_n 1, 1) := by decide +kernel
theorem dX4_holds_5 : decode cX4_holds 5 = .ok (.aload_n 0, 1) := by decide +kernel
theorem dX4_holds_6 : decode cX4_holds 6 = .ok (.getfield 15, 3) := by decide +kernel
theorem dX4_holds_9 : decode cX4_holds 9 = .ok (.if_icmp .ge 16, 3) := by decide +kernel
theorem dX4_holds_12 : decode cX4_holds 12 = .ok (.iload_n 1, 1) := by decide +kernel
theorem dX4_holds_13 : decode cX4_holds 13 = .ok (.aload_n 0, 1) := by decide +kernel
theorem dX4_holds_14 : decode cX4_holds 14 = .ok (.getfield 9, 3) := by decide +kernel
theorem dX4_holds_17 : decode cX4_holds 17 = .ok (.arraylength, 1) := by decide +kernel
theorem dX4_holds_18 : decode cX4_holds 18 = .ok (.if_icmp .ge 7, 3) := by decide +kernel
theorem dX4_holds_21 : decode cX4_holds 21 = .ok (.iconst 1, 1) := by decide +kernel
theorem dX4_holds_22 : decode cX4_holds 22 = .ok (.goto 4, 3) := by decide +kernel
theorem dX4_holds_25 : decode cX4_holds 25 = .ok (.iconst 0, 1) := by decide +kernel
theorem dX4_holds_26 : decode cX4_holds 26 = .ok (.ireturn, 1) := by decide +kernel
set_option maxRecDepth 20000 in
theorem ggX4_at_X4_holds : GoodIn wsX4_at wsX4_holds := goodIn_r _ [6, 7, 1, 8, 9] (by decide +kernel) (by decide +kernel)
set_option maxRecDepth 20000 in
theorem gX4_at_X4_holds : GoodIn wsX4_at (wsV RX4 19 RX4 yX4_holds wsX4_holds) := goodIn_app (goodIn_of _ (by decide +kernel)) ggX4_at_X4_holds
theorem dX4_at_0 : decode cX4_at 0 = .ok (.aload_n 0, 1) := by decide +kernel
theorem dX4_at_1 : decode cX4_at 1 = .ok (.iload_n 1, 1) := by decide +kernel
theorem dX4_at_2 : decode cX4_at 2 = .ok (.invokevirtual 19, 3) := by decide +kernel
theorem dX4_at_5 : decode cX4_at 5 = .ok (.ifCond .eq 12, 3) := by decide +kernel
theorem dX4_at_8 : decode cX4_at 8 = .ok (.aload_n 0, 1) := by decide +kernel
theorem dX4_at_9 : decode cX4_at 9 = .ok (.getfield 9, 3) := by decide +kernel
theorem dX4_at_12 : decode cX4_at 12 = .ok (.iload_n 1, 1) := by decide +kernel
theorem dX4_at_13 : decode cX4_at 13 = .ok (.iaload, 1) := by decide +kernel
theorem dX4_at_14 : decode cX4_at 14 = .ok (.goto 4, 3) := by decide +kernel
theorem dX4_at_17 : decode cX4_at 17 = .ok (.iconst 0, 1) := by decide +kernel
theorem dX4_at_18 : decode cX4_at 18 = .ok (.ireturn, 1) := by decide +kernel
set_option maxRecDepth 20000 in
theorem ggX4_put_X4_holds : GoodIn wsX4_put wsX4_holds := goodIn_r _ [6, 7, 1, 8, 9] (by decide +kernel) (by decide +kernel)
set_option maxRecDepth 20000 in
theorem gX4_put_X4_holds : GoodIn wsX4_put (wsV RX4 19 RX4 yX4_holds wsX4_holds) := goodIn_app (goodIn_of _ (by decide +kernel)) ggX4_put_X4_holds
theorem dX4_put_0 : decode cX4_put 0 = .ok (.aload_n 0, 1) := by decide +kernel
theorem dX4_put_1 : decode cX4_put 1 = .ok (.iload_n 1, 1) := by decide +kernel
theorem dX4_put_2 : decode cX4_put 2 = .ok (.invokevirtual 19, 3) := by decide +kernel
theorem dX4_put_5 : decode cX4_put 5 = .ok (.ifCond .eq 10, 3) := by decide +kernel
theorem dX4_put_8 : decode cX4_put 8 = .ok (.aload_n 0, 1) := by decide +kernel
theorem dX4_put_9 : decode cX4_put 9 = .ok (.getfield 9, 3) := by decide +kernel
theorem dX4_put_12 : decode cX4_put 12 = .ok (.iload_n 1, 1) := by decide +kernel
theorem dX4_put_13 : decode cX4_put 13 = .ok (.iload_n 2, 1) := by decide +kernel
theorem dX4_put_14 : decode cX4_put 14 = .ok (.iastore, 1) := by decide +kernel
theorem dX4_put_15 : decode cX4_put 15 = .ok (.return_, 1) := by decide +kernel
theorem dX4_insert_0 : decode cX4_insert 0 = .ok (.iload_n 1, 1) := by decide +kernel
theorem dX4_insert_1 : decode cX4_insert 1 = .ok (.ifCond .lt 23, 3) := by decide +kernel
theorem dX4_insert_4 : decode cX4_insert 4 = .ok (.iload_n 1, 1) := by decide +kernel
theorem dX4_insert_5 : decode cX4_insert 5 = .ok (.aload_n 0, 1) := by decide +kernel
theorem dX4_insert_6 : decode cX4_insert 6 = .ok (.getfield 15, 3) := by decide +kernel
theorem dX4_insert_9 : decode cX4_insert 9 = .ok (.if_icmp .gt 15, 3) := by decide +kernel
theorem dX4_insert_12 : decode cX4_insert 12 = .ok (.aload_n 0, 1) := by decide +kernel
theorem dX4_insert_13 : decode cX4_insert 13 = .ok (.getfield 15, 3) := by decide +kernel
theorem dX4_insert_16 : decode cX4_insert 16 = .ok (.aload_n 0, 1) := by decide +kernel
theorem dX4_insert_17 : decode cX4_insert 17 = .ok (.getfield 9, 3) := by decide +kernel
theorem dX4_insert_20 : decode cX4_insert 20 = .ok (.arraylength, 1) := by decide +kernel
theorem dX4_insert_21 : decode cX4_insert 21 = .ok (.if_icmp .lt 4, 3) := by decide +kernel
theorem dX4_insert_24 : decode cX4_insert 24 = .ok (.return_, 1) := by decide +kernel
theorem dX4_insert_25 : decode cX4_insert 25 = .ok (.aload_n 0, 1) := by decide +kernel
theorem dX4_insert_26 : decode cX4_insert 26 = .ok (.getfield 9, 3) := by decide +kernel
theorem dX4_insert_29 : decode cX4_insert 29 = .ok (.iload_n 1, 1) := by decide +kernel
theorem dX4_insert_30 : decode cX4_insert 30 = .ok (.aload_n 0, 1) := by decide +kernel
theorem dX4_insert_31 : decode cX4_insert 31 = .ok (.getfield 9, 3) := by decide +kernel
theorem dX4_insert_34 : decode cX4_insert 34 = .ok (.iload_n 1, 1) := by decide +kernel
theorem dX4_insert_35 : decode cX4_insert 35 = .ok (.iconst 1, 1) := by decide +kernel
theorem dX4_insert_36 : decode cX4_insert 36 = .ok (.iadd, 1) := by decide +kernel
theorem dX4_insert_37 : decode cX4_insert 37 = .ok (.aload_n 0, 1) := by decide +kernel
theorem dX4_insert_38 : decode cX4_insert 38 = .ok (.getfield 15, 3) := by decide +kernel
theorem dX4_insert_41 : decode cX4_insert 41 = .ok (.iload_n 1, 1) := by decide +kernel
theorem dX4_insert_42 : decode cX4_insert 42 = .ok (.isub, 1) := by decide +kernel
theorem dX4_insert_43 : decode cX4_insert 43 = .ok (.invokestatic 23, 3) := by decide +kernel
theorem dX4_insert_46 : decode cX4_insert 46 = .ok (.aload_n 0, 1) := by decide +kernel
theorem dX4_insert_47 : decode cX4_insert 47 = .ok (.getfield 9, 3) := by decide +kernel
theorem dX4_insert_50 : decode cX4_insert 50 = .ok (.iload_n 1, 1) := by decide +kernel
theorem dX4_insert_51 : decode cX4_insert 51 = .ok (.iload_n 2, 1) := by decide +kernel
theorem dX4_insert_52 : decode cX4_insert 52 = .ok (.iastore, 1) := by decide +kernel
theorem dX4_insert_53 : decode cX4_insert 53 = .ok (.aload_n 0, 1) := by decide +kernel
theorem dX4_insert_54 : decode cX4_insert 54 = .ok (.dup, 1) := by decide +kernel
theorem dX4_insert_55 : decode cX4_insert 55 = .ok (.getfield 15, 3) := by decide +kernel
theorem dX4_insert_58 : decode cX4_insert 58 = .ok (.iconst 1, 1) := by decide +kernel
theorem dX4_insert_59 : decode cX4_insert 59 = .ok (.iadd, 1) := by decide +kernel
theorem dX4_insert_60 : decode cX4_insert 60 = .ok (.putfield 15, 3) := by decide +kernel
theorem dX4_insert_63 : decode cX4_insert 63 = .ok (.return_, 1) := by decide +kernel
theorem dX4_cutTo_0 : decode cX4_cutTo 0 = .ok (.iload_n 1, 1) := by decide +kernel
theorem dX4_cutTo_1 : decode cX4_cutTo 1 = .ok (.ifCond .lt 16, 3) := by decide +kernel
theorem dX4_cutTo_4 : decode cX4_cutTo 4 = .ok (.iload_n 1, 1) := by decide +kernel
theorem dX4_cutTo_5 : decode cX4_cutTo 5 = .ok (.aload_n 0, 1) := by decide +kernel
theorem dX4_cutTo_6 : decode cX4_cutTo 6 = .ok (.getfield 15, 3) := by decide +kernel
theorem dX4_cutTo_9 : decode cX4_cutTo 9 = .ok (.if_icmp .ge 8, 3) := by decide +kernel
theorem dX4_cutTo_12 : decode cX4_cutTo 12 = .ok (.aload_n 0, 1) := by decide +kernel
theorem dX4_cutTo_13 : decode cX4_cutTo 13 = .ok (.iload_n 1, 1) := by decide +kernel
theorem dX4_cutTo_14 : decode cX4_cutTo 14 = .ok (.putfield 15, 3) := by decide +kernel
theorem dX4_cutTo_17 : decode cX4_cutTo 17 = .ok (.return_, 1) := by decide +kernel
theorem dX4_growTo_0 : decode cX4_growTo 0 = .ok (.iload_n 1, 1) := by decide +kernel
theorem dX4_growTo_1 : decode cX4_growTo 1 = .ok (.aload_n 0, 1) := by decide +kernel
theorem dX4_growTo_2 : decode cX4_growTo 2 = .ok (.getfield 15, 3) := by decide +kernel
theorem dX4_growTo_5 : decode cX4_growTo 5 = .ok (.if_icmp .le 17, 3) := by decide +kernel
theorem dX4_growTo_8 : decode cX4_growTo 8 = .ok (.iload_n 1, 1) := by decide +kernel
theorem dX4_growTo_9 : decode cX4_growTo 9 = .ok (.aload_n 0, 1) := by decide +kernel
theorem dX4_growTo_10 : decode cX4_growTo 10 = .ok (.getfield 9, 3) := by decide +kernel
theorem dX4_growTo_13 : decode cX4_growTo 13 = .ok (.arraylength, 1) := by decide +kernel
theorem dX4_growTo_14 : decode cX4_growTo 14 = .ok (.if_icmp .gt 8, 3) := by decide +kernel
theorem dX4_growTo_17 : decode cX4_growTo 17 = .ok (.aload_n 0, 1) := by decide +kernel
theorem dX4_growTo_18 : decode cX4_growTo 18 = .ok (.iload_n 1, 1) := by decide +kernel
theorem dX4_growTo_19 : decode cX4_growTo 19 = .ok (.putfield 15, 3) := by decide +kernel
theorem dX4_growTo_22 : decode cX4_growTo 22 = .ok (.return_, 1) := by decide +kernel
set_option maxRecDepth 20000 in
theorem ggX4_sumOfFirst_X4_at : GoodIn wsX4_sumOfFirst wsX4_at := goodIn_r _ [6, 7, 8, 9, 10, 5, 11, 1, 12, 13] (by decide +kernel) (by decide +kernel)
set_option maxRecDepth 20000 in
theorem gX4_sumOfFirst_X4_at : GoodIn wsX4_sumOfFirst (wsV RX4 29 RX4 yX4_at wsX4_at) := goodIn_app (goodIn_of _ (by decide +kernel)) ggX4_sumOfFirst_X4_at
theorem dX4_sumOfFirst_0 : decode cX4_sumOfFirst 0 = .ok (.iconst 0, 1) := by decide +kernel
theorem dX4_sumOfFirst_1 : decode cX4_sumOfFirst 1 = .ok (.istore_n 2, 1) := by decide +kernel
theorem dX4_sumOfFirst_2 : decode cX4_sumOfFirst 2 = .ok (.iconst 0, 1) := by decide +kernel
theorem dX4_sumOfFirst_3 : decode cX4_sumOfFirst 3 = .ok (.istore_n 3, 1) := by decide +kernel
theorem dX4_sumOfFirst_4 : decode cX4_sumOfFirst 4 = .ok (.iload_n 3, 1) := by decide +kernel
theorem dX4_sumOfFirst_5 : decode cX4_sumOfFirst 5 = .ok (.iload_n 1, 1) := by decide +kernel
theorem dX4_sumOfFirst_6 : decode cX4_sumOfFirst 6 = .ok (.if_icmp .ge 25, 3) := by decide +kernel
theorem dX4_sumOfFirst_9 : decode cX4_sumOfFirst 9 = .ok (.iload_n 3, 1) := by decide +kernel
theorem dX4_sumOfFirst_10 : decode cX4_sumOfFirst 10 = .ok (.aload_n 0, 1) := by decide +kernel
theorem dX4_sumOfFirst_11 : decode cX4_sumOfFirst 11 = .ok (.getfield 15, 3) := by decide +kernel
theorem dX4_sumOfFirst_14 : decode cX4_sumOfFirst 14 = .ok (.if_icmp .ge 17, 3) := by decide +kernel
theorem dX4_sumOfFirst_17 : decode cX4_sumOfFirst 17 = .ok (.iload_n 2, 1) := by decide +kernel
theorem dX4_sumOfFirst_18 : decode cX4_sumOfFirst 18 = .ok (.aload_n 0, 1) := by decide +kernel
theorem dX4_sumOfFirst_19 : decode cX4_sumOfFirst 19 = .ok (.iload_n 3, 1) := by decide +kernel
theorem dX4_sumOfFirst_20 : decode cX4_sumOfFirst 20 = .ok (.invokevirtual 29, 3) := by decide +kernel
theorem dX4_sumOfFirst_23 : decode cX4_sumOfFirst 23 = .ok (.iadd, 1) := by decide +kernel
theorem dX4_sumOfFirst_24 : decode cX4_sumOfFirst 24 = .ok (.istore_n 2, 1) := by decide +kernel
theorem dX4_sumOfFirst_25 : decode cX4_sumOfFirst 25 = .ok (.iinc 3 1, 3) := by decide +kernel
theorem dX4_sumOfFirst_28 : decode cX4_sumOfFirst 28 = .ok (.goto (-24), 3) := by decide +kernel
theorem dX4_sumOfFirst_31 : decode cX4_sumOfFirst 31 = .ok (.iload_n 2, 1) := by decide +kernel
theorem dX4_sumOfFirst_32 : decode cX4_sumOfFirst 32 = .ok (.ireturn, 1) := by decide +kernel
set_option maxRecDepth 20000 in
theorem ggX4_notAbove_X4_at : GoodIn wsX4_notAbove wsX4_at := goodIn_r _ [6, 7, 8, 9, 10, 5, 11, 1, 12, 13] (by decide +kernel) (by decide +kernel)
set_option maxRecDepth 20000 in
theorem gX4_notAbove_X4_at : GoodIn wsX4_notAbove (wsV RX4 29 RX4 yX4_at wsX4_at) := goodIn_app (goodIn_of _ (by decide +kernel)) ggX4_notAbove_X4_at
theorem dX4_notAbove_0 : decode cX4_notAbove 0 = .ok (.iconst 0, 1) := by decide +kernel
theorem dX4_notAbove_1 : decode cX4_notAbove 1 = .ok (.istore_n 2, 1) := by decide +kernel
theorem dX4_notAbove_2 : decode cX4_notAbove 2 = .ok (.aload_n 0, 1) := by decide +kernel
theorem dX4_notAbove_3 : decode cX4_notAbove 3 = .ok (.getfield 15, 3) := by decide +kernel
theorem dX4_notAbove_6 : decode cX4_notAbove 6 = .ok (.istore_n 3, 1) := by decide +kernel
theorem dX4_notAbove_7 : decode cX4_notAbove 7 = .ok (.iload_n 2, 1) := by decide +kernel
theorem dX4_notAbove_8 : decode cX4_notAbove 8 = .ok (.iload_n 3, 1) := by decide +kernel
theorem dX4_notAbove_9 : decode cX4_notAbove 9 = .ok (.if_icmp .ge 34, 3) := by decide +kernel
theorem dX4_notAbove_12 : decode cX4_notAbove 12 = .ok (.iload_n 2, 1) := by decide +kernel
theorem dX4_notAbove_13 : decode cX4_notAbove 13 = .ok (.iload_n 3, 1) := by decide +kernel
theorem dX4_notAbove_14 : decode cX4_notAbove 14 = .ok (.iadd, 1) := by decide +kernel
theorem dX4_notAbove_15 : decode cX4_notAbove 15 = .ok (.iconst 2, 1) := by decide +kernel
theorem dX4_notAbove_16 : decode cX4_notAbove 16 = .ok (.idiv, 1) := by decide +kernel
theorem dX4_notAbove_17 : decode cX4_notAbove 17 = .ok (.istore 4, 2) := by decide +kernel
theorem dX4_notAbove_19 : decode cX4_notAbove 19 = .ok (.aload_n 0, 1) := by decide +kernel
theorem dX4_notAbove_20 : decode cX4_notAbove 20 = .ok (.iload 4, 2) := by decide +kernel
theorem dX4_notAbove_22 : decode cX4_notAbove 22 = .ok (.invokevirtual 29, 3) := by decide +kernel
theorem dX4_notAbove_25 : decode cX4_notAbove 25 = .ok (.iload_n 1, 1) := by decide +kernel
theorem dX4_notAbove_26 : decode cX4_notAbove 26 = .ok (.if_icmp .gt 11, 3) := by decide +kernel
theorem dX4_notAbove_29 : decode cX4_notAbove 29 = .ok (.iload 4, 2) := by decide +kernel
theorem dX4_notAbove_31 : decode cX4_notAbove 31 = .ok (.iconst 1, 1) := by decide +kernel
theorem dX4_notAbove_32 : decode cX4_notAbove 32 = .ok (.iadd, 1) := by decide +kernel
theorem dX4_notAbove_33 : decode cX4_notAbove 33 = .ok (.istore_n 2, 1) := by decide +kernel
theorem dX4_notAbove_34 : decode cX4_notAbove 34 = .ok (.goto 6, 3) := by decide +kernel
theorem dX4_notAbove_37 : decode cX4_notAbove 37 = .ok (.iload 4, 2) := by decide +kernel
theorem dX4_notAbove_39 : decode cX4_notAbove 39 = .ok (.istore_n 3, 1) := by decide +kernel
theorem dX4_notAbove_40 : decode cX4_notAbove 40 = .ok (.goto (-33), 3) := by decide +kernel
theorem dX4_notAbove_43 : decode cX4_notAbove 43 = .ok (.iload_n 2, 1) := by decide +kernel
theorem dX4_notAbove_44 : decode cX4_notAbove 44 = .ok (.ireturn, 1) := by decide +kernel
set_option maxRecDepth 20000 in
theorem ggX5_init_X4_init : GoodIn wsX5_init wsX4_init := goodIn_r _ [10, 11, 2, 3, 12, 13, 14, 15] (by decide +kernel) (by decide +kernel)
set_option maxRecDepth 20000 in
theorem gX5_init_X4_init_n9 : GoodIn wsX5_init (wsX4_init) := ggX5_init_X4_init
theorem dX5_init_0 : decode cX5_init 0 = .ok (.aload_n 0, 1) := by decide +kernel
theorem dX5_init_1 : decode cX5_init 1 = .ok (.invokespecial 1, 3) := by decide +kernel
theorem dX5_init_4 : decode cX5_init 4 = .ok (.aload_n 0, 1) := by decide +kernel
theorem dX5_init_5 : decode cX5_init 5 = .ok (.new 7, 3) := by decide +kernel
theorem dX5_init_8 : decode cX5_init 8 = .ok (.dup, 1) := by decide +kernel
theorem dX5_init_9 : decode cX5_init 9 = .ok (.invokespecial 9, 3) := by decide +kernel
theorem dX5_init_12 : decode cX5_init 12 = .ok (.putfield 10, 3) := by decide +kernel
theorem dX5_init_15 : decode cX5_init 15 = .ok (.aload_n 0, 1) := by decide +kernel
theorem dX5_init_16 : decode cX5_init 16 = .ok (.new 7, 3) := by decide +kernel
theorem dX5_init_19 : decode cX5_init 19 = .ok (.dup, 1) := by decide +kernel
theorem dX5_init_20 : decode cX5_init 20 = .ok (.invokespecial 9, 3) := by decide +kernel
theorem dX5_init_23 : decode cX5_init 23 = .ok (.putfield 16, 3) := by decide +kernel
theorem dX5_init_26 : decode cX5_init 26 = .ok (.return_, 1) := by decide +kernel
set_option maxRecDepth 20000 in
theorem ggX5_clear_X4_cutTo : GoodIn wsX5_clear wsX4_cutTo := goodIn_r _ [8, 9, 13, 14] (by decide +kernel) (by decide +kernel)
set_option maxRecDepth 20000 in
theorem gX5_clear_X4_cutTo : GoodIn wsX5_clear (wsV RX5 19 RX4 yX4_cutTo wsX4_cutTo) := goodIn_app (goodIn_of _ (by decide +kernel)) ggX5_clear_X4_cutTo
theorem dX5_clear_0 : decode cX5_clear 0 = .ok (.aload_n 0, 1) := by decide +kernel
theorem dX5_clear_1 : decode cX5_clear 1 = .ok (.getfield 10, 3) := by decide +kernel
theorem dX5_clear_4 : decode cX5_clear 4 = .ok (.iconst 0, 1) := by decide +kernel
theorem dX5_clear_5 : decode cX5_clear 5 = .ok (.invokevirtual 19, 3) := by decide +kernel
theorem dX5_clear_8 : decode cX5_clear 8 = .ok (.aload_n 0, 1) := by decide +kernel
theorem dX5_clear_9 : decode cX5_clear 9 = .ok (.getfield 16, 3) := by decide +kernel
theorem dX5_clear_12 : decode cX5_clear 12 = .ok (.iconst 0, 1) := by decide +kernel
theorem dX5_clear_13 : decode cX5_clear 13 = .ok (.invokevirtual 19, 3) := by decide +kernel
theorem dX5_clear_16 : decode cX5_clear 16 = .ok (.aload_n 0, 1) := by decide +kernel
theorem dX5_clear_17 : decode cX5_clear 17 = .ok (.iconst 0, 1) := by decide +kernel
theorem dX5_clear_18 : decode cX5_clear 18 = .ok (.putfield 23, 3) := by decide +kernel
theorem dX5_clear_21 : decode cX5_clear 21 = .ok (.return_, 1) := by decide +kernel
theorem dX5_total_0 : decode cX5_total 0 = .ok (.aload_n 0, 1) := by decide +kernel
theorem dX5_total_1 : decode cX5_total 1 = .ok (.getfield 23, 3) := by decide +kernel
theorem dX5_total_4 : decode cX5_total 4 = .ok (.ireturn, 1) := by decide +kernel
set_option maxRecDepth 20000 in
theorem ggX5_kinds_X4_size : GoodIn wsX5_kinds wsX4_size := goodIn_r _ [6, 7, 11, 12] (by decide +kernel) (by decide +kernel)
set_option maxRecDepth 20000 in
theorem gX5_kinds_X4_size : GoodIn wsX5_kinds (wsV RX5 27 RX4 yX4_size wsX4_size) := goodIn_app (goodIn_of _ (by decide +kernel)) ggX5_kinds_X4_size
theorem dX5_kinds_0 : decode cX5_kinds 0 = .ok (.aload_n 0, 1) := by decide +kernel
theorem dX5_kinds_1 : decode cX5_kinds 1 = .ok (.getfield 10, 3) := by decide +kernel
theorem dX5_kinds_4 : decode cX5_kinds 4 = .ok (.invokevirtual 27, 3) := by decide +kernel
theorem dX5_kinds_7 : decode cX5_kinds 7 = .ok (.ireturn, 1) := by decide +kernel
set_option maxRecDepth 20000 in
theorem ggX5_numberAt_X4_at : GoodIn wsX5_numberAt wsX4_at := goodIn_r _ [6, 7, 8, 9, 10, 5, 11, 12, 16, 17] (by decide +kernel) (by decide +kernel)
set_option maxRecDepth 20000 in
theorem gX5_numberAt_X4_at : GoodIn wsX5_numberAt (wsV RX5 31 RX4 yX4_at wsX4_at) := goodIn_app (goodIn_of _ (by decide +kernel)) ggX5_numberAt_X4_at
theorem dX5_numberAt_0 : decode cX5_numberAt 0 = .ok (.aload_n 0, 1) := by decide +kernel
theorem dX5_numberAt_1 : decode cX5_numberAt 1 = .ok (.getfield 10, 3) := by decide +kernel
theorem dX5_numberAt_4 : decode cX5_numberAt 4 = .ok (.iload_n 1, 1) := by decide +kernel
theorem dX5_numberAt_5 : decode cX5_numberAt 5 = .ok (.invokevirtual 31, 3) := by decide +kernel
theorem dX5_numberAt_8 : decode cX5_numberAt 8 = .ok (.ireturn, 1) := by decide +kernel
set_option maxRecDepth 20000 in
theorem ggX5_timesAt_X4_at : GoodIn wsX5_timesAt wsX4_at := goodIn_r _ [6, 7, 8, 9, 10, 5, 11, 12, 16, 17] (by decide +kernel) (by decide +kernel)
set_option maxRecDepth 20000 in
theorem gX5_timesAt_X4_at : GoodIn wsX5_timesAt (wsV RX5 31 RX4 yX4_at wsX4_at) := goodIn_app (goodIn_of _ (by decide +kernel)) ggX5_timesAt_X4_at
theorem dX5_timesAt_0 : decode cX5_timesAt 0 = .ok (.aload_n 0, 1) := by decide +kernel
theorem dX5_timesAt_1 : decode cX5_timesAt 1 = .ok (.getfield 16, 3) := by decide +kernel
theorem dX5_timesAt_4 : decode cX5_timesAt 4 = .ok (.iload_n 1, 1) := by decide +kernel
theorem dX5_timesAt_5 : decode cX5_timesAt 5 = .ok (.invokevirtual 31, 3) := by decide +kernel
theorem dX5_timesAt_8 : decode cX5_timesAt 8 = .ok (.ireturn, 1) := by decide +kernel
set_option maxRecDepth 20000 in
theorem ggX5_add_X4_notAbove : GoodIn wsX5_add wsX4_notAbove := goodIn_r _ [8, 9, 10, 11, 12, 7, 13, 14, 15, 16, 17, 18, 35, 36] (by decide +kernel) (by decide +kernel)
set_option maxRecDepth 20000 in
theorem gX5_add_X4_notAbove : GoodIn wsX5_add (wsV RX5 35 RX4 yX4_notAbove wsX4_notAbove) := goodIn_app (goodIn_of _ (by decide +kernel)) ggX5_add_X4_notAbove
set_option maxRecDepth 20000 in
theorem ggX5_add_X4_at : GoodIn wsX5_add wsX4_at := goodIn_r _ [13, 14, 15, 16, 17, 7, 18, 9, 35, 36] (by decide +kernel) (by decide +kernel)
set_option maxRecDepth 20000 in
theorem gX5_add_X4_at : GoodIn wsX5_add (wsV RX5 31 RX4 yX4_at wsX4_at) := goodIn_app (goodIn_of _ (by decide +kernel)) ggX5_add_X4_at
set_option maxRecDepth 20000 in
theorem ggX5_add_X4_put : GoodIn wsX5_add wsX4_put := goodIn_r _ [23, 14, 15, 16, 17, 7, 18, 9, 35, 36] (by decide +kernel) (by decide +kernel)
set_option maxRecDepth 20000 in
theorem gX5_add_X4_put : GoodIn wsX5_add (wsV RX5 38 RX4 yX4_put wsX4_put) := goodIn_app (goodIn_of _ (by decide +kernel)) ggX5_add_X4_put
set_option maxRecDepth 20000 in
theorem ggX5_add_X4_insert : GoodIn wsX5_add wsX4_insert := goodIn_r _ [27, 9, 14, 28, 29, 30, 31, 35, 36] (by decide +kernel) (by decide +kernel)
set_option maxRecDepth 20000 in
theorem gX5_add_X4_insert : GoodIn wsX5_add (wsV RX5 42 RX4 yX4_insert wsX4_insert) := goodIn_app (goodIn_of _ (by decide +kernel)) ggX5_add_X4_insert
theorem dX5_add_0 : decode cX5_add 0 = .ok (.aload_n 0, 1) := by decide +kernel
theorem dX5_add_1 : decode cX5_add 1 = .ok (.getfield 10, 3) := by decide +kernel
theorem dX5_add_4 : decode cX5_add 4 = .ok (.iload_n 1, 1) := by decide +kernel
theorem dX5_add_5 : decode cX5_add 5 = .ok (.invokevirtual 35, 3) := by decide +kernel
theorem dX5_add_8 : decode cX5_add 8 = .ok (.istore_n 3, 1) := by decide +kernel
theorem dX5_add_9 : decode cX5_add 9 = .ok (.iload_n 3, 1) := by decide +kernel
theorem dX5_add_10 : decode cX5_add 10 = .ok (.ifCond .le 42, 3) := by decide +kernel
theorem dX5_add_13 : decode cX5_add 13 = .ok (.aload_n 0, 1) := by decide +kernel
theorem dX5_add_14 : decode cX5_add 14 = .ok (.getfield 10, 3) := by decide +kernel
theorem dX5_add_17 : decode cX5_add 17 = .ok (.iload_n 3, 1) := by decide +kernel
theorem dX5_add_18 : decode cX5_add 18 = .ok (.iconst 1, 1) := by decide +kernel
theorem dX5_add_19 : decode cX5_add 19 = .ok (.isub, 1) := by decide +kernel
theorem dX5_add_20 : decode cX5_add 20 = .ok (.invokevirtual 31, 3) := by decide +kernel
theorem dX5_add_23 : decode cX5_add 23 = .ok (.iload_n 1, 1) := by decide +kernel
theorem dX5_add_24 : decode cX5_add 24 = .ok (.if_icmp .ne 28, 3) := by decide +kernel
theorem dX5_add_27 : decode cX5_add 27 = .ok (.aload_n 0, 1) := by decide +kernel
theorem dX5_add_28 : decode cX5_add 28 = .ok (.getfield 16, 3) := by decide +kernel
theorem dX5_add_31 : decode cX5_add 31 = .ok (.iload_n 3, 1) := by decide +kernel
theorem dX5_add_32 : decode cX5_add 32 = .ok (.iconst 1, 1) := by decide +kernel
theorem dX5_add_33 : decode cX5_add 33 = .ok (.isub, 1) := by decide +kernel
theorem dX5_add_34 : decode cX5_add 34 = .ok (.aload_n 0, 1) := by decide +kernel
theorem dX5_add_35 : decode cX5_add 35 = .ok (.getfield 16, 3) := by decide +kernel
theorem dX5_add_38 : decode cX5_add 38 = .ok (.iload_n 3, 1) := by decide +kernel
theorem dX5_add_39 : decode cX5_add 39 = .ok (.iconst 1, 1) := by decide +kernel
theorem dX5_add_40 : decode cX5_add 40 = .ok (.isub, 1) := by decide +kernel
theorem dX5_add_41 : decode cX5_add 41 = .ok (.invokevirtual 31, 3) := by decide +kernel
theorem dX5_add_44 : decode cX5_add 44 = .ok (.iload_n 2, 1) := by decide +kernel
theorem dX5_add_45 : decode cX5_add 45 = .ok (.iadd, 1) := by decide +kernel
theorem dX5_add_46 : decode cX5_add 46 = .ok (.invokevirtual 38, 3) := by decide +kernel
theorem dX5_add_49 : decode cX5_add 49 = .ok (.goto 21, 3) := by decide +kernel
theorem dX5_add_52 : decode cX5_add 52 = .ok (.aload_n 0, 1) := by decide +kernel
theorem dX5_add_53 : decode cX5_add 53 = .ok (.getfield 10, 3) := by decide +kernel
theorem dX5_add_56 : decode cX5_add 56 = .ok (.iload_n 3, 1) := by decide +kernel
theorem dX5_add_57 : decode cX5_add 57 = .ok (.iload_n 1, 1) := by decide +kernel
theorem dX5_add_58 : decode cX5_add 58 = .ok (.invokevirtual 42, 3) := by decide +kernel
theorem dX5_add_61 : decode cX5_add 61 = .ok (.aload_n 0, 1) := by decide +kernel
theorem dX5_add_62 : decode cX5_add 62 = .ok (.getfield 16, 3) := by decide +kernel
theorem dX5_add_65 : decode cX5_add 65 = .ok (.iload_n 3, 1) := by decide +kernel
theorem dX5_add_66 : decode cX5_add 66 = .ok (.iload_n 2, 1) := by decide +kernel
theorem dX5_add_67 : decode cX5_add 67 = .ok (.invokevirtual 42, 3) := by decide +kernel
theorem dX5_add_70 : decode cX5_add 70 = .ok (.aload_n 0, 1) := by decide +kernel
theorem dX5_add_71 : decode cX5_add 71 = .ok (.dup, 1) := by decide +kernel
theorem dX5_add_72 : decode cX5_add 72 = .ok (.getfield 23, 3) := by decide +kernel
theorem dX5_add_75 : decode cX5_add 75 = .ok (.iload_n 2, 1) := by decide +kernel
theorem dX5_add_76 : decode cX5_add 76 = .ok (.iadd, 1) := by decide +kernel
theorem dX5_add_77 : decode cX5_add 77 = .ok (.putfield 23, 3) := by decide +kernel
theorem dX5_add_80 : decode cX5_add 80 = .ok (.return_, 1) := by decide +kernel
set_option maxRecDepth 20000 in
theorem ggX5_notAbove_X4_notAbove : GoodIn wsX5_notAbove wsX4_notAbove := goodIn_r _ [7, 8, 9, 10, 11, 6, 12, 13, 14, 15, 16, 17, 25, 26] (by decide +kernel) (by decide +kernel)
set_option maxRecDepth 20000 in
theorem gX5_notAbove_X4_notAbove : GoodIn wsX5_notAbove (wsV RX5 35 RX4 yX4_notAbove wsX4_notAbove) := goodIn_app (goodIn_of _ (by decide +kernel)) ggX5_notAbove_X4_notAbove
set_option maxRecDepth 20000 in
theorem ggX5_notAbove_X4_sumOfFirst : GoodIn wsX5_notAbove wsX4_sumOfFirst := goodIn_r _ [21, 8, 9, 10, 11, 6, 12, 13, 14, 15, 16, 17, 25, 26] (by decide +kernel) (by decide +kernel)
set_option maxRecDepth 20000 in
theorem gX5_notAbove_X4_sumOfFirst : GoodIn wsX5_notAbove (wsV RX5 45 RX4 yX4_sumOfFirst wsX4_sumOfFirst) := goodIn_app (goodIn_of _ (by decide +kernel)) ggX5_notAbove_X4_sumOfFirst
theorem dX5_notAbove_0 : decode cX5_notAbove 0 = .ok (.aload_n 0, 1) := by decide +kernel
theorem dX5_notAbove_1 : decode cX5_notAbove 1 = .ok (.getfield 16, 3) := by decide +kernel
theorem dX5_notAbove_4 : decode cX5_notAbove 4 = .ok (.aload_n 0, 1) := by decide +kernel
theorem dX5_notAbove_5 : decode cX5_notAbove 5 = .ok (.getfield 10, 3) := by decide +kernel
theorem dX5_notAbove_8 : decode cX5_notAbove 8 = .ok (.iload_n 1, 1) := by decide +kernel
theorem dX5_notAbove_9 : decode cX5_notAbove 9 = .ok (.invokevirtual 35, 3) := by decide +kernel
theorem dX5_notAbove_12 : decode cX5_notAbove 12 = .ok (.invokevirtual 45, 3) := by decide +kernel
theorem dX5_notAbove_15 : decode cX5_notAbove 15 = .ok (.ireturn, 1) := by decide +kernel
set_option maxRecDepth 20000 in
theorem ggX5_withRank_X4_size : GoodIn wsX5_withRank wsX4_size := goodIn_r _ [7, 8, 21, 22] (by decide +kernel) (by decide +kernel)
set_option maxRecDepth 20000 in
theorem gX5_withRank_X4_size : GoodIn wsX5_withRank (wsV RX5 27 RX4 yX4_size wsX4_size) := goodIn_app (goodIn_of _ (by decide +kernel)) ggX5_withRank_X4_size
set_option maxRecDepth 20000 in
theorem ggX5_withRank_X4_at : GoodIn wsX5_withRank wsX4_at := goodIn_r _ [12, 13, 14, 15, 16, 6, 17, 8, 21, 22] (by decide +kernel) (by decide +kernel)
set_option maxRecDepth 20000 in
theorem gX5_withRank_X4_at : GoodIn wsX5_withRank (wsV RX5 31 RX4 yX4_at wsX4_at) := goodIn_app (goodIn_of _ (by decide +kernel)) ggX5_withRank_X4_at
theorem dX5_withRank_0 : decode cX5_withRank 0 = .ok (.iconst 0, 1) := by decide +kernel
theorem dX5_withRank_1 : decode cX5_withRank 1 = .ok (.istore_n 2, 1) := by decide +kernel
theorem dX5_withRank_2 : decode cX5_withRank 2 = .ok (.iconst 0, 1) := by decide +kernel
theorem dX5_withRank_3 : decode cX5_withRank 3 = .ok (.istore_n 3, 1) := by decide +kernel
theorem dX5_withRank_4 : decode cX5_withRank 4 = .ok (.iload_n 3, 1) := by decide +kernel
theorem dX5_withRank_5 : decode cX5_withRank 5 = .ok (.aload_n 0, 1) := by decide +kernel
theorem dX5_withRank_6 : decode cX5_withRank 6 = .ok (.getfield 10, 3) := by decide +kernel
theorem dX5_withRank_9 : decode cX5_withRank 9 = .ok (.invokevirtual 27, 3) := by decide +kernel
theorem dX5_withRank_12 : decode cX5_withRank 12 = .ok (.if_icmp .ge 34, 3) := by decide +kernel
theorem dX5_withRank_15 : decode cX5_withRank 15 = .ok (.iload_n 2, 1) := by decide +kernel
theorem dX5_withRank_16 : decode cX5_withRank 16 = .ok (.aload_n 0, 1) := by decide +kernel
theorem dX5_withRank_17 : decode cX5_withRank 17 = .ok (.getfield 16, 3) := by decide +kernel
theorem dX5_withRank_20 : decode cX5_withRank 20 = .ok (.iload_n 3, 1) := by decide +kernel
theorem dX5_withRank_21 : decode cX5_withRank 21 = .ok (.invokevirtual 31, 3) := by decide +kernel
theorem dX5_withRank_24 : decode cX5_withRank 24 = .ok (.iadd, 1) := by decide +kernel
theorem dX5_withRank_25 : decode cX5_withRank 25 = .ok (.istore_n 2, 1) := by decide +kernel
theorem dX5_withRank_26 : decode cX5_withRank 26 = .ok (.iload_n 2, 1) := by decide +kernel
theorem dX5_withRank_27 : decode cX5_withRank 27 = .ok (.iload_n 1, 1) := by decide +kernel
theorem dX5_withRank_28 : decode cX5_withRank 28 = .ok (.if_icmp .lt 12, 3) := by decide +kernel
theorem dX5_withRank_31 : decode cX5_withRank 31 = .ok (.aload_n 0, 1) := by decide +kernel
theorem dX5_withRank_32 : decode cX5_withRank 32 = .ok (.getfield 10, 3) := by decide +kernel
theorem dX5_withRank_35 : decode cX5_withRank 35 = .ok (.iload_n 3, 1) := by decide +kernel
theorem dX5_withRank_36 : decode cX5_withRank 36 = .ok (.invokevirtual 31, 3) := by decide +kernel
theorem dX5_withRank_39 : decode cX5_withRank 39 = .ok (.ireturn, 1) := by decide +kernel
theorem dX5_withRank_40 : decode cX5_withRank 40 = .ok (.iinc 3 1, 3) := by decide +kernel
theorem dX5_withRank_43 : decode cX5_withRank 43 = .ok (.goto (-39), 3) := by decide +kernel
theorem dX5_withRank_46 : decode cX5_withRank 46 = .ok (.iconst 0, 1) := by decide +kernel
theorem dX5_withRank_47 : decode cX5_withRank 47 = .ok (.ireturn, 1) := by decide +kernel
set_option maxRecDepth 20000 in
theorem ggX6_init_X0_init : GoodIn wsX6_init wsX0_init := goodIn_r _ [9, 10, 2, 3, 11, 12, 13, 14, 15, 16, 17, 18, 19, 20, 21, 22, 23, 24, 25, 26, 27, 28, 29, 30, 31, 32, 33, 34, 35, 36, 37, 38, 39, 40, 41, 42, 43, 44, 45, 46, 47, 48, 49, 50, 51, 52, 53, 54, 55, 56, 62, 63, 64, 58, 59, 60, 61, 65, 66, 67, 68, 69, 70, 71, 72] (by decide +kernel) (by decide +kernel)
set_option maxRecDepth 20000 in
theorem gX6_init_X0_init_n15 : GoodIn wsX6_init (wsX0_init) := ggX6_init_X0_init
theorem dX6_init_0 : decode cX6_init 0 = .ok (.aload_n 0, 1) := by decide +kernel
theorem dX6_init_1 : decode cX6_init 1 = .ok (.invokespecial 1, 3) := by decide +kernel
theorem dX6_init_4 : decode cX6_init 4 = .ok (.aload_n 0, 1) := by decide +kernel
theorem dX6_init_5 : decode cX6_init 5 = .ok (.iconst 4, 1) := by decide +kernel
theorem dX6_init_6 : decode cX6_init 6 = .ok (.anewarray 9, 3) := by decide +kernel
theorem dX6_init_9 : decode cX6_init 9 = .ok (.putfield 11, 3) := by decide +kernel
theorem dX6_init_12 : decode cX6_init 12 = .ok (.iconst 0, 1) := by decide +kernel
theorem dX6_init_13 : decode cX6_init 13 = .ok (.istore_n 1, 1) := by decide +kernel
theorem dX6_init_14 : decode cX6_init 14 = .ok (.iload_n 1, 1) := by decide +kernel
theorem dX6_init_15 : decode cX6_init 15 = .ok (.aload_n 0, 1) := by decide +kernel
theorem dX6_init_16 : decode cX6_init 16 = .ok (.getfield 11, 3) := by decide +kernel
theorem dX6_init_19 : decode cX6_init 19 = .ok (.arraylength, 1) := by decide +kernel
theorem dX6_init_20 : decode cX6_init 20 = .ok (.if_icmp .ge 22, 3) := by decide +kernel
theorem dX6_init_23 : decode cX6_init 23 = .ok (.aload_n 0, 1) := by decide +kernel
theorem dX6_init_24 : decode cX6_init 24 = .ok (.getfield 11, 3) := by decide +kernel
theorem dX6_init_27 : decode cX6_init 27 = .ok (.iload_n 1, 1) := by decide +kernel
theorem dX6_init_28 : decode cX6_init 28 = .ok (.new 9, 3) := by decide +kernel
theorem dX6_init_31 : decode cX6_init 31 = .ok (.dup, 1) := by decide +kernel
theorem dX6_init_32 : decode cX6_init 32 = .ok (.invokespecial 15, 3) := by decide +kernel
theorem dX6_init_35 : decode cX6_init 35 = .ok (.aastore, 1) := by decide +kernel
theorem dX6_init_36 : decode cX6_init 36 = .ok (.iinc 1 1, 3) := by decide +kernel
theorem dX6_init_39 : decode cX6_init 39 = .ok (.goto (-25), 3) := by decide +kernel
theorem dX6_init_42 : decode cX6_init 42 = .ok (.return_, 1) := by decide +kernel
set_option maxRecDepth 20000 in
theorem ggX6_begin_X6_counterAt : GoodIn wsX6_begin wsX6_counterAt := goodIn_ca (goodIn_r _ [5, 6, 7, 8, 72] (by decide +kernel) (by decide +kernel)) (goodIn_sub (fun _ h => List.mem_cons_of_mem _ (List.mem_append_left _ (List.mem_append_right _ h))) (by decide +kernel))
set_option maxRecDepth 20000 in
theorem gX6_begin_X6_counterAt : GoodIn wsX6_begin (wsV RX6 16 RX6 yX6_counterAt wsX6_counterAt) := goodIn_app (goodIn_of _ (by decide +kernel)) ggX6_begin_X6_counterAt
set_option maxRecDepth 20000 in
theorem ggX6_begin_X6_demandInRange : GoodIn wsX6_begin wsX6_demandInRange := goodIn_ca (goodIn_r _ [11, 12, 13] (by decide +kernel) (by decide +kernel)) (goodIn_sub (fun _ h => List.mem_cons_of_mem _ (List.mem_append_right _ h)) (by decide +kernel))
set_option maxRecDepth 20000 in
theorem gX6_begin_X6_demandInRange : GoodIn wsX6_begin (va_wsS RX6 20 yX6_demandInRange wsX6_demandInRange) := goodIn_app (goodIn_of _ (by decide +kernel)) ggX6_begin_X6_demandInRange
set_option maxRecDepth 20000 in
theorem ggX6_begin_X5_total : GoodIn wsX6_begin wsX5_total := goodIn_r _ [18, 19, 73, 74, 75] (by decide +kernel) (by decide +kernel)
set_option maxRecDepth 20000 in
theorem gX6_begin_X5_total : GoodIn wsX6_begin (wsV RX6 28 RX5 yX5_total wsX5_total) := goodIn_app (goodIn_of _ (by decide +kernel)) ggX6_begin_X5_total
set_option maxRecDepth 20000 in
theorem ggX6_begin_X0_beginAnew : GoodIn wsX6_begin wsX0_beginAnew := goodIn_r _ [24, 25, 26, 27, 28, 29, 30, 31, 32, 33, 34, 35, 36, 37, 38, 39, 40, 41, 42, 43, 44, 45, 46, 47, 48, 49, 17, 50, 51, 52, 19, 53, 54, 55, 56, 57, 58, 59, 60, 61, 62, 63, 64, 65, 66, 67, 68, 69, 70, 71, 76, 77, 78, 79, 80, 73, 74, 75, 81, 82, 83] (by decide +kernel) (by decide +kernel)
set_option maxRecDepth 20000 in
theorem gX6_begin_X0_beginAnew : GoodIn wsX6_begin (wsV RX6 34 RX0 yX0_beginAnew wsX0_beginAnew) := goodIn_app (goodIn_of _ (by decide +kernel)) ggX6_begin_X0_beginAnew
theorem dX6_begin_0 : decode cX6_begin 0 = .ok (.aload_n 0, 1) := by decide +kernel
theorem dX6_begin_1 : decode cX6_begin 1 = .ok (.iload_n 1, 1) := by decide +kernel
theorem dX6_begin_2 : decode cX6_begin 2 = .ok (.invokevirtual 16, 3) := by decide +kernel
theorem dX6_begin_5 : decode cX6_begin 5 = .ok (.astore_n 3, 1) := by decide +kernel
theorem dX6_begin_6 : decode cX6_begin 6 = .ok (.iload_n 2, 1) := by decide +kernel
theorem dX6_begin_7 : decode cX6_begin 7 = .ok (.iconst 5, 1) := by decide +kernel
theorem dX6_begin_8 : decode cX6_begin 8 = .ok (.if_icmp .lt 14, 3) := by decide +kernel
theorem dX6_begin_11 : decode cX6_begin 11 = .ok (.iload_n 2, 1) := by decide +kernel
theorem dX6_begin_12 : decode cX6_begin 12 = .ok (.sipush 200, 3) := by decide +kernel
theorem dX6_begin_15 : decode cX6_begin 15 = .ok (.if_icmp .gt 7, 3) := by decide +kernel
theorem dX6_begin_18 : decode cX6_begin 18 = .ok (.iconst 1, 1) := by decide +kernel
theorem dX6_begin_19 : decode cX6_begin 19 = .ok (.goto 4, 3) := by decide +kernel
theorem dX6_begin_22 : decode cX6_begin 22 = .ok (.iconst 0, 1) := by decide +kernel
theorem dX6_begin_23 : decode cX6_begin 23 = .ok (.invokestatic 20, 3) := by decide +kernel
theorem dX6_begin_26 : decode cX6_begin 26 = .ok (.aload_n 3, 1) := by decide +kernel
theorem dX6_begin_27 : decode cX6_begin 27 = .ok (.getfield 24, 3) := by decide +kernel
theorem dX6_begin_30 : decode cX6_begin 30 = .ok (.invokevirtual 28, 3) := by decide +kernel
theorem dX6_begin_33 : decode cX6_begin 33 = .ok (.istore 4, 2) := by decide +kernel
theorem dX6_begin_35 : decode cX6_begin 35 = .ok (.aload_n 3, 1) := by decide +kernel
theorem dX6_begin_36 : decode cX6_begin 36 = .ok (.iload_n 2, 1) := by decide +kernel
theorem dX6_begin_37 : decode cX6_begin 37 = .ok (.invokevirtual 34, 3) := by decide +kernel
theorem dX6_begin_40 : decode cX6_begin 40 = .ok (.iload 4, 2) := by decide +kernel
theorem dX6_begin_42 : decode cX6_begin 42 = .ok (.ireturn, 1) := by decide +kernel
set_option maxRecDepth 20000 in
theorem ggX6_show_X6_counterAt : GoodIn wsX6_show wsX6_counterAt := goodIn_ca (goodIn_r _ [5, 6, 7, 8, 141] (by decide +kernel) (by decide +kernel)) (goodIn_sub (fun _ h => List.mem_cons_of_mem _ (List.mem_append_left _ (List.mem_append_left _ (List.mem_append_right _ h)))) (by decide +kernel))
set_option maxRecDepth 20000 in
theorem gX6_show_X6_counterAt : GoodIn wsX6_show (wsV RX6 16 RX6 yX6_counterAt wsX6_counterAt) := goodIn_app (goodIn_of _ (by decide +kernel)) ggX6_show_X6_counterAt
set_option maxRecDepth 20000 in
theorem ggX6_show_X6_isNumber : GoodIn wsX6_show wsX6_isNumber := goodIn_r _ [11] (by decide +kernel) (by decide +kernel)
set_option maxRecDepth 20000 in
theorem gX6_show_X6_isNumber : GoodIn wsX6_show (va_wsS RX6 38 yX6_isNumber wsX6_isNumber) := goodIn_app (goodIn_of _ (by decide +kernel)) ggX6_show_X6_isNumber
set_option maxRecDepth 20000 in
theorem ggX6_show_X6_demandInRange : GoodIn wsX6_show wsX6_demandInRange := goodIn_ca (goodIn_r _ [14, 15, 16] (by decide +kernel) (by decide +kernel)) (goodIn_sub (fun _ h => List.mem_cons_of_mem _ (List.mem_append_left _ (List.mem_append_right _ h))) (by decide +kernel))
set_option maxRecDepth 20000 in
theorem gX6_show_X6_demandInRange : GoodIn wsX6_show (va_wsS RX6 20 yX6_demandInRange wsX6_demandInRange) := goodIn_app (goodIn_of _ (by decide +kernel)) ggX6_show_X6_demandInRange
set_option maxRecDepth 20000 in
theorem ggX6_show_X0_demandRoomFor : GoodIn wsX6_show wsX0_demandRoomFor := goodIn_ca (goodIn_r _ [21, 22, 23, 24, 25, 26, 27, 28, 29, 30, 137, 138, 139, 140, 142, 143, 144] (by decide +kernel) (by decide +kernel)) (goodIn_sub (fun _ h => List.mem_cons_of_mem _ (List.mem_append_right _ h)) (by decide +kernel))
set_option maxRecDepth 20000 in
theorem gX6_show_X0_demandRoomFor : GoodIn wsX6_show (wsV RX6 42 RX0 yX0_demandRoomFor wsX0_demandRoomFor) := goodIn_app (goodIn_of _ (by decide +kernel)) ggX6_show_X0_demandRoomFor
set_option maxRecDepth 20000 in
theorem ggX6_show_X0_take : GoodIn wsX6_show wsX0_take := goodIn_r _ [34, 35, 24, 36, 37, 38, 39, 40, 41, 42, 43, 44, 45, 46, 47, 48, 49, 50, 51, 52, 53, 54, 55, 56, 57, 58, 59, 60, 61, 62, 63, 64, 65, 66, 67, 68, 69, 70, 71, 72, 73, 74, 75, 76, 77, 78, 79, 80, 81, 82, 83, 84, 85, 86, 87, 28, 88, 89, 90, 30, 91, 92, 93, 94, 95, 96, 97, 98, 99, 100, 101, 102, 103, 104, 105, 106, 107, 108, 109, 110, 111, 112, 113, 114, 115, 116, 117, 118, 119, 120, 121, 122, 123, 124, 125, 126, 127, 128, 129, 130, 131, 132, 133, 134, 135, 137, 138, 139, 140, 145, 146, 147, 148, 149, 142, 143, 144, 150, 151, 152] (by decide +kernel) (by decide +kernel)
set_option maxRecDepth 20000 in
theorem gX6_show_X0_take : GoodIn wsX6_show (wsV RX6 45 RX0 yX0_take wsX0_take) := goodIn_app (goodIn_of _ (by decide +kernel)) ggX6_show_X0_take
set_option maxRecDepth 20000 in
theorem ggX6_show_X3_length : GoodIn wsX6_show wsX3_length := goodIn_r _ [67, 42, 68, 69, 70, 52, 71, 54, 145, 146, 147, 148, 149] (by decide +kernel) (by decide +kernel)
set_option maxRecDepth 20000 in
theorem gX6_show_X3_length : GoodIn wsX6_show (wsV RX6 52 RX3 yX3_length wsX3_length) := goodIn_app (goodIn_of _ (by decide +kernel)) ggX6_show_X3_length
theorem dX6_show_0 : decode cX6_show 0 = .ok (.aload_n 0, 1) := by decide +kernel
theorem dX6_show_1 : decode cX6_show 1 = .ok (.iload_n 1, 1) := by decide +kernel
theorem dX6_show_2 : decode cX6_show 2 = .ok (.invokevirtual 16, 3) := by decide +kernel
theorem dX6_show_5 : decode cX6_show 5 = .ok (.astore_n 3, 1) := by decide +kernel
theorem dX6_show_6 : decode cX6_show 6 = .ok (.iload_n 2, 1) := by decide +kernel
theorem dX6_show_7 : decode cX6_show 7 = .ok (.invokestatic 38, 3) := by decide +kernel
theorem dX6_show_10 : decode cX6_show 10 = .ok (.invokestatic 20, 3) := by decide +kernel
theorem dX6_show_13 : decode cX6_show 13 = .ok (.aload_n 3, 1) := by decide +kernel
theorem dX6_show_14 : decode cX6_show 14 = .ok (.iconst 1, 1) := by decide +kernel
theorem dX6_show_15 : decode cX6_show 15 = .ok (.invokevirtual 42, 3) := by decide +kernel
theorem dX6_show_18 : decode cX6_show 18 = .ok (.aload_n 3, 1) := by decide +kernel
theorem dX6_show_19 : decode cX6_show 19 = .ok (.iload_n 2, 1) := by decide +kernel
theorem dX6_show_20 : decode cX6_show 20 = .ok (.invokevirtual 45, 3) := by decide +kernel
theorem dX6_show_23 : decode cX6_show 23 = .ok (.aload_n 3, 1) := by decide +kernel
theorem dX6_show_24 : decode cX6_show 24 = .ok (.getfield 48, 3) := by decide +kernel
theorem dX6_show_27 : decode cX6_show 27 = .ok (.invokevirtual 52, 3) := by decide +kernel
theorem dX6_show_30 : decode cX6_show 30 = .ok (.ireturn, 1) := by decide +kernel
set_option maxRecDepth 20000 in
theorem ggX6_showRow_X6_counterAt : GoodIn wsX6_showRow wsX6_counterAt := goodIn_ca (goodIn_r _ [5, 6, 7, 8, 141] (by decide +kernel) (by decide +kernel)) (goodIn_sub (fun _ h => List.mem_cons_of_mem _ (List.mem_append_left _ (List.mem_append_left _ (List.mem_append_right _ h)))) (by decide +kernel))
set_option maxRecDepth 20000 in
theorem gX6_showRow_X6_counterAt : GoodIn wsX6_showRow (wsV RX6 16 RX6 yX6_counterAt wsX6_counterAt) := goodIn_app (goodIn_of _ (by decide +kernel)) ggX6_showRow_X6_counterAt
set_option maxRecDepth 20000 in
theorem ggX6_showRow_X6_isNumber : GoodIn wsX6_showRow wsX6_isNumber := goodIn_r _ [11] (by decide +kernel) (by decide +kernel)
set_option maxRecDepth 20000 in
theorem gX6_showRow_X6_isNumber : GoodIn wsX6_showRow (va_wsS RX6 38 yX6_isNumber wsX6_isNumber) := goodIn_app (goodIn_of _ (by decide +kernel)) ggX6_showRow_X6_isNumber
set_option maxRecDepth 20000 in
theorem ggX6_showRow_X6_demandInRange : GoodIn wsX6_showRow wsX6_demandInRange := goodIn_ca (goodIn_r _ [14, 15, 16] (by decide +kernel) (by decide +kernel)) (goodIn_sub (fun _ h => List.mem_cons_of_mem _ (List.mem_append_left _ (List.mem_append_right _ h))) (by decide +kernel))
set_option maxRecDepth 20000 in
theorem gX6_showRow_X6_demandInRange : GoodIn wsX6_showRow (va_wsS RX6 20 yX6_demandInRange wsX6_demandInRange) := goodIn_app (goodIn_of _ (by decide +kernel)) ggX6_showRow_X6_demandInRange
set_option maxRecDepth 20000 in
theorem ggX6_showRow_X0_demandRoomFor : GoodIn wsX6_showRow wsX0_demandRoomFor := goodIn_ca (goodIn_r _ [21, 22, 23, 24, 25, 26, 27, 28, 29, 30, 137, 138, 139, 140, 142, 143, 144] (by decide +kernel) (by decide +kernel)) (goodIn_sub (fun _ h => List.mem_cons_of_mem _ (List.mem_append_right _ h)) (by decide +kernel))
set_option maxRecDepth 20000 in
theorem gX6_showRow_X0_demandRoomFor : GoodIn wsX6_showRow (wsV RX6 42 RX0 yX0_demandRoomFor wsX0_demandRoomFor) := goodIn_app (goodIn_of _ (by decide +kernel)) ggX6_showRow_X0_demandRoomFor
set_option maxRecDepth 20000 in
theorem ggX6_showRow_X0_take : GoodIn wsX6_showRow wsX0_take := goodIn_r _ [34, 35, 24, 36, 37, 38, 39, 40, 41, 42, 43, 44, 45, 46, 47, 48, 49, 50, 51, 52, 53, 54, 55, 56, 57, 58, 59, 60, 61, 62, 63, 64, 65, 66, 67, 68, 69, 70, 71, 72, 73, 74, 75, 76, 77, 78, 79, 80, 81, 82, 83, 84, 85, 86, 87, 28, 88, 89, 90, 30, 91, 92, 93, 94, 95, 96, 97, 98, 99, 100, 101, 102, 103, 104, 105, 106, 107, 108, 109, 110, 111, 112, 113, 114, 115, 116, 117, 118, 119, 120, 121, 122, 123, 124, 125, 126, 127, 128, 129, 130, 131, 132, 133, 134, 135, 137, 138, 139, 140, 145, 146, 147, 148, 149, 142, 143, 144, 150, 151, 152] (by decide +kernel) (by decide +kernel)
set_option maxRecDepth 20000 in
theorem gX6_showRow_X0_take : GoodIn wsX6_showRow (wsV RX6 45 RX0 yX0_take wsX0_take) := goodIn_app (goodIn_of _ (by decide +kernel)) ggX6_showRow_X0_take
set_option maxRecDepth 20000 in
theorem ggX6_showRow_X3_length : GoodIn wsX6_showRow wsX3_length := goodIn_r _ [67, 42, 68, 69, 70, 52, 71, 54, 145, 146, 147, 148, 149] (by decide +kernel) (by decide +kernel)
set_option maxRecDepth 20000 in
theorem gX6_showRow_X3_length : GoodIn wsX6_showRow (wsV RX6 52 RX3 yX3_length wsX3_length) := goodIn_app (goodIn_of _ (by decide +kernel)) ggX6_showRow_X3_length
theorem dX6_showRow_0 : decode cX6_showRow 0 = .ok (.aload_n 0, 1) := by decide +kernel
theorem dX6_showRow_1 : decode cX6_showRow 1 = .ok (.iload_n 1, 1) := by decide +kernel
theorem dX6_showRow_2 : decode cX6_showRow 2 = .ok (.invokevirtual 16, 3) := by decide +kernel
theorem dX6_showRow_5 : decode cX6_showRow 5 = .ok (.astore 5, 2) := by decide +kernel
theorem dX6_showRow_7 : decode cX6_showRow 7 = .ok (.iload_n 2, 1) := by decide +kernel
theorem dX6_showRow_8 : decode cX6_showRow 8 = .ok (.invokestatic 38, 3) := by decide +kernel
theorem dX6_showRow_11 : decode cX6_showRow 11 = .ok (.invokestatic 20, 3) := by decide +kernel
theorem dX6_showRow_14 : decode cX6_showRow 14 = .ok (.iload_n 3, 1) := by decide +kernel
theorem dX6_showRow_15 : decode cX6_showRow 15 = .ok (.ifCond .lt 14, 3) := by decide +kernel
theorem dX6_showRow_18 : decode cX6_showRow 18 = .ok (.iload_n 3, 1) := by decide +kernel
theorem dX6_showRow_19 : decode cX6_showRow 19 = .ok (.sipush 9999, 3) := by decide +kernel
theorem dX6_showRow_22 : decode cX6_showRow 22 = .ok (.if_icmp .gt 7, 3) := by decide +kernel
theorem dX6_showRow_25 : decode cX6_showRow 25 = .ok (.iconst 1, 1) := by decide +kernel
theorem dX6_showRow_26 : decode cX6_showRow 26 = .ok (.goto 4, 3) := by decide +kernel
theorem dX6_showRow_29 : decode cX6_showRow 29 = .ok (.iconst 0, 1) := by decide +kernel
theorem dX6_showRow_30 : decode cX6_showRow 30 = .ok (.invokestatic 20, 3) := by decide +kernel
theorem dX6_showRow_33 : decode cX6_showRow 33 = .ok (.iload 4, 2) := by decide +kernel
theorem dX6_showRow_35 : decode cX6_showRow 35 = .ok (.iconst 1, 1) := by decide +kernel
theorem dX6_showRow_36 : decode cX6_showRow 36 = .ok (.if_icmp .lt 14, 3) := by decide +kernel
theorem dX6_showRow_39 : decode cX6_showRow 39 = .ok (.iload 4, 2) := by decide +kernel
theorem dX6_showRow_41 : decode cX6_showRow 41 = .ok (.bipush 100, 2) := by decide +kernel
theorem dX6_showRow_43 : decode cX6_showRow 43 = .ok (.if_icmp .gt 7, 3) := by decide +kernel
theorem dX6_showRow_46 : decode cX6_showRow 46 = .ok (.iconst 1, 1) := by decide +kernel
theorem dX6_showRow_47 : decode cX6_showRow 47 = .ok (.goto 4, 3) := by decide +kernel
theorem dX6_showRow_50 : decode cX6_showRow 50 = .ok (.iconst 0, 1) := by decide +kernel
theorem dX6_showRow_51 : decode cX6_showRow 51 = .ok (.invokestatic 20, 3) := by decide +kernel
theorem dX6_showRow_54 : decode cX6_showRow 54 = .ok (.aload 5, 2) := by decide +kernel
theorem dX6_showRow_56 : decode cX6_showRow 56 = .ok (.iload 4, 2) := by decide +kernel
theorem dX6_showRow_58 : decode cX6_showRow 58 = .ok (.invokevirtual 42, 3) := by decide +kernel
theorem dX6_showRow_61 : decode cX6_showRow 61 = .ok (.iload_n 2, 1) := by decide +kernel
theorem dX6_showRow_62 : decode cX6_showRow 62 = .ok (.istore 6, 2) := by decide +kernel
theorem dX6_showRow_64 : decode cX6_showRow 64 = .ok (.iconst 0, 1) := by decide +kernel
theorem dX6_showRow_65 : decode cX6_showRow 65 = .ok (.istore 7, 2) := by decide +kernel
theorem dX6_showRow_67 : decode cX6_showRow 67 = .ok (.iload 7, 2) := by decide +kernel
theorem dX6_showRow_69 : decode cX6_showRow 69 = .ok (.iload 4, 2) := by decide +kernel
theorem dX6_showRow_71 : decode cX6_showRow 71 = .ok (.if_icmp .ge 36, 3) := by decide +kernel
theorem dX6_showRow_74 : decode cX6_showRow 74 = .ok (.aload 5, 2) := by decide +kernel
theorem dX6_showRow_76 : decode cX6_showRow 76 = .ok (.iload 6, 2) := by decide +kernel
theorem dX6_showRow_78 : decode cX6_showRow 78 = .ok (.invokevirtual 45, 3) := by decide +kernel
theorem dX6_showRow_81 : decode cX6_showRow 81 = .ok (.iload 6, 2) := by decide +kernel
theorem dX6_showRow_83 : decode cX6_showRow 83 = .ok (.iload_n 3, 1) := by decide +kernel
theorem dX6_showRow_84 : decode cX6_showRow 84 = .ok (.iadd, 1) := by decide +kernel
theorem dX6_showRow_85 : decode cX6_showRow 85 = .ok (.istore 6, 2) := by decide +kernel
theorem dX6_showRow_87 : decode cX6_showRow 87 = .ok (.iload 6, 2) := by decide +kernel
theorem dX6_showRow_89 : decode cX6_showRow 89 = .ok (.sipush 9999, 3) := by decide +kernel
theorem dX6_showRow_92 : decode cX6_showRow 92 = .ok (.if_icmp .le 9, 3) := by decide +kernel
theorem dX6_showRow_95 : decode cX6_showRow 95 = .ok (.iinc 6 (-20000), 6) := by decide +kernel
theorem dX6_showRow_101 : decode cX6_showRow 101 = .ok (.iinc 7 1, 3) := by decide +kernel
theorem dX6_showRow_104 : decode cX6_showRow 104 = .ok (.goto (-37), 3) := by decide +kernel
theorem dX6_showRow_107 : decode cX6_showRow 107 = .ok (.aload 5, 2) := by decide +kernel
theorem dX6_showRow_109 : decode cX6_showRow 109 = .ok (.getfield 48, 3) := by decide +kernel
theorem dX6_showRow_112 : decode cX6_showRow 112 = .ok (.invokevirtual 52, 3) := by decide +kernel
theorem dX6_showRow_115 : decode cX6_showRow 115 = .ok (.ireturn, 1) := by decide +kernel
set_option maxRecDepth 20000 in
theorem ggX6_thinOut_X6_counterAt : GoodIn wsX6_thinOut wsX6_counterAt := goodIn_ca (goodIn_r _ [5, 6, 7, 8, 78] (by decide +kernel) (by decide +kernel)) (goodIn_sub (fun _ h => List.mem_cons_of_mem _ (List.mem_append_right _ h)) (by decide +kernel))
set_option maxRecDepth 20000 in
theorem gX6_thinOut_X6_counterAt : GoodIn wsX6_thinOut (wsV RX6 16 RX6 yX6_counterAt wsX6_counterAt) := goodIn_app (goodIn_of _ (by decide +kernel)) ggX6_thinOut_X6_counterAt
set_option maxRecDepth 20000 in
theorem ggX6_thinOut_X3_length : GoodIn wsX6_thinOut wsX3_length := goodIn_r _ [13, 14, 15, 16, 17, 18, 19, 20, 79, 80, 81, 82, 83] (by decide +kernel) (by decide +kernel)
set_option maxRecDepth 20000 in
theorem gX6_thinOut_X3_length : GoodIn wsX6_thinOut (wsV RX6 52 RX3 yX3_length wsX3_length) := goodIn_app (goodIn_of _ (by decide +kernel)) ggX6_thinOut_X3_length
set_option maxRecDepth 20000 in
theorem ggX6_thinOut_X0_allowed : GoodIn wsX6_thinOut wsX0_allowed := goodIn_r _ [25, 26, 27, 28, 29, 30, 31, 32, 33, 74, 75, 76, 77, 84, 85, 86] (by decide +kernel) (by decide +kernel)
set_option maxRecDepth 20000 in
theorem gX6_thinOut_X0_allowed : GoodIn wsX6_thinOut (wsV RX6 57 RX0 yX0_allowed wsX0_allowed) := goodIn_app (goodIn_of _ (by decide +kernel)) ggX6_thinOut_X0_allowed
set_option maxRecDepth 20000 in
theorem ggX6_thinOut_X3_thin : GoodIn wsX6_thinOut wsX3_thin := goodIn_r _ [37, 38, 39, 10, 11, 12, 13, 14, 15, 16, 17, 18, 19, 20, 40, 41, 42, 43, 44, 45, 46, 47, 48, 49, 50, 51, 52, 53, 54, 55, 56, 57, 58, 59, 60, 61, 62, 63, 64, 65, 66, 67, 68, 69, 70, 71, 72, 73, 79, 80, 81, 82, 83] (by decide +kernel) (by decide +kernel)
set_option maxRecDepth 20000 in
theorem gX6_thinOut_X3_thin : GoodIn wsX6_thinOut (wsV RX6 60 RX3 yX3_thin wsX3_thin) := goodIn_app (goodIn_of _ (by decide +kernel)) ggX6_thinOut_X3_thin
theorem dX6_thinOut_0 : decode cX6_thinOut 0 = .ok (.aload_n 0, 1) := by decide +kernel
theorem dX6_thinOut_1 : decode cX6_thinOut 1 = .ok (.iload_n 1, 1) := by decide +kernel
theorem dX6_thinOut_2 : decode cX6_thinOut 2 = .ok (.invokevirtual 16, 3) := by decide +kernel
theorem dX6_thinOut_5 : decode cX6_thinOut 5 = .ok (.astore_n 2, 1) := by decide +kernel
theorem dX6_thinOut_6 : decode cX6_thinOut 6 = .ok (.aload_n 2, 1) := by decide +kernel
theorem dX6_thinOut_7 : decode cX6_thinOut 7 = .ok (.getfield 48, 3) := by decide +kernel
theorem dX6_thinOut_10 : decode cX6_thinOut 10 = .ok (.invokevirtual 52, 3) := by decide +kernel
theorem dX6_thinOut_13 : decode cX6_thinOut 13 = .ok (.istore_n 3, 1) := by decide +kernel
theorem dX6_thinOut_14 : decode cX6_thinOut 14 = .ok (.aload_n 2, 1) := by decide +kernel
theorem dX6_thinOut_15 : decode cX6_thinOut 15 = .ok (.getfield 48, 3) := by decide +kernel
theorem dX6_thinOut_18 : decode cX6_thinOut 18 = .ok (.aload_n 2, 1) := by decide +kernel
theorem dX6_thinOut_19 : decode cX6_thinOut 19 = .ok (.invokevirtual 57, 3) := by decide +kernel
theorem dX6_thinOut_22 : decode cX6_thinOut 22 = .ok (.invokevirtual 60, 3) := by decide +kernel
theorem dX6_thinOut_25 : decode cX6_thinOut 25 = .ok (.iload_n 3, 1) := by decide +kernel
theorem dX6_thinOut_26 : decode cX6_thinOut 26 = .ok (.aload_n 2, 1) := by decide +kernel
theorem dX6_thinOut_27 : decode cX6_thinOut 27 = .ok (.getfield 48, 3) := by decide +kernel
theorem dX6_thinOut_30 : decode cX6_thinOut 30 = .ok (.invokevirtual 52, 3) := by decide +kernel
theorem dX6_thinOut_33 : decode cX6_thinOut 33 = .ok (.isub, 1) := by decide +kernel
theorem dX6_thinOut_34 : decode cX6_thinOut 34 = .ok (.ireturn, 1) := by decide +kernel
set_option maxRecDepth 20000 in
theorem ggX6_pour_X6_counterAt : GoodIn wsX6_pour wsX6_counterAt := goodIn_ca (goodIn_r _ [7, 8, 9, 10, 160] (by decide +kernel) (by decide +kernel)) (goodIn_sub (fun _ h => List.mem_cons_of_mem _ (List.mem_append_left _ (List.mem_append_right _ h))) (by decide +kernel))
set_option maxRecDepth 20000 in
theorem gX6_pour_X6_counterAt : GoodIn wsX6_pour (wsV RX6 16 RX6 yX6_counterAt wsX6_counterAt) := goodIn_app (goodIn_of _ (by decide +kernel)) ggX6_pour_X6_counterAt
set_option maxRecDepth 20000 in
theorem ggX6_pour_X5_total : GoodIn wsX6_pour wsX5_total := goodIn_r _ [15, 16, 161, 162, 163] (by decide +kernel) (by decide +kernel)
set_option maxRecDepth 20000 in
theorem gX6_pour_X5_total : GoodIn wsX6_pour (wsV RX6 28 RX5 yX5_total wsX5_total) := goodIn_app (goodIn_of _ (by decide +kernel)) ggX6_pour_X5_total
set_option maxRecDepth 20000 in
theorem ggX6_pour_X0_demandRoomFor : GoodIn wsX6_pour wsX0_demandRoomFor := goodIn_ca (goodIn_r _ [21, 22, 23, 24, 25, 12, 13, 14, 15, 16, 156, 157, 158, 159, 161, 162, 163] (by decide +kernel) (by decide +kernel)) (goodIn_sub (fun _ h => List.mem_cons_of_mem _ (List.mem_append_right _ h)) (by decide +kernel))
set_option maxRecDepth 20000 in
theorem gX6_pour_X0_demandRoomFor : GoodIn wsX6_pour (wsV RX6 42 RX0 yX0_demandRoomFor wsX0_demandRoomFor) := goodIn_app (goodIn_of _ (by decide +kernel)) ggX6_pour_X0_demandRoomFor
set_option maxRecDepth 20000 in
theorem ggX6_pour_X0_takeAll : GoodIn wsX6_pour wsX0_takeAll := goodIn_r _ [29, 30, 31, 32, 33, 34, 35, 24, 36, 37, 38, 39, 40, 41, 42, 43, 44, 45, 46, 47, 48, 49, 50, 51, 52, 53, 54, 55, 56, 57, 58, 59, 60, 61, 62, 63, 64, 65, 66, 67, 68, 69, 70, 71, 72, 73, 74, 75, 76, 77, 78, 79, 80, 81, 82, 83, 84, 85, 86, 14, 87, 88, 89, 90, 91, 92, 93, 94, 95, 96, 97, 98, 99, 100, 101, 102, 103, 16, 104, 105, 106, 107, 108, 109, 110, 111, 112, 113, 114, 115, 116, 117, 118, 119, 120, 121, 122, 123, 124, 125, 126, 127, 128, 129, 130, 131, 132, 133, 134, 135, 136, 137, 138, 139, 140, 141, 142, 143, 144, 145, 146, 147, 148, 149, 150, 151, 152, 153, 154, 155, 156, 157, 158, 159, 164, 165, 166, 167, 168, 161, 162, 163, 169, 170, 171] (by decide +kernel) (by decide +kernel)
set_option maxRecDepth 20000 in
theorem gX6_pour_X0_takeAll : GoodIn wsX6_pour (wsV RX6 70 RX0 yX0_takeAll wsX0_takeAll) := goodIn_app (goodIn_of _ (by decide +kernel)) ggX6_pour_X0_takeAll
theorem dX6_pour_0 : decode cX6_pour 0 = .ok (.aload_n 0, 1) := by decide +kernel
theorem dX6_pour_1 : decode cX6_pour 1 = .ok (.iload_n 1, 1) := by decide +kernel
theorem dX6_pour_2 : decode cX6_pour 2 = .ok (.invokevirtual 16, 3) := by decide +kernel
theorem dX6_pour_5 : decode cX6_pour 5 = .ok (.astore_n 3, 1) := by decide +kernel
theorem dX6_pour_6 : decode cX6_pour 6 = .ok (.aload_n 0, 1) := by decide +kernel
theorem dX6_pour_7 : decode cX6_pour 7 = .ok (.iload_n 2, 1) := by decide +kernel
theorem dX6_pour_8 : decode cX6_pour 8 = .ok (.invokevirtual 16, 3) := by decide +kernel
theorem dX6_pour_11 : decode cX6_pour 11 = .ok (.astore 4, 2) := by decide +kernel
theorem dX6_pour_13 : decode cX6_pour 13 = .ok (.iload_n 1, 1) := by decide +kernel
theorem dX6_pour_14 : decode cX6_pour 14 = .ok (.iload_n 2, 1) := by decide +kernel
theorem dX6_pour_15 : decode cX6_pour 15 = .ok (.if_icmp .ne 13, 3) := by decide +kernel
theorem dX6_pour_18 : decode cX6_pour 18 = .ok (.new 63, 3) := by decide +kernel
theorem dX6_pour_21 : decode cX6_pour 21 = .ok (.dup, 1) := by decide +kernel
theorem dX6_pour_22 : decode cX6_pour 22 = .ok (.ldc 65, 2) := by decide +kernel
theorem dX6_pour_24 : decode cX6_pour 24 = .ok (.invokespecial 67, 3) := by decide +kernel
theorem dX6_pour_27 : decode cX6_pour 27 = .ok (.athrow, 1) := by decide +kernel
theorem dX6_pour_28 : decode cX6_pour 28 = .ok (.aload 4, 2) := by decide +kernel
theorem dX6_pour_30 : decode cX6_pour 30 = .ok (.aload_n 3, 1) := by decide +kernel
theorem dX6_pour_31 : decode cX6_pour 31 = .ok (.getfield 24, 3) := by decide +kernel
theorem dX6_pour_34 : decode cX6_pour 34 = .ok (.invokevirtual 28, 3) := by decide +kernel
theorem dX6_pour_37 : decode cX6_pour 37 = .ok (.invokevirtual 42, 3) := by decide +kernel
theorem dX6_pour_40 : decode cX6_pour 40 = .ok (.aload 4, 2) := by decide +kernel
theorem dX6_pour_42 : decode cX6_pour 42 = .ok (.aload_n 3, 1) := by decide +kernel
theorem dX6_pour_43 : decode cX6_pour 43 = .ok (.invokevirtual 70, 3) := by decide +kernel
theorem dX6_pour_46 : decode cX6_pour 46 = .ok (.aload 4, 2) := by decide +kernel
theorem dX6_pour_48 : decode cX6_pour 48 = .ok (.getfield 24, 3) := by decide +kernel
theorem dX6_pour_51 : decode cX6_pour 51 = .ok (.invokevirtual 28, 3) := by decide +kernel
theorem dX6_pour_54 : decode cX6_pour 54 = .ok (.ireturn, 1) := by decide +kernel
set_option maxRecDepth 20000 in
theorem ggX6_count_X6_counterAt : GoodIn wsX6_count wsX6_counterAt := goodIn_ca (goodIn_r _ [5, 6, 7, 8, 19] (by decide +kernel) (by decide +kernel)) (goodIn_sub (fun _ h => List.mem_cons_of_mem _ (List.mem_append_right _ h)) (by decide +kernel))
set_option maxRecDepth 20000 in
theorem gX6_count_X6_counterAt : GoodIn wsX6_count (wsV RX6 16 RX6 yX6_counterAt wsX6_counterAt) := goodIn_app (goodIn_of _ (by decide +kernel)) ggX6_count_X6_counterAt
set_option maxRecDepth 20000 in
theorem ggX6_count_X5_total : GoodIn wsX6_count wsX5_total := goodIn_r _ [13, 14, 20, 21, 22] (by decide +kernel) (by decide +kernel)
set_option maxRecDepth 20000 in
theorem gX6_count_X5_total : GoodIn wsX6_count (wsV RX6 28 RX5 yX5_total wsX5_total) := goodIn_app (goodIn_of _ (by decide +kernel)) ggX6_count_X5_total
theorem dX6_count_0 : decode cX6_count 0 = .ok (.aload_n 0, 1) := by decide +kernel
theorem dX6_count_1 : decode cX6_count 1 = .ok (.iload_n 1, 1) := by decide +kernel
theorem dX6_count_2 : decode cX6_count 2 = .ok (.invokevirtual 16, 3) := by decide +kernel
theorem dX6_count_5 : decode cX6_count 5 = .ok (.getfield 24, 3) := by decide +kernel
theorem dX6_count_8 : decode cX6_count 8 = .ok (.invokevirtual 28, 3) := by decide +kernel
theorem dX6_count_11 : decode cX6_count 11 = .ok (.ireturn, 1) := by decide +kernel
set_option maxRecDepth 20000 in
theorem ggX6_bound_X6_counterAt : GoodIn wsX6_bound wsX6_counterAt := goodIn_ca (goodIn_r _ [5, 6, 7, 8, 13] (by decide +kernel) (by decide +kernel)) (goodIn_sub (fun _ h => List.mem_cons_of_mem _ (List.mem_append_right _ h)) (by decide +kernel))
set_option maxRecDepth 20000 in
theorem gX6_bound_X6_counterAt : GoodIn wsX6_bound (wsV RX6 16 RX6 yX6_counterAt wsX6_counterAt) := goodIn_app (goodIn_of _ (by decide +kernel)) ggX6_bound_X6_counterAt
theorem dX6_bound_0 : decode cX6_bound 0 = .ok (.aload_n 0, 1) := by decide +kernel
theorem dX6_bound_1 : decode cX6_bound 1 = .ok (.iload_n 1, 1) := by decide +kernel
theorem dX6_bound_2 : decode cX6_bound 2 = .ok (.invokevirtual 16, 3) := by decide +kernel
theorem dX6_bound_5 : decode cX6_bound 5 = .ok (.getfield 74, 3) := by decide +kernel
theorem dX6_bound_8 : decode cX6_bound 8 = .ok (.ireturn, 1) := by decide +kernel
set_option maxRecDepth 20000 in
theorem ggX6_allowance_X6_counterAt : GoodIn wsX6_allowance wsX6_counterAt := goodIn_ca (goodIn_r _ [5, 6, 7, 8, 22] (by decide +kernel) (by decide +kernel)) (goodIn_sub (fun _ h => List.mem_cons_of_mem _ (List.mem_append_right _ h)) (by decide +kernel))
set_option maxRecDepth 20000 in
theorem gX6_allowance_X6_counterAt : GoodIn wsX6_allowance (wsV RX6 16 RX6 yX6_counterAt wsX6_counterAt) := goodIn_app (goodIn_of _ (by decide +kernel)) ggX6_allowance_X6_counterAt
set_option maxRecDepth 20000 in
theorem ggX6_allowance_X0_allowed : GoodIn wsX6_allowance wsX0_allowed := goodIn_r _ [13, 14, 15, 16, 17, 18, 19, 20, 21, 23, 24, 25, 26, 27, 28, 29] (by decide +kernel) (by decide +kernel)
set_option maxRecDepth 20000 in
theorem gX6_allowance_X0_allowed : GoodIn wsX6_allowance (wsV RX6 57 RX0 yX0_allowed wsX0_allowed) := goodIn_app (goodIn_of _ (by decide +kernel)) ggX6_allowance_X0_allowed
theorem dX6_allowance_0 : decode cX6_allowance 0 = .ok (.aload_n 0, 1) := by decide +kernel
theorem dX6_allowance_1 : decode cX6_allowance 1 = .ok (.iload_n 1, 1) := by decide +kernel
theorem dX6_allowance_2 : decode cX6_allowance 2 = .ok (.invokevirtual 16, 3) := by decide +kernel
theorem dX6_allowance_5 : decode cX6_allowance 5 = .ok (.invokevirtual 57, 3) := by decide +kernel
theorem dX6_allowance_8 : decode cX6_allowance 8 = .ok (.ireturn, 1) := by decide +kernel
set_option maxRecDepth 20000 in
theorem ggX6_marks_X6_counterAt : GoodIn wsX6_marks wsX6_counterAt := goodIn_ca (goodIn_r _ [5, 6, 7, 8, 25] (by decide +kernel) (by decide +kernel)) (goodIn_sub (fun _ h => List.mem_cons_of_mem _ (List.mem_append_right _ h)) (by decide +kernel))
set_option maxRecDepth 20000 in
theorem gX6_marks_X6_counterAt : GoodIn wsX6_marks (wsV RX6 16 RX6 yX6_counterAt wsX6_counterAt) := goodIn_app (goodIn_of _ (by decide +kernel)) ggX6_marks_X6_counterAt
set_option maxRecDepth 20000 in
theorem ggX6_marks_X3_length : GoodIn wsX6_marks wsX3_length := goodIn_r _ [13, 14, 15, 16, 17, 18, 19, 20, 26, 27, 28, 29, 30] (by decide +kernel) (by decide +kernel)
set_option maxRecDepth 20000 in
theorem gX6_marks_X3_length : GoodIn wsX6_marks (wsV RX6 52 RX3 yX3_length wsX3_length) := goodIn_app (goodIn_of _ (by decide +kernel)) ggX6_marks_X3_length
theorem dX6_marks_0 : decode cX6_marks 0 = .ok (.aload_n 0, 1) := by decide +kernel
theorem dX6_marks_1 : decode cX6_marks 1 = .ok (.iload_n 1, 1) := by decide +kernel
theorem dX6_marks_2 : decode cX6_marks 2 = .ok (.invokevirtual 16, 3) := by decide +kernel
theorem dX6_marks_5 : decode cX6_marks 5 = .ok (.getfield 48, 3) := by decide +kernel
theorem dX6_marks_8 : decode cX6_marks 8 = .ok (.invokevirtual 52, 3) := by decide +kernel
theorem dX6_marks_11 : decode cX6_marks 11 = .ok (.ireturn, 1) := by decide +kernel
set_option maxRecDepth 20000 in
theorem ggX6_value_X6_rowWith : GoodIn wsX6_value wsX6_rowWith := goodIn_ca (goodIn_r _ [5, 6, 7, 8, 9, 10, 4, 11, 12, 13, 14, 15, 16, 17, 18, 19, 20, 21, 22, 23, 24, 38, 39, 40, 41, 42, 43, 44, 45, 46, 47] (by decide +kernel) (by decide +kernel)) (goodIn_sub (fun _ h => List.mem_cons_of_mem _ (List.mem_append_right _ h)) (by decide +kernel))
set_option maxRecDepth 20000 in
theorem gX6_value_X6_rowWith : GoodIn wsX6_value (wsV RX6 78 RX6 yX6_rowWith wsX6_rowWith) := goodIn_app (goodIn_of _ (by decide +kernel)) ggX6_value_X6_rowWith
set_option maxRecDepth 20000 in
theorem ggX6_value_X3_valueOf : GoodIn wsX6_value wsX3_valueOf := goodIn_r _ [28, 18, 29, 30, 31, 22, 32, 33, 34, 35, 36, 37, 24, 43, 44, 45, 46, 47] (by decide +kernel) (by decide +kernel)
set_option maxRecDepth 20000 in
theorem gX6_value_X3_valueOf : GoodIn wsX6_value (wsV RX6 82 RX3 yX3_valueOf wsX3_valueOf) := goodIn_app (goodIn_of _ (by decide +kernel)) ggX6_value_X3_valueOf
theorem dX6_value_0 : decode cX6_value 0 = .ok (.aload_n 0, 1) := by decide +kernel
theorem dX6_value_1 : decode cX6_value 1 = .ok (.iload_n 1, 1) := by decide +kernel
theorem dX6_value_2 : decode cX6_value 2 = .ok (.iload_n 2, 1) := by decide +kernel
theorem dX6_value_3 : decode cX6_value 3 = .ok (.invokevirtual 78, 3) := by decide +kernel
theorem dX6_value_6 : decode cX6_value 6 = .ok (.iload_n 2, 1) := by decide +kernel
theorem dX6_value_7 : decode cX6_value 7 = .ok (.invokevirtual 82, 3) := by decide +kernel
theorem dX6_value_10 : decode cX6_value 10 = .ok (.ireturn, 1) := by decide +kernel
set_option maxRecDepth 20000 in
theorem ggX6_lowestRank_X6_rowWith : GoodIn wsX6_lowestRank wsX6_rowWith := goodIn_ca (goodIn_r _ [5, 6, 7, 8, 9, 10, 4, 11, 12, 13, 14, 15, 16, 17, 18, 19, 20, 21, 22, 23, 24, 43, 44, 45, 46, 47, 48, 49, 50, 51, 52] (by decide +kernel) (by decide +kernel)) (goodIn_sub (fun _ h => List.mem_cons_of_mem _ (List.mem_append_right _ h)) (by decide +kernel))
set_option maxRecDepth 20000 in
theorem gX6_lowestRank_X6_rowWith : GoodIn wsX6_lowestRank (wsV RX6 78 RX6 yX6_rowWith wsX6_rowWith) := goodIn_app (goodIn_of _ (by decide +kernel)) ggX6_lowestRank_X6_rowWith
set_option maxRecDepth 20000 in
theorem ggX6_lowestRank_X3_rankFrom : GoodIn wsX6_lowestRank wsX3_rankFrom := goodIn_r _ [28, 29, 30, 31, 32, 22, 33, 24, 34, 35, 36, 37, 38, 39, 40, 41, 42, 48, 49, 50, 51, 52] (by decide +kernel) (by decide +kernel)
set_option maxRecDepth 20000 in
theorem gX6_lowestRank_X3_rankFrom : GoodIn wsX6_lowestRank (wsV RX6 86 RX3 yX3_rankFrom wsX3_rankFrom) := goodIn_app (goodIn_of _ (by decide +kernel)) ggX6_lowestRank_X3_rankFrom
theorem dX6_lowestRank_0 : decode cX6_lowestRank 0 = .ok (.aload_n 0, 1) := by decide +kernel
theorem dX6_lowestRank_1 : decode cX6_lowestRank 1 = .ok (.iload_n 1, 1) := by decide +kernel
theorem dX6_lowestRank_2 : decode cX6_lowestRank 2 = .ok (.iload_n 2, 1) := by decide +kernel
theorem dX6_lowestRank_3 : decode cX6_lowestRank 3 = .ok (.invokevirtual 78, 3) := by decide +kernel
theorem dX6_lowestRank_6 : decode cX6_lowestRank 6 = .ok (.iload_n 2, 1) := by decide +kernel
theorem dX6_lowestRank_7 : decode cX6_lowestRank 7 = .ok (.invokevirtual 86, 3) := by decide +kernel
theorem dX6_lowestRank_10 : decode cX6_lowestRank 10 = .ok (.ireturn, 1) := by decide +kernel
set_option maxRecDepth 20000 in
theorem ggX6_highestRank_X6_rowWith : GoodIn wsX6_highestRank wsX6_rowWith := goodIn_ca (goodIn_r _ [5, 6, 7, 8, 9, 10, 4, 11, 12, 13, 14, 15, 16, 17, 18, 19, 20, 21, 22, 23, 24, 49, 50, 51, 52, 53, 54, 55, 56, 57, 58] (by decide +kernel) (by decide +kernel)) (goodIn_sub (fun _ h => List.mem_cons_of_mem _ (List.mem_append_right _ h)) (by decide +kernel))
set_option maxRecDepth 20000 in
theorem gX6_highestRank_X6_rowWith : GoodIn wsX6_highestRank (wsV RX6 78 RX6 yX6_rowWith wsX6_rowWith) := goodIn_app (goodIn_of _ (by decide +kernel)) ggX6_highestRank_X6_rowWith
set_option maxRecDepth 20000 in
theorem ggX6_highestRank_X3_rankTo : GoodIn wsX6_highestRank wsX3_rankTo := goodIn_r _ [28, 29, 30, 31, 32, 16, 33, 34, 35, 36, 37, 22, 38, 24, 39, 40, 41, 42, 43, 44, 45, 46, 47, 48, 54, 55, 56, 57, 58] (by decide +kernel) (by decide +kernel)
set_option maxRecDepth 20000 in
theorem gX6_highestRank_X3_rankTo : GoodIn wsX6_highestRank (wsV RX6 89 RX3 yX3_rankTo wsX3_rankTo) := goodIn_app (goodIn_of _ (by decide +kernel)) ggX6_highestRank_X3_rankTo
theorem dX6_highestRank_0 : decode cX6_highestRank 0 = .ok (.aload_n 0, 1) := by decide +kernel
theorem dX6_highestRank_1 : decode cX6_highestRank 1 = .ok (.iload_n 1, 1) := by decide +kernel
theorem dX6_highestRank_2 : decode cX6_highestRank 2 = .ok (.iload_n 2, 1) := by decide +kernel
theorem dX6_highestRank_3 : decode cX6_highestRank 3 = .ok (.invokevirtual 78, 3) := by decide +kernel
theorem dX6_highestRank_6 : decode cX6_highestRank 6 = .ok (.iload_n 2, 1) := by decide +kernel
theorem dX6_highestRank_7 : decode cX6_highestRank 7 = .ok (.invokevirtual 89, 3) := by decide +kernel
theorem dX6_highestRank_10 : decode cX6_highestRank 10 = .ok (.ireturn, 1) := by decide +kernel
set_option maxRecDepth 20000 in
theorem ggX6_widest_X6_counterAt : GoodIn wsX6_widest wsX6_counterAt := goodIn_ca (goodIn_r _ [5, 6, 7, 8, 48] (by decide +kernel) (by decide +kernel)) (goodIn_sub (fun _ h => List.mem_cons_of_mem _ (List.mem_append_right _ h)) (by decide +kernel))
set_option maxRecDepth 20000 in
theorem gX6_widest_X6_counterAt : GoodIn wsX6_widest (wsV RX6 16 RX6 yX6_counterAt wsX6_counterAt) := goodIn_app (goodIn_of _ (by decide +kernel)) ggX6_widest_X6_counterAt
set_option maxRecDepth 20000 in
theorem ggX6_widest_X3_greatestWidth : GoodIn wsX6_widest wsX3_greatestWidth := goodIn_r _ [13, 14, 15, 16, 17, 18, 19, 20, 12, 21, 22, 23, 24, 25, 26, 27, 28, 29, 30, 31, 32, 33, 34, 35, 36, 37, 38, 39, 40, 41, 42, 43, 49, 50, 51, 52, 53] (by decide +kernel) (by decide +kernel)
set_option maxRecDepth 20000 in
theorem gX6_widest_X3_greatestWidth : GoodIn wsX6_widest (wsV RX6 92 RX3 yX3_greatestWidth wsX3_greatestWidth) := goodIn_app (goodIn_of _ (by decide +kernel)) ggX6_widest_X3_greatestWidth
theorem dX6_widest_0 : decode cX6_widest 0 = .ok (.aload_n 0, 1) := by decide +kernel
theorem dX6_widest_1 : decode cX6_widest 1 = .ok (.iload_n 1, 1) := by decide +kernel
theorem dX6_widest_2 : decode cX6_widest 2 = .ok (.invokevirtual 16, 3) := by decide +kernel
theorem dX6_widest_5 : decode cX6_widest 5 = .ok (.getfield 48, 3) := by decide +kernel
theorem dX6_widest_8 : decode cX6_widest 8 = .ok (.invokevirtual 92, 3) := by decide +kernel
theorem dX6_widest_11 : decode cX6_widest 11 = .ok (.ireturn, 1) := by decide +kernel
set_option maxRecDepth 20000 in
theorem ggX6_ask_X6_counterForShare : GoodIn wsX6_ask wsX6_counterForShare := goodIn_ca (goodIn_ca (goodIn_ca (goodIn_r _ [5, 6, 7, 8, 4, 9, 10, 11, 12, 13, 14, 15, 16, 17, 18, 19, 20, 21, 22, 23, 24, 25, 26, 27, 28, 29, 30, 31, 93, 89, 90, 91, 92, 94, 95, 96] (by decide +kernel) (by decide +kernel)) (goodIn_sub (fun _ h => List.mem_cons_of_mem _ (List.mem_append_left _ (List.mem_append_left _ (List.mem_append_right _ h)))) (by decide +kernel))) (goodIn_sub (fun _ h => List.mem_cons_of_mem _ (List.mem_append_left _ (List.mem_append_right _ h))) (by decide +kernel))) (goodIn_sub (fun _ h => List.mem_cons_of_mem _ (List.mem_append_right _ h)) (by decide +kernel))
set_option maxRecDepth 20000 in
theorem gX6_ask_X6_counterForShare : GoodIn wsX6_ask (wsV RX6 95 RX6 yX6_counterForShare wsX6_counterForShare) := goodIn_app (goodIn_of _ (by decide +kernel)) ggX6_ask_X6_counterForShare
set_option maxRecDepth 20000 in
theorem ggX6_ask_X0_rankAt : GoodIn wsX6_ask wsX0_rankAt := goodIn_r _ [35, 25, 36, 37, 38, 39, 26, 27, 28, 29, 30, 31, 89, 90, 91, 92, 94, 95, 96] (by decide +kernel) (by decide +kernel)
set_option maxRecDepth 20000 in
theorem gX6_ask_X0_rankAt : GoodIn wsX6_ask (wsV RX6 99 RX0 yX0_rankAt wsX0_rankAt) := goodIn_app (goodIn_of _ (by decide +kernel)) ggX6_ask_X0_rankAt
set_option maxRecDepth 20000 in
theorem ggX6_ask_X3_answering : GoodIn wsX6_ask wsX3_answering := goodIn_r _ [44, 45, 46, 47, 37, 38, 39, 48, 49, 50, 43, 51, 52, 53, 54, 55, 56, 57, 58, 59, 60, 61, 62, 63, 64, 65, 66, 67, 68, 69, 70, 71, 72, 73, 74, 75, 76, 77, 78, 79, 80, 81, 82, 83, 84, 97, 98, 99, 100, 101] (by decide +kernel) (by decide +kernel)
set_option maxRecDepth 20000 in
theorem gX6_ask_X3_answering : GoodIn wsX6_ask (wsV RX6 102 RX3 yX3_answering wsX3_answering) := goodIn_app (goodIn_of _ (by decide +kernel)) ggX6_ask_X3_answering
set_option maxRecDepth 20000 in
theorem ggX6_ask_X3_valueOf : GoodIn wsX6_ask wsX3_valueOf := goodIn_r _ [88, 80, 75, 63, 64, 59, 65, 66, 67, 68, 69, 70, 61, 97, 98, 99, 100, 101] (by decide +kernel) (by decide +kernel)
set_option maxRecDepth 20000 in
theorem gX6_ask_X3_valueOf : GoodIn wsX6_ask (wsV RX6 82 RX3 yX3_valueOf wsX3_valueOf) := goodIn_app (goodIn_of _ (by decide +kernel)) ggX6_ask_X3_valueOf
theorem dX6_ask_0 : decode cX6_ask 0 = .ok (.aload_n 0, 1) := by decide +kernel
theorem dX6_ask_1 : decode cX6_ask 1 = .ok (.iload_n 1, 1) := by decide +kernel
theorem dX6_ask_2 : decode cX6_ask 2 = .ok (.iload_n 2, 1) := by decide +kernel
theorem dX6_ask_3 : decode cX6_ask 3 = .ok (.invokevirtual 95, 3) := by decide +kernel
theorem dX6_ask_6 : decode cX6_ask 6 = .ok (.astore_n 3, 1) := by decide +kernel
theorem dX6_ask_7 : decode cX6_ask 7 = .ok (.aload_n 3, 1) := by decide +kernel
theorem dX6_ask_8 : decode cX6_ask 8 = .ok (.getfield 48, 3) := by decide +kernel
theorem dX6_ask_11 : decode cX6_ask 11 = .ok (.aload_n 3, 1) := by decide +kernel
theorem dX6_ask_12 : decode cX6_ask 12 = .ok (.getfield 48, 3) := by decide +kernel
theorem dX6_ask_15 : decode cX6_ask 15 = .ok (.aload_n 3, 1) := by decide +kernel
theorem dX6_ask_16 : decode cX6_ask 16 = .ok (.iload_n 2, 1) := by decide +kernel
theorem dX6_ask_17 : decode cX6_ask 17 = .ok (.invokevirtual 99, 3) := by decide +kernel
theorem dX6_ask_20 : decode cX6_ask 20 = .ok (.invokevirtual 102, 3) := by decide +kernel
theorem dX6_ask_23 : decode cX6_ask 23 = .ok (.invokevirtual 82, 3) := by decide +kernel
theorem dX6_ask_26 : decode cX6_ask 26 = .ok (.ireturn, 1) := by decide +kernel
set_option maxRecDepth 20000 in
theorem ggX6_off_X6_counterForShare : GoodIn wsX6_off wsX6_counterForShare := goodIn_ca (goodIn_ca (goodIn_ca (goodIn_r _ [5, 6, 7, 8, 4, 9, 10, 11, 12, 13, 14, 15, 16, 17, 18, 19, 20, 21, 22, 23, 24, 25, 26, 27, 28, 29, 30, 31, 90, 86, 87, 88, 89, 91, 92, 93] (by decide +kernel) (by decide +kernel)) (goodIn_sub (fun _ h => List.mem_cons_of_mem _ (List.mem_append_left _ (List.mem_append_left _ (List.mem_append_right _ h)))) (by decide +kernel))) (goodIn_sub (fun _ h => List.mem_cons_of_mem _ (List.mem_append_left _ (List.mem_append_right _ h))) (by decide +kernel))) (goodIn_sub (fun _ h => List.mem_cons_of_mem _ (List.mem_append_right _ h)) (by decide +kernel))
set_option maxRecDepth 20000 in
theorem gX6_off_X6_counterForShare : GoodIn wsX6_off (wsV RX6 95 RX6 yX6_counterForShare wsX6_counterForShare) := goodIn_app (goodIn_of _ (by decide +kernel)) ggX6_off_X6_counterForShare
set_option maxRecDepth 20000 in
theorem ggX6_off_X0_rankAt : GoodIn wsX6_off wsX0_rankAt := goodIn_r _ [35, 25, 36, 37, 38, 39, 26, 27, 28, 29, 30, 31, 86, 87, 88, 89, 91, 92, 93] (by decide +kernel) (by decide +kernel)
set_option maxRecDepth 20000 in
theorem gX6_off_X0_rankAt : GoodIn wsX6_off (wsV RX6 99 RX0 yX0_rankAt wsX0_rankAt) := goodIn_app (goodIn_of _ (by decide +kernel)) ggX6_off_X0_rankAt
set_option maxRecDepth 20000 in
theorem ggX6_off_X3_answering : GoodIn wsX6_off wsX3_answering := goodIn_r _ [44, 45, 46, 47, 37, 38, 39, 48, 49, 50, 43, 51, 52, 53, 54, 55, 56, 57, 58, 59, 60, 61, 62, 63, 64, 65, 66, 67, 68, 69, 70, 71, 72, 73, 74, 75, 76, 77, 78, 79, 80, 81, 82, 83, 84, 94, 95, 96, 97, 98] (by decide +kernel) (by decide +kernel)
set_option maxRecDepth 20000 in
theorem gX6_off_X3_answering : GoodIn wsX6_off (wsV RX6 102 RX3 yX3_answering wsX3_answering) := goodIn_app (goodIn_of _ (by decide +kernel)) ggX6_off_X3_answering
set_option maxRecDepth 20000 in
theorem ggX6_off_X3_offBy : GoodIn wsX6_off wsX3_offBy := goodIn_r _ [51, 47, 37, 38, 39, 52, 53, 54, 43, 55, 45, 56, 57, 58, 59, 60, 61, 62, 63, 64, 65, 66, 67, 68, 69, 70, 71, 72, 73, 74, 46, 75, 94, 95, 96, 97, 98] (by decide +kernel) (by decide +kernel)
set_option maxRecDepth 20000 in
theorem gX6_off_X3_offBy : GoodIn wsX6_off (wsV RX6 105 RX3 yX3_offBy wsX3_offBy) := goodIn_app (goodIn_of _ (by decide +kernel)) ggX6_off_X3_offBy
theorem dX6_off_0 : decode cX6_off 0 = .ok (.aload_n 0, 1) := by decide +kernel
theorem dX6_off_1 : decode cX6_off 1 = .ok (.iload_n 1, 1) := by decide +kernel
theorem dX6_off_2 : decode cX6_off 2 = .ok (.iload_n 2, 1) := by decide +kernel
theorem dX6_off_3 : decode cX6_off 3 = .ok (.invokevirtual 95, 3) := by decide +kernel
theorem dX6_off_6 : decode cX6_off 6 = .ok (.astore_n 3, 1) := by decide +kernel
theorem dX6_off_7 : decode cX6_off 7 = .ok (.aload_n 3, 1) := by decide +kernel
theorem dX6_off_8 : decode cX6_off 8 = .ok (.iload_n 2, 1) := by decide +kernel
theorem dX6_off_9 : decode cX6_off 9 = .ok (.invokevirtual 99, 3) := by decide +kernel
theorem dX6_off_12 : decode cX6_off 12 = .ok (.istore 4, 2) := by decide +kernel
theorem dX6_off_14 : decode cX6_off 14 = .ok (.aload_n 3, 1) := by decide +kernel
theorem dX6_off_15 : decode cX6_off 15 = .ok (.getfield 48, 3) := by decide +kernel
theorem dX6_off_18 : decode cX6_off 18 = .ok (.aload_n 3, 1) := by decide +kernel
theorem dX6_off_19 : decode cX6_off 19 = .ok (.getfield 48, 3) := by decide +kernel
theorem dX6_off_22 : decode cX6_off 22 = .ok (.iload 4, 2) := by decide +kernel
theorem dX6_off_24 : decode cX6_off 24 = .ok (.invokevirtual 102, 3) := by decide +kernel
theorem dX6_off_27 : decode cX6_off 27 = .ok (.iload 4, 2) := by decide +kernel
theorem dX6_off_29 : decode cX6_off 29 = .ok (.invokevirtual 105, 3) := by decide +kernel
theorem dX6_off_32 : decode cX6_off 32 = .ok (.ireturn, 1) := by decide +kernel
set_option maxRecDepth 20000 in
theorem ggX6_reallyOff_X6_counterForShare : GoodIn wsX6_reallyOff wsX6_counterForShare := goodIn_ca (goodIn_ca (goodIn_ca (goodIn_r _ [5, 6, 7, 8, 4, 9, 10, 11, 12, 13, 14, 15, 16, 17, 18, 19, 20, 21, 22, 23, 24, 25, 26, 27, 28, 29, 30, 31, 104, 100, 101, 102, 103, 105, 106, 107] (by decide +kernel) (by decide +kernel)) (goodIn_sub (fun _ h => List.mem_cons_of_mem _ (List.mem_append_left _ (List.mem_append_left _ (List.mem_append_right _ h)))) (by decide +kernel))) (goodIn_sub (fun _ h => List.mem_cons_of_mem _ (List.mem_append_left _ (List.mem_append_right _ h))) (by decide +kernel))) (goodIn_sub (fun _ h => List.mem_cons_of_mem _ (List.mem_append_right _ h)) (by decide +kernel))
set_option maxRecDepth 20000 in
theorem gX6_reallyOff_X6_counterForShare : GoodIn wsX6_reallyOff (wsV RX6 95 RX6 yX6_counterForShare wsX6_counterForShare) := goodIn_app (goodIn_of _ (by decide +kernel)) ggX6_reallyOff_X6_counterForShare
set_option maxRecDepth 20000 in
theorem ggX6_reallyOff_X0_rankAt : GoodIn wsX6_reallyOff wsX0_rankAt := goodIn_r _ [35, 25, 36, 37, 38, 39, 26, 27, 28, 29, 30, 31, 100, 101, 102, 103, 105, 106, 107] (by decide +kernel) (by decide +kernel)
set_option maxRecDepth 20000 in
theorem gX6_reallyOff_X0_rankAt : GoodIn wsX6_reallyOff (wsV RX6 99 RX0 yX0_rankAt wsX0_rankAt) := goodIn_app (goodIn_of _ (by decide +kernel)) ggX6_reallyOff_X0_rankAt
set_option maxRecDepth 20000 in
theorem ggX6_reallyOff_X3_answering : GoodIn wsX6_reallyOff wsX3_answering := goodIn_r _ [44, 45, 46, 47, 37, 38, 39, 48, 49, 50, 43, 51, 52, 53, 54, 55, 56, 57, 58, 59, 60, 61, 62, 63, 64, 65, 66, 67, 68, 69, 70, 71, 72, 73, 74, 75, 76, 77, 78, 79, 80, 81, 82, 83, 84, 108, 109, 110, 111, 112] (by decide +kernel) (by decide +kernel)
set_option maxRecDepth 20000 in
theorem gX6_reallyOff_X3_answering : GoodIn wsX6_reallyOff (wsV RX6 102 RX3 yX3_answering wsX3_answering) := goodIn_app (goodIn_of _ (by decide +kernel)) ggX6_reallyOff_X3_answering
set_option maxRecDepth 20000 in
theorem ggX6_reallyOff_X3_valueOf : GoodIn wsX6_reallyOff wsX3_valueOf := goodIn_r _ [88, 80, 75, 63, 64, 59, 65, 66, 67, 68, 69, 70, 61, 108, 109, 110, 111, 112] (by decide +kernel) (by decide +kernel)
set_option maxRecDepth 20000 in
theorem gX6_reallyOff_X3_valueOf : GoodIn wsX6_reallyOff (wsV RX6 82 RX3 yX3_valueOf wsX3_valueOf) := goodIn_app (goodIn_of _ (by decide +kernel)) ggX6_reallyOff_X3_valueOf
set_option maxRecDepth 20000 in
theorem ggX6_reallyOff_X5_notAbove : GoodIn wsX6_reallyOff wsX5_notAbove := goodIn_r _ [92, 93, 94, 95, 96, 97, 59, 98, 61, 62, 63, 64, 65, 66, 67, 68, 69, 70, 99, 57, 58, 60, 105, 106, 107, 111, 112] (by decide +kernel) (by decide +kernel)
set_option maxRecDepth 20000 in
theorem gX6_reallyOff_X5_notAbove : GoodIn wsX6_reallyOff (wsV RX6 109 RX5 yX5_notAbove wsX5_notAbove) := goodIn_app (goodIn_of _ (by decide +kernel)) ggX6_reallyOff_X5_notAbove
theorem dX6_reallyOff_0 : decode cX6_reallyOff 0 = .ok (.aload_n 0, 1) := by decide +kernel
theorem dX6_reallyOff_1 : decode cX6_reallyOff 1 = .ok (.iload_n 1, 1) := by decide +kernel
theorem dX6_reallyOff_2 : decode cX6_reallyOff 2 = .ok (.iload_n 2, 1) := by decide +kernel
theorem dX6_reallyOff_3 : decode cX6_reallyOff 3 = .ok (.invokevirtual 95, 3) := by decide +kernel
theorem dX6_reallyOff_6 : decode cX6_reallyOff 6 = .ok (.astore_n 3, 1) := by decide +kernel
theorem dX6_reallyOff_7 : decode cX6_reallyOff 7 = .ok (.aload_n 3, 1) := by decide +kernel
theorem dX6_reallyOff_8 : decode cX6_reallyOff 8 = .ok (.iload_n 2, 1) := by decide +kernel
theorem dX6_reallyOff_9 : decode cX6_reallyOff 9 = .ok (.invokevirtual 99, 3) := by decide +kernel
theorem dX6_reallyOff_12 : decode cX6_reallyOff 12 = .ok (.istore 4, 2) := by decide +kernel
theorem dX6_reallyOff_14 : decode cX6_reallyOff 14 = .ok (.aload_n 3, 1) := by decide +kernel
theorem dX6_reallyOff_15 : decode cX6_reallyOff 15 = .ok (.getfield 48, 3) := by decide +kernel
theorem dX6_reallyOff_18 : decode cX6_reallyOff 18 = .ok (.aload_n 3, 1) := by decide +kernel
theorem dX6_reallyOff_19 : decode cX6_reallyOff 19 = .ok (.getfield 48, 3) := by decide +kernel
theorem dX6_reallyOff_22 : decode cX6_reallyOff 22 = .ok (.iload 4, 2) := by decide +kernel
theorem dX6_reallyOff_24 : decode cX6_reallyOff 24 = .ok (.invokevirtual 102, 3) := by decide +kernel
theorem dX6_reallyOff_27 : decode cX6_reallyOff 27 = .ok (.invokevirtual 82, 3) := by decide +kernel
theorem dX6_reallyOff_30 : decode cX6_reallyOff 30 = .ok (.istore 5, 2) := by decide +kernel
theorem dX6_reallyOff_32 : decode cX6_reallyOff 32 = .ok (.aload_n 3, 1) := by decide +kernel
theorem dX6_reallyOff_33 : decode cX6_reallyOff 33 = .ok (.getfield 24, 3) := by decide +kernel
theorem dX6_reallyOff_36 : decode cX6_reallyOff 36 = .ok (.iload 5, 2) := by decide +kernel
theorem dX6_reallyOff_38 : decode cX6_reallyOff 38 = .ok (.iconst 1, 1) := by decide +kernel
theorem dX6_reallyOff_39 : decode cX6_reallyOff 39 = .ok (.isub, 1) := by decide +kernel
theorem dX6_reallyOff_40 : decode cX6_reallyOff 40 = .ok (.invokevirtual 109, 3) := by decide +kernel
theorem dX6_reallyOff_43 : decode cX6_reallyOff 43 = .ok (.iconst 1, 1) := by decide +kernel
theorem dX6_reallyOff_44 : decode cX6_reallyOff 44 = .ok (.iadd, 1) := by decide +kernel
theorem dX6_reallyOff_45 : decode cX6_reallyOff 45 = .ok (.istore 6, 2) := by decide +kernel
theorem dX6_reallyOff_47 : decode cX6_reallyOff 47 = .ok (.aload_n 3, 1) := by decide +kernel
theorem dX6_reallyOff_48 : decode cX6_reallyOff 48 = .ok (.getfield 24, 3) := by decide +kernel
theorem dX6_reallyOff_51 : decode cX6_reallyOff 51 = .ok (.iload 5, 2) := by decide +kernel
theorem dX6_reallyOff_53 : decode cX6_reallyOff 53 = .ok (.invokevirtual 109, 3) := by decide +kernel
theorem dX6_reallyOff_56 : decode cX6_reallyOff 56 = .ok (.istore 7, 2) := by decide +kernel
theorem dX6_reallyOff_58 : decode cX6_reallyOff 58 = .ok (.iload 4, 2) := by decide +kernel
theorem dX6_reallyOff_60 : decode cX6_reallyOff 60 = .ok (.iload 6, 2) := by decide +kernel
theorem dX6_reallyOff_62 : decode cX6_reallyOff 62 = .ok (.if_icmp .ge 9, 3) := by decide +kernel
theorem dX6_reallyOff_65 : decode cX6_reallyOff 65 = .ok (.iload 6, 2) := by decide +kernel
theorem dX6_reallyOff_67 : decode cX6_reallyOff 67 = .ok (.iload 4, 2) := by decide +kernel
theorem dX6_reallyOff_69 : decode cX6_reallyOff 69 = .ok (.isub, 1) := by decide +kernel
theorem dX6_reallyOff_70 : decode cX6_reallyOff 70 = .ok (.ireturn, 1) := by decide +kernel
theorem dX6_reallyOff_71 : decode cX6_reallyOff 71 = .ok (.iload 4, 2) := by decide +kernel
theorem dX6_reallyOff_73 : decode cX6_reallyOff 73 = .ok (.iload 7, 2) := by decide +kernel
theorem dX6_reallyOff_75 : decode cX6_reallyOff 75 = .ok (.if_icmp .le 11, 3) := by decide +kernel
theorem dX6_reallyOff_78 : decode cX6_reallyOff 78 = .ok (.iload 4, 2) := by decide +kernel
theorem dX6_reallyOff_80 : decode cX6_reallyOff 80 = .ok (.iload 7, 2) := by decide +kernel
theorem dX6_reallyOff_82 : decode cX6_reallyOff 82 = .ok (.isub, 1) := by decide +kernel
theorem dX6_reallyOff_83 : decode cX6_reallyOff 83 = .ok (.goto 4, 3) := by decide +kernel
theorem dX6_reallyOff_86 : decode cX6_reallyOff 86 = .ok (.iconst 0, 1) := by decide +kernel
theorem dX6_reallyOff_87 : decode cX6_reallyOff 87 = .ok (.ireturn, 1) := by decide +kernel
set_option maxRecDepth 20000 in
theorem ggX6_atLeastUpTo_X6_counterAt : GoodIn wsX6_atLeastUpTo wsX6_counterAt := goodIn_ca (goodIn_r _ [5, 6, 7, 8, 39] (by decide +kernel) (by decide +kernel)) (goodIn_sub (fun _ h => List.mem_cons_of_mem _ (List.mem_append_right _ h)) (by decide +kernel))
set_option maxRecDepth 20000 in
theorem gX6_atLeastUpTo_X6_counterAt : GoodIn wsX6_atLeastUpTo (wsV RX6 16 RX6 yX6_counterAt wsX6_counterAt) := goodIn_app (goodIn_of _ (by decide +kernel)) ggX6_atLeastUpTo_X6_counterAt
set_option maxRecDepth 20000 in
theorem ggX6_atLeastUpTo_X3_atLeastNotAbove : GoodIn wsX6_atLeastUpTo wsX3_atLeastNotAbove := goodIn_r _ [13, 14, 15, 16, 17, 18, 19, 20, 21, 22, 23, 24, 25, 26, 27, 28, 29, 30, 31, 32, 33, 34, 40, 41, 42, 43, 44] (by decide +kernel) (by decide +kernel)
set_option maxRecDepth 20000 in
theorem gX6_atLeastUpTo_X3_atLeastNotAbove : GoodIn wsX6_atLeastUpTo (wsV RX6 112 RX3 yX3_atLeastNotAbove wsX3_atLeastNotAbove) := goodIn_app (goodIn_of _ (by decide +kernel)) ggX6_atLeastUpTo_X3_atLeastNotAbove
theorem dX6_atLeastUpTo_0 : decode cX6_atLeastUpTo 0 = .ok (.aload_n 0, 1) := by decide +kernel
theorem dX6_atLeastUpTo_1 : decode cX6_atLeastUpTo 1 = .ok (.iload_n 1, 1) := by decide +kernel
theorem dX6_atLeastUpTo_2 : decode cX6_atLeastUpTo 2 = .ok (.invokevirtual 16, 3) := by decide +kernel
theorem dX6_atLeastUpTo_5 : decode cX6_atLeastUpTo 5 = .ok (.getfield 48, 3) := by decide +kernel
theorem dX6_atLeastUpTo_8 : decode cX6_atLeastUpTo 8 = .ok (.iload_n 2, 1) := by decide +kernel
theorem dX6_atLeastUpTo_9 : decode cX6_atLeastUpTo 9 = .ok (.invokevirtual 112, 3) := by decide +kernel
theorem dX6_atLeastUpTo_12 : decode cX6_atLeastUpTo 12 = .ok (.ireturn, 1) := by decide +kernel
set_option maxRecDepth 20000 in
theorem ggX6_atMostUpTo_X6_counterAt : GoodIn wsX6_atMostUpTo wsX6_counterAt := goodIn_ca (goodIn_r _ [5, 6, 7, 8, 63] (by decide +kernel) (by decide +kernel)) (goodIn_sub (fun _ h => List.mem_cons_of_mem _ (List.mem_append_right _ h)) (by decide +kernel))
set_option maxRecDepth 20000 in
theorem gX6_atMostUpTo_X6_counterAt : GoodIn wsX6_atMostUpTo (wsV RX6 16 RX6 yX6_counterAt wsX6_counterAt) := goodIn_app (goodIn_of _ (by decide +kernel)) ggX6_atMostUpTo_X6_counterAt
set_option maxRecDepth 20000 in
theorem ggX6_atMostUpTo_X3_firstAbove : GoodIn wsX6_atMostUpTo wsX3_firstAbove := goodIn_r _ [13, 14, 15, 16, 17, 18, 19, 20, 21, 22, 23, 24, 25, 26, 27, 28, 29, 64, 65, 66, 67, 68] (by decide +kernel) (by decide +kernel)
set_option maxRecDepth 20000 in
theorem gX6_atMostUpTo_X3_firstAbove : GoodIn wsX6_atMostUpTo (wsV RX6 115 RX3 yX3_firstAbove wsX3_firstAbove) := goodIn_app (goodIn_of _ (by decide +kernel)) ggX6_atMostUpTo_X3_firstAbove
set_option maxRecDepth 20000 in
theorem ggX6_atMostUpTo_X3_length : GoodIn wsX6_atMostUpTo wsX3_length := goodIn_r _ [33, 14, 34, 35, 36, 18, 37, 20, 64, 65, 66, 67, 68] (by decide +kernel) (by decide +kernel)
set_option maxRecDepth 20000 in
theorem gX6_atMostUpTo_X3_length : GoodIn wsX6_atMostUpTo (wsV RX6 52 RX3 yX3_length wsX3_length) := goodIn_app (goodIn_of _ (by decide +kernel)) ggX6_atMostUpTo_X3_length
set_option maxRecDepth 20000 in
theorem ggX6_atMostUpTo_X3_rankTo : GoodIn wsX6_atMostUpTo wsX3_rankTo := goodIn_r _ [41, 42, 43, 44, 45, 12, 46, 47, 48, 49, 50, 18, 51, 20, 21, 22, 23, 24, 25, 26, 27, 28, 29, 52, 64, 65, 66, 67, 68] (by decide +kernel) (by decide +kernel)
set_option maxRecDepth 20000 in
theorem gX6_atMostUpTo_X3_rankTo : GoodIn wsX6_atMostUpTo (wsV RX6 89 RX3 yX3_rankTo wsX3_rankTo) := goodIn_app (goodIn_of _ (by decide +kernel)) ggX6_atMostUpTo_X3_rankTo
set_option maxRecDepth 20000 in
theorem ggX6_atMostUpTo_X5_total : GoodIn wsX6_atMostUpTo wsX5_total := goodIn_r _ [57, 58, 69, 70, 71] (by decide +kernel) (by decide +kernel)
set_option maxRecDepth 20000 in
theorem gX6_atMostUpTo_X5_total : GoodIn wsX6_atMostUpTo (wsV RX6 28 RX5 yX5_total wsX5_total) := goodIn_app (goodIn_of _ (by decide +kernel)) ggX6_atMostUpTo_X5_total
theorem dX6_atMostUpTo_0 : decode cX6_atMostUpTo 0 = .ok (.aload_n 0, 1) := by decide +kernel
theorem dX6_atMostUpTo_1 : decode cX6_atMostUpTo 1 = .ok (.iload_n 1, 1) := by decide +kernel
theorem dX6_atMostUpTo_2 : decode cX6_atMostUpTo 2 = .ok (.invokevirtual 16, 3) := by decide +kernel
theorem dX6_atMostUpTo_5 : decode cX6_atMostUpTo 5 = .ok (.astore_n 3, 1) := by decide +kernel
theorem dX6_atMostUpTo_6 : decode cX6_atMostUpTo 6 = .ok (.aload_n 3, 1) := by decide +kernel
theorem dX6_atMostUpTo_7 : decode cX6_atMostUpTo 7 = .ok (.getfield 48, 3) := by decide +kernel
theorem dX6_atMostUpTo_10 : decode cX6_atMostUpTo 10 = .ok (.iload_n 2, 1) := by decide +kernel
theorem dX6_atMostUpTo_11 : decode cX6_atMostUpTo 11 = .ok (.invokevirtual 115, 3) := by decide +kernel
theorem dX6_atMostUpTo_14 : decode cX6_atMostUpTo 14 = .ok (.istore 4, 2) := by decide +kernel
theorem dX6_atMostUpTo_16 : decode cX6_atMostUpTo 16 = .ok (.iload 4, 2) := by decide +kernel
theorem dX6_atMostUpTo_18 : decode cX6_atMostUpTo 18 = .ok (.aload_n 3, 1) := by decide +kernel
theorem dX6_atMostUpTo_19 : decode cX6_atMostUpTo 19 = .ok (.getfield 48, 3) := by decide +kernel
theorem dX6_atMostUpTo_22 : decode cX6_atMostUpTo 22 = .ok (.invokevirtual 52, 3) := by decide +kernel
theorem dX6_atMostUpTo_25 : decode cX6_atMostUpTo 25 = .ok (.if_icmp .ge 17, 3) := by decide +kernel
theorem dX6_atMostUpTo_28 : decode cX6_atMostUpTo 28 = .ok (.aload_n 3, 1) := by decide +kernel
theorem dX6_atMostUpTo_29 : decode cX6_atMostUpTo 29 = .ok (.getfield 48, 3) := by decide +kernel
theorem dX6_atMostUpTo_32 : decode cX6_atMostUpTo 32 = .ok (.iload 4, 2) := by decide +kernel
theorem dX6_atMostUpTo_34 : decode cX6_atMostUpTo 34 = .ok (.invokevirtual 89, 3) := by decide +kernel
theorem dX6_atMostUpTo_37 : decode cX6_atMostUpTo 37 = .ok (.iconst 1, 1) := by decide +kernel
theorem dX6_atMostUpTo_38 : decode cX6_atMostUpTo 38 = .ok (.isub, 1) := by decide +kernel
theorem dX6_atMostUpTo_39 : decode cX6_atMostUpTo 39 = .ok (.goto 10, 3) := by decide +kernel
theorem dX6_atMostUpTo_42 : decode cX6_atMostUpTo 42 = .ok (.aload_n 3, 1) := by decide +kernel
theorem dX6_atMostUpTo_43 : decode cX6_atMostUpTo 43 = .ok (.getfield 24, 3) := by decide +kernel
theorem dX6_atMostUpTo_46 : decode cX6_atMostUpTo 46 = .ok (.invokevirtual 28, 3) := by decide +kernel
theorem dX6_atMostUpTo_49 : decode cX6_atMostUpTo 49 = .ok (.ireturn, 1) := by decide +kernel
set_option maxRecDepth 20000 in
theorem ggX6_reallyUpTo_X6_counterAt : GoodIn wsX6_reallyUpTo wsX6_counterAt := goodIn_ca (goodIn_r _ [5, 6, 7, 8, 39] (by decide +kernel) (by decide +kernel)) (goodIn_sub (fun _ h => List.mem_cons_of_mem _ (List.mem_append_right _ h)) (by decide +kernel))
set_option maxRecDepth 20000 in
theorem gX6_reallyUpTo_X6_counterAt : GoodIn wsX6_reallyUpTo (wsV RX6 16 RX6 yX6_counterAt wsX6_counterAt) := goodIn_app (goodIn_of _ (by decide +kernel)) ggX6_reallyUpTo_X6_counterAt
set_option maxRecDepth 20000 in
theorem ggX6_reallyUpTo_X5_notAbove : GoodIn wsX6_reallyUpTo wsX5_notAbove := goodIn_r _ [13, 14, 15, 16, 17, 18, 19, 20, 21, 22, 23, 24, 25, 26, 27, 28, 29, 30, 31, 32, 33, 34, 40, 41, 42, 43, 44] (by decide +kernel) (by decide +kernel)
set_option maxRecDepth 20000 in
theorem gX6_reallyUpTo_X5_notAbove : GoodIn wsX6_reallyUpTo (wsV RX6 109 RX5 yX5_notAbove wsX5_notAbove) := goodIn_app (goodIn_of _ (by decide +kernel)) ggX6_reallyUpTo_X5_notAbove
theorem dX6_reallyUpTo_0 : decode cX6_reallyUpTo 0 = .ok (.aload_n 0, 1) := by decide +kernel
theorem dX6_reallyUpTo_1 : decode cX6_reallyUpTo 1 = .ok (.iload_n 1, 1) := by decide +kernel
theorem dX6_reallyUpTo_2 : decode cX6_reallyUpTo 2 = .ok (.invokevirtual 16, 3) := by decide +kernel
theorem dX6_reallyUpTo_5 : decode cX6_reallyUpTo 5 = .ok (.getfield 24, 3) := by decide +kernel
theorem dX6_reallyUpTo_8 : decode cX6_reallyUpTo 8 = .ok (.iload_n 2, 1) := by decide +kernel
theorem dX6_reallyUpTo_9 : decode cX6_reallyUpTo 9 = .ok (.invokevirtual 109, 3) := by decide +kernel
theorem dX6_reallyUpTo_12 : decode cX6_reallyUpTo 12 = .ok (.ireturn, 1) := by decide +kernel
set_option maxRecDepth 20000 in
theorem ggX6_middle_X6_counterAt : GoodIn wsX6_middle wsX6_counterAt := goodIn_ca (goodIn_r _ [5, 6, 7, 8, 49] (by decide +kernel) (by decide +kernel)) (goodIn_sub (fun _ h => List.mem_cons_of_mem _ (List.mem_append_left _ (List.mem_append_right _ h))) (by decide +kernel))
set_option maxRecDepth 20000 in
theorem gX6_middle_X6_counterAt : GoodIn wsX6_middle (wsV RX6 16 RX6 yX6_counterAt wsX6_counterAt) := goodIn_app (goodIn_of _ (by decide +kernel)) ggX6_middle_X6_counterAt
set_option maxRecDepth 20000 in
theorem ggX6_middle_X0_demandNumbers : GoodIn wsX6_middle wsX0_demandNumbers := goodIn_ca (goodIn_r _ [13, 14, 15, 16, 17, 18, 19, 20, 21, 22, 45, 46, 47, 48, 50, 51, 52] (by decide +kernel) (by decide +kernel)) (goodIn_sub (fun _ h => List.mem_cons_of_mem _ (List.mem_append_right _ h)) (by decide +kernel))
set_option maxRecDepth 20000 in
theorem gX6_middle_X0_demandNumbers : GoodIn wsX6_middle (wsV RX6 118 RX0 yX0_demandNumbers wsX0_demandNumbers) := goodIn_app (goodIn_of _ (by decide +kernel)) ggX6_middle_X0_demandNumbers
set_option maxRecDepth 20000 in
theorem ggX6_middle_X5_total : GoodIn wsX6_middle wsX5_total := goodIn_r _ [21, 22, 50, 51, 52] (by decide +kernel) (by decide +kernel)
set_option maxRecDepth 20000 in
theorem gX6_middle_X5_total : GoodIn wsX6_middle (wsV RX6 28 RX5 yX5_total wsX5_total) := goodIn_app (goodIn_of _ (by decide +kernel)) ggX6_middle_X5_total
set_option maxRecDepth 20000 in
theorem ggX6_middle_X5_withRank : GoodIn wsX6_middle wsX5_withRank := goodIn_r _ [27, 28, 29, 30, 31, 32, 33, 34, 35, 36, 37, 38, 39, 40, 41, 42, 43, 44, 50, 51, 52, 53, 54] (by decide +kernel) (by decide +kernel)
set_option maxRecDepth 20000 in
theorem gX6_middle_X5_withRank : GoodIn wsX6_middle (wsV RX6 121 RX5 yX5_withRank wsX5_withRank) := goodIn_app (goodIn_of _ (by decide +kernel)) ggX6_middle_X5_withRank
theorem dX6_middle_0 : decode cX6_middle 0 = .ok (.aload_n 0, 1) := by decide +kernel
theorem dX6_middle_1 : decode cX6_middle 1 = .ok (.iload_n 1, 1) := by decide +kernel
theorem dX6_middle_2 : decode cX6_middle 2 = .ok (.invokevirtual 16, 3) := by decide +kernel
theorem dX6_middle_5 : decode cX6_middle 5 = .ok (.astore_n 2, 1) := by decide +kernel
theorem dX6_middle_6 : decode cX6_middle 6 = .ok (.aload_n 2, 1) := by decide +kernel
theorem dX6_middle_7 : decode cX6_middle 7 = .ok (.invokevirtual 118, 3) := by decide +kernel
theorem dX6_middle_10 : decode cX6_middle 10 = .ok (.aload_n 2, 1) := by decide +kernel
theorem dX6_middle_11 : decode cX6_middle 11 = .ok (.getfield 24, 3) := by decide +kernel
theorem dX6_middle_14 : decode cX6_middle 14 = .ok (.aload_n 2, 1) := by decide +kernel
theorem dX6_middle_15 : decode cX6_middle 15 = .ok (.getfield 24, 3) := by decide +kernel
theorem dX6_middle_18 : decode cX6_middle 18 = .ok (.invokevirtual 28, 3) := by decide +kernel
theorem dX6_middle_21 : decode cX6_middle 21 = .ok (.iconst 1, 1) := by decide +kernel
theorem dX6_middle_22 : decode cX6_middle 22 = .ok (.iadd, 1) := by decide +kernel
theorem dX6_middle_23 : decode cX6_middle 23 = .ok (.iconst 2, 1) := by decide +kernel
theorem dX6_middle_24 : decode cX6_middle 24 = .ok (.idiv, 1) := by decide +kernel
theorem dX6_middle_25 : decode cX6_middle 25 = .ok (.invokevirtual 121, 3) := by decide +kernel
theorem dX6_middle_28 : decode cX6_middle 28 = .ok (.ireturn, 1) := by decide +kernel
set_option maxRecDepth 20000 in
theorem ggX6_middleByHeaps_X6_counterAt : GoodIn wsX6_middleByHeaps wsX6_counterAt := goodIn_ca (goodIn_r _ [5, 6, 7, 8, 50] (by decide +kernel) (by decide +kernel)) (goodIn_sub (fun _ h => List.mem_cons_of_mem _ (List.mem_append_left _ (List.mem_append_right _ h))) (by decide +kernel))
set_option maxRecDepth 20000 in
theorem gX6_middleByHeaps_X6_counterAt : GoodIn wsX6_middleByHeaps (wsV RX6 16 RX6 yX6_counterAt wsX6_counterAt) := goodIn_app (goodIn_of _ (by decide +kernel)) ggX6_middleByHeaps_X6_counterAt
set_option maxRecDepth 20000 in
theorem ggX6_middleByHeaps_X0_demandNumbers : GoodIn wsX6_middleByHeaps wsX0_demandNumbers := goodIn_ca (goodIn_r _ [13, 14, 15, 16, 17, 18, 19, 20, 21, 22, 46, 47, 48, 49, 51, 52, 53] (by decide +kernel) (by decide +kernel)) (goodIn_sub (fun _ h => List.mem_cons_of_mem _ (List.mem_append_right _ h)) (by decide +kernel))
set_option maxRecDepth 20000 in
theorem gX6_middleByHeaps_X0_demandNumbers : GoodIn wsX6_middleByHeaps (wsV RX6 118 RX0 yX0_demandNumbers wsX0_demandNumbers) := goodIn_app (goodIn_of _ (by decide +kernel)) ggX6_middleByHeaps_X0_demandNumbers
set_option maxRecDepth 20000 in
theorem ggX6_middleByHeaps_X1_greatestOfLesser : GoodIn wsX6_middleByHeaps wsX1_greatestOfLesser := goodIn_r _ [27, 28, 29, 30, 31, 32, 33, 34, 35, 36, 37, 38, 39, 40, 41, 42, 43, 44, 45, 54, 55, 56, 57, 58] (by decide +kernel) (by decide +kernel)
set_option maxRecDepth 20000 in
theorem gX6_middleByHeaps_X1_greatestOfLesser : GoodIn wsX6_middleByHeaps (wsV RX6 128 RX1 yX1_greatestOfLesser wsX1_greatestOfLesser) := goodIn_app (goodIn_of _ (by decide +kernel)) ggX6_middleByHeaps_X1_greatestOfLesser
theorem dX6_middleByHeaps_0 : decode cX6_middleByHeaps 0 = .ok (.aload_n 0, 1) := by decide +kernel
theorem dX6_middleByHeaps_1 : decode cX6_middleByHeaps 1 = .ok (.iload_n 1, 1) := by decide +kernel
theorem dX6_middleByHeaps_2 : decode cX6_middleByHeaps 2 = .ok (.invokevirtual 16, 3) := by decide +kernel
theorem dX6_middleByHeaps_5 : decode cX6_middleByHeaps 5 = .ok (.astore_n 2, 1) := by decide +kernel
theorem dX6_middleByHeaps_6 : decode cX6_middleByHeaps 6 = .ok (.aload_n 2, 1) := by decide +kernel
theorem dX6_middleByHeaps_7 : decode cX6_middleByHeaps 7 = .ok (.invokevirtual 118, 3) := by decide +kernel
theorem dX6_middleByHeaps_10 : decode cX6_middleByHeaps 10 = .ok (.aload_n 2, 1) := by decide +kernel
theorem dX6_middleByHeaps_11 : decode cX6_middleByHeaps 11 = .ok (.getfield 124, 3) := by decide +kernel
theorem dX6_middleByHeaps_14 : decode cX6_middleByHeaps 14 = .ok (.invokevirtual 128, 3) := by decide +kernel
theorem dX6_middleByHeaps_17 : decode cX6_middleByHeaps 17 = .ok (.ireturn, 1) := by decide +kernel
set_option maxRecDepth 20000 in
theorem ggX6_part_X6_counterAt : GoodIn wsX6_part wsX6_counterAt := goodIn_ca (goodIn_r _ [5, 6, 7, 8, 31] (by decide +kernel) (by decide +kernel)) (goodIn_sub (fun _ h => List.mem_cons_of_mem _ (List.mem_append_right _ h)) (by decide +kernel))
set_option maxRecDepth 20000 in
theorem gX6_part_X6_counterAt : GoodIn wsX6_part (wsV RX6 16 RX6 yX6_counterAt wsX6_counterAt) := goodIn_app (goodIn_of _ (by decide +kernel)) ggX6_part_X6_counterAt
set_option maxRecDepth 20000 in
theorem ggX6_part_X5_total : GoodIn wsX6_part wsX5_total := goodIn_r _ [13, 14, 32, 33, 34] (by decide +kernel) (by decide +kernel)
set_option maxRecDepth 20000 in
theorem gX6_part_X5_total : GoodIn wsX6_part (wsV RX6 28 RX5 yX5_total wsX5_total) := goodIn_app (goodIn_of _ (by decide +kernel)) ggX6_part_X5_total
set_option maxRecDepth 20000 in
theorem ggX6_part_X3_length : GoodIn wsX6_part wsX3_length := goodIn_r _ [19, 20, 21, 22, 23, 24, 25, 26, 35, 36, 37, 38, 39] (by decide +kernel) (by decide +kernel)
set_option maxRecDepth 20000 in
theorem gX6_part_X3_length : GoodIn wsX6_part (wsV RX6 52 RX3 yX3_length wsX3_length) := goodIn_app (goodIn_of _ (by decide +kernel)) ggX6_part_X3_length
theorem dX6_part_0 : decode cX6_part 0 = .ok (.aload_n 0, 1) := by decide +kernel
theorem dX6_part_1 : decode cX6_part 1 = .ok (.iload_n 1, 1) := by decide +kernel
theorem dX6_part_2 : decode cX6_part 2 = .ok (.invokevirtual 16, 3) := by decide +kernel
theorem dX6_part_5 : decode cX6_part 5 = .ok (.astore_n 2, 1) := by decide +kernel
theorem dX6_part_6 : decode cX6_part 6 = .ok (.aload_n 2, 1) := by decide +kernel
theorem dX6_part_7 : decode cX6_part 7 = .ok (.getfield 24, 3) := by decide +kernel
theorem dX6_part_10 : decode cX6_part 10 = .ok (.invokevirtual 28, 3) := by decide +kernel
theorem dX6_part_13 : decode cX6_part 13 = .ok (.istore_n 3, 1) := by decide +kernel
theorem dX6_part_14 : decode cX6_part 14 = .ok (.iload_n 3, 1) := by decide +kernel
theorem dX6_part_15 : decode cX6_part 15 = .ok (.ifCond .le 17, 3) := by decide +kernel
theorem dX6_part_18 : decode cX6_part 18 = .ok (.aload_n 2, 1) := by decide +kernel
theorem dX6_part_19 : decode cX6_part 19 = .ok (.getfield 48, 3) := by decide +kernel
theorem dX6_part_22 : decode cX6_part 22 = .ok (.invokevirtual 52, 3) := by decide +kernel
theorem dX6_part_25 : decode cX6_part 25 = .ok (.i2d, 1) := by decide +kernel
theorem dX6_part_26 : decode cX6_part 26 = .ok (.iload_n 3, 1) := by decide +kernel
theorem dX6_part_27 : decode cX6_part 27 = .ok (.i2d, 1) := by decide +kernel
theorem dX6_part_28 : decode cX6_part 28 = .ok (.ddiv, 1) := by decide +kernel
theorem dX6_part_29 : decode cX6_part 29 = .ok (.goto 4, 3) := by decide +kernel
theorem dX6_part_32 : decode cX6_part 32 = .ok (.dconst 0, 1) := by decide +kernel
theorem dX6_part_33 : decode cX6_part 33 = .ok (.dreturn, 1) := by decide +kernel
theorem dX6_counterAt_0 : decode cX6_counterAt 0 = .ok (.iload_n 1, 1) := by decide +kernel
theorem dX6_counterAt_1 : decode cX6_counterAt 1 = .ok (.ifCond .lt 12, 3) := by decide +kernel
theorem dX6_counterAt_4 : decode cX6_counterAt 4 = .ok (.iload_n 1, 1) := by decide +kernel
theorem dX6_counterAt_5 : decode cX6_counterAt 5 = .ok (.aload_n 0, 1) := by decide +kernel
theorem dX6_counterAt_6 : decode cX6_counterAt 6 = .ok (.getfield 11, 3) := by decide +kernel
theorem dX6_counterAt_9 : decode cX6_counterAt 9 = .ok (.arraylength, 1) := by decide +kernel
theorem dX6_counterAt_10 : decode cX6_counterAt 10 = .ok (.if_icmp .lt 13, 3) := by decide +kernel
theorem dX6_counterAt_13 : decode cX6_counterAt 13 = .ok (.new 133, 3) := by decide +kernel
theorem dX6_counterAt_16 : decode cX6_counterAt 16 = .ok (.dup, 1) := by decide +kernel
theorem dX6_counterAt_17 : decode cX6_counterAt 17 = .ok (.ldc 135, 2) := by decide +kernel
theorem dX6_counterAt_19 : decode cX6_counterAt 19 = .ok (.invokespecial 137, 3) := by decide +kernel
theorem dX6_counterAt_22 : decode cX6_counterAt 22 = .ok (.athrow, 1) := by decide +kernel
theorem dX6_counterAt_23 : decode cX6_counterAt 23 = .ok (.aload_n 0, 1) := by decide +kernel
theorem dX6_counterAt_24 : decode cX6_counterAt 24 = .ok (.getfield 11, 3) := by decide +kernel
theorem dX6_counterAt_27 : decode cX6_counterAt 27 = .ok (.iload_n 1, 1) := by decide +kernel
theorem dX6_counterAt_28 : decode cX6_counterAt 28 = .ok (.aaload, 1) := by decide +kernel
theorem dX6_counterAt_29 : decode cX6_counterAt 29 = .ok (.areturn, 1) := by decide +kernel
set_option maxRecDepth 20000 in
theorem ggX6_rowWith_X6_counterAt : GoodIn wsX6_rowWith wsX6_counterAt := goodIn_ca (goodIn_r _ [7, 1, 2, 8, 25] (by decide +kernel) (by decide +kernel)) (goodIn_sub (fun _ h => List.mem_cons_of_mem _ (List.mem_append_right _ h)) (by decide +kernel))
set_option maxRecDepth 20000 in
theorem gX6_rowWith_X6_counterAt : GoodIn wsX6_rowWith (wsV RX6 16 RX6 yX6_counterAt wsX6_counterAt) := goodIn_app (goodIn_of _ (by decide +kernel)) ggX6_rowWith_X6_counterAt
set_option maxRecDepth 20000 in
theorem ggX6_rowWith_X3_length : GoodIn wsX6_rowWith wsX3_length := goodIn_r _ [13, 14, 15, 16, 17, 18, 19, 20, 26, 27, 28, 29, 30] (by decide +kernel) (by decide +kernel)
set_option maxRecDepth 20000 in
theorem gX6_rowWith_X3_length : GoodIn wsX6_rowWith (wsV RX6 52 RX3 yX3_length wsX3_length) := goodIn_app (goodIn_of _ (by decide +kernel)) ggX6_rowWith_X3_length
theorem dX6_rowWith_0 : decode cX6_rowWith 0 = .ok (.aload_n 0, 1) := by decide +kernel
theorem dX6_rowWith_1 : decode cX6_rowWith 1 = .ok (.iload_n 1, 1) := by decide +kernel
theorem dX6_rowWith_2 : decode cX6_rowWith 2 = .ok (.invokevirtual 16, 3) := by decide +kernel
theorem dX6_rowWith_5 : decode cX6_rowWith 5 = .ok (.getfield 48, 3) := by decide +kernel
theorem dX6_rowWith_8 : decode cX6_rowWith 8 = .ok (.astore_n 3, 1) := by decide +kernel
theorem dX6_rowWith_9 : decode cX6_rowWith 9 = .ok (.iload_n 2, 1) := by decide +kernel
theorem dX6_rowWith_10 : decode cX6_rowWith 10 = .ok (.ifCond .lt 11, 3) := by decide +kernel
theorem dX6_rowWith_13 : decode cX6_rowWith 13 = .ok (.iload_n 2, 1) := by decide +kernel
theorem dX6_rowWith_14 : decode cX6_rowWith 14 = .ok (.aload_n 3, 1) := by decide +kernel
theorem dX6_rowWith_15 : decode cX6_rowWith 15 = .ok (.invokevirtual 52, 3) := by decide +kernel
theorem dX6_rowWith_18 : decode cX6_rowWith 18 = .ok (.if_icmp .lt 13, 3) := by decide +kernel
theorem dX6_rowWith_21 : decode cX6_rowWith 21 = .ok (.new 133, 3) := by decide +kernel
theorem dX6_rowWith_24 : decode cX6_rowWith 24 = .ok (.dup, 1) := by decide +kernel
theorem dX6_rowWith_25 : decode cX6_rowWith 25 = .ok (.ldc 138, 2) := by decide +kernel
theorem dX6_rowWith_27 : decode cX6_rowWith 27 = .ok (.invokespecial 137, 3) := by decide +kernel
theorem dX6_rowWith_30 : decode cX6_rowWith 30 = .ok (.athrow, 1) := by decide +kernel
theorem dX6_rowWith_31 : decode cX6_rowWith 31 = .ok (.aload_n 3, 1) := by decide +kernel
theorem dX6_rowWith_32 : decode cX6_rowWith 32 = .ok (.areturn, 1) := by decide +kernel
set_option maxRecDepth 20000 in
theorem ggX6_counterForShare_X6_counterAt : GoodIn wsX6_counterForShare wsX6_counterAt := goodIn_ca (goodIn_r _ [5, 6, 7, 8, 28] (by decide +kernel) (by decide +kernel)) (goodIn_sub (fun _ h => List.mem_cons_of_mem _ (List.mem_append_left _ (List.mem_append_left _ (List.mem_append_right _ h)))) (by decide +kernel))
set_option maxRecDepth 20000 in
theorem gX6_counterForShare_X6_counterAt : GoodIn wsX6_counterForShare (wsV RX6 16 RX6 yX6_counterAt wsX6_counterAt) := goodIn_app (goodIn_of _ (by decide +kernel)) ggX6_counterForShare_X6_counterAt
set_option maxRecDepth 20000 in
theorem ggX6_counterForShare_X6_demandInRange : GoodIn wsX6_counterForShare wsX6_demandInRange := goodIn_ca (goodIn_r _ [11, 12, 13] (by decide +kernel) (by decide +kernel)) (goodIn_sub (fun _ h => List.mem_cons_of_mem _ (List.mem_append_left _ (List.mem_append_right _ h))) (by decide +kernel))
set_option maxRecDepth 20000 in
theorem gX6_counterForShare_X6_demandInRange : GoodIn wsX6_counterForShare (va_wsS RX6 20 yX6_demandInRange wsX6_demandInRange) := goodIn_app (goodIn_of _ (by decide +kernel)) ggX6_counterForShare_X6_demandInRange
set_option maxRecDepth 20000 in
theorem ggX6_counterForShare_X0_demandNumbers : GoodIn wsX6_counterForShare wsX0_demandNumbers := goodIn_ca (goodIn_r _ [18, 19, 20, 21, 22, 23, 24, 25, 26, 27, 29, 30, 31, 32, 33, 34, 35] (by decide +kernel) (by decide +kernel)) (goodIn_sub (fun _ h => List.mem_cons_of_mem _ (List.mem_append_right _ h)) (by decide +kernel))
set_option maxRecDepth 20000 in
theorem gX6_counterForShare_X0_demandNumbers : GoodIn wsX6_counterForShare (wsV RX6 118 RX0 yX0_demandNumbers wsX0_demandNumbers) := goodIn_app (goodIn_of _ (by decide +kernel)) ggX6_counterForShare_X0_demandNumbers
theorem dX6_counterForShare_0 : decode cX6_counterForShare 0 = .ok (.aload_n 0, 1) := by decide +kernel
theorem dX6_counterForShare_1 : decode cX6_counterForShare 1 = .ok (.iload_n 1, 1) := by decide +kernel
theorem dX6_counterForShare_2 : decode cX6_counterForShare 2 = .ok (.invokevirtual 16, 3) := by decide +kernel
theorem dX6_counterForShare_5 : decode cX6_counterForShare 5 = .ok (.astore_n 3, 1) := by decide +kernel
theorem dX6_counterForShare_6 : decode cX6_counterForShare 6 = .ok (.iload_n 2, 1) := by decide +kernel
theorem dX6_counterForShare_7 : decode cX6_counterForShare 7 = .ok (.ifCond .lt 14, 3) := by decide +kernel
theorem dX6_counterForShare_10 : decode cX6_counterForShare 10 = .ok (.iload_n 2, 1) := by decide +kernel
theorem dX6_counterForShare_11 : decode cX6_counterForShare 11 = .ok (.sipush 1000, 3) := by decide +kernel
theorem dX6_counterForShare_14 : decode cX6_counterForShare 14 = .ok (.if_icmp .gt 7, 3) := by decide +kernel
theorem dX6_counterForShare_17 : decode cX6_counterForShare 17 = .ok (.iconst 1, 1) := by decide +kernel
theorem dX6_counterForShare_18 : decode cX6_counterForShare 18 = .ok (.goto 4, 3) := by decide +kernel
theorem dX6_counterForShare_21 : decode cX6_counterForShare 21 = .ok (.iconst 0, 1) := by decide +kernel
theorem dX6_counterForShare_22 : decode cX6_counterForShare 22 = .ok (.invokestatic 20, 3) := by decide +kernel
theorem dX6_counterForShare_25 : decode cX6_counterForShare 25 = .ok (.aload_n 3, 1) := by decide +kernel
theorem dX6_counterForShare_26 : decode cX6_counterForShare 26 = .ok (.invokevirtual 118, 3) := by decide +kernel
theorem dX6_counterForShare_29 : decode cX6_counterForShare 29 = .ok (.aload_n 3, 1) := by decide +kernel
theorem dX6_counterForShare_30 : decode cX6_counterForShare 30 = .ok (.areturn, 1) := by decide +kernel
theorem dX6_isNumber_0 : decode cX6_isNumber 0 = .ok (.iload_n 0, 1) := by decide +kernel
theorem dX6_isNumber_1 : decode cX6_isNumber 1 = .ok (.sipush (-9999), 3) := by decide +kernel
theorem dX6_isNumber_4 : decode cX6_isNumber 4 = .ok (.if_icmp .lt 14, 3) := by decide +kernel
theorem dX6_isNumber_7 : decode cX6_isNumber 7 = .ok (.iload_n 0, 1) := by decide +kernel
theorem dX6_isNumber_8 : decode cX6_isNumber 8 = .ok (.sipush 9999, 3) := by decide +kernel
theorem dX6_isNumber_11 : decode cX6_isNumber 11 = .ok (.if_icmp .gt 7, 3) := by decide +kernel
theorem dX6_isNumber_14 : decode cX6_isNumber 14 = .ok (.iconst 1, 1) := by decide +kernel
theorem dX6_isNumber_15 : decode cX6_isNumber 15 = .ok (.goto 4, 3) := by decide +kernel
theorem dX6_isNumber_18 : decode cX6_isNumber 18 = .ok (.iconst 0, 1) := by decide +kernel
theorem dX6_isNumber_19 : decode cX6_isNumber 19 = .ok (.ireturn, 1) := by decide +kernel
theorem dX6_demandInRange_0 : decode cX6_demandInRange 0 = .ok (.iload_n 0, 1) := by decide +kernel
theorem dX6_demandInRange_1 : decode cX6_demandInRange 1 = .ok (.ifCond .ne 13, 3) := by decide +kernel
theorem dX6_demandInRange_4 : decode cX6_demandInRange 4 = .ok (.new 63, 3) := by decide +kernel
theorem dX6_demandInRange_7 : decode cX6_demandInRange 7 = .ok (.dup, 1) := by decide +kernel
theorem dX6_demandInRange_8 : decode cX6_demandInRange 8 = .ok (.ldc 140, 2) := by decide +kernel
theorem dX6_demandInRange_10 : decode cX6_demandInRange 10 = .ok (.invokespecial 67, 3) := by decide +kernel
theorem dX6_demandInRange_13 : decode cX6_demandInRange 13 = .ok (.athrow, 1) := by decide +kernel
theorem dX6_demandInRange_14 : decode cX6_demandInRange 14 = .ok (.return_, 1) := by decide +kernel
theorem dX7_init_0 : decode cX7_init 0 = .ok (.aload_n 0, 1) := by decide +kernel
theorem dX7_init_1 : decode cX7_init 1 = .ok (.invokespecial 1, 3) := by decide +kernel
theorem dX7_init_4 : decode cX7_init 4 = .ok (.aload_n 0, 1) := by decide +kernel
theorem dX7_init_5 : decode cX7_init 5 = .ok (.iconst 4, 1) := by decide +kernel
theorem dX7_init_6 : decode cX7_init 6 = .ok (.newarray .int, 2) := by decide +kernel
theorem dX7_init_8 : decode cX7_init 8 = .ok (.putfield 7, 3) := by decide +kernel
theorem dX7_init_11 : decode cX7_init 11 = .ok (.aload_n 0, 1) := by decide +kernel
theorem dX7_init_12 : decode cX7_init 12 = .ok (.iconst 4, 1) := by decide +kernel
theorem dX7_init_13 : decode cX7_init 13 = .ok (.newarray .int, 2) := by decide +kernel
theorem dX7_init_15 : decode cX7_init 15 = .ok (.putfield 13, 3) := by decide +kernel
theorem dX7_init_18 : decode cX7_init 18 = .ok (.aload_n 0, 1) := by decide +kernel
theorem dX7_init_19 : decode cX7_init 19 = .ok (.iconst 4, 1) := by decide +kernel
theorem dX7_init_20 : decode cX7_init 20 = .ok (.newarray .int, 2) := by decide +kernel
theorem dX7_init_22 : decode cX7_init 22 = .ok (.putfield 16, 3) := by decide +kernel
theorem dX7_init_25 : decode cX7_init 25 = .ok (.aload_n 0, 1) := by decide +kernel
theorem dX7_init_26 : decode cX7_init 26 = .ok (.sipush 2400, 3) := by decide +kernel
theorem dX7_init_29 : decode cX7_init 29 = .ok (.newarray .int, 2) := by decide +kernel
theorem dX7_init_31 : decode cX7_init 31 = .ok (.putfield 19, 3) := by decide +kernel
theorem dX7_init_34 : decode cX7_init 34 = .ok (.aload_n 0, 1) := by decide +kernel
theorem dX7_init_35 : decode cX7_init 35 = .ok (.sipush 2400, 3) := by decide +kernel
theorem dX7_init_38 : decode cX7_init 38 = .ok (.newarray .int, 2) := by decide +kernel
theorem dX7_init_40 : decode cX7_init 40 = .ok (.putfield 22, 3) := by decide +kernel
theorem dX7_init_43 : decode cX7_init 43 = .ok (.aload_n 0, 1) := by decide +kernel
theorem dX7_init_44 : decode cX7_init 44 = .ok (.sipush 2400, 3) := by decide +kernel
theorem dX7_init_47 : decode cX7_init 47 = .ok (.newarray .int, 2) := by decide +kernel
theorem dX7_init_49 : decode cX7_init 49 = .ok (.putfield 25, 3) := by decide +kernel
theorem dX7_init_52 : decode cX7_init 52 = .ok (.aload_n 0, 1) := by decide +kernel
theorem dX7_init_53 : decode cX7_init 53 = .ok (.sipush 2400, 3) := by decide +kernel
theorem dX7_init_56 : decode cX7_init 56 = .ok (.newarray .int, 2) := by decide +kernel
theorem dX7_init_58 : decode cX7_init 58 = .ok (.putfield 28, 3) := by decide +kernel
theorem dX7_init_61 : decode cX7_init 61 = .ok (.aload_n 0, 1) := by decide +kernel
theorem dX7_init_62 : decode cX7_init 62 = .ok (.sipush 600, 3) := by decide +kernel
theorem dX7_init_65 : decode cX7_init 65 = .ok (.newarray .int, 2) := by decide +kernel
theorem dX7_init_67 : decode cX7_init 67 = .ok (.putfield 31, 3) := by decide +kernel
theorem dX7_init_70 : decode cX7_init 70 = .ok (.aload_n 0, 1) := by decide +kernel
theorem dX7_init_71 : decode cX7_init 71 = .ok (.sipush 600, 3) := by decide +kernel
theorem dX7_init_74 : decode cX7_init 74 = .ok (.newarray .int, 2) := by decide +kernel
theorem dX7_init_76 : decode cX7_init 76 = .ok (.putfield 34, 3) := by decide +kernel
theorem dX7_init_79 : decode cX7_init 79 = .ok (.aload_n 0, 1) := by decide +kernel
theorem dX7_init_80 : decode cX7_init 80 = .ok (.sipush 600, 3) := by decide +kernel
theorem dX7_init_83 : decode cX7_init 83 = .ok (.newarray .int, 2) := by decide +kernel
theorem dX7_init_85 : decode cX7_init 85 = .ok (.putfield 37, 3) := by decide +kernel
theorem dX7_init_88 : decode cX7_init 88 = .ok (.iconst 0, 1) := by decide +kernel
theorem dX7_init_89 : decode cX7_init 89 = .ok (.istore_n 1, 1) := by decide +kernel
theorem dX7_init_90 : decode cX7_init 90 = .ok (.iload_n 1, 1) := by decide +kernel
theorem dX7_init_91 : decode cX7_init 91 = .ok (.iconst 4, 1) := by decide +kernel
theorem dX7_init_92 : decode cX7_init 92 = .ok (.if_icmp .ge 17, 3) := by decide +kernel
theorem dX7_init_95 : decode cX7_init 95 = .ok (.aload_n 0, 1) := by decide +kernel
theorem dX7_init_96 : decode cX7_init 96 = .ok (.getfield 7, 3) := by decide +kernel
theorem dX7_init_99 : decode cX7_init 99 = .ok (.iload_n 1, 1) := by decide +kernel
theorem dX7_init_100 : decode cX7_init 100 = .ok (.bipush 50, 2) := by decide +kernel
theorem dX7_init_102 : decode cX7_init 102 = .ok (.iastore, 1) := by decide +kernel
theorem dX7_init_103 : decode cX7_init 103 = .ok (.iinc 1 1, 3) := by decide +kernel
theorem dX7_init_106 : decode cX7_init 106 = .ok (.goto (-16), 3) := by decide +kernel
theorem dX7_init_109 : decode cX7_init 109 = .ok (.return_, 1) := by decide +kernel
theorem dX7_thrown_0 : decode cX7_thrown 0 = .ok (.aload_n 0, 1) := by decide +kernel
theorem dX7_thrown_1 : decode cX7_thrown 1 = .ok (.getfield 40, 3) := by decide +kernel
theorem dX7_thrown_4 : decode cX7_thrown 4 = .ok (.ireturn, 1) := by decide +kernel
theorem dX7_in_0 : decode cX7_in 0 = .ok (.iload_n 0, 1) := by decide +kernel
theorem dX7_in_1 : decode cX7_in 1 = .ok (.iload_n 1, 1) := by decide +kernel
theorem dX7_in_2 : decode cX7_in 2 = .ok (.if_icmp .lt 12, 3) := by decide +kernel
theorem dX7_in_5 : decode cX7_in 5 = .ok (.iload_n 0, 1) := by decide +kernel
theorem dX7_in_6 : decode cX7_in 6 = .ok (.iload_n 2, 1) := by decide +kernel
theorem dX7_in_7 : decode cX7_in 7 = .ok (.if_icmp .gt 7, 3) := by decide +kernel
theorem dX7_in_10 : decode cX7_in 10 = .ok (.iconst 1, 1) := by decide +kernel
theorem dX7_in_11 : decode cX7_in 11 = .ok (.goto 4, 3) := by decide +kernel
theorem dX7_in_14 : decode cX7_in 14 = .ok (.iconst 0, 1) := by decide +kernel
theorem dX7_in_15 : decode cX7_in 15 = .ok (.ireturn, 1) := by decide +kernel
theorem dX7_isFine_0 : decode cX7_isFine 0 = .ok (.aload_n 0, 1) := by decide +kernel
theorem dX7_isFine_1 : decode cX7_isFine 1 = .ok (.iload_n 1, 1) := by decide +kernel
theorem dX7_isFine_2 : decode cX7_isFine 2 = .ok (.putfield 40, 3) := by decide +kernel
theorem dX7_isFine_5 : decode cX7_isFine 5 = .ok (.iload_n 1, 1) := by decide +kernel
theorem dX7_isFine_6 : decode cX7_isFine 6 = .ok (.ifCond .ne 7, 3) := by decide +kernel
theorem dX7_isFine_9 : decode cX7_isFine 9 = .ok (.iconst 1, 1) := by decide +kernel
theorem dX7_isFine_10 : decode cX7_isFine 10 = .ok (.goto 4, 3) := by decide +kernel
theorem dX7_isFine_13 : decode cX7_isFine 13 = .ok (.iconst 0, 1) := by decide +kernel
theorem dX7_isFine_14 : decode cX7_isFine 14 = .ok (.ireturn, 1) := by decide +kernel
set_option maxRecDepth 20000 in
theorem ggX7_isCounter_X7_in : GoodIn wsX7_isCounter wsX7_in := goodIn_r _ [4] (by decide +kernel) (by decide +kernel)
set_option maxRecDepth 20000 in
theorem gX7_isCounter_X7_in : GoodIn wsX7_isCounter (va_wsS RX7 44 yX7_in wsX7_in) := goodIn_app (goodIn_of _ (by decide +kernel)) ggX7_isCounter_X7_in
theorem dX7_isCounter_0 : decode cX7_isCounter 0 = .ok (.iload_n 0, 1) := by decide +kernel
theorem dX7_isCounter_1 : decode cX7_isCounter 1 = .ok (.iconst 0, 1) := by decide +kernel
theorem dX7_isCounter_2 : decode cX7_isCounter 2 = .ok (.iconst 3, 1) := by decide +kernel
theorem dX7_isCounter_3 : decode cX7_isCounter 3 = .ok (.invokestatic 44, 3) := by decide +kernel
theorem dX7_isCounter_6 : decode cX7_isCounter 6 = .ok (.ireturn, 1) := by decide +kernel
set_option maxRecDepth 20000 in
theorem ggX7_isThere_X7_isCounter : GoodIn wsX7_isThere wsX7_isCounter := goodIn_r _ [4, 5, 6, 3, 7] (by decide +kernel) (by decide +kernel)
set_option maxRecDepth 20000 in
theorem gX7_isThere_X7_isCounter : GoodIn wsX7_isThere (va_wsS RX7 48 yX7_isCounter wsX7_isCounter) := goodIn_app (goodIn_of _ (by decide +kernel)) ggX7_isThere_X7_isCounter
set_option maxRecDepth 20000 in
theorem ggX7_isThere_X7_isFine : GoodIn wsX7_isThere wsX7_isFine := goodIn_r _ [11, 12, 13, 14, 15, 16, 17, 18, 19, 20, 21, 22, 23] (by decide +kernel) (by decide +kernel)
set_option maxRecDepth 20000 in
theorem gX7_isThere_X7_isFine : GoodIn wsX7_isThere (wsV RX7 52 RX7 yX7_isFine wsX7_isFine) := goodIn_app (goodIn_of _ (by decide +kernel)) ggX7_isThere_X7_isFine
theorem dX7_isThere_0 : decode cX7_isThere 0 = .ok (.aload_n 0, 1) := by decide +kernel
theorem dX7_isThere_1 : decode cX7_isThere 1 = .ok (.iload_n 1, 1) := by decide +kernel
theorem dX7_isThere_2 : decode cX7_isThere 2 = .ok (.invokestatic 48, 3) := by decide +kernel
theorem dX7_isThere_5 : decode cX7_isThere 5 = .ok (.ifCond .eq 7, 3) := by decide +kernel
theorem dX7_isThere_8 : decode cX7_isThere 8 = .ok (.iconst 0, 1) := by decide +kernel
theorem dX7_isThere_9 : decode cX7_isThere 9 = .ok (.goto 4, 3) := by decide +kernel
theorem dX7_isThere_12 : decode cX7_isThere 12 = .ok (.iconst 1, 1) := by decide +kernel
theorem dX7_isThere_13 : decode cX7_isThere 13 = .ok (.invokevirtual 52, 3) := by decide +kernel
theorem dX7_isThere_16 : decode cX7_isThere 16 = .ok (.ireturn, 1) := by decide +kernel
set_option maxRecDepth 20000 in
theorem ggX7_begin_X7_isCounter : GoodIn wsX7_begin wsX7_isCounter := goodIn_r _ [7, 8, 9, 6, 10] (by decide +kernel) (by decide +kernel)
set_option maxRecDepth 20000 in
theorem gX7_begin_X7_isCounter : GoodIn wsX7_begin (va_wsS RX7 48 yX7_isCounter wsX7_isCounter) := goodIn_app (goodIn_of _ (by decide +kernel)) ggX7_begin_X7_isCounter
set_option maxRecDepth 20000 in
theorem ggX7_begin_X7_in : GoodIn wsX7_begin wsX7_in := goodIn_r _ [10] (by decide +kernel) (by decide +kernel)
set_option maxRecDepth 20000 in
theorem gX7_begin_X7_in : GoodIn wsX7_begin (va_wsS RX7 44 yX7_in wsX7_in) := goodIn_app (goodIn_of _ (by decide +kernel)) ggX7_begin_X7_in
set_option maxRecDepth 20000 in
theorem ggX7_begin_X7_isFine : GoodIn wsX7_begin wsX7_isFine := goodIn_r _ [14, 15, 16, 17, 18, 19, 20, 21, 22, 23, 24, 25, 26] (by decide +kernel) (by decide +kernel)
set_option maxRecDepth 20000 in
theorem gX7_begin_X7_isFine : GoodIn wsX7_begin (wsV RX7 52 RX7 yX7_isFine wsX7_isFine) := goodIn_app (goodIn_of _ (by decide +kernel)) ggX7_begin_X7_isFine
theorem dX7_begin_0 : decode cX7_begin 0 = .ok (.aload_n 0, 1) := by decide +kernel
theorem dX7_begin_1 : decode cX7_begin 1 = .ok (.iload_n 1, 1) := by decide +kernel
theorem dX7_begin_2 : decode cX7_begin 2 = .ok (.invokestatic 48, 3) := by decide +kernel
theorem dX7_begin_5 : decode cX7_begin 5 = .ok (.ifCond .ne 7, 3) := by decide +kernel
theorem dX7_begin_8 : decode cX7_begin 8 = .ok (.iconst 1, 1) := by decide +kernel
theorem dX7_begin_9 : decode cX7_begin 9 = .ok (.goto 19, 3) := by decide +kernel
theorem dX7_begin_12 : decode cX7_begin 12 = .ok (.iload_n 2, 1) := by decide +kernel
theorem dX7_begin_13 : decode cX7_begin 13 = .ok (.iconst 5, 1) := by decide +kernel
theorem dX7_begin_14 : decode cX7_begin 14 = .ok (.sipush 200, 3) := by decide +kernel
theorem dX7_begin_17 : decode cX7_begin 17 = .ok (.invokestatic 44, 3) := by decide +kernel
theorem dX7_begin_20 : decode cX7_begin 20 = .ok (.ifCond .ne 7, 3) := by decide +kernel
theorem dX7_begin_23 : decode cX7_begin 23 = .ok (.iconst 2, 1) := by decide +kernel
theorem dX7_begin_24 : decode cX7_begin 24 = .ok (.goto 4, 3) := by decide +kernel
theorem dX7_begin_27 : decode cX7_begin 27 = .ok (.iconst 0, 1) := by decide +kernel
theorem dX7_begin_28 : decode cX7_begin 28 = .ok (.invokevirtual 52, 3) := by decide +kernel
theorem dX7_begin_31 : decode cX7_begin 31 = .ok (.ifCond .ne 5, 3) := by decide +kernel
theorem dX7_begin_34 : decode cX7_begin 34 = .ok (.iconst 0, 1) := by decide +kernel
theorem dX7_begin_35 : decode cX7_begin 35 = .ok (.ireturn, 1) := by decide +kernel
theorem dX7_begin_36 : decode cX7_begin 36 = .ok (.aload_n 0, 1) := by decide +kernel
theorem dX7_begin_37 : decode cX7_begin 37 = .ok (.getfield 13, 3) := by decide +kernel
theorem dX7_begin_40 : decode cX7_begin 40 = .ok (.iload_n 1, 1) := by decide +kernel
theorem dX7_begin_41 : decode cX7_begin 41 = .ok (.iaload, 1) := by decide +kernel
theorem dX7_begin_42 : decode cX7_begin 42 = .ok (.istore_n 3, 1) := by decide +kernel
theorem dX7_begin_43 : decode cX7_begin 43 = .ok (.aload_n 0, 1) := by decide +kernel
theorem dX7_begin_44 : decode cX7_begin 44 = .ok (.getfield 7, 3) := by decide +kernel
theorem dX7_begin_47 : decode cX7_begin 47 = .ok (.iload_n 1, 1) := by decide +kernel
theorem dX7_begin_48 : decode cX7_begin 48 = .ok (.iload_n 2, 1) := by decide +kernel
theorem dX7_begin_49 : decode cX7_begin 49 = .ok (.iastore, 1) := by decide +kernel
theorem dX7_begin_50 : decode cX7_begin 50 = .ok (.aload_n 0, 1) := by decide +kernel
theorem dX7_begin_51 : decode cX7_begin 51 = .ok (.getfield 13, 3) := by decide +kernel
theorem dX7_begin_54 : decode cX7_begin 54 = .ok (.iload_n 1, 1) := by decide +kernel
theorem dX7_begin_55 : decode cX7_begin 55 = .ok (.iconst 0, 1) := by decide +kernel
theorem dX7_begin_56 : decode cX7_begin 56 = .ok (.iastore, 1) := by decide +kernel
theorem dX7_begin_57 : decode cX7_begin 57 = .ok (.aload_n 0, 1) := by decide +kernel
theorem dX7_begin_58 : decode cX7_begin 58 = .ok (.getfield 16, 3) := by decide +kernel
theorem dX7_begin_61 : decode cX7_begin 61 = .ok (.iload_n 1, 1) := by decide +kernel
theorem dX7_begin_62 : decode cX7_begin 62 = .ok (.iconst 0, 1) := by decide +kernel
theorem dX7_begin_63 : decode cX7_begin 63 = .ok (.iastore, 1) := by decide +kernel
theorem dX7_begin_64 : decode cX7_begin 64 = .ok (.iload_n 3, 1) := by decide +kernel
theorem dX7_begin_65 : decode cX7_begin 65 = .ok (.ireturn, 1) := by decide +kernel
theorem dX7_remembers_0 : decode cX7_remembers 0 = .ok (.sipush 600, 3) := by decide +kernel
theorem dX7_remembers_3 : decode cX7_remembers 3 = .ok (.iload_n 1, 1) := by decide +kernel
theorem dX7_remembers_4 : decode cX7_remembers 4 = .ok (.imul, 1) := by decide +kernel
theorem dX7_remembers_5 : decode cX7_remembers 5 = .ok (.aload_n 0, 1) := by decide +kernel
theorem dX7_remembers_6 : decode cX7_remembers 6 = .ok (.getfield 13, 3) := by decide +kernel
theorem dX7_remembers_9 : decode cX7_remembers 9 = .ok (.iload_n 1, 1) := by decide +kernel
theorem dX7_remembers_10 : decode cX7_remembers 10 = .ok (.iaload, 1) := by decide +kernel
theorem dX7_remembers_11 : decode cX7_remembers 11 = .ok (.iadd, 1) := by decide +kernel
theorem dX7_remembers_12 : decode cX7_remembers 12 = .ok (.istore_n 3, 1) := by decide +kernel
theorem dX7_remembers_13 : decode cX7_remembers 13 = .ok (.iload_n 3, 1) := by decide +kernel
theorem dX7_remembers_14 : decode cX7_remembers 14 = .ok (.sipush 600, 3) := by decide +kernel
theorem dX7_remembers_17 : decode cX7_remembers 17 = .ok (.iload_n 1, 1) := by decide +kernel
theorem dX7_remembers_18 : decode cX7_remembers 18 = .ok (.imul, 1) := by decide +kernel
theorem dX7_remembers_19 : decode cX7_remembers 19 = .ok (.if_icmp .le 35, 3) := by decide +kernel
theorem dX7_remembers_22 : decode cX7_remembers 22 = .ok (.aload_n 0, 1) := by decide +kernel
theorem dX7_remembers_23 : decode cX7_remembers 23 = .ok (.getfield 19, 3) := by decide +kernel
theorem dX7_remembers_26 : decode cX7_remembers 26 = .ok (.iload_n 3, 1) := by decide +kernel
theorem dX7_remembers_27 : decode cX7_remembers 27 = .ok (.iconst 1, 1) := by decide +kernel
theorem dX7_remembers_28 : decode cX7_remembers 28 = .ok (.isub, 1) := by decide +kernel
theorem dX7_remembers_29 : decode cX7_remembers 29 = .ok (.iaload, 1) := by decide +kernel
theorem dX7_remembers_30 : decode cX7_remembers 30 = .ok (.iload_n 2, 1) := by decide +kernel
theorem dX7_remembers_31 : decode cX7_remembers 31 = .ok (.if_icmp .le 23, 3) := by decide +kernel
theorem dX7_remembers_34 : decode cX7_remembers 34 = .ok (.aload_n 0, 1) := by decide +kernel
theorem dX7_remembers_35 : decode cX7_remembers 35 = .ok (.getfield 19, 3) := by decide +kernel
theorem dX7_remembers_38 : decode cX7_remembers 38 = .ok (.iload_n 3, 1) := by decide +kernel
theorem dX7_remembers_39 : decode cX7_remembers 39 = .ok (.aload_n 0, 1) := by decide +kernel
theorem dX7_remembers_40 : decode cX7_remembers 40 = .ok (.getfield 19, 3) := by decide +kernel
theorem dX7_remembers_43 : decode cX7_remembers 43 = .ok (.iload_n 3, 1) := by decide +kernel
theorem dX7_remembers_44 : decode cX7_remembers 44 = .ok (.iconst 1, 1) := by decide +kernel
theorem dX7_remembers_45 : decode cX7_remembers 45 = .ok (.isub, 1) := by decide +kernel
theorem dX7_remembers_46 : decode cX7_remembers 46 = .ok (.iaload, 1) := by decide +kernel
theorem dX7_remembers_47 : decode cX7_remembers 47 = .ok (.iastore, 1) := by decide +kernel
theorem dX7_remembers_48 : decode cX7_remembers 48 = .ok (.iinc 3 (-1), 3) := by decide +kernel
theorem dX7_remembers_51 : decode cX7_remembers 51 = .ok (.goto (-38), 3) := by decide +kernel
theorem dX7_remembers_54 : decode cX7_remembers 54 = .ok (.aload_n 0, 1) := by decide +kernel
theorem dX7_remembers_55 : decode cX7_remembers 55 = .ok (.getfield 19, 3) := by decide +kernel
theorem dX7_remembers_58 : decode cX7_remembers 58 = .ok (.iload_n 3, 1) := by decide +kernel
theorem dX7_remembers_59 : decode cX7_remembers 59 = .ok (.iload_n 2, 1) := by decide +kernel
theorem dX7_remembers_60 : decode cX7_remembers 60 = .ok (.iastore, 1) := by decide +kernel
theorem dX7_remembers_61 : decode cX7_remembers 61 = .ok (.aload_n 0, 1) := by decide +kernel
theorem dX7_remembers_62 : decode cX7_remembers 62 = .ok (.getfield 13, 3) := by decide +kernel
theorem dX7_remembers_65 : decode cX7_remembers 65 = .ok (.iload_n 1, 1) := by decide +kernel
theorem dX7_remembers_66 : decode cX7_remembers 66 = .ok (.dup2, 1) := by decide +kernel
theorem dX7_remembers_67 : decode cX7_remembers 67 = .ok (.iaload, 1) := by decide +kernel
theorem dX7_remembers_68 : decode cX7_remembers 68 = .ok (.iconst 1, 1) := by decide +kernel
theorem dX7_remembers_69 : decode cX7_remembers 69 = .ok (.iadd, 1) := by decide +kernel
theorem dX7_remembers_70 : decode cX7_remembers 70 = .ok (.iastore, 1) := by decide +kernel
theorem dX7_remembers_71 : decode cX7_remembers 71 = .ok (.return_, 1) := by decide +kernel
set_option maxRecDepth 20000 in
theorem ggX7_shows_X7_remembers : GoodIn wsX7_shows wsX7_remembers := goodIn_r _ [9, 10, 11, 12, 13, 14, 15, 16, 17, 18, 19, 20, 21, 22] (by decide +kernel) (by decide +kernel)
set_option maxRecDepth 20000 in
theorem gX7_shows_X7_remembers : GoodIn wsX7_shows (wsV RX7 55 RX7 yX7_remembers wsX7_remembers) := goodIn_app (goodIn_of _ (by decide +kernel)) ggX7_shows_X7_remembers
theorem dX7_shows_0 : decode cX7_shows 0 = .ok (.aload_n 0, 1) := by decide +kernel
theorem dX7_shows_1 : decode cX7_shows 1 = .ok (.iload_n 1, 1) := by decide +kernel
theorem dX7_shows_2 : decode cX7_shows 2 = .ok (.iload_n 2, 1) := by decide +kernel
theorem dX7_shows_3 : decode cX7_shows 3 = .ok (.invokevirtual 55, 3) := by decide +kernel
theorem dX7_shows_6 : decode cX7_shows 6 = .ok (.sipush 600, 3) := by decide +kernel
theorem dX7_shows_9 : decode cX7_shows 9 = .ok (.iload_n 1, 1) := by decide +kernel
theorem dX7_shows_10 : decode cX7_shows 10 = .ok (.imul, 1) := by decide +kernel
theorem dX7_shows_11 : decode cX7_shows 11 = .ok (.istore_n 3, 1) := by decide +kernel
theorem dX7_shows_12 : decode cX7_shows 12 = .ok (.iload_n 3, 1) := by decide +kernel
theorem dX7_shows_13 : decode cX7_shows 13 = .ok (.aload_n 0, 1) := by decide +kernel
theorem dX7_shows_14 : decode cX7_shows 14 = .ok (.getfield 16, 3) := by decide +kernel
theorem dX7_shows_17 : decode cX7_shows 17 = .ok (.iload_n 1, 1) := by decide +kernel
theorem dX7_shows_18 : decode cX7_shows 18 = .ok (.iaload, 1) := by decide +kernel
theorem dX7_shows_19 : decode cX7_shows 19 = .ok (.iadd, 1) := by decide +kernel
theorem dX7_shows_20 : decode cX7_shows 20 = .ok (.istore 4, 2) := by decide +kernel
theorem dX7_shows_22 : decode cX7_shows 22 = .ok (.iload 4, 2) := by decide +kernel
theorem dX7_shows_24 : decode cX7_shows 24 = .ok (.iload_n 3, 1) := by decide +kernel
theorem dX7_shows_25 : decode cX7_shows 25 = .ok (.if_icmp .le 74, 3) := by decide +kernel
theorem dX7_shows_28 : decode cX7_shows 28 = .ok (.aload_n 0, 1) := by decide +kernel
theorem dX7_shows_29 : decode cX7_shows 29 = .ok (.getfield 22, 3) := by decide +kernel
theorem dX7_shows_32 : decode cX7_shows 32 = .ok (.iload 4, 2) := by decide +kernel
theorem dX7_shows_34 : decode cX7_shows 34 = .ok (.iconst 1, 1) := by decide +kernel
theorem dX7_shows_35 : decode cX7_shows 35 = .ok (.isub, 1) := by decide +kernel
theorem dX7_shows_36 : decode cX7_shows 36 = .ok (.iaload, 1) := by decide +kernel
theorem dX7_shows_37 : decode cX7_shows 37 = .ok (.iload_n 2, 1) := by decide +kernel
theorem dX7_shows_38 : decode cX7_shows 38 = .ok (.if_icmp .le 61, 3) := by decide +kernel
theorem dX7_shows_41 : decode cX7_shows 41 = .ok (.aload_n 0, 1) := by decide +kernel
theorem dX7_shows_42 : decode cX7_shows 42 = .ok (.getfield 22, 3) := by decide +kernel
theorem dX7_shows_45 : decode cX7_shows 45 = .ok (.iload 4, 2) := by decide +kernel
theorem dX7_shows_47 : decode cX7_shows 47 = .ok (.aload_n 0, 1) := by decide +kernel
theorem dX7_shows_48 : decode cX7_shows 48 = .ok (.getfield 22, 3) := by decide +kernel
theorem dX7_shows_51 : decode cX7_shows 51 = .ok (.iload 4, 2) := by decide +kernel
theorem dX7_shows_53 : decode cX7_shows 53 = .ok (.iconst 1, 1) := by decide +kernel
theorem dX7_shows_54 : decode cX7_shows 54 = .ok (.isub, 1) := by decide +kernel
theorem dX7_shows_55 : decode cX7_shows 55 = .ok (.iaload, 1) := by decide +kernel
theorem dX7_shows_56 : decode cX7_shows 56 = .ok (.iastore, 1) := by decide +kernel
theorem dX7_shows_57 : decode cX7_shows 57 = .ok (.aload_n 0, 1) := by decide +kernel
theorem dX7_shows_58 : decode cX7_shows 58 = .ok (.getfield 25, 3) := by decide +kernel
theorem dX7_shows_61 : decode cX7_shows 61 = .ok (.iload 4, 2) := by decide +kernel
theorem dX7_shows_63 : decode cX7_shows 63 = .ok (.aload_n 0, 1) := by decide +kernel
theorem dX7_shows_64 : decode cX7_shows 64 = .ok (.getfield 25, 3) := by decide +kernel
theorem dX7_shows_67 : decode cX7_shows 67 = .ok (.iload 4, 2) := by decide +kernel
theorem dX7_shows_69 : decode cX7_shows 69 = .ok (.iconst 1, 1) := by decide +kernel
theorem dX7_shows_70 : decode cX7_shows 70 = .ok (.isub, 1) := by decide +kernel
theorem dX7_shows_71 : decode cX7_shows 71 = .ok (.iaload, 1) := by decide +kernel
theorem dX7_shows_72 : decode cX7_shows 72 = .ok (.iconst 1, 1) := by decide +kernel
theorem dX7_shows_73 : decode cX7_shows 73 = .ok (.iadd, 1) := by decide +kernel
theorem dX7_shows_74 : decode cX7_shows 74 = .ok (.iastore, 1) := by decide +kernel
theorem dX7_shows_75 : decode cX7_shows 75 = .ok (.aload_n 0, 1) := by decide +kernel
theorem dX7_shows_76 : decode cX7_shows 76 = .ok (.getfield 28, 3) := by decide +kernel
theorem dX7_shows_79 : decode cX7_shows 79 = .ok (.iload 4, 2) := by decide +kernel
theorem dX7_shows_81 : decode cX7_shows 81 = .ok (.aload_n 0, 1) := by decide +kernel
theorem dX7_shows_82 : decode cX7_shows 82 = .ok (.getfield 28, 3) := by decide +kernel
theorem dX7_shows_85 : decode cX7_shows 85 = .ok (.iload 4, 2) := by decide +kernel
theorem dX7_shows_87 : decode cX7_shows 87 = .ok (.iconst 1, 1) := by decide +kernel
theorem dX7_shows_88 : decode cX7_shows 88 = .ok (.isub, 1) := by decide +kernel
theorem dX7_shows_89 : decode cX7_shows 89 = .ok (.iaload, 1) := by decide +kernel
theorem dX7_shows_90 : decode cX7_shows 90 = .ok (.iconst 1, 1) := by decide +kernel
theorem dX7_shows_91 : decode cX7_shows 91 = .ok (.iadd, 1) := by decide +kernel
theorem dX7_shows_92 : decode cX7_shows 92 = .ok (.iastore, 1) := by decide +kernel
theorem dX7_shows_93 : decode cX7_shows 93 = .ok (.iinc 4 (-1), 3) := by decide +kernel
theorem dX7_shows_96 : decode cX7_shows 96 = .ok (.goto (-74), 3) := by decide +kernel
theorem dX7_shows_99 : decode cX7_shows 99 = .ok (.iload 4, 2) := by decide +kernel
theorem dX7_shows_101 : decode cX7_shows 101 = .ok (.iload_n 3, 1) := by decide +kernel
theorem dX7_shows_102 : decode cX7_shows 102 = .ok (.aload_n 0, 1) := by decide +kernel
theorem dX7_shows_103 : decode cX7_shows 103 = .ok (.getfield 16, 3) := by decide +kernel
theorem dX7_shows_106 : decode cX7_shows 106 = .ok (.iload_n 1, 1) := by decide +kernel
theorem dX7_shows_107 : decode cX7_shows 107 = .ok (.iaload, 1) := by decide +kernel
theorem dX7_shows_108 : decode cX7_shows 108 = .ok (.iadd, 1) := by decide +kernel
theorem dX7_shows_109 : decode cX7_shows 109 = .ok (.if_icmp .ne 7, 3) := by decide +kernel
theorem dX7_shows_112 : decode cX7_shows 112 = .ok (.iconst 1, 1) := by decide +kernel
theorem dX7_shows_113 : decode cX7_shows 113 = .ok (.goto 4, 3) := by decide +kernel
theorem dX7_shows_116 : decode cX7_shows 116 = .ok (.iconst 0, 1) := by decide +kernel
theorem dX7_shows_117 : decode cX7_shows 117 = .ok (.istore 5, 2) := by decide +kernel
theorem dX7_shows_119 : decode cX7_shows 119 = .ok (.aload_n 0, 1) := by decide +kernel
theorem dX7_shows_120 : decode cX7_shows 120 = .ok (.getfield 22, 3) := by decide +kernel
theorem dX7_shows_123 : decode cX7_shows 123 = .ok (.iload 4, 2) := by decide +kernel
theorem dX7_shows_125 : decode cX7_shows 125 = .ok (.iload_n 2, 1) := by decide +kernel
theorem dX7_shows_126 : decode cX7_shows 126 = .ok (.iastore, 1) := by decide +kernel
theorem dX7_shows_127 : decode cX7_shows 127 = .ok (.aload_n 0, 1) := by decide +kernel
theorem dX7_shows_128 : decode cX7_shows 128 = .ok (.getfield 25, 3) := by decide +kernel
theorem dX7_shows_131 : decode cX7_shows 131 = .ok (.iload 4, 2) := by decide +kernel
theorem dX7_shows_133 : decode cX7_shows 133 = .ok (.iload 4, 2) := by decide +kernel
theorem dX7_shows_135 : decode cX7_shows 135 = .ok (.iload_n 3, 1) := by decide +kernel
theorem dX7_shows_136 : decode cX7_shows 136 = .ok (.if_icmp .ne 7, 3) := by decide +kernel
theorem dX7_shows_139 : decode cX7_shows 139 = .ok (.iconst 0, 1) := by decide +kernel
theorem dX7_shows_140 : decode cX7_shows 140 = .ok (.goto 12, 3) := by decide +kernel
theorem dX7_shows_143 : decode cX7_shows 143 = .ok (.aload_n 0, 1) := by decide +kernel
theorem dX7_shows_144 : decode cX7_shows 144 = .ok (.getfield 25, 3) := by decide +kernel
theorem dX7_shows_147 : decode cX7_shows 147 = .ok (.iload 4, 2) := by decide +kernel
theorem dX7_shows_149 : decode cX7_shows 149 = .ok (.iconst 1, 1) := by decide +kernel
theorem dX7_shows_150 : decode cX7_shows 150 = .ok (.isub, 1) := by decide +kernel
theorem dX7_shows_151 : decode cX7_shows 151 = .ok (.iaload, 1) := by decide +kernel
theorem dX7_shows_152 : decode cX7_shows 152 = .ok (.iconst 1, 1) := by decide +kernel
theorem dX7_shows_153 : decode cX7_shows 153 = .ok (.iadd, 1) := by decide +kernel
theorem dX7_shows_154 : decode cX7_shows 154 = .ok (.iastore, 1) := by decide +kernel
theorem dX7_shows_155 : decode cX7_shows 155 = .ok (.aload_n 0, 1) := by decide +kernel
theorem dX7_shows_156 : decode cX7_shows 156 = .ok (.getfield 28, 3) := by decide +kernel
theorem dX7_shows_159 : decode cX7_shows 159 = .ok (.iload 4, 2) := by decide +kernel
theorem dX7_shows_161 : decode cX7_shows 161 = .ok (.iload 5, 2) := by decide +kernel
theorem dX7_shows_163 : decode cX7_shows 163 = .ok (.ifCond .eq 13, 3) := by decide +kernel
theorem dX7_shows_166 : decode cX7_shows 166 = .ok (.aload_n 0, 1) := by decide +kernel
theorem dX7_shows_167 : decode cX7_shows 167 = .ok (.getfield 25, 3) := by decide +kernel
theorem dX7_shows_170 : decode cX7_shows 170 = .ok (.iload 4, 2) := by decide +kernel
theorem dX7_shows_172 : decode cX7_shows 172 = .ok (.iaload, 1) := by decide +kernel
theorem dX7_shows_173 : decode cX7_shows 173 = .ok (.goto 14, 3) := by decide +kernel
theorem dX7_shows_176 : decode cX7_shows 176 = .ok (.aload_n 0, 1) := by decide +kernel
theorem dX7_shows_177 : decode cX7_shows 177 = .ok (.getfield 28, 3) := by decide +kernel
theorem dX7_shows_180 : decode cX7_shows 180 = .ok (.iload 4, 2) := by decide +kernel
theorem dX7_shows_182 : decode cX7_shows 182 = .ok (.iconst 1, 1) := by decide +kernel
theorem dX7_shows_183 : decode cX7_shows 183 = .ok (.iadd, 1) := by decide +kernel
theorem dX7_shows_184 : decode cX7_shows 184 = .ok (.iaload, 1) := by decide +kernel
theorem dX7_shows_185 : decode cX7_shows 185 = .ok (.iconst 1, 1) := by decide +kernel
theorem dX7_shows_186 : decode cX7_shows 186 = .ok (.isub, 1) := by decide +kernel
theorem dX7_shows_187 : decode cX7_shows 187 = .ok (.iastore, 1) := by decide +kernel
theorem dX7_shows_188 : decode cX7_shows 188 = .ok (.aload_n 0, 1) := by decide +kernel
theorem dX7_shows_189 : decode cX7_shows 189 = .ok (.getfield 16, 3) := by decide +kernel
theorem dX7_shows_192 : decode cX7_shows 192 = .ok (.iload_n 1, 1) := by decide +kernel
theorem dX7_shows_193 : decode cX7_shows 193 = .ok (.dup2, 1) := by decide +kernel
theorem dX7_shows_194 : decode cX7_shows 194 = .ok (.iaload, 1) := by decide +kernel
theorem dX7_shows_195 : decode cX7_shows 195 = .ok (.iconst 1, 1) := by decide +kernel
theorem dX7_shows_196 : decode cX7_shows 196 = .ok (.iadd, 1) := by decide +kernel
theorem dX7_shows_197 : decode cX7_shows 197 = .ok (.iastore, 1) := by decide +kernel
theorem dX7_shows_198 : decode cX7_shows 198 = .ok (.return_, 1) := by decide +kernel
set_option maxRecDepth 20000 in
theorem ggX7_show_X7_isCounter : GoodIn wsX7_show wsX7_isCounter := goodIn_r _ [6, 7, 8, 5, 9] (by decide +kernel) (by decide +kernel)
set_option maxRecDepth 20000 in
theorem gX7_show_X7_isCounter : GoodIn wsX7_show (va_wsS RX7 48 yX7_isCounter wsX7_isCounter) := goodIn_app (goodIn_of _ (by decide +kernel)) ggX7_show_X7_isCounter
set_option maxRecDepth 20000 in
theorem ggX7_show_X7_in : GoodIn wsX7_show wsX7_in := goodIn_r _ [9] (by decide +kernel) (by decide +kernel)
set_option maxRecDepth 20000 in
theorem gX7_show_X7_in : GoodIn wsX7_show (va_wsS RX7 44 yX7_in wsX7_in) := goodIn_app (goodIn_of _ (by decide +kernel)) ggX7_show_X7_in
set_option maxRecDepth 20000 in
theorem ggX7_show_X7_isFine : GoodIn wsX7_show wsX7_isFine := goodIn_r _ [13, 14, 27, 28, 29, 30, 31, 32, 33, 34, 35, 36, 37] (by decide +kernel) (by decide +kernel)
set_option maxRecDepth 20000 in
theorem gX7_show_X7_isFine : GoodIn wsX7_show (wsV RX7 52 RX7 yX7_isFine wsX7_isFine) := goodIn_app (goodIn_of _ (by decide +kernel)) ggX7_show_X7_isFine
set_option maxRecDepth 20000 in
theorem ggX7_show_X7_shows : GoodIn wsX7_show wsX7_shows := goodIn_r _ [18, 2, 19, 20, 21, 22, 23, 24, 5, 25, 1, 26, 27, 28, 29, 30, 31, 32, 33, 34, 35, 36, 37] (by decide +kernel) (by decide +kernel)
set_option maxRecDepth 20000 in
theorem gX7_show_X7_shows : GoodIn wsX7_show (wsV RX7 59 RX7 yX7_shows wsX7_shows) := goodIn_app (goodIn_of _ (by decide +kernel)) ggX7_show_X7_shows
theorem dX7_show_0 : decode cX7_show 0 = .ok (.aload_n 0, 1) := by decide +kernel
theorem dX7_show_1 : decode cX7_show 1 = .ok (.iload_n 1, 1) := by decide +kernel
theorem dX7_show_2 : decode cX7_show 2 = .ok (.invokestatic 48, 3) := by decide +kernel
theorem dX7_show_5 : decode cX7_show 5 = .ok (.ifCond .ne 7, 3) := by decide +kernel
theorem dX7_show_8 : decode cX7_show 8 = .ok (.iconst 1, 1) := by decide +kernel
theorem dX7_show_9 : decode cX7_show 9 = .ok (.goto 37, 3) := by decide +kernel
theorem dX7_show_12 : decode cX7_show 12 = .ok (.iload_n 2, 1) := by decide +kernel
theorem dX7_show_13 : decode cX7_show 13 = .ok (.sipush (-9999), 3) := by decide +kernel
theorem dX7_show_16 : decode cX7_show 16 = .ok (.sipush 9999, 3) := by decide +kernel
theorem dX7_show_19 : decode cX7_show 19 = .ok (.invokestatic 44, 3) := by decide +kernel
theorem dX7_show_22 : decode cX7_show 22 = .ok (.ifCond .ne 7, 3) := by decide +kernel
theorem dX7_show_25 : decode cX7_show 25 = .ok (.iconst 2, 1) := by decide +kernel
theorem dX7_show_26 : decode cX7_show 26 = .ok (.goto 20, 3) := by decide +kernel
theorem dX7_show_29 : decode cX7_show 29 = .ok (.aload_n 0, 1) := by decide +kernel
theorem dX7_show_30 : decode cX7_show 30 = .ok (.getfield 13, 3) := by decide +kernel
theorem dX7_show_33 : decode cX7_show 33 = .ok (.iload_n 1, 1) := by decide +kernel
theorem dX7_show_34 : decode cX7_show 34 = .ok (.iaload, 1) := by decide +kernel
theorem dX7_show_35 : decode cX7_show 35 = .ok (.sipush 600, 3) := by decide +kernel
theorem dX7_show_38 : decode cX7_show 38 = .ok (.if_icmp .ne 7, 3) := by decide +kernel
theorem dX7_show_41 : decode cX7_show 41 = .ok (.iconst 3, 1) := by decide +kernel
theorem dX7_show_42 : decode cX7_show 42 = .ok (.goto 4, 3) := by decide +kernel
theorem dX7_show_45 : decode cX7_show 45 = .ok (.iconst 0, 1) := by decide +kernel
theorem dX7_show_46 : decode cX7_show 46 = .ok (.invokevirtual 52, 3) := by decide +kernel
theorem dX7_show_49 : decode cX7_show 49 = .ok (.ifCond .ne 5, 3) := by decide +kernel
theorem dX7_show_52 : decode cX7_show 52 = .ok (.iconst 0, 1) := by decide +kernel
theorem dX7_show_53 : decode cX7_show 53 = .ok (.ireturn, 1) := by decide +kernel
theorem dX7_show_54 : decode cX7_show 54 = .ok (.aload_n 0, 1) := by decide +kernel
theorem dX7_show_55 : decode cX7_show 55 = .ok (.iload_n 1, 1) := by decide +kernel
theorem dX7_show_56 : decode cX7_show 56 = .ok (.iload_n 2, 1) := by decide +kernel
theorem dX7_show_57 : decode cX7_show 57 = .ok (.invokevirtual 59, 3) := by decide +kernel
theorem dX7_show_60 : decode cX7_show 60 = .ok (.aload_n 0, 1) := by decide +kernel
theorem dX7_show_61 : decode cX7_show 61 = .ok (.getfield 16, 3) := by decide +kernel
theorem dX7_show_64 : decode cX7_show 64 = .ok (.iload_n 1, 1) := by decide +kernel
theorem dX7_show_65 : decode cX7_show 65 = .ok (.iaload, 1) := by decide +kernel
theorem dX7_show_66 : decode cX7_show 66 = .ok (.ireturn, 1) := by decide +kernel
set_option maxRecDepth 20000 in
theorem ggX7_showRow_X7_in : GoodIn wsX7_showRow wsX7_in := goodIn_r _ [6] (by decide +kernel) (by decide +kernel)
set_option maxRecDepth 20000 in
theorem gX7_showRow_X7_in : GoodIn wsX7_showRow (va_wsS RX7 44 yX7_in wsX7_in) := goodIn_app (goodIn_of _ (by decide +kernel)) ggX7_showRow_X7_in
set_option maxRecDepth 20000 in
theorem ggX7_showRow_X7_isCounter : GoodIn wsX7_showRow wsX7_isCounter := goodIn_r _ [9, 3, 4, 5, 6] (by decide +kernel) (by decide +kernel)
set_option maxRecDepth 20000 in
theorem gX7_showRow_X7_isCounter : GoodIn wsX7_showRow (va_wsS RX7 48 yX7_isCounter wsX7_isCounter) := goodIn_app (goodIn_of _ (by decide +kernel)) ggX7_showRow_X7_isCounter
set_option maxRecDepth 20000 in
theorem ggX7_showRow_X7_isFine : GoodIn wsX7_showRow wsX7_isFine := goodIn_r _ [13, 14, 27, 28, 29, 30, 31, 32, 33, 34, 35, 36, 37] (by decide +kernel) (by decide +kernel)
set_option maxRecDepth 20000 in
theorem gX7_showRow_X7_isFine : GoodIn wsX7_showRow (wsV RX7 52 RX7 yX7_isFine wsX7_isFine) := goodIn_app (goodIn_of _ (by decide +kernel)) ggX7_showRow_X7_isFine
set_option maxRecDepth 20000 in
theorem ggX7_showRow_X7_shows : GoodIn wsX7_showRow wsX7_shows := goodIn_r _ [18, 2, 19, 20, 21, 22, 23, 24, 5, 25, 1, 26, 27, 28, 29, 30, 31, 32, 33, 34, 35, 36, 37] (by decide +kernel) (by decide +kernel)
set_option maxRecDepth 20000 in
theorem gX7_showRow_X7_shows : GoodIn wsX7_showRow (wsV RX7 59 RX7 yX7_shows wsX7_shows) := goodIn_app (goodIn_of _ (by decide +kernel)) ggX7_showRow_X7_shows
theorem dX7_showRow_0 : decode cX7_showRow 0 = .ok (.iload_n 2, 1) := by decide +kernel
theorem dX7_showRow_1 : decode cX7_showRow 1 = .ok (.sipush (-9999), 3) := by decide +kernel
theorem dX7_showRow_4 : decode cX7_showRow 4 = .ok (.sipush 9999, 3) := by decide +kernel
theorem dX7_showRow_7 : decode cX7_showRow 7 = .ok (.invokestatic 44, 3) := by decide +kernel
theorem dX7_showRow_10 : decode cX7_showRow 10 = .ok (.ifCond .eq 29, 3) := by decide +kernel
theorem dX7_showRow_13 : decode cX7_showRow 13 = .ok (.iload_n 3, 1) := by decide +kernel
theorem dX7_showRow_14 : decode cX7_showRow 14 = .ok (.iconst 0, 1) := by decide +kernel
theorem dX7_showRow_15 : decode cX7_showRow 15 = .ok (.sipush 9999, 3) := by decide +kernel
theorem dX7_showRow_18 : decode cX7_showRow 18 = .ok (.invokestatic 44, 3) := by decide +kernel
theorem dX7_showRow_21 : decode cX7_showRow 21 = .ok (.ifCond .eq 18, 3) := by decide +kernel
theorem dX7_showRow_24 : decode cX7_showRow 24 = .ok (.iload 4, 2) := by decide +kernel
theorem dX7_showRow_26 : decode cX7_showRow 26 = .ok (.iconst 1, 1) := by decide +kernel
theorem dX7_showRow_27 : decode cX7_showRow 27 = .ok (.bipush 100, 2) := by decide +kernel
theorem dX7_showRow_29 : decode cX7_showRow 29 = .ok (.invokestatic 44, 3) := by decide +kernel
theorem dX7_showRow_32 : decode cX7_showRow 32 = .ok (.ifCond .eq 7, 3) := by decide +kernel
theorem dX7_showRow_35 : decode cX7_showRow 35 = .ok (.iconst 1, 1) := by decide +kernel
theorem dX7_showRow_36 : decode cX7_showRow 36 = .ok (.goto 4, 3) := by decide +kernel
theorem dX7_showRow_39 : decode cX7_showRow 39 = .ok (.iconst 0, 1) := by decide +kernel
theorem dX7_showRow_40 : decode cX7_showRow 40 = .ok (.istore 5, 2) := by decide +kernel
theorem dX7_showRow_42 : decode cX7_showRow 42 = .ok (.aload_n 0, 1) := by decide +kernel
theorem dX7_showRow_43 : decode cX7_showRow 43 = .ok (.iload_n 1, 1) := by decide +kernel
theorem dX7_showRow_44 : decode cX7_showRow 44 = .ok (.invokestatic 48, 3) := by decide +kernel
theorem dX7_showRow_47 : decode cX7_showRow 47 = .ok (.ifCond .ne 7, 3) := by decide +kernel
theorem dX7_showRow_50 : decode cX7_showRow 50 = .ok (.iconst 1, 1) := by decide +kernel
theorem dX7_showRow_51 : decode cX7_showRow 51 = .ok (.goto 32, 3) := by decide +kernel
theorem dX7_showRow_54 : decode cX7_showRow 54 = .ok (.iload 5, 2) := by decide +kernel
theorem dX7_showRow_56 : decode cX7_showRow 56 = .ok (.ifCond .ne 7, 3) := by decide +kernel
theorem dX7_showRow_59 : decode cX7_showRow 59 = .ok (.iconst 2, 1) := by decide +kernel
theorem dX7_showRow_60 : decode cX7_showRow 60 = .ok (.goto 23, 3) := by decide +kernel
theorem dX7_showRow_63 : decode cX7_showRow 63 = .ok (.aload_n 0, 1) := by decide +kernel
theorem dX7_showRow_64 : decode cX7_showRow 64 = .ok (.getfield 13, 3) := by decide +kernel
theorem dX7_showRow_67 : decode cX7_showRow 67 = .ok (.iload_n 1, 1) := by decide +kernel
theorem dX7_showRow_68 : decode cX7_showRow 68 = .ok (.iaload, 1) := by decide +kernel
theorem dX7_showRow_69 : decode cX7_showRow 69 = .ok (.iload 4, 2) := by decide +kernel
theorem dX7_showRow_71 : decode cX7_showRow 71 = .ok (.iadd, 1) := by decide +kernel
theorem dX7_showRow_72 : decode cX7_showRow 72 = .ok (.sipush 600, 3) := by decide +kernel
theorem dX7_showRow_75 : decode cX7_showRow 75 = .ok (.if_icmp .le 7, 3) := by decide +kernel
theorem dX7_showRow_78 : decode cX7_showRow 78 = .ok (.iconst 3, 1) := by decide +kernel
theorem dX7_showRow_79 : decode cX7_showRow 79 = .ok (.goto 4, 3) := by decide +kernel
theorem dX7_showRow_82 : decode cX7_showRow 82 = .ok (.iconst 0, 1) := by decide +kernel
theorem dX7_showRow_83 : decode cX7_showRow 83 = .ok (.invokevirtual 52, 3) := by decide +kernel
theorem dX7_showRow_86 : decode cX7_showRow 86 = .ok (.ifCond .ne 5, 3) := by decide +kernel
theorem dX7_showRow_89 : decode cX7_showRow 89 = .ok (.iconst 0, 1) := by decide +kernel
theorem dX7_showRow_90 : decode cX7_showRow 90 = .ok (.ireturn, 1) := by decide +kernel
theorem dX7_showRow_91 : decode cX7_showRow 91 = .ok (.iload_n 2, 1) := by decide +kernel
theorem dX7_showRow_92 : decode cX7_showRow 92 = .ok (.istore 6, 2) := by decide +kernel
theorem dX7_showRow_94 : decode cX7_showRow 94 = .ok (.iconst 0, 1) := by decide +kernel
theorem dX7_showRow_95 : decode cX7_showRow 95 = .ok (.istore 7, 2) := by decide +kernel
theorem dX7_showRow_97 : decode cX7_showRow 97 = .ok (.iload 7, 2) := by decide +kernel
theorem dX7_showRow_99 : decode cX7_showRow 99 = .ok (.iload 4, 2) := by decide +kernel
theorem dX7_showRow_101 : decode cX7_showRow 101 = .ok (.if_icmp .ge 42, 3) := by decide +kernel
theorem dX7_showRow_104 : decode cX7_showRow 104 = .ok (.aload_n 0, 1) := by decide +kernel
theorem dX7_showRow_105 : decode cX7_showRow 105 = .ok (.iload_n 1, 1) := by decide +kernel
theorem dX7_showRow_106 : decode cX7_showRow 106 = .ok (.iload 6, 2) := by decide +kernel
theorem dX7_showRow_108 : decode cX7_showRow 108 = .ok (.invokevirtual 59, 3) := by decide +kernel
theorem dX7_showRow_111 : decode cX7_showRow 111 = .ok (.iload 6, 2) := by decide +kernel
theorem dX7_showRow_113 : decode cX7_showRow 113 = .ok (.iload_n 3, 1) := by decide +kernel
theorem dX7_showRow_114 : decode cX7_showRow 114 = .ok (.iadd, 1) := by decide +kernel
theorem dX7_showRow_115 : decode cX7_showRow 115 = .ok (.istore 6, 2) := by decide +kernel
theorem dX7_showRow_117 : decode cX7_showRow 117 = .ok (.iload 6, 2) := by decide +kernel
theorem dX7_showRow_119 : decode cX7_showRow 119 = .ok (.iload 6, 2) := by decide +kernel
theorem dX7_showRow_121 : decode cX7_showRow 121 = .ok (.sipush 9999, 3) := by decide +kernel
theorem dX7_showRow_124 : decode cX7_showRow 124 = .ok (.if_icmp .le 9, 3) := by decide +kernel
theorem dX7_showRow_127 : decode cX7_showRow 127 = .ok (.sipush 20000, 3) := by decide +kernel
theorem dX7_showRow_130 : decode cX7_showRow 130 = .ok (.goto 4, 3) := by decide +kernel
theorem dX7_showRow_133 : decode cX7_showRow 133 = .ok (.iconst 0, 1) := by decide +kernel
theorem dX7_showRow_134 : decode cX7_showRow 134 = .ok (.isub, 1) := by decide +kernel
theorem dX7_showRow_135 : decode cX7_showRow 135 = .ok (.istore 6, 2) := by decide +kernel
theorem dX7_showRow_137 : decode cX7_showRow 137 = .ok (.iinc 7 1, 3) := by decide +kernel
theorem dX7_showRow_140 : decode cX7_showRow 140 = .ok (.goto (-43), 3) := by decide +kernel
theorem dX7_showRow_143 : decode cX7_showRow 143 = .ok (.aload_n 0, 1) := by decide +kernel
theorem dX7_showRow_144 : decode cX7_showRow 144 = .ok (.getfield 16, 3) := by decide +kernel
theorem dX7_showRow_147 : decode cX7_showRow 147 = .ok (.iload_n 1, 1) := by decide +kernel
theorem dX7_showRow_148 : decode cX7_showRow 148 = .ok (.iaload, 1) := by decide +kernel
theorem dX7_showRow_149 : decode cX7_showRow 149 = .ok (.ireturn, 1) := by decide +kernel
theorem dX7_allowed_0 : decode cX7_allowed 0 = .ok (.iconst 2, 1) := by decide +kernel
theorem dX7_allowed_1 : decode cX7_allowed 1 = .ok (.aload_n 0, 1) := by decide +kernel
theorem dX7_allowed_2 : decode cX7_allowed 2 = .ok (.getfield 7, 3) := by decide +kernel
theorem dX7_allowed_5 : decode cX7_allowed 5 = .ok (.iload_n 1, 1) := by decide +kernel
theorem dX7_allowed_6 : decode cX7_allowed 6 = .ok (.iaload, 1) := by decide +kernel
theorem dX7_allowed_7 : decode cX7_allowed 7 = .ok (.imul, 1) := by decide +kernel
theorem dX7_allowed_8 : decode cX7_allowed 8 = .ok (.aload_n 0, 1) := by decide +kernel
theorem dX7_allowed_9 : decode cX7_allowed 9 = .ok (.getfield 13, 3) := by decide +kernel
theorem dX7_allowed_12 : decode cX7_allowed 12 = .ok (.iload_n 1, 1) := by decide +kernel
theorem dX7_allowed_13 : decode cX7_allowed 13 = .ok (.iaload, 1) := by decide +kernel
theorem dX7_allowed_14 : decode cX7_allowed 14 = .ok (.imul, 1) := by decide +kernel
theorem dX7_allowed_15 : decode cX7_allowed 15 = .ok (.sipush 1000, 3) := by decide +kernel
theorem dX7_allowed_18 : decode cX7_allowed 18 = .ok (.idiv, 1) := by decide +kernel
theorem dX7_allowed_19 : decode cX7_allowed 19 = .ok (.ireturn, 1) := by decide +kernel
set_option maxRecDepth 20000 in
theorem ggX7_thinOut_X7_isThere : GoodIn wsX7_thinOut wsX7_isThere := goodIn_r _ [9, 10, 11, 8, 12, 13, 14, 15, 16, 17, 18, 19, 20, 27, 28, 29, 30, 31, 32, 33, 34, 35, 36, 37] (by decide +kernel) (by decide +kernel)
set_option maxRecDepth 20000 in
theorem gX7_thinOut_X7_isThere : GoodIn wsX7_thinOut (wsV RX7 62 RX7 yX7_isThere wsX7_isThere) := goodIn_app (goodIn_of _ (by decide +kernel)) ggX7_thinOut_X7_isThere
set_option maxRecDepth 20000 in
theorem ggX7_thinOut_X7_allowed : GoodIn wsX7_thinOut wsX7_allowed := goodIn_r _ [24, 25, 26, 27, 28, 29, 30, 31, 32, 33, 34, 35, 36, 37] (by decide +kernel) (by decide +kernel)
set_option maxRecDepth 20000 in
theorem gX7_thinOut_X7_allowed : GoodIn wsX7_thinOut (wsV RX7 65 RX7 yX7_allowed wsX7_allowed) := goodIn_app (goodIn_of _ (by decide +kernel)) ggX7_thinOut_X7_allowed
theorem dX7_thinOut_0 : decode cX7_thinOut 0 = .ok (.aload_n 0, 1) := by decide +kernel
theorem dX7_thinOut_1 : decode cX7_thinOut 1 = .ok (.iload_n 1, 1) := by decide +kernel
theorem dX7_thinOut_2 : decode cX7_thinOut 2 = .ok (.invokevirtual 62, 3) := by decide +kernel
theorem dX7_thinOut_5 : decode cX7_thinOut 5 = .ok (.ifCond .ne 5, 3) := by decide +kernel
theorem dX7_thinOut_8 : decode cX7_thinOut 8 = .ok (.iconst 0, 1) := by decide +kernel
theorem dX7_thinOut_9 : decode cX7_thinOut 9 = .ok (.ireturn, 1) := by decide +kernel
theorem dX7_thinOut_10 : decode cX7_thinOut 10 = .ok (.sipush 600, 3) := by decide +kernel
theorem dX7_thinOut_13 : decode cX7_thinOut 13 = .ok (.iload_n 1, 1) := by decide +kernel
theorem dX7_thinOut_14 : decode cX7_thinOut 14 = .ok (.imul, 1) := by decide +kernel
theorem dX7_thinOut_15 : decode cX7_thinOut 15 = .ok (.istore_n 2, 1) := by decide +kernel
theorem dX7_thinOut_16 : decode cX7_thinOut 16 = .ok (.aload_n 0, 1) := by decide +kernel
theorem dX7_thinOut_17 : decode cX7_thinOut 17 = .ok (.getfield 16, 3) := by decide +kernel
theorem dX7_thinOut_20 : decode cX7_thinOut 20 = .ok (.iload_n 1, 1) := by decide +kernel
theorem dX7_thinOut_21 : decode cX7_thinOut 21 = .ok (.iaload, 1) := by decide +kernel
theorem dX7_thinOut_22 : decode cX7_thinOut 22 = .ok (.istore_n 3, 1) := by decide +kernel
theorem dX7_thinOut_23 : decode cX7_thinOut 23 = .ok (.aload_n 0, 1) := by decide +kernel
theorem dX7_thinOut_24 : decode cX7_thinOut 24 = .ok (.getfield 16, 3) := by decide +kernel
theorem dX7_thinOut_27 : decode cX7_thinOut 27 = .ok (.iload_n 1, 1) := by decide +kernel
theorem dX7_thinOut_28 : decode cX7_thinOut 28 = .ok (.iaload, 1) := by decide +kernel
theorem dX7_thinOut_29 : decode cX7_thinOut 29 = .ok (.iconst 2, 1) := by decide +kernel
theorem dX7_thinOut_30 : decode cX7_thinOut 30 = .ok (.isub, 1) := by decide +kernel
theorem dX7_thinOut_31 : decode cX7_thinOut 31 = .ok (.istore 4, 2) := by decide +kernel
theorem dX7_thinOut_33 : decode cX7_thinOut 33 = .ok (.iload 4, 2) := by decide +kernel
theorem dX7_thinOut_35 : decode cX7_thinOut 35 = .ok (.ifCond .le 123, 3) := by decide +kernel
theorem dX7_thinOut_38 : decode cX7_thinOut 38 = .ok (.iload_n 2, 1) := by decide +kernel
theorem dX7_thinOut_39 : decode cX7_thinOut 39 = .ok (.iload 4, 2) := by decide +kernel
theorem dX7_thinOut_41 : decode cX7_thinOut 41 = .ok (.iadd, 1) := by decide +kernel
theorem dX7_thinOut_42 : decode cX7_thinOut 42 = .ok (.istore 5, 2) := by decide +kernel
theorem dX7_thinOut_44 : decode cX7_thinOut 44 = .ok (.aload_n 0, 1) := by decide +kernel
theorem dX7_thinOut_45 : decode cX7_thinOut 45 = .ok (.getfield 28, 3) := by decide +kernel
theorem dX7_thinOut_48 : decode cX7_thinOut 48 = .ok (.iload 5, 2) := by decide +kernel
theorem dX7_thinOut_50 : decode cX7_thinOut 50 = .ok (.iconst 1, 1) := by decide +kernel
theorem dX7_thinOut_51 : decode cX7_thinOut 51 = .ok (.iadd, 1) := by decide +kernel
theorem dX7_thinOut_52 : decode cX7_thinOut 52 = .ok (.iaload, 1) := by decide +kernel
theorem dX7_thinOut_53 : decode cX7_thinOut 53 = .ok (.aload_n 0, 1) := by decide +kernel
theorem dX7_thinOut_54 : decode cX7_thinOut 54 = .ok (.getfield 25, 3) := by decide +kernel
theorem dX7_thinOut_57 : decode cX7_thinOut 57 = .ok (.iload 5, 2) := by decide +kernel
theorem dX7_thinOut_59 : decode cX7_thinOut 59 = .ok (.iconst 1, 1) := by decide +kernel
theorem dX7_thinOut_60 : decode cX7_thinOut 60 = .ok (.isub, 1) := by decide +kernel
theorem dX7_thinOut_61 : decode cX7_thinOut 61 = .ok (.iaload, 1) := by decide +kernel
theorem dX7_thinOut_62 : decode cX7_thinOut 62 = .ok (.isub, 1) := by decide +kernel
theorem dX7_thinOut_63 : decode cX7_thinOut 63 = .ok (.aload_n 0, 1) := by decide +kernel
theorem dX7_thinOut_64 : decode cX7_thinOut 64 = .ok (.iload_n 1, 1) := by decide +kernel
theorem dX7_thinOut_65 : decode cX7_thinOut 65 = .ok (.invokevirtual 65, 3) := by decide +kernel
theorem dX7_thinOut_68 : decode cX7_thinOut 68 = .ok (.if_icmp .gt 84, 3) := by decide +kernel
theorem dX7_thinOut_71 : decode cX7_thinOut 71 = .ok (.aload_n 0, 1) := by decide +kernel
theorem dX7_thinOut_72 : decode cX7_thinOut 72 = .ok (.getfield 16, 3) := by decide +kernel
theorem dX7_thinOut_75 : decode cX7_thinOut 75 = .ok (.iload_n 1, 1) := by decide +kernel
theorem dX7_thinOut_76 : decode cX7_thinOut 76 = .ok (.dup2, 1) := by decide +kernel
theorem dX7_thinOut_77 : decode cX7_thinOut 77 = .ok (.iaload, 1) := by decide +kernel
theorem dX7_thinOut_78 : decode cX7_thinOut 78 = .ok (.iconst 1, 1) := by decide +kernel
theorem dX7_thinOut_79 : decode cX7_thinOut 79 = .ok (.isub, 1) := by decide +kernel
theorem dX7_thinOut_80 : decode cX7_thinOut 80 = .ok (.iastore, 1) := by decide +kernel
theorem dX7_thinOut_81 : decode cX7_thinOut 81 = .ok (.iload 5, 2) := by decide +kernel
theorem dX7_thinOut_83 : decode cX7_thinOut 83 = .ok (.istore 6, 2) := by decide +kernel
theorem dX7_thinOut_85 : decode cX7_thinOut 85 = .ok (.iload 6, 2) := by decide +kernel
theorem dX7_thinOut_87 : decode cX7_thinOut 87 = .ok (.iload_n 2, 1) := by decide +kernel
theorem dX7_thinOut_88 : decode cX7_thinOut 88 = .ok (.aload_n 0, 1) := by decide +kernel
theorem dX7_thinOut_89 : decode cX7_thinOut 89 = .ok (.getfield 16, 3) := by decide +kernel
theorem dX7_thinOut_92 : decode cX7_thinOut 92 = .ok (.iload_n 1, 1) := by decide +kernel
theorem dX7_thinOut_93 : decode cX7_thinOut 93 = .ok (.iaload, 1) := by decide +kernel
theorem dX7_thinOut_94 : decode cX7_thinOut 94 = .ok (.iadd, 1) := by decide +kernel
theorem dX7_thinOut_95 : decode cX7_thinOut 95 = .ok (.if_icmp .ge 57, 3) := by decide +kernel
theorem dX7_thinOut_98 : decode cX7_thinOut 98 = .ok (.aload_n 0, 1) := by decide +kernel
theorem dX7_thinOut_99 : decode cX7_thinOut 99 = .ok (.getfield 22, 3) := by decide +kernel
theorem dX7_thinOut_102 : decode cX7_thinOut 102 = .ok (.iload 6, 2) := by decide +kernel
theorem dX7_thinOut_104 : decode cX7_thinOut 104 = .ok (.aload_n 0, 1) := by decide +kernel
theorem dX7_thinOut_105 : decode cX7_thinOut 105 = .ok (.getfield 22, 3) := by decide +kernel
theorem dX7_thinOut_108 : decode cX7_thinOut 108 = .ok (.iload 6, 2) := by decide +kernel
theorem dX7_thinOut_110 : decode cX7_thinOut 110 = .ok (.iconst 1, 1) := by decide +kernel
theorem dX7_thinOut_111 : decode cX7_thinOut 111 = .ok (.iadd, 1) := by decide +kernel
theorem dX7_thinOut_112 : decode cX7_thinOut 112 = .ok (.iaload, 1) := by decide +kernel
theorem dX7_thinOut_113 : decode cX7_thinOut 113 = .ok (.iastore, 1) := by decide +kernel
theorem dX7_thinOut_114 : decode cX7_thinOut 114 = .ok (.aload_n 0, 1) := by decide +kernel
theorem dX7_thinOut_115 : decode cX7_thinOut 115 = .ok (.getfield 25, 3) := by decide +kernel
theorem dX7_thinOut_118 : decode cX7_thinOut 118 = .ok (.iload 6, 2) := by decide +kernel
theorem dX7_thinOut_120 : decode cX7_thinOut 120 = .ok (.aload_n 0, 1) := by decide +kernel
theorem dX7_thinOut_121 : decode cX7_thinOut 121 = .ok (.getfield 25, 3) := by decide +kernel
theorem dX7_thinOut_124 : decode cX7_thinOut 124 = .ok (.iload 6, 2) := by decide +kernel
theorem dX7_thinOut_126 : decode cX7_thinOut 126 = .ok (.iconst 1, 1) := by decide +kernel
theorem dX7_thinOut_127 : decode cX7_thinOut 127 = .ok (.iadd, 1) := by decide +kernel
theorem dX7_thinOut_128 : decode cX7_thinOut 128 = .ok (.iaload, 1) := by decide +kernel
theorem dX7_thinOut_129 : decode cX7_thinOut 129 = .ok (.iastore, 1) := by decide +kernel
theorem dX7_thinOut_130 : decode cX7_thinOut 130 = .ok (.aload_n 0, 1) := by decide +kernel
theorem dX7_thinOut_131 : decode cX7_thinOut 131 = .ok (.getfield 28, 3) := by decide +kernel
theorem dX7_thinOut_134 : decode cX7_thinOut 134 = .ok (.iload 6, 2) := by decide +kernel
theorem dX7_thinOut_136 : decode cX7_thinOut 136 = .ok (.aload_n 0, 1) := by decide +kernel
theorem dX7_thinOut_137 : decode cX7_thinOut 137 = .ok (.getfield 28, 3) := by decide +kernel
theorem dX7_thinOut_140 : decode cX7_thinOut 140 = .ok (.iload 6, 2) := by decide +kernel
theorem dX7_thinOut_142 : decode cX7_thinOut 142 = .ok (.iconst 1, 1) := by decide +kernel
theorem dX7_thinOut_143 : decode cX7_thinOut 143 = .ok (.iadd, 1) := by decide +kernel
theorem dX7_thinOut_144 : decode cX7_thinOut 144 = .ok (.iaload, 1) := by decide +kernel
theorem dX7_thinOut_145 : decode cX7_thinOut 145 = .ok (.iastore, 1) := by decide +kernel
theorem dX7_thinOut_146 : decode cX7_thinOut 146 = .ok (.iinc 6 1, 3) := by decide +kernel
theorem dX7_thinOut_149 : decode cX7_thinOut 149 = .ok (.goto (-64), 3) := by decide +kernel
theorem dX7_thinOut_152 : decode cX7_thinOut 152 = .ok (.iinc 4 (-1), 3) := by decide +kernel
theorem dX7_thinOut_155 : decode cX7_thinOut 155 = .ok (.goto (-122), 3) := by decide +kernel
theorem dX7_thinOut_158 : decode cX7_thinOut 158 = .ok (.iload_n 3, 1) := by decide +kernel
theorem dX7_thinOut_159 : decode cX7_thinOut 159 = .ok (.aload_n 0, 1) := by decide +kernel
theorem dX7_thinOut_160 : decode cX7_thinOut 160 = .ok (.getfield 16, 3) := by decide +kernel
theorem dX7_thinOut_163 : decode cX7_thinOut 163 = .ok (.iload_n 1, 1) := by decide +kernel
theorem dX7_thinOut_164 : decode cX7_thinOut 164 = .ok (.iaload, 1) := by decide +kernel
theorem dX7_thinOut_165 : decode cX7_thinOut 165 = .ok (.isub, 1) := by decide +kernel
theorem dX7_thinOut_166 : decode cX7_thinOut 166 = .ok (.ireturn, 1) := by decide +kernel
theorem dX7_pours_0 : decode cX7_pours 0 = .ok (.aload_n 0, 1) := by decide +kernel
theorem dX7_pours_1 : decode cX7_pours 1 = .ok (.getfield 31, 3) := by decide +kernel
theorem dX7_pours_4 : decode cX7_pours 4 = .ok (.iload_n 1, 1) := by decide +kernel
theorem dX7_pours_5 : decode cX7_pours 5 = .ok (.aload_n 0, 1) := by decide +kernel
theorem dX7_pours_6 : decode cX7_pours 6 = .ok (.getfield 22, 3) := by decide +kernel
theorem dX7_pours_9 : decode cX7_pours 9 = .ok (.iload_n 2, 1) := by decide +kernel
theorem dX7_pours_10 : decode cX7_pours 10 = .ok (.iaload, 1) := by decide +kernel
theorem dX7_pours_11 : decode cX7_pours 11 = .ok (.iastore, 1) := by decide +kernel
theorem dX7_pours_12 : decode cX7_pours 12 = .ok (.sipush 600, 3) := by decide +kernel
theorem dX7_pours_15 : decode cX7_pours 15 = .ok (.iload_n 3, 1) := by decide +kernel
theorem dX7_pours_16 : decode cX7_pours 16 = .ok (.imul, 1) := by decide +kernel
theorem dX7_pours_17 : decode cX7_pours 17 = .ok (.istore 5, 2) := by decide +kernel
theorem dX7_pours_19 : decode cX7_pours 19 = .ok (.aload_n 0, 1) := by decide +kernel
theorem dX7_pours_20 : decode cX7_pours 20 = .ok (.getfield 34, 3) := by decide +kernel
theorem dX7_pours_23 : decode cX7_pours 23 = .ok (.iload_n 1, 1) := by decide +kernel
theorem dX7_pours_24 : decode cX7_pours 24 = .ok (.aload_n 0, 1) := by decide +kernel
theorem dX7_pours_25 : decode cX7_pours 25 = .ok (.getfield 25, 3) := by decide +kernel
theorem dX7_pours_28 : decode cX7_pours 28 = .ok (.iload_n 2, 1) := by decide +kernel
theorem dX7_pours_29 : decode cX7_pours 29 = .ok (.iaload, 1) := by decide +kernel
theorem dX7_pours_30 : decode cX7_pours 30 = .ok (.iload 4, 2) := by decide +kernel
theorem dX7_pours_32 : decode cX7_pours 32 = .ok (.ifCond .ne 7, 3) := by decide +kernel
theorem dX7_pours_35 : decode cX7_pours 35 = .ok (.iconst 0, 1) := by decide +kernel
theorem dX7_pours_36 : decode cX7_pours 36 = .ok (.goto 15, 3) := by decide +kernel
theorem dX7_pours_39 : decode cX7_pours 39 = .ok (.aload_n 0, 1) := by decide +kernel
theorem dX7_pours_40 : decode cX7_pours 40 = .ok (.getfield 25, 3) := by decide +kernel
theorem dX7_pours_43 : decode cX7_pours 43 = .ok (.iload 5, 2) := by decide +kernel
theorem dX7_pours_45 : decode cX7_pours 45 = .ok (.iload 4, 2) := by decide +kernel
theorem dX7_pours_47 : decode cX7_pours 47 = .ok (.iadd, 1) := by decide +kernel
theorem dX7_pours_48 : decode cX7_pours 48 = .ok (.iconst 1, 1) := by decide +kernel
theorem dX7_pours_49 : decode cX7_pours 49 = .ok (.isub, 1) := by decide +kernel
theorem dX7_pours_50 : decode cX7_pours 50 = .ok (.iaload, 1) := by decide +kernel
theorem dX7_pours_51 : decode cX7_pours 51 = .ok (.iadd, 1) := by decide +kernel
theorem dX7_pours_52 : decode cX7_pours 52 = .ok (.iastore, 1) := by decide +kernel
theorem dX7_pours_53 : decode cX7_pours 53 = .ok (.iconst 0, 1) := by decide +kernel
theorem dX7_pours_54 : decode cX7_pours 54 = .ok (.istore 6, 2) := by decide +kernel
theorem dX7_pours_56 : decode cX7_pours 56 = .ok (.iload 4, 2) := by decide +kernel
theorem dX7_pours_58 : decode cX7_pours 58 = .ok (.aload_n 0, 1) := by decide +kernel
theorem dX7_pours_59 : decode cX7_pours 59 = .ok (.getfield 16, 3) := by decide +kernel
theorem dX7_pours_62 : decode cX7_pours 62 = .ok (.iload_n 3, 1) := by decide +kernel
theorem dX7_pours_63 : decode cX7_pours 63 = .ok (.iaload, 1) := by decide +kernel
theorem dX7_pours_64 : decode cX7_pours 64 = .ok (.if_icmp .ge 20, 3) := by decide +kernel
theorem dX7_pours_67 : decode cX7_pours 67 = .ok (.aload_n 0, 1) := by decide +kernel
theorem dX7_pours_68 : decode cX7_pours 68 = .ok (.getfield 28, 3) := by decide +kernel
theorem dX7_pours_71 : decode cX7_pours 71 = .ok (.iload 5, 2) := by decide +kernel
theorem dX7_pours_73 : decode cX7_pours 73 = .ok (.iload 4, 2) := by decide +kernel
theorem dX7_pours_75 : decode cX7_pours 75 = .ok (.iadd, 1) := by decide +kernel
theorem dX7_pours_76 : decode cX7_pours 76 = .ok (.iaload, 1) := by decide +kernel
theorem dX7_pours_77 : decode cX7_pours 77 = .ok (.iconst 1, 1) := by decide +kernel
theorem dX7_pours_78 : decode cX7_pours 78 = .ok (.isub, 1) := by decide +kernel
theorem dX7_pours_79 : decode cX7_pours 79 = .ok (.istore 6, 2) := by decide +kernel
theorem dX7_pours_81 : decode cX7_pours 81 = .ok (.goto 30, 3) := by decide +kernel
theorem dX7_pours_84 : decode cX7_pours 84 = .ok (.aload_n 0, 1) := by decide +kernel
theorem dX7_pours_85 : decode cX7_pours 85 = .ok (.getfield 16, 3) := by decide +kernel
theorem dX7_pours_88 : decode cX7_pours 88 = .ok (.iload_n 3, 1) := by decide +kernel
theorem dX7_pours_89 : decode cX7_pours 89 = .ok (.iaload, 1) := by decide +kernel
theorem dX7_pours_90 : decode cX7_pours 90 = .ok (.ifCond .le 21, 3) := by decide +kernel
theorem dX7_pours_93 : decode cX7_pours 93 = .ok (.aload_n 0, 1) := by decide +kernel
theorem dX7_pours_94 : decode cX7_pours 94 = .ok (.getfield 28, 3) := by decide +kernel
theorem dX7_pours_97 : decode cX7_pours 97 = .ok (.iload 5, 2) := by decide +kernel
theorem dX7_pours_99 : decode cX7_pours 99 = .ok (.aload_n 0, 1) := by decide +kernel
theorem dX7_pours_100 : decode cX7_pours 100 = .ok (.getfield 16, 3) := by decide +kernel
theorem dX7_pours_103 : decode cX7_pours 103 = .ok (.iload_n 3, 1) := by decide +kernel
theorem dX7_pours_104 : decode cX7_pours 104 = .ok (.iaload, 1) := by decide +kernel
theorem dX7_pours_105 : decode cX7_pours 105 = .ok (.iadd, 1) := by decide +kernel
theorem dX7_pours_106 : decode cX7_pours 106 = .ok (.iconst 1, 1) := by decide +kernel
theorem dX7_pours_107 : decode cX7_pours 107 = .ok (.isub, 1) := by decide +kernel
theorem dX7_pours_108 : decode cX7_pours 108 = .ok (.iaload, 1) := by decide +kernel
theorem dX7_pours_109 : decode cX7_pours 109 = .ok (.istore 6, 2) := by decide +kernel
theorem dX7_pours_111 : decode cX7_pours 111 = .ok (.aload_n 0, 1) := by decide +kernel
theorem dX7_pours_112 : decode cX7_pours 112 = .ok (.getfield 37, 3) := by decide +kernel
theorem dX7_pours_115 : decode cX7_pours 115 = .ok (.iload_n 1, 1) := by decide +kernel
theorem dX7_pours_116 : decode cX7_pours 116 = .ok (.aload_n 0, 1) := by decide +kernel
theorem dX7_pours_117 : decode cX7_pours 117 = .ok (.getfield 28, 3) := by decide +kernel
theorem dX7_pours_120 : decode cX7_pours 120 = .ok (.iload_n 2, 1) := by decide +kernel
theorem dX7_pours_121 : decode cX7_pours 121 = .ok (.iaload, 1) := by decide +kernel
theorem dX7_pours_122 : decode cX7_pours 122 = .ok (.iload 6, 2) := by decide +kernel
theorem dX7_pours_124 : decode cX7_pours 124 = .ok (.iadd, 1) := by decide +kernel
theorem dX7_pours_125 : decode cX7_pours 125 = .ok (.iastore, 1) := by decide +kernel
theorem dX7_pours_126 : decode cX7_pours 126 = .ok (.return_, 1) := by decide +kernel
set_option maxRecDepth 20000 in
theorem ggX7_pour_X7_isCounter : GoodIn wsX7_pour wsX7_isCounter := goodIn_r _ [14, 15, 16, 13, 17] (by decide +kernel) (by decide +kernel)
set_option maxRecDepth 20000 in
theorem gX7_pour_X7_isCounter : GoodIn wsX7_pour (va_wsS RX7 48 yX7_isCounter wsX7_isCounter) := goodIn_app (goodIn_of _ (by decide +kernel)) ggX7_pour_X7_isCounter
set_option maxRecDepth 20000 in
theorem ggX7_pour_X7_isFine : GoodIn wsX7_pour wsX7_isFine := goodIn_r _ [21, 22, 31, 32, 33, 34, 35, 36, 37, 38, 39, 40, 41] (by decide +kernel) (by decide +kernel)
set_option maxRecDepth 20000 in
theorem gX7_pour_X7_isFine : GoodIn wsX7_pour (wsV RX7 52 RX7 yX7_isFine wsX7_isFine) := goodIn_app (goodIn_of _ (by decide +kernel)) ggX7_pour_X7_isFine
set_option maxRecDepth 20000 in
theorem ggX7_pour_X7_pours : GoodIn wsX7_pour wsX7_pours := goodIn_r _ [26, 4, 3, 6, 5, 2, 7, 8, 31, 32, 33, 34, 35, 36, 37, 38, 39, 40, 41] (by decide +kernel) (by decide +kernel)
set_option maxRecDepth 20000 in
theorem gX7_pour_X7_pours : GoodIn wsX7_pour (wsV RX7 69 RX7 yX7_pours wsX7_pours) := goodIn_app (goodIn_of _ (by decide +kernel)) ggX7_pour_X7_pours
set_option maxRecDepth 20000 in
theorem ggX7_pour_X7_remembers : GoodIn wsX7_pour wsX7_remembers := goodIn_r _ [30, 1, 9, 31, 32, 33, 34, 35, 36, 37, 38, 39, 40, 41] (by decide +kernel) (by decide +kernel)
set_option maxRecDepth 20000 in
theorem gX7_pour_X7_remembers : GoodIn wsX7_pour (wsV RX7 55 RX7 yX7_remembers wsX7_remembers) := goodIn_app (goodIn_of _ (by decide +kernel)) ggX7_pour_X7_remembers
theorem dX7_pour_0 : decode cX7_pour 0 = .ok (.aload_n 0, 1) := by decide +kernel
theorem dX7_pour_1 : decode cX7_pour 1 = .ok (.iload_n 1, 1) := by decide +kernel
theorem dX7_pour_2 : decode cX7_pour 2 = .ok (.invokestatic 48, 3) := by decide +kernel
theorem dX7_pour_5 : decode cX7_pour 5 = .ok (.ifCond .eq 10, 3) := by decide +kernel
theorem dX7_pour_8 : decode cX7_pour 8 = .ok (.iload_n 2, 1) := by decide +kernel
theorem dX7_pour_9 : decode cX7_pour 9 = .ok (.invokestatic 48, 3) := by decide +kernel
theorem dX7_pour_12 : decode cX7_pour 12 = .ok (.ifCond .ne 7, 3) := by decide +kernel
theorem dX7_pour_15 : decode cX7_pour 15 = .ok (.iconst 1, 1) := by decide +kernel
theorem dX7_pour_16 : decode cX7_pour 16 = .ok (.goto 36, 3) := by decide +kernel
theorem dX7_pour_19 : decode cX7_pour 19 = .ok (.iload_n 1, 1) := by decide +kernel
theorem dX7_pour_20 : decode cX7_pour 20 = .ok (.iload_n 2, 1) := by decide +kernel
theorem dX7_pour_21 : decode cX7_pour 21 = .ok (.if_icmp .ne 7, 3) := by decide +kernel
theorem dX7_pour_24 : decode cX7_pour 24 = .ok (.iconst 2, 1) := by decide +kernel
theorem dX7_pour_25 : decode cX7_pour 25 = .ok (.goto 27, 3) := by decide +kernel
theorem dX7_pour_28 : decode cX7_pour 28 = .ok (.aload_n 0, 1) := by decide +kernel
theorem dX7_pour_29 : decode cX7_pour 29 = .ok (.getfield 13, 3) := by decide +kernel
theorem dX7_pour_32 : decode cX7_pour 32 = .ok (.iload_n 1, 1) := by decide +kernel
theorem dX7_pour_33 : decode cX7_pour 33 = .ok (.iaload, 1) := by decide +kernel
theorem dX7_pour_34 : decode cX7_pour 34 = .ok (.aload_n 0, 1) := by decide +kernel
theorem dX7_pour_35 : decode cX7_pour 35 = .ok (.getfield 13, 3) := by decide +kernel
theorem dX7_pour_38 : decode cX7_pour 38 = .ok (.iload_n 2, 1) := by decide +kernel
theorem dX7_pour_39 : decode cX7_pour 39 = .ok (.iaload, 1) := by decide +kernel
theorem dX7_pour_40 : decode cX7_pour 40 = .ok (.iadd, 1) := by decide +kernel
theorem dX7_pour_41 : decode cX7_pour 41 = .ok (.sipush 600, 3) := by decide +kernel
theorem dX7_pour_44 : decode cX7_pour 44 = .ok (.if_icmp .le 7, 3) := by decide +kernel
theorem dX7_pour_47 : decode cX7_pour 47 = .ok (.iconst 3, 1) := by decide +kernel
theorem dX7_pour_48 : decode cX7_pour 48 = .ok (.goto 4, 3) := by decide +kernel
theorem dX7_pour_51 : decode cX7_pour 51 = .ok (.iconst 0, 1) := by decide +kernel
theorem dX7_pour_52 : decode cX7_pour 52 = .ok (.invokevirtual 52, 3) := by decide +kernel
theorem dX7_pour_55 : decode cX7_pour 55 = .ok (.ifCond .ne 5, 3) := by decide +kernel
theorem dX7_pour_58 : decode cX7_pour 58 = .ok (.iconst 0, 1) := by decide +kernel
theorem dX7_pour_59 : decode cX7_pour 59 = .ok (.ireturn, 1) := by decide +kernel
theorem dX7_pour_60 : decode cX7_pour 60 = .ok (.iconst 0, 1) := by decide +kernel
theorem dX7_pour_61 : decode cX7_pour 61 = .ok (.istore_n 3, 1) := by decide +kernel
theorem dX7_pour_62 : decode cX7_pour 62 = .ok (.iconst 0, 1) := by decide +kernel
theorem dX7_pour_63 : decode cX7_pour 63 = .ok (.istore 4, 2) := by decide +kernel
theorem dX7_pour_65 : decode cX7_pour 65 = .ok (.aload_n 0, 1) := by decide +kernel
theorem dX7_pour_66 : decode cX7_pour 66 = .ok (.getfield 16, 3) := by decide +kernel
theorem dX7_pour_69 : decode cX7_pour 69 = .ok (.iload_n 2, 1) := by decide +kernel
theorem dX7_pour_70 : decode cX7_pour 70 = .ok (.iaload, 1) := by decide +kernel
theorem dX7_pour_71 : decode cX7_pour 71 = .ok (.aload_n 0, 1) := by decide +kernel
theorem dX7_pour_72 : decode cX7_pour 72 = .ok (.getfield 16, 3) := by decide +kernel
theorem dX7_pour_75 : decode cX7_pour 75 = .ok (.iload_n 1, 1) := by decide +kernel
theorem dX7_pour_76 : decode cX7_pour 76 = .ok (.iaload, 1) := by decide +kernel
theorem dX7_pour_77 : decode cX7_pour 77 = .ok (.iadd, 1) := by decide +kernel
theorem dX7_pour_78 : decode cX7_pour 78 = .ok (.istore 5, 2) := by decide +kernel
theorem dX7_pour_80 : decode cX7_pour 80 = .ok (.iconst 0, 1) := by decide +kernel
theorem dX7_pour_81 : decode cX7_pour 81 = .ok (.istore 6, 2) := by decide +kernel
theorem dX7_pour_83 : decode cX7_pour 83 = .ok (.iload 6, 2) := by decide +kernel
theorem dX7_pour_85 : decode cX7_pour 85 = .ok (.iload 5, 2) := by decide +kernel
theorem dX7_pour_87 : decode cX7_pour 87 = .ok (.if_icmp .ge 111, 3) := by decide +kernel
theorem dX7_pour_90 : decode cX7_pour 90 = .ok (.iload 4, 2) := by decide +kernel
theorem dX7_pour_92 : decode cX7_pour 92 = .ok (.aload_n 0, 1) := by decide +kernel
theorem dX7_pour_93 : decode cX7_pour 93 = .ok (.getfield 16, 3) := by decide +kernel
theorem dX7_pour_96 : decode cX7_pour 96 = .ok (.iload_n 1, 1) := by decide +kernel
theorem dX7_pour_97 : decode cX7_pour 97 = .ok (.iaload, 1) := by decide +kernel
theorem dX7_pour_98 : decode cX7_pour 98 = .ok (.if_icmp .eq 41, 3) := by decide +kernel
theorem dX7_pour_101 : decode cX7_pour 101 = .ok (.iload_n 3, 1) := by decide +kernel
theorem dX7_pour_102 : decode cX7_pour 102 = .ok (.aload_n 0, 1) := by decide +kernel
theorem dX7_pour_103 : decode cX7_pour 103 = .ok (.getfield 16, 3) := by decide +kernel
theorem dX7_pour_106 : decode cX7_pour 106 = .ok (.iload_n 2, 1) := by decide +kernel
theorem dX7_pour_107 : decode cX7_pour 107 = .ok (.iaload, 1) := by decide +kernel
theorem dX7_pour_108 : decode cX7_pour 108 = .ok (.if_icmp .ge 35, 3) := by decide +kernel
theorem dX7_pour_111 : decode cX7_pour 111 = .ok (.aload_n 0, 1) := by decide +kernel
theorem dX7_pour_112 : decode cX7_pour 112 = .ok (.getfield 22, 3) := by decide +kernel
theorem dX7_pour_115 : decode cX7_pour 115 = .ok (.sipush 600, 3) := by decide +kernel
theorem dX7_pour_118 : decode cX7_pour 118 = .ok (.iload_n 2, 1) := by decide +kernel
theorem dX7_pour_119 : decode cX7_pour 119 = .ok (.imul, 1) := by decide +kernel
theorem dX7_pour_120 : decode cX7_pour 120 = .ok (.iload_n 3, 1) := by decide +kernel
theorem dX7_pour_121 : decode cX7_pour 121 = .ok (.iadd, 1) := by decide +kernel
theorem dX7_pour_122 : decode cX7_pour 122 = .ok (.iaload, 1) := by decide +kernel
theorem dX7_pour_123 : decode cX7_pour 123 = .ok (.aload_n 0, 1) := by decide +kernel
theorem dX7_pour_124 : decode cX7_pour 124 = .ok (.getfield 22, 3) := by decide +kernel
theorem dX7_pour_127 : decode cX7_pour 127 = .ok (.sipush 600, 3) := by decide +kernel
theorem dX7_pour_130 : decode cX7_pour 130 = .ok (.iload_n 1, 1) := by decide +kernel
theorem dX7_pour_131 : decode cX7_pour 131 = .ok (.imul, 1) := by decide +kernel
theorem dX7_pour_132 : decode cX7_pour 132 = .ok (.iload 4, 2) := by decide +kernel
theorem dX7_pour_134 : decode cX7_pour 134 = .ok (.iadd, 1) := by decide +kernel
theorem dX7_pour_135 : decode cX7_pour 135 = .ok (.iaload, 1) := by decide +kernel
theorem dX7_pour_136 : decode cX7_pour 136 = .ok (.if_icmp .gt 7, 3) := by decide +kernel
theorem dX7_pour_139 : decode cX7_pour 139 = .ok (.iconst 1, 1) := by decide +kernel
theorem dX7_pour_140 : decode cX7_pour 140 = .ok (.goto 4, 3) := by decide +kernel
theorem dX7_pour_143 : decode cX7_pour 143 = .ok (.iconst 0, 1) := by decide +kernel
theorem dX7_pour_144 : decode cX7_pour 144 = .ok (.istore 7, 2) := by decide +kernel
theorem dX7_pour_146 : decode cX7_pour 146 = .ok (.iload 7, 2) := by decide +kernel
theorem dX7_pour_148 : decode cX7_pour 148 = .ok (.ifCond .eq 25, 3) := by decide +kernel
theorem dX7_pour_151 : decode cX7_pour 151 = .ok (.aload_n 0, 1) := by decide +kernel
theorem dX7_pour_152 : decode cX7_pour 152 = .ok (.iload 6, 2) := by decide +kernel
theorem dX7_pour_154 : decode cX7_pour 154 = .ok (.sipush 600, 3) := by decide +kernel
theorem dX7_pour_157 : decode cX7_pour 157 = .ok (.iload_n 2, 1) := by decide +kernel
theorem dX7_pour_158 : decode cX7_pour 158 = .ok (.imul, 1) := by decide +kernel
theorem dX7_pour_159 : decode cX7_pour 159 = .ok (.iload_n 3, 1) := by decide +kernel
theorem dX7_pour_160 : decode cX7_pour 160 = .ok (.iadd, 1) := by decide +kernel
theorem dX7_pour_161 : decode cX7_pour 161 = .ok (.iload_n 1, 1) := by decide +kernel
theorem dX7_pour_162 : decode cX7_pour 162 = .ok (.iload 4, 2) := by decide +kernel
theorem dX7_pour_164 : decode cX7_pour 164 = .ok (.invokevirtual 69, 3) := by decide +kernel
theorem dX7_pour_167 : decode cX7_pour 167 = .ok (.iinc 3 1, 3) := by decide +kernel
theorem dX7_pour_170 : decode cX7_pour 170 = .ok (.goto 22, 3) := by decide +kernel
theorem dX7_pour_173 : decode cX7_pour 173 = .ok (.aload_n 0, 1) := by decide +kernel
theorem dX7_pour_174 : decode cX7_pour 174 = .ok (.iload 6, 2) := by decide +kernel
theorem dX7_pour_176 : decode cX7_pour 176 = .ok (.sipush 600, 3) := by decide +kernel
theorem dX7_pour_179 : decode cX7_pour 179 = .ok (.iload_n 1, 1) := by decide +kernel
theorem dX7_pour_180 : decode cX7_pour 180 = .ok (.imul, 1) := by decide +kernel
theorem dX7_pour_181 : decode cX7_pour 181 = .ok (.iload 4, 2) := by decide +kernel
theorem dX7_pour_183 : decode cX7_pour 183 = .ok (.iadd, 1) := by decide +kernel
theorem dX7_pour_184 : decode cX7_pour 184 = .ok (.iload_n 2, 1) := by decide +kernel
theorem dX7_pour_185 : decode cX7_pour 185 = .ok (.iload_n 3, 1) := by decide +kernel
theorem dX7_pour_186 : decode cX7_pour 186 = .ok (.invokevirtual 69, 3) := by decide +kernel
theorem dX7_pour_189 : decode cX7_pour 189 = .ok (.iinc 4 1, 3) := by decide +kernel
theorem dX7_pour_192 : decode cX7_pour 192 = .ok (.iinc 6 1, 3) := by decide +kernel
theorem dX7_pour_195 : decode cX7_pour 195 = .ok (.goto (-112), 3) := by decide +kernel
theorem dX7_pour_198 : decode cX7_pour 198 = .ok (.iconst 0, 1) := by decide +kernel
theorem dX7_pour_199 : decode cX7_pour 199 = .ok (.istore 6, 2) := by decide +kernel
theorem dX7_pour_201 : decode cX7_pour 201 = .ok (.iload 6, 2) := by decide +kernel
theorem dX7_pour_203 : decode cX7_pour 203 = .ok (.iload 5, 2) := by decide +kernel
theorem dX7_pour_205 : decode cX7_pour 205 = .ok (.if_icmp .ge 69, 3) := by decide +kernel
theorem dX7_pour_208 : decode cX7_pour 208 = .ok (.aload_n 0, 1) := by decide +kernel
theorem dX7_pour_209 : decode cX7_pour 209 = .ok (.getfield 22, 3) := by decide +kernel
theorem dX7_pour_212 : decode cX7_pour 212 = .ok (.sipush 600, 3) := by decide +kernel
theorem dX7_pour_215 : decode cX7_pour 215 = .ok (.iload_n 2, 1) := by decide +kernel
theorem dX7_pour_216 : decode cX7_pour 216 = .ok (.imul, 1) := by decide +kernel
theorem dX7_pour_217 : decode cX7_pour 217 = .ok (.iload 6, 2) := by decide +kernel
theorem dX7_pour_219 : decode cX7_pour 219 = .ok (.iadd, 1) := by decide +kernel
theorem dX7_pour_220 : decode cX7_pour 220 = .ok (.aload_n 0, 1) := by decide +kernel
theorem dX7_pour_221 : decode cX7_pour 221 = .ok (.getfield 31, 3) := by decide +kernel
theorem dX7_pour_224 : decode cX7_pour 224 = .ok (.iload 6, 2) := by decide +kernel
theorem dX7_pour_226 : decode cX7_pour 226 = .ok (.iaload, 1) := by decide +kernel
theorem dX7_pour_227 : decode cX7_pour 227 = .ok (.iastore, 1) := by decide +kernel
theorem dX7_pour_228 : decode cX7_pour 228 = .ok (.aload_n 0, 1) := by decide +kernel
theorem dX7_pour_229 : decode cX7_pour 229 = .ok (.getfield 25, 3) := by decide +kernel
theorem dX7_pour_232 : decode cX7_pour 232 = .ok (.sipush 600, 3) := by decide +kernel
theorem dX7_pour_235 : decode cX7_pour 235 = .ok (.iload_n 2, 1) := by decide +kernel
theorem dX7_pour_236 : decode cX7_pour 236 = .ok (.imul, 1) := by decide +kernel
theorem dX7_pour_237 : decode cX7_pour 237 = .ok (.iload 6, 2) := by decide +kernel
theorem dX7_pour_239 : decode cX7_pour 239 = .ok (.iadd, 1) := by decide +kernel
theorem dX7_pour_240 : decode cX7_pour 240 = .ok (.aload_n 0, 1) := by decide +kernel
theorem dX7_pour_241 : decode cX7_pour 241 = .ok (.getfield 34, 3) := by decide +kernel
theorem dX7_pour_244 : decode cX7_pour 244 = .ok (.iload 6, 2) := by decide +kernel
theorem dX7_pour_246 : decode cX7_pour 246 = .ok (.iaload, 1) := by decide +kernel
theorem dX7_pour_247 : decode cX7_pour 247 = .ok (.iastore, 1) := by decide +kernel
theorem dX7_pour_248 : decode cX7_pour 248 = .ok (.aload_n 0, 1) := by decide +kernel
theorem dX7_pour_249 : decode cX7_pour 249 = .ok (.getfield 28, 3) := by decide +kernel
theorem dX7_pour_252 : decode cX7_pour 252 = .ok (.sipush 600, 3) := by decide +kernel
theorem dX7_pour_255 : decode cX7_pour 255 = .ok (.iload_n 2, 1) := by decide +kernel
theorem dX7_pour_256 : decode cX7_pour 256 = .ok (.imul, 1) := by decide +kernel
theorem dX7_pour_257 : decode cX7_pour 257 = .ok (.iload 6, 2) := by decide +kernel
theorem dX7_pour_259 : decode cX7_pour 259 = .ok (.iadd, 1) := by decide +kernel
theorem dX7_pour_260 : decode cX7_pour 260 = .ok (.aload_n 0, 1) := by decide +kernel
theorem dX7_pour_261 : decode cX7_pour 261 = .ok (.getfield 37, 3) := by decide +kernel
theorem dX7_pour_264 : decode cX7_pour 264 = .ok (.iload 6, 2) := by decide +kernel
theorem dX7_pour_266 : decode cX7_pour 266 = .ok (.iaload, 1) := by decide +kernel
theorem dX7_pour_267 : decode cX7_pour 267 = .ok (.iastore, 1) := by decide +kernel
theorem dX7_pour_268 : decode cX7_pour 268 = .ok (.iinc 6 1, 3) := by decide +kernel
theorem dX7_pour_271 : decode cX7_pour 271 = .ok (.goto (-70), 3) := by decide +kernel
theorem dX7_pour_274 : decode cX7_pour 274 = .ok (.aload_n 0, 1) := by decide +kernel
theorem dX7_pour_275 : decode cX7_pour 275 = .ok (.getfield 16, 3) := by decide +kernel
theorem dX7_pour_278 : decode cX7_pour 278 = .ok (.iload_n 2, 1) := by decide +kernel
theorem dX7_pour_279 : decode cX7_pour 279 = .ok (.iload 5, 2) := by decide +kernel
theorem dX7_pour_281 : decode cX7_pour 281 = .ok (.iastore, 1) := by decide +kernel
theorem dX7_pour_282 : decode cX7_pour 282 = .ok (.iconst 0, 1) := by decide +kernel
theorem dX7_pour_283 : decode cX7_pour 283 = .ok (.istore 6, 2) := by decide +kernel
theorem dX7_pour_285 : decode cX7_pour 285 = .ok (.iload 6, 2) := by decide +kernel
theorem dX7_pour_287 : decode cX7_pour 287 = .ok (.aload_n 0, 1) := by decide +kernel
theorem dX7_pour_288 : decode cX7_pour 288 = .ok (.getfield 13, 3) := by decide +kernel
theorem dX7_pour_291 : decode cX7_pour 291 = .ok (.iload_n 1, 1) := by decide +kernel
theorem dX7_pour_292 : decode cX7_pour 292 = .ok (.iaload, 1) := by decide +kernel
theorem dX7_pour_293 : decode cX7_pour 293 = .ok (.if_icmp .ge 27, 3) := by decide +kernel
theorem dX7_pour_296 : decode cX7_pour 296 = .ok (.aload_n 0, 1) := by decide +kernel
theorem dX7_pour_297 : decode cX7_pour 297 = .ok (.iload_n 2, 1) := by decide +kernel
theorem dX7_pour_298 : decode cX7_pour 298 = .ok (.aload_n 0, 1) := by decide +kernel
theorem dX7_pour_299 : decode cX7_pour 299 = .ok (.getfield 19, 3) := by decide +kernel
theorem dX7_pour_302 : decode cX7_pour 302 = .ok (.sipush 600, 3) := by decide +kernel
theorem dX7_pour_305 : decode cX7_pour 305 = .ok (.iload_n 1, 1) := by decide +kernel
theorem dX7_pour_306 : decode cX7_pour 306 = .ok (.imul, 1) := by decide +kernel
theorem dX7_pour_307 : decode cX7_pour 307 = .ok (.iload 6, 2) := by decide +kernel
theorem dX7_pour_309 : decode cX7_pour 309 = .ok (.iadd, 1) := by decide +kernel
theorem dX7_pour_310 : decode cX7_pour 310 = .ok (.iaload, 1) := by decide +kernel
theorem dX7_pour_311 : decode cX7_pour 311 = .ok (.invokevirtual 55, 3) := by decide +kernel
theorem dX7_pour_314 : decode cX7_pour 314 = .ok (.iinc 6 1, 3) := by decide +kernel
theorem dX7_pour_317 : decode cX7_pour 317 = .ok (.goto (-32), 3) := by decide +kernel
theorem dX7_pour_320 : decode cX7_pour 320 = .ok (.aload_n 0, 1) := by decide +kernel
theorem dX7_pour_321 : decode cX7_pour 321 = .ok (.getfield 7, 3) := by decide +kernel
theorem dX7_pour_324 : decode cX7_pour 324 = .ok (.iload_n 2, 1) := by decide +kernel
theorem dX7_pour_325 : decode cX7_pour 325 = .ok (.aload_n 0, 1) := by decide +kernel
theorem dX7_pour_326 : decode cX7_pour 326 = .ok (.getfield 7, 3) := by decide +kernel
theorem dX7_pour_329 : decode cX7_pour 329 = .ok (.iload_n 1, 1) := by decide +kernel
theorem dX7_pour_330 : decode cX7_pour 330 = .ok (.iaload, 1) := by decide +kernel
theorem dX7_pour_331 : decode cX7_pour 331 = .ok (.aload_n 0, 1) := by decide +kernel
theorem dX7_pour_332 : decode cX7_pour 332 = .ok (.getfield 7, 3) := by decide +kernel
theorem dX7_pour_335 : decode cX7_pour 335 = .ok (.iload_n 2, 1) := by decide +kernel
theorem dX7_pour_336 : decode cX7_pour 336 = .ok (.iaload, 1) := by decide +kernel
theorem dX7_pour_337 : decode cX7_pour 337 = .ok (.if_icmp .le 12, 3) := by decide +kernel
theorem dX7_pour_340 : decode cX7_pour 340 = .ok (.aload_n 0, 1) := by decide +kernel
theorem dX7_pour_341 : decode cX7_pour 341 = .ok (.getfield 7, 3) := by decide +kernel
theorem dX7_pour_344 : decode cX7_pour 344 = .ok (.iload_n 1, 1) := by decide +kernel
theorem dX7_pour_345 : decode cX7_pour 345 = .ok (.iaload, 1) := by decide +kernel
theorem dX7_pour_346 : decode cX7_pour 346 = .ok (.goto 9, 3) := by decide +kernel
theorem dX7_pour_349 : decode cX7_pour 349 = .ok (.aload_n 0, 1) := by decide +kernel
theorem dX7_pour_350 : decode cX7_pour 350 = .ok (.getfield 7, 3) := by decide +kernel
theorem dX7_pour_353 : decode cX7_pour 353 = .ok (.iload_n 2, 1) := by decide +kernel
theorem dX7_pour_354 : decode cX7_pour 354 = .ok (.iaload, 1) := by decide +kernel
theorem dX7_pour_355 : decode cX7_pour 355 = .ok (.iastore, 1) := by decide +kernel
theorem dX7_pour_356 : decode cX7_pour 356 = .ok (.aload_n 0, 1) := by decide +kernel
theorem dX7_pour_357 : decode cX7_pour 357 = .ok (.getfield 13, 3) := by decide +kernel
theorem dX7_pour_360 : decode cX7_pour 360 = .ok (.iload_n 2, 1) := by decide +kernel
theorem dX7_pour_361 : decode cX7_pour 361 = .ok (.iaload, 1) := by decide +kernel
theorem dX7_pour_362 : decode cX7_pour 362 = .ok (.ireturn, 1) := by decide +kernel
set_option maxRecDepth 20000 in
theorem ggX7_count_X7_isThere : GoodIn wsX7_count wsX7_isThere := goodIn_r _ [6, 7, 8, 5, 9, 10, 11, 12, 13, 14, 15, 16, 17, 18, 19, 20, 21, 22, 23, 24, 25, 26, 27, 28] (by decide +kernel) (by decide +kernel)
set_option maxRecDepth 20000 in
theorem gX7_count_X7_isThere : GoodIn wsX7_count (wsV RX7 62 RX7 yX7_isThere wsX7_isThere) := goodIn_app (goodIn_of _ (by decide +kernel)) ggX7_count_X7_isThere
theorem dX7_count_0 : decode cX7_count 0 = .ok (.aload_n 0, 1) := by decide +kernel
theorem dX7_count_1 : decode cX7_count 1 = .ok (.iload_n 1, 1) := by decide +kernel
theorem dX7_count_2 : decode cX7_count 2 = .ok (.invokevirtual 62, 3) := by decide +kernel
theorem dX7_count_5 : decode cX7_count 5 = .ok (.ifCond .eq 12, 3) := by decide +kernel
theorem dX7_count_8 : decode cX7_count 8 = .ok (.aload_n 0, 1) := by decide +kernel
theorem dX7_count_9 : decode cX7_count 9 = .ok (.getfield 13, 3) := by decide +kernel
theorem dX7_count_12 : decode cX7_count 12 = .ok (.iload_n 1, 1) := by decide +kernel
theorem dX7_count_13 : decode cX7_count 13 = .ok (.iaload, 1) := by decide +kernel
theorem dX7_count_14 : decode cX7_count 14 = .ok (.goto 4, 3) := by decide +kernel
theorem dX7_count_17 : decode cX7_count 17 = .ok (.iconst 0, 1) := by decide +kernel
theorem dX7_count_18 : decode cX7_count 18 = .ok (.ireturn, 1) := by decide +kernel
set_option maxRecDepth 20000 in
theorem ggX7_bound_X7_isThere : GoodIn wsX7_bound wsX7_isThere := goodIn_r _ [6, 7, 8, 5, 9, 10, 11, 12, 13, 14, 15, 16, 17, 18, 19, 20, 21, 22, 23, 24, 25, 26, 27, 28] (by decide +kernel) (by decide +kernel)
set_option maxRecDepth 20000 in
theorem gX7_bound_X7_isThere : GoodIn wsX7_bound (wsV RX7 62 RX7 yX7_isThere wsX7_isThere) := goodIn_app (goodIn_of _ (by decide +kernel)) ggX7_bound_X7_isThere
theorem dX7_bound_0 : decode cX7_bound 0 = .ok (.aload_n 0, 1) := by decide +kernel
theorem dX7_bound_1 : decode cX7_bound 1 = .ok (.iload_n 1, 1) := by decide +kernel
theorem dX7_bound_2 : decode cX7_bound 2 = .ok (.invokevirtual 62, 3) := by decide +kernel
theorem dX7_bound_5 : decode cX7_bound 5 = .ok (.ifCond .eq 12, 3) := by decide +kernel
theorem dX7_bound_8 : decode cX7_bound 8 = .ok (.aload_n 0, 1) := by decide +kernel
theorem dX7_bound_9 : decode cX7_bound 9 = .ok (.getfield 7, 3) := by decide +kernel
theorem dX7_bound_12 : decode cX7_bound 12 = .ok (.iload_n 1, 1) := by decide +kernel
theorem dX7_bound_13 : decode cX7_bound 13 = .ok (.iaload, 1) := by decide +kernel
theorem dX7_bound_14 : decode cX7_bound 14 = .ok (.goto 4, 3) := by decide +kernel
theorem dX7_bound_17 : decode cX7_bound 17 = .ok (.iconst 0, 1) := by decide +kernel
theorem dX7_bound_18 : decode cX7_bound 18 = .ok (.ireturn, 1) := by decide +kernel
set_option maxRecDepth 20000 in
theorem ggX7_allowance_X7_isThere : GoodIn wsX7_allowance wsX7_isThere := goodIn_r _ [5, 6, 7, 4, 8, 9, 10, 11, 12, 13, 14, 15, 16, 23, 24, 25, 26, 27, 28, 29, 30, 31, 32, 33] (by decide +kernel) (by decide +kernel)
set_option maxRecDepth 20000 in
theorem gX7_allowance_X7_isThere : GoodIn wsX7_allowance (wsV RX7 62 RX7 yX7_isThere wsX7_isThere) := goodIn_app (goodIn_of _ (by decide +kernel)) ggX7_allowance_X7_isThere
set_option maxRecDepth 20000 in
theorem ggX7_allowance_X7_allowed : GoodIn wsX7_allowance wsX7_allowed := goodIn_r _ [20, 21, 22, 23, 24, 25, 26, 27, 28, 29, 30, 31, 32, 33] (by decide +kernel) (by decide +kernel)
set_option maxRecDepth 20000 in
theorem gX7_allowance_X7_allowed : GoodIn wsX7_allowance (wsV RX7 65 RX7 yX7_allowed wsX7_allowed) := goodIn_app (goodIn_of _ (by decide +kernel)) ggX7_allowance_X7_allowed
theorem dX7_allowance_0 : decode cX7_allowance 0 = .ok (.aload_n 0, 1) := by decide +kernel
theorem dX7_allowance_1 : decode cX7_allowance 1 = .ok (.iload_n 1, 1) := by decide +kernel
theorem dX7_allowance_2 : decode cX7_allowance 2 = .ok (.invokevirtual 62, 3) := by decide +kernel
theorem dX7_allowance_5 : decode cX7_allowance 5 = .ok (.ifCond .eq 11, 3) := by decide +kernel
theorem dX7_allowance_8 : decode cX7_allowance 8 = .ok (.aload_n 0, 1) := by decide +kernel
theorem dX7_allowance_9 : decode cX7_allowance 9 = .ok (.iload_n 1, 1) := by decide +kernel
theorem dX7_allowance_10 : decode cX7_allowance 10 = .ok (.invokevirtual 65, 3) := by decide +kernel
theorem dX7_allowance_13 : decode cX7_allowance 13 = .ok (.goto 4, 3) := by decide +kernel
theorem dX7_allowance_16 : decode cX7_allowance 16 = .ok (.iconst 0, 1) := by decide +kernel
theorem dX7_allowance_17 : decode cX7_allowance 17 = .ok (.ireturn, 1) := by decide +kernel
set_option maxRecDepth 20000 in
theorem ggX7_marks_X7_isThere : GoodIn wsX7_marks wsX7_isThere := goodIn_r _ [6, 7, 8, 5, 9, 10, 11, 12, 13, 14, 15, 16, 17, 18, 19, 20, 21, 22, 23, 24, 25, 26, 27, 28] (by decide +kernel) (by decide +kernel)
set_option maxRecDepth 20000 in
theorem gX7_marks_X7_isThere : GoodIn wsX7_marks (wsV RX7 62 RX7 yX7_isThere wsX7_isThere) := goodIn_app (goodIn_of _ (by decide +kernel)) ggX7_marks_X7_isThere
theorem dX7_marks_0 : decode cX7_marks 0 = .ok (.aload_n 0, 1) := by decide +kernel
theorem dX7_marks_1 : decode cX7_marks 1 = .ok (.iload_n 1, 1) := by decide +kernel
theorem dX7_marks_2 : decode cX7_marks 2 = .ok (.invokevirtual 62, 3) := by decide +kernel
theorem dX7_marks_5 : decode cX7_marks 5 = .ok (.ifCond .eq 12, 3) := by decide +kernel
theorem dX7_marks_8 : decode cX7_marks 8 = .ok (.aload_n 0, 1) := by decide +kernel
theorem dX7_marks_9 : decode cX7_marks 9 = .ok (.getfield 16, 3) := by decide +kernel
theorem dX7_marks_12 : decode cX7_marks 12 = .ok (.iload_n 1, 1) := by decide +kernel
theorem dX7_marks_13 : decode cX7_marks 13 = .ok (.iaload, 1) := by decide +kernel
theorem dX7_marks_14 : decode cX7_marks 14 = .ok (.goto 4, 3) := by decide +kernel
theorem dX7_marks_17 : decode cX7_marks 17 = .ok (.iconst 0, 1) := by decide +kernel
theorem dX7_marks_18 : decode cX7_marks 18 = .ok (.ireturn, 1) := by decide +kernel
set_option maxRecDepth 20000 in
theorem ggX7_isMark_X7_isCounter : GoodIn wsX7_isMark wsX7_isCounter := goodIn_r _ [5, 6, 7, 4, 8] (by decide +kernel) (by decide +kernel)
set_option maxRecDepth 20000 in
theorem gX7_isMark_X7_isCounter : GoodIn wsX7_isMark (va_wsS RX7 48 yX7_isCounter wsX7_isCounter) := goodIn_app (goodIn_of _ (by decide +kernel)) ggX7_isMark_X7_isCounter
set_option maxRecDepth 20000 in
theorem ggX7_isMark_X7_in : GoodIn wsX7_isMark wsX7_in := goodIn_r _ [8] (by decide +kernel) (by decide +kernel)
set_option maxRecDepth 20000 in
theorem gX7_isMark_X7_in : GoodIn wsX7_isMark (va_wsS RX7 44 yX7_in wsX7_in) := goodIn_app (goodIn_of _ (by decide +kernel)) ggX7_isMark_X7_in
set_option maxRecDepth 20000 in
theorem ggX7_isMark_X7_isFine : GoodIn wsX7_isMark wsX7_isFine := goodIn_r _ [12, 13, 14, 15, 16, 17, 18, 19, 20, 21, 22, 23, 24] (by decide +kernel) (by decide +kernel)
set_option maxRecDepth 20000 in
theorem gX7_isMark_X7_isFine : GoodIn wsX7_isMark (wsV RX7 52 RX7 yX7_isFine wsX7_isFine) := goodIn_app (goodIn_of _ (by decide +kernel)) ggX7_isMark_X7_isFine
theorem dX7_isMark_0 : decode cX7_isMark 0 = .ok (.aload_n 0, 1) := by decide +kernel
theorem dX7_isMark_1 : decode cX7_isMark 1 = .ok (.iload_n 1, 1) := by decide +kernel
theorem dX7_isMark_2 : decode cX7_isMark 2 = .ok (.invokestatic 48, 3) := by decide +kernel
theorem dX7_isMark_5 : decode cX7_isMark 5 = .ok (.ifCond .eq 23, 3) := by decide +kernel
theorem dX7_isMark_8 : decode cX7_isMark 8 = .ok (.iload_n 2, 1) := by decide +kernel
theorem dX7_isMark_9 : decode cX7_isMark 9 = .ok (.iconst 0, 1) := by decide +kernel
theorem dX7_isMark_10 : decode cX7_isMark 10 = .ok (.aload_n 0, 1) := by decide +kernel
theorem dX7_isMark_11 : decode cX7_isMark 11 = .ok (.getfield 16, 3) := by decide +kernel
theorem dX7_isMark_14 : decode cX7_isMark 14 = .ok (.iload_n 1, 1) := by decide +kernel
theorem dX7_isMark_15 : decode cX7_isMark 15 = .ok (.iaload, 1) := by decide +kernel
theorem dX7_isMark_16 : decode cX7_isMark 16 = .ok (.iconst 1, 1) := by decide +kernel
theorem dX7_isMark_17 : decode cX7_isMark 17 = .ok (.isub, 1) := by decide +kernel
theorem dX7_isMark_18 : decode cX7_isMark 18 = .ok (.invokestatic 44, 3) := by decide +kernel
theorem dX7_isMark_21 : decode cX7_isMark 21 = .ok (.ifCond .eq 7, 3) := by decide +kernel
theorem dX7_isMark_24 : decode cX7_isMark 24 = .ok (.iconst 0, 1) := by decide +kernel
theorem dX7_isMark_25 : decode cX7_isMark 25 = .ok (.goto 4, 3) := by decide +kernel
theorem dX7_isMark_28 : decode cX7_isMark 28 = .ok (.iconst 1, 1) := by decide +kernel
theorem dX7_isMark_29 : decode cX7_isMark 29 = .ok (.invokevirtual 52, 3) := by decide +kernel
theorem dX7_isMark_32 : decode cX7_isMark 32 = .ok (.ireturn, 1) := by decide +kernel
set_option maxRecDepth 20000 in
theorem ggX7_value_X7_isMark : GoodIn wsX7_value wsX7_isMark := goodIn_r _ [6, 7, 8, 9, 5, 10, 11, 12, 13, 14, 15, 16, 17, 18, 19, 20, 21, 22, 23, 24, 25, 26, 27, 28, 29] (by decide +kernel) (by decide +kernel)
set_option maxRecDepth 20000 in
theorem gX7_value_X7_isMark : GoodIn wsX7_value (wsV RX7 73 RX7 yX7_isMark wsX7_isMark) := goodIn_app (goodIn_of _ (by decide +kernel)) ggX7_value_X7_isMark
theorem dX7_value_0 : decode cX7_value 0 = .ok (.aload_n 0, 1) := by decide +kernel
theorem dX7_value_1 : decode cX7_value 1 = .ok (.iload_n 1, 1) := by decide +kernel
theorem dX7_value_2 : decode cX7_value 2 = .ok (.iload_n 2, 1) := by decide +kernel
theorem dX7_value_3 : decode cX7_value 3 = .ok (.invokevirtual 73, 3) := by decide +kernel
theorem dX7_value_6 : decode cX7_value 6 = .ok (.ifCond .eq 18, 3) := by decide +kernel
theorem dX7_value_9 : decode cX7_value 9 = .ok (.aload_n 0, 1) := by decide +kernel
theorem dX7_value_10 : decode cX7_value 10 = .ok (.getfield 22, 3) := by decide +kernel
theorem dX7_value_13 : decode cX7_value 13 = .ok (.sipush 600, 3) := by decide +kernel
theorem dX7_value_16 : decode cX7_value 16 = .ok (.iload_n 1, 1) := by decide +kernel
theorem dX7_value_17 : decode cX7_value 17 = .ok (.imul, 1) := by decide +kernel
theorem dX7_value_18 : decode cX7_value 18 = .ok (.iload_n 2, 1) := by decide +kernel
theorem dX7_value_19 : decode cX7_value 19 = .ok (.iadd, 1) := by decide +kernel
theorem dX7_value_20 : decode cX7_value 20 = .ok (.iaload, 1) := by decide +kernel
theorem dX7_value_21 : decode cX7_value 21 = .ok (.goto 4, 3) := by decide +kernel
theorem dX7_value_24 : decode cX7_value 24 = .ok (.iconst 0, 1) := by decide +kernel
theorem dX7_value_25 : decode cX7_value 25 = .ok (.ireturn, 1) := by decide +kernel
set_option maxRecDepth 20000 in
theorem ggX7_lowestRank_X7_isMark : GoodIn wsX7_lowestRank wsX7_isMark := goodIn_r _ [6, 7, 8, 9, 5, 10, 11, 12, 13, 14, 15, 16, 17, 18, 19, 20, 21, 22, 23, 24, 25, 26, 27, 28, 29] (by decide +kernel) (by decide +kernel)
set_option maxRecDepth 20000 in
theorem gX7_lowestRank_X7_isMark : GoodIn wsX7_lowestRank (wsV RX7 73 RX7 yX7_isMark wsX7_isMark) := goodIn_app (goodIn_of _ (by decide +kernel)) ggX7_lowestRank_X7_isMark
theorem dX7_lowestRank_0 : decode cX7_lowestRank 0 = .ok (.aload_n 0, 1) := by decide +kernel
theorem dX7_lowestRank_1 : decode cX7_lowestRank 1 = .ok (.iload_n 1, 1) := by decide +kernel
theorem dX7_lowestRank_2 : decode cX7_lowestRank 2 = .ok (.iload_n 2, 1) := by decide +kernel
theorem dX7_lowestRank_3 : decode cX7_lowestRank 3 = .ok (.invokevirtual 73, 3) := by decide +kernel
theorem dX7_lowestRank_6 : decode cX7_lowestRank 6 = .ok (.ifCond .eq 18, 3) := by decide +kernel
theorem dX7_lowestRank_9 : decode cX7_lowestRank 9 = .ok (.aload_n 0, 1) := by decide +kernel
theorem dX7_lowestRank_10 : decode cX7_lowestRank 10 = .ok (.getfield 25, 3) := by decide +kernel
theorem dX7_lowestRank_13 : decode cX7_lowestRank 13 = .ok (.sipush 600, 3) := by decide +kernel
theorem dX7_lowestRank_16 : decode cX7_lowestRank 16 = .ok (.iload_n 1, 1) := by decide +kernel
theorem dX7_lowestRank_17 : decode cX7_lowestRank 17 = .ok (.imul, 1) := by decide +kernel
theorem dX7_lowestRank_18 : decode cX7_lowestRank 18 = .ok (.iload_n 2, 1) := by decide +kernel
theorem dX7_lowestRank_19 : decode cX7_lowestRank 19 = .ok (.iadd, 1) := by decide +kernel
theorem dX7_lowestRank_20 : decode cX7_lowestRank 20 = .ok (.iaload, 1) := by decide +kernel
theorem dX7_lowestRank_21 : decode cX7_lowestRank 21 = .ok (.goto 4, 3) := by decide +kernel
theorem dX7_lowestRank_24 : decode cX7_lowestRank 24 = .ok (.iconst 0, 1) := by decide +kernel
theorem dX7_lowestRank_25 : decode cX7_lowestRank 25 = .ok (.ireturn, 1) := by decide +kernel
set_option maxRecDepth 20000 in
theorem ggX7_highestRank_X7_isMark : GoodIn wsX7_highestRank wsX7_isMark := goodIn_r _ [6, 7, 8, 9, 5, 10, 11, 12, 13, 14, 15, 16, 17, 18, 19, 20, 21, 22, 23, 24, 25, 26, 27, 28, 29] (by decide +kernel) (by decide +kernel)
set_option maxRecDepth 20000 in
theorem gX7_highestRank_X7_isMark : GoodIn wsX7_highestRank (wsV RX7 73 RX7 yX7_isMark wsX7_isMark) := goodIn_app (goodIn_of _ (by decide +kernel)) ggX7_highestRank_X7_isMark
theorem dX7_highestRank_0 : decode cX7_highestRank 0 = .ok (.aload_n 0, 1) := by decide +kernel
theorem dX7_highestRank_1 : decode cX7_highestRank 1 = .ok (.iload_n 1, 1) := by decide +kernel
theorem dX7_highestRank_2 : decode cX7_highestRank 2 = .ok (.iload_n 2, 1) := by decide +kernel
theorem dX7_highestRank_3 : decode cX7_highestRank 3 = .ok (.invokevirtual 73, 3) := by decide +kernel
theorem dX7_highestRank_6 : decode cX7_highestRank 6 = .ok (.ifCond .eq 18, 3) := by decide +kernel
theorem dX7_highestRank_9 : decode cX7_highestRank 9 = .ok (.aload_n 0, 1) := by decide +kernel
theorem dX7_highestRank_10 : decode cX7_highestRank 10 = .ok (.getfield 28, 3) := by decide +kernel
theorem dX7_highestRank_13 : decode cX7_highestRank 13 = .ok (.sipush 600, 3) := by decide +kernel
theorem dX7_highestRank_16 : decode cX7_highestRank 16 = .ok (.iload_n 1, 1) := by decide +kernel
theorem dX7_highestRank_17 : decode cX7_highestRank 17 = .ok (.imul, 1) := by decide +kernel
theorem dX7_highestRank_18 : decode cX7_highestRank 18 = .ok (.iload_n 2, 1) := by decide +kernel
theorem dX7_highestRank_19 : decode cX7_highestRank 19 = .ok (.iadd, 1) := by decide +kernel
theorem dX7_highestRank_20 : decode cX7_highestRank 20 = .ok (.iaload, 1) := by decide +kernel
theorem dX7_highestRank_21 : decode cX7_highestRank 21 = .ok (.goto 4, 3) := by decide +kernel
theorem dX7_highestRank_24 : decode cX7_highestRank 24 = .ok (.iconst 0, 1) := by decide +kernel
theorem dX7_highestRank_25 : decode cX7_highestRank 25 = .ok (.ireturn, 1) := by decide +kernel
set_option maxRecDepth 20000 in
theorem ggX7_widest_X7_isThere : GoodIn wsX7_widest wsX7_isThere := goodIn_r _ [8, 9, 10, 7, 11, 12, 13, 14, 15, 16, 17, 18, 19, 20, 21, 22, 23, 24, 25, 26, 27, 28, 29, 30] (by decide +kernel) (by decide +kernel)
set_option maxRecDepth 20000 in
theorem gX7_widest_X7_isThere : GoodIn wsX7_widest (wsV RX7 62 RX7 yX7_isThere wsX7_isThere) := goodIn_app (goodIn_of _ (by decide +kernel)) ggX7_widest_X7_isThere
theorem dX7_widest_0 : decode cX7_widest 0 = .ok (.aload_n 0, 1) := by decide +kernel
theorem dX7_widest_1 : decode cX7_widest 1 = .ok (.iload_n 1, 1) := by decide +kernel
theorem dX7_widest_2 : decode cX7_widest 2 = .ok (.invokevirtual 62, 3) := by decide +kernel
theorem dX7_widest_5 : decode cX7_widest 5 = .ok (.ifCond .ne 5, 3) := by decide +kernel
theorem dX7_widest_8 : decode cX7_widest 8 = .ok (.iconst 0, 1) := by decide +kernel
theorem dX7_widest_9 : decode cX7_widest 9 = .ok (.ireturn, 1) := by decide +kernel
theorem dX7_widest_10 : decode cX7_widest 10 = .ok (.iconst 0, 1) := by decide +kernel
theorem dX7_widest_11 : decode cX7_widest 11 = .ok (.istore_n 2, 1) := by decide +kernel
theorem dX7_widest_12 : decode cX7_widest 12 = .ok (.sipush 600, 3) := by decide +kernel
theorem dX7_widest_15 : decode cX7_widest 15 = .ok (.iload_n 1, 1) := by decide +kernel
theorem dX7_widest_16 : decode cX7_widest 16 = .ok (.imul, 1) := by decide +kernel
theorem dX7_widest_17 : decode cX7_widest 17 = .ok (.istore_n 3, 1) := by decide +kernel
theorem dX7_widest_18 : decode cX7_widest 18 = .ok (.iload_n 3, 1) := by decide +kernel
theorem dX7_widest_19 : decode cX7_widest 19 = .ok (.sipush 600, 3) := by decide +kernel
theorem dX7_widest_22 : decode cX7_widest 22 = .ok (.iload_n 1, 1) := by decide +kernel
theorem dX7_widest_23 : decode cX7_widest 23 = .ok (.imul, 1) := by decide +kernel
theorem dX7_widest_24 : decode cX7_widest 24 = .ok (.aload_n 0, 1) := by decide +kernel
theorem dX7_widest_25 : decode cX7_widest 25 = .ok (.getfield 16, 3) := by decide +kernel
theorem dX7_widest_28 : decode cX7_widest 28 = .ok (.iload_n 1, 1) := by decide +kernel
theorem dX7_widest_29 : decode cX7_widest 29 = .ok (.iaload, 1) := by decide +kernel
theorem dX7_widest_30 : decode cX7_widest 30 = .ok (.iadd, 1) := by decide +kernel
theorem dX7_widest_31 : decode cX7_widest 31 = .ok (.if_icmp .ge 52, 3) := by decide +kernel
theorem dX7_widest_34 : decode cX7_widest 34 = .ok (.aload_n 0, 1) := by decide +kernel
theorem dX7_widest_35 : decode cX7_widest 35 = .ok (.getfield 28, 3) := by decide +kernel
theorem dX7_widest_38 : decode cX7_widest 38 = .ok (.iload_n 3, 1) := by decide +kernel
theorem dX7_widest_39 : decode cX7_widest 39 = .ok (.iaload, 1) := by decide +kernel
theorem dX7_widest_40 : decode cX7_widest 40 = .ok (.iload_n 3, 1) := by decide +kernel
theorem dX7_widest_41 : decode cX7_widest 41 = .ok (.sipush 600, 3) := by decide +kernel
theorem dX7_widest_44 : decode cX7_widest 44 = .ok (.iload_n 1, 1) := by decide +kernel
theorem dX7_widest_45 : decode cX7_widest 45 = .ok (.imul, 1) := by decide +kernel
theorem dX7_widest_46 : decode cX7_widest 46 = .ok (.if_icmp .ne 7, 3) := by decide +kernel
theorem dX7_widest_49 : decode cX7_widest 49 = .ok (.iconst 0, 1) := by decide +kernel
theorem dX7_widest_50 : decode cX7_widest 50 = .ok (.goto 11, 3) := by decide +kernel
theorem dX7_widest_53 : decode cX7_widest 53 = .ok (.aload_n 0, 1) := by decide +kernel
theorem dX7_widest_54 : decode cX7_widest 54 = .ok (.getfield 25, 3) := by decide +kernel
theorem dX7_widest_57 : decode cX7_widest 57 = .ok (.iload_n 3, 1) := by decide +kernel
theorem dX7_widest_58 : decode cX7_widest 58 = .ok (.iconst 1, 1) := by decide +kernel
theorem dX7_widest_59 : decode cX7_widest 59 = .ok (.isub, 1) := by decide +kernel
theorem dX7_widest_60 : decode cX7_widest 60 = .ok (.iaload, 1) := by decide +kernel
theorem dX7_widest_61 : decode cX7_widest 61 = .ok (.isub, 1) := by decide +kernel
theorem dX7_widest_62 : decode cX7_widest 62 = .ok (.istore 4, 2) := by decide +kernel
theorem dX7_widest_64 : decode cX7_widest 64 = .ok (.iload 4, 2) := by decide +kernel
theorem dX7_widest_66 : decode cX7_widest 66 = .ok (.iload_n 2, 1) := by decide +kernel
theorem dX7_widest_67 : decode cX7_widest 67 = .ok (.if_icmp .le 8, 3) := by decide +kernel
theorem dX7_widest_70 : decode cX7_widest 70 = .ok (.iload 4, 2) := by decide +kernel
theorem dX7_widest_72 : decode cX7_widest 72 = .ok (.goto 4, 3) := by decide +kernel
theorem dX7_widest_75 : decode cX7_widest 75 = .ok (.iload_n 2, 1) := by decide +kernel
theorem dX7_widest_76 : decode cX7_widest 76 = .ok (.istore_n 2, 1) := by decide +kernel
theorem dX7_widest_77 : decode cX7_widest 77 = .ok (.iinc 3 1, 3) := by decide +kernel
theorem dX7_widest_80 : decode cX7_widest 80 = .ok (.goto (-62), 3) := by decide +kernel
theorem dX7_widest_83 : decode cX7_widest 83 = .ok (.iload_n 2, 1) := by decide +kernel
theorem dX7_widest_84 : decode cX7_widest 84 = .ok (.ireturn, 1) := by decide +kernel
set_option maxRecDepth 20000 in
theorem ggX7_canAsk_X7_isCounter : GoodIn wsX7_canAsk wsX7_isCounter := goodIn_r _ [5, 6, 7, 4, 8] (by decide +kernel) (by decide +kernel)
set_option maxRecDepth 20000 in
theorem gX7_canAsk_X7_isCounter : GoodIn wsX7_canAsk (va_wsS RX7 48 yX7_isCounter wsX7_isCounter) := goodIn_app (goodIn_of _ (by decide +kernel)) ggX7_canAsk_X7_isCounter
set_option maxRecDepth 20000 in
theorem ggX7_canAsk_X7_in : GoodIn wsX7_canAsk wsX7_in := goodIn_r _ [8] (by decide +kernel) (by decide +kernel)
set_option maxRecDepth 20000 in
theorem gX7_canAsk_X7_in : GoodIn wsX7_canAsk (va_wsS RX7 44 yX7_in wsX7_in) := goodIn_app (goodIn_of _ (by decide +kernel)) ggX7_canAsk_X7_in
set_option maxRecDepth 20000 in
theorem ggX7_canAsk_X7_isFine : GoodIn wsX7_canAsk wsX7_isFine := goodIn_r _ [12, 13, 14, 15, 16, 17, 18, 19, 20, 21, 22, 23, 24] (by decide +kernel) (by decide +kernel)
set_option maxRecDepth 20000 in
theorem gX7_canAsk_X7_isFine : GoodIn wsX7_canAsk (wsV RX7 52 RX7 yX7_isFine wsX7_isFine) := goodIn_app (goodIn_of _ (by decide +kernel)) ggX7_canAsk_X7_isFine
theorem dX7_canAsk_0 : decode cX7_canAsk 0 = .ok (.aload_n 0, 1) := by decide +kernel
theorem dX7_canAsk_1 : decode cX7_canAsk 1 = .ok (.iload_n 1, 1) := by decide +kernel
theorem dX7_canAsk_2 : decode cX7_canAsk 2 = .ok (.invokestatic 48, 3) := by decide +kernel
theorem dX7_canAsk_5 : decode cX7_canAsk 5 = .ok (.ifCond .ne 7, 3) := by decide +kernel
theorem dX7_canAsk_8 : decode cX7_canAsk 8 = .ok (.iconst 1, 1) := by decide +kernel
theorem dX7_canAsk_9 : decode cX7_canAsk 9 = .ok (.goto 32, 3) := by decide +kernel
theorem dX7_canAsk_12 : decode cX7_canAsk 12 = .ok (.iload_n 2, 1) := by decide +kernel
theorem dX7_canAsk_13 : decode cX7_canAsk 13 = .ok (.iconst 0, 1) := by decide +kernel
theorem dX7_canAsk_14 : decode cX7_canAsk 14 = .ok (.sipush 1000, 3) := by decide +kernel
theorem dX7_canAsk_17 : decode cX7_canAsk 17 = .ok (.invokestatic 44, 3) := by decide +kernel
theorem dX7_canAsk_20 : decode cX7_canAsk 20 = .ok (.ifCond .ne 7, 3) := by decide +kernel
theorem dX7_canAsk_23 : decode cX7_canAsk 23 = .ok (.iconst 2, 1) := by decide +kernel
theorem dX7_canAsk_24 : decode cX7_canAsk 24 = .ok (.goto 17, 3) := by decide +kernel
theorem dX7_canAsk_27 : decode cX7_canAsk 27 = .ok (.aload_n 0, 1) := by decide +kernel
theorem dX7_canAsk_28 : decode cX7_canAsk 28 = .ok (.getfield 13, 3) := by decide +kernel
theorem dX7_canAsk_31 : decode cX7_canAsk 31 = .ok (.iload_n 1, 1) := by decide +kernel
theorem dX7_canAsk_32 : decode cX7_canAsk 32 = .ok (.iaload, 1) := by decide +kernel
theorem dX7_canAsk_33 : decode cX7_canAsk 33 = .ok (.ifCond .ne 7, 3) := by decide +kernel
theorem dX7_canAsk_36 : decode cX7_canAsk 36 = .ok (.iconst 3, 1) := by decide +kernel
theorem dX7_canAsk_37 : decode cX7_canAsk 37 = .ok (.goto 4, 3) := by decide +kernel
theorem dX7_canAsk_40 : decode cX7_canAsk 40 = .ok (.iconst 0, 1) := by decide +kernel
theorem dX7_canAsk_41 : decode cX7_canAsk 41 = .ok (.invokevirtual 52, 3) := by decide +kernel
theorem dX7_canAsk_44 : decode cX7_canAsk 44 = .ok (.ireturn, 1) := by decide +kernel
theorem dX7_rankOf_0 : decode cX7_rankOf 0 = .ok (.iload_n 2, 1) := by decide +kernel
theorem dX7_rankOf_1 : decode cX7_rankOf 1 = .ok (.aload_n 0, 1) := by decide +kernel
theorem dX7_rankOf_2 : decode cX7_rankOf 2 = .ok (.getfield 13, 3) := by decide +kernel
theorem dX7_rankOf_5 : decode cX7_rankOf 5 = .ok (.iload_n 1, 1) := by decide +kernel
theorem dX7_rankOf_6 : decode cX7_rankOf 6 = .ok (.iaload, 1) := by decide +kernel
theorem dX7_rankOf_7 : decode cX7_rankOf 7 = .ok (.imul, 1) := by decide +kernel
theorem dX7_rankOf_8 : decode cX7_rankOf 8 = .ok (.sipush 999, 3) := by decide +kernel
theorem dX7_rankOf_11 : decode cX7_rankOf 11 = .ok (.iadd, 1) := by decide +kernel
theorem dX7_rankOf_12 : decode cX7_rankOf 12 = .ok (.sipush 1000, 3) := by decide +kernel
theorem dX7_rankOf_15 : decode cX7_rankOf 15 = .ok (.idiv, 1) := by decide +kernel
theorem dX7_rankOf_16 : decode cX7_rankOf 16 = .ok (.istore_n 3, 1) := by decide +kernel
theorem dX7_rankOf_17 : decode cX7_rankOf 17 = .ok (.iload_n 3, 1) := by decide +kernel
theorem dX7_rankOf_18 : decode cX7_rankOf 18 = .ok (.iconst 1, 1) := by decide +kernel
theorem dX7_rankOf_19 : decode cX7_rankOf 19 = .ok (.if_icmp .ge 7, 3) := by decide +kernel
theorem dX7_rankOf_22 : decode cX7_rankOf 22 = .ok (.iconst 1, 1) := by decide +kernel
theorem dX7_rankOf_23 : decode cX7_rankOf 23 = .ok (.goto 4, 3) := by decide +kernel
theorem dX7_rankOf_26 : decode cX7_rankOf 26 = .ok (.iload_n 3, 1) := by decide +kernel
theorem dX7_rankOf_27 : decode cX7_rankOf 27 = .ok (.ireturn, 1) := by decide +kernel
theorem dX7_offAt_0 : decode cX7_offAt 0 = .ok (.iload_n 2, 1) := by decide +kernel
theorem dX7_offAt_1 : decode cX7_offAt 1 = .ok (.aload_n 0, 1) := by decide +kernel
theorem dX7_offAt_2 : decode cX7_offAt 2 = .ok (.getfield 25, 3) := by decide +kernel
theorem dX7_offAt_5 : decode cX7_offAt 5 = .ok (.iload_n 1, 1) := by decide +kernel
theorem dX7_offAt_6 : decode cX7_offAt 6 = .ok (.iaload, 1) := by decide +kernel
theorem dX7_offAt_7 : decode cX7_offAt 7 = .ok (.isub, 1) := by decide +kernel
theorem dX7_offAt_8 : decode cX7_offAt 8 = .ok (.istore_n 3, 1) := by decide +kernel
theorem dX7_offAt_9 : decode cX7_offAt 9 = .ok (.aload_n 0, 1) := by decide +kernel
theorem dX7_offAt_10 : decode cX7_offAt 10 = .ok (.getfield 28, 3) := by decide +kernel
theorem dX7_offAt_13 : decode cX7_offAt 13 = .ok (.iload_n 1, 1) := by decide +kernel
theorem dX7_offAt_14 : decode cX7_offAt 14 = .ok (.iaload, 1) := by decide +kernel
theorem dX7_offAt_15 : decode cX7_offAt 15 = .ok (.iload_n 2, 1) := by decide +kernel
theorem dX7_offAt_16 : decode cX7_offAt 16 = .ok (.isub, 1) := by decide +kernel
theorem dX7_offAt_17 : decode cX7_offAt 17 = .ok (.istore 4, 2) := by decide +kernel
theorem dX7_offAt_19 : decode cX7_offAt 19 = .ok (.iload_n 3, 1) := by decide +kernel
theorem dX7_offAt_20 : decode cX7_offAt 20 = .ok (.iload 4, 2) := by decide +kernel
theorem dX7_offAt_22 : decode cX7_offAt 22 = .ok (.if_icmp .le 7, 3) := by decide +kernel
theorem dX7_offAt_25 : decode cX7_offAt 25 = .ok (.iload_n 3, 1) := by decide +kernel
theorem dX7_offAt_26 : decode cX7_offAt 26 = .ok (.goto 5, 3) := by decide +kernel
theorem dX7_offAt_29 : decode cX7_offAt 29 = .ok (.iload 4, 2) := by decide +kernel
theorem dX7_offAt_31 : decode cX7_offAt 31 = .ok (.ireturn, 1) := by decide +kernel
set_option maxRecDepth 20000 in
theorem ggX7_answer_X7_offAt : GoodIn wsX7_answer wsX7_offAt := goodIn_r _ [6, 7, 8, 9, 10, 11, 12, 13, 14, 15, 16, 17, 18, 19] (by decide +kernel) (by decide +kernel)
set_option maxRecDepth 20000 in
theorem gX7_answer_X7_offAt : GoodIn wsX7_answer (wsV RX7 77 RX7 yX7_offAt wsX7_offAt) := goodIn_app (goodIn_of _ (by decide +kernel)) ggX7_answer_X7_offAt
theorem dX7_answer_0 : decode cX7_answer 0 = .ok (.sipush 600, 3) := by decide +kernel
theorem dX7_answer_3 : decode cX7_answer 3 = .ok (.iload_n 1, 1) := by decide +kernel
theorem dX7_answer_4 : decode cX7_answer 4 = .ok (.imul, 1) := by decide +kernel
theorem dX7_answer_5 : decode cX7_answer 5 = .ok (.istore_n 3, 1) := by decide +kernel
theorem dX7_answer_6 : decode cX7_answer 6 = .ok (.iload_n 3, 1) := by decide +kernel
theorem dX7_answer_7 : decode cX7_answer 7 = .ok (.iconst 1, 1) := by decide +kernel
theorem dX7_answer_8 : decode cX7_answer 8 = .ok (.iadd, 1) := by decide +kernel
theorem dX7_answer_9 : decode cX7_answer 9 = .ok (.istore 4, 2) := by decide +kernel
theorem dX7_answer_11 : decode cX7_answer 11 = .ok (.iload 4, 2) := by decide +kernel
theorem dX7_answer_13 : decode cX7_answer 13 = .ok (.sipush 600, 3) := by decide +kernel
theorem dX7_answer_16 : decode cX7_answer 16 = .ok (.iload_n 1, 1) := by decide +kernel
theorem dX7_answer_17 : decode cX7_answer 17 = .ok (.imul, 1) := by decide +kernel
theorem dX7_answer_18 : decode cX7_answer 18 = .ok (.aload_n 0, 1) := by decide +kernel
theorem dX7_answer_19 : decode cX7_answer 19 = .ok (.getfield 16, 3) := by decide +kernel
theorem dX7_answer_22 : decode cX7_answer 22 = .ok (.iload_n 1, 1) := by decide +kernel
theorem dX7_answer_23 : decode cX7_answer 23 = .ok (.iaload, 1) := by decide +kernel
theorem dX7_answer_24 : decode cX7_answer 24 = .ok (.iadd, 1) := by decide +kernel
theorem dX7_answer_25 : decode cX7_answer 25 = .ok (.if_icmp .ge 32, 3) := by decide +kernel
theorem dX7_answer_28 : decode cX7_answer 28 = .ok (.aload_n 0, 1) := by decide +kernel
theorem dX7_answer_29 : decode cX7_answer 29 = .ok (.iload 4, 2) := by decide +kernel
theorem dX7_answer_31 : decode cX7_answer 31 = .ok (.iload_n 2, 1) := by decide +kernel
theorem dX7_answer_32 : decode cX7_answer 32 = .ok (.invokevirtual 77, 3) := by decide +kernel
theorem dX7_answer_35 : decode cX7_answer 35 = .ok (.aload_n 0, 1) := by decide +kernel
theorem dX7_answer_36 : decode cX7_answer 36 = .ok (.iload_n 3, 1) := by decide +kernel
theorem dX7_answer_37 : decode cX7_answer 37 = .ok (.iload_n 2, 1) := by decide +kernel
theorem dX7_answer_38 : decode cX7_answer 38 = .ok (.invokevirtual 77, 3) := by decide +kernel
theorem dX7_answer_41 : decode cX7_answer 41 = .ok (.if_icmp .ge 8, 3) := by decide +kernel
theorem dX7_answer_44 : decode cX7_answer 44 = .ok (.iload 4, 2) := by decide +kernel
theorem dX7_answer_46 : decode cX7_answer 46 = .ok (.goto 4, 3) := by decide +kernel
theorem dX7_answer_49 : decode cX7_answer 49 = .ok (.iload_n 3, 1) := by decide +kernel
theorem dX7_answer_50 : decode cX7_answer 50 = .ok (.istore_n 3, 1) := by decide +kernel
theorem dX7_answer_51 : decode cX7_answer 51 = .ok (.iinc 4 1, 3) := by decide +kernel
theorem dX7_answer_54 : decode cX7_answer 54 = .ok (.goto (-43), 3) := by decide +kernel
theorem dX7_answer_57 : decode cX7_answer 57 = .ok (.iload_n 3, 1) := by decide +kernel
theorem dX7_answer_58 : decode cX7_answer 58 = .ok (.ireturn, 1) := by decide +kernel
set_option maxRecDepth 20000 in
theorem ggX7_ask_X7_canAsk : GoodIn wsX7_ask wsX7_canAsk := goodIn_r _ [6, 7, 8, 9, 5, 10, 11, 12, 13, 14, 15, 16, 17, 18, 34, 35, 36, 37, 38, 39, 40, 41, 42, 43, 44] (by decide +kernel) (by decide +kernel)
set_option maxRecDepth 20000 in
theorem gX7_ask_X7_canAsk : GoodIn wsX7_ask (wsV RX7 81 RX7 yX7_canAsk wsX7_canAsk) := goodIn_app (goodIn_of _ (by decide +kernel)) ggX7_ask_X7_canAsk
set_option maxRecDepth 20000 in
theorem ggX7_ask_X7_rankOf : GoodIn wsX7_ask wsX7_rankOf := goodIn_r _ [22, 7, 34, 35, 36, 37, 38, 39, 40, 41, 42, 43, 44] (by decide +kernel) (by decide +kernel)
set_option maxRecDepth 20000 in
theorem gX7_ask_X7_rankOf : GoodIn wsX7_ask (wsV RX7 84 RX7 yX7_rankOf wsX7_rankOf) := goodIn_app (goodIn_of _ (by decide +kernel)) ggX7_ask_X7_rankOf
set_option maxRecDepth 20000 in
theorem ggX7_ask_X7_answer : GoodIn wsX7_ask wsX7_answer := goodIn_r _ [26, 27, 28, 29, 30, 5, 31, 32, 33, 34, 35, 36, 37, 38, 39, 40, 41, 42, 43, 44] (by decide +kernel) (by decide +kernel)
set_option maxRecDepth 20000 in
theorem gX7_ask_X7_answer : GoodIn wsX7_ask (wsV RX7 87 RX7 yX7_answer wsX7_answer) := goodIn_app (goodIn_of _ (by decide +kernel)) ggX7_ask_X7_answer
theorem dX7_ask_0 : decode cX7_ask 0 = .ok (.aload_n 0, 1) := by decide +kernel
theorem dX7_ask_1 : decode cX7_ask 1 = .ok (.iload_n 1, 1) := by decide +kernel
theorem dX7_ask_2 : decode cX7_ask 2 = .ok (.iload_n 2, 1) := by decide +kernel
theorem dX7_ask_3 : decode cX7_ask 3 = .ok (.invokevirtual 81, 3) := by decide +kernel
theorem dX7_ask_6 : decode cX7_ask 6 = .ok (.ifCond .eq 22, 3) := by decide +kernel
theorem dX7_ask_9 : decode cX7_ask 9 = .ok (.aload_n 0, 1) := by decide +kernel
theorem dX7_ask_10 : decode cX7_ask 10 = .ok (.getfield 22, 3) := by decide +kernel
theorem dX7_ask_13 : decode cX7_ask 13 = .ok (.aload_n 0, 1) := by decide +kernel
theorem dX7_ask_14 : decode cX7_ask 14 = .ok (.iload_n 1, 1) := by decide +kernel
theorem dX7_ask_15 : decode cX7_ask 15 = .ok (.aload_n 0, 1) := by decide +kernel
theorem dX7_ask_16 : decode cX7_ask 16 = .ok (.iload_n 1, 1) := by decide +kernel
theorem dX7_ask_17 : decode cX7_ask 17 = .ok (.iload_n 2, 1) := by decide +kernel
theorem dX7_ask_18 : decode cX7_ask 18 = .ok (.invokevirtual 84, 3) := by decide +kernel
theorem dX7_ask_21 : decode cX7_ask 21 = .ok (.invokevirtual 87, 3) := by decide +kernel
theorem dX7_ask_24 : decode cX7_ask 24 = .ok (.iaload, 1) := by decide +kernel
theorem dX7_ask_25 : decode cX7_ask 25 = .ok (.goto 4, 3) := by decide +kernel
theorem dX7_ask_28 : decode cX7_ask 28 = .ok (.iconst 0, 1) := by decide +kernel
theorem dX7_ask_29 : decode cX7_ask 29 = .ok (.ireturn, 1) := by decide +kernel
set_option maxRecDepth 20000 in
theorem ggX7_off_X7_canAsk : GoodIn wsX7_off wsX7_canAsk := goodIn_r _ [5, 6, 7, 8, 4, 9, 10, 11, 12, 13, 14, 15, 16, 17, 33, 34, 35, 36, 37, 38, 39, 40, 41, 42, 43] (by decide +kernel) (by decide +kernel)
set_option maxRecDepth 20000 in
theorem gX7_off_X7_canAsk : GoodIn wsX7_off (wsV RX7 81 RX7 yX7_canAsk wsX7_canAsk) := goodIn_app (goodIn_of _ (by decide +kernel)) ggX7_off_X7_canAsk
set_option maxRecDepth 20000 in
theorem ggX7_off_X7_rankOf : GoodIn wsX7_off wsX7_rankOf := goodIn_r _ [21, 6, 33, 34, 35, 36, 37, 38, 39, 40, 41, 42, 43] (by decide +kernel) (by decide +kernel)
set_option maxRecDepth 20000 in
theorem gX7_off_X7_rankOf : GoodIn wsX7_off (wsV RX7 84 RX7 yX7_rankOf wsX7_rankOf) := goodIn_app (goodIn_of _ (by decide +kernel)) ggX7_off_X7_rankOf
set_option maxRecDepth 20000 in
theorem ggX7_off_X7_answer : GoodIn wsX7_off wsX7_answer := goodIn_r _ [25, 26, 27, 28, 29, 4, 30, 31, 32, 33, 34, 35, 36, 37, 38, 39, 40, 41, 42, 43] (by decide +kernel) (by decide +kernel)
set_option maxRecDepth 20000 in
theorem gX7_off_X7_answer : GoodIn wsX7_off (wsV RX7 87 RX7 yX7_answer wsX7_answer) := goodIn_app (goodIn_of _ (by decide +kernel)) ggX7_off_X7_answer
set_option maxRecDepth 20000 in
theorem ggX7_off_X7_offAt : GoodIn wsX7_off wsX7_offAt := goodIn_r _ [30, 31, 32, 33, 34, 35, 36, 37, 38, 39, 40, 41, 42, 43] (by decide +kernel) (by decide +kernel)
set_option maxRecDepth 20000 in
theorem gX7_off_X7_offAt : GoodIn wsX7_off (wsV RX7 77 RX7 yX7_offAt wsX7_offAt) := goodIn_app (goodIn_of _ (by decide +kernel)) ggX7_off_X7_offAt
theorem dX7_off_0 : decode cX7_off 0 = .ok (.aload_n 0, 1) := by decide +kernel
theorem dX7_off_1 : decode cX7_off 1 = .ok (.iload_n 1, 1) := by decide +kernel
theorem dX7_off_2 : decode cX7_off 2 = .ok (.iload_n 2, 1) := by decide +kernel
theorem dX7_off_3 : decode cX7_off 3 = .ok (.invokevirtual 81, 3) := by decide +kernel
theorem dX7_off_6 : decode cX7_off 6 = .ok (.ifCond .ne 5, 3) := by decide +kernel
theorem dX7_off_9 : decode cX7_off 9 = .ok (.iconst 0, 1) := by decide +kernel
theorem dX7_off_10 : decode cX7_off 10 = .ok (.ireturn, 1) := by decide +kernel
theorem dX7_off_11 : decode cX7_off 11 = .ok (.aload_n 0, 1) := by decide +kernel
theorem dX7_off_12 : decode cX7_off 12 = .ok (.iload_n 1, 1) := by decide +kernel
theorem dX7_off_13 : decode cX7_off 13 = .ok (.iload_n 2, 1) := by decide +kernel
theorem dX7_off_14 : decode cX7_off 14 = .ok (.invokevirtual 84, 3) := by decide +kernel
theorem dX7_off_17 : decode cX7_off 17 = .ok (.istore_n 3, 1) := by decide +kernel
theorem dX7_off_18 : decode cX7_off 18 = .ok (.aload_n 0, 1) := by decide +kernel
theorem dX7_off_19 : decode cX7_off 19 = .ok (.aload_n 0, 1) := by decide +kernel
theorem dX7_off_20 : decode cX7_off 20 = .ok (.iload_n 1, 1) := by decide +kernel
theorem dX7_off_21 : decode cX7_off 21 = .ok (.iload_n 3, 1) := by decide +kernel
theorem dX7_off_22 : decode cX7_off 22 = .ok (.invokevirtual 87, 3) := by decide +kernel
theorem dX7_off_25 : decode cX7_off 25 = .ok (.iload_n 3, 1) := by decide +kernel
theorem dX7_off_26 : decode cX7_off 26 = .ok (.invokevirtual 77, 3) := by decide +kernel
theorem dX7_off_29 : decode cX7_off 29 = .ok (.ireturn, 1) := by decide +kernel
theorem dX7_upTo_0 : decode cX7_upTo 0 = .ok (.iconst 0, 1) := by decide +kernel
theorem dX7_upTo_1 : decode cX7_upTo 1 = .ok (.istore_n 3, 1) := by decide +kernel
theorem dX7_upTo_2 : decode cX7_upTo 2 = .ok (.iconst 0, 1) := by decide +kernel
theorem dX7_upTo_3 : decode cX7_upTo 3 = .ok (.istore 4, 2) := by decide +kernel
theorem dX7_upTo_5 : decode cX7_upTo 5 = .ok (.iload 4, 2) := by decide +kernel
theorem dX7_upTo_7 : decode cX7_upTo 7 = .ok (.aload_n 0, 1) := by decide +kernel
theorem dX7_upTo_8 : decode cX7_upTo 8 = .ok (.getfield 13, 3) := by decide +kernel
theorem dX7_upTo_11 : decode cX7_upTo 11 = .ok (.iload_n 1, 1) := by decide +kernel
theorem dX7_upTo_12 : decode cX7_upTo 12 = .ok (.iaload, 1) := by decide +kernel
theorem dX7_upTo_13 : decode cX7_upTo 13 = .ok (.if_icmp .ge 34, 3) := by decide +kernel
theorem dX7_upTo_16 : decode cX7_upTo 16 = .ok (.iload_n 3, 1) := by decide +kernel
theorem dX7_upTo_17 : decode cX7_upTo 17 = .ok (.aload_n 0, 1) := by decide +kernel
theorem dX7_upTo_18 : decode cX7_upTo 18 = .ok (.getfield 19, 3) := by decide +kernel
theorem dX7_upTo_21 : decode cX7_upTo 21 = .ok (.sipush 600, 3) := by decide +kernel
theorem dX7_upTo_24 : decode cX7_upTo 24 = .ok (.iload_n 1, 1) := by decide +kernel
theorem dX7_upTo_25 : decode cX7_upTo 25 = .ok (.imul, 1) := by decide +kernel
theorem dX7_upTo_26 : decode cX7_upTo 26 = .ok (.iload 4, 2) := by decide +kernel
theorem dX7_upTo_28 : decode cX7_upTo 28 = .ok (.iadd, 1) := by decide +kernel
theorem dX7_upTo_29 : decode cX7_upTo 29 = .ok (.iaload, 1) := by decide +kernel
theorem dX7_upTo_30 : decode cX7_upTo 30 = .ok (.iload_n 2, 1) := by decide +kernel
theorem dX7_upTo_31 : decode cX7_upTo 31 = .ok (.if_icmp .gt 7, 3) := by decide +kernel
theorem dX7_upTo_34 : decode cX7_upTo 34 = .ok (.iconst 1, 1) := by decide +kernel
theorem dX7_upTo_35 : decode cX7_upTo 35 = .ok (.goto 4, 3) := by decide +kernel
theorem dX7_upTo_38 : decode cX7_upTo 38 = .ok (.iconst 0, 1) := by decide +kernel
theorem dX7_upTo_39 : decode cX7_upTo 39 = .ok (.iadd, 1) := by decide +kernel
theorem dX7_upTo_40 : decode cX7_upTo 40 = .ok (.istore_n 3, 1) := by decide +kernel
theorem dX7_upTo_41 : decode cX7_upTo 41 = .ok (.iinc 4 1, 3) := by decide +kernel
theorem dX7_upTo_44 : decode cX7_upTo 44 = .ok (.goto (-39), 3) := by decide +kernel
theorem dX7_upTo_47 : decode cX7_upTo 47 = .ok (.iload_n 3, 1) := by decide +kernel
theorem dX7_upTo_48 : decode cX7_upTo 48 = .ok (.ireturn, 1) := by decide +kernel
set_option maxRecDepth 20000 in
theorem ggX7_reallyOff_X7_canAsk : GoodIn wsX7_reallyOff wsX7_canAsk := goodIn_r _ [6, 7, 8, 9, 5, 10, 11, 12, 13, 14, 15, 16, 17, 18, 39, 40, 41, 42, 43, 44, 45, 46, 47, 48, 49] (by decide +kernel) (by decide +kernel)
set_option maxRecDepth 20000 in
theorem gX7_reallyOff_X7_canAsk : GoodIn wsX7_reallyOff (wsV RX7 81 RX7 yX7_canAsk wsX7_canAsk) := goodIn_app (goodIn_of _ (by decide +kernel)) ggX7_reallyOff_X7_canAsk
set_option maxRecDepth 20000 in
theorem ggX7_reallyOff_X7_rankOf : GoodIn wsX7_reallyOff wsX7_rankOf := goodIn_r _ [22, 7, 39, 40, 41, 42, 43, 44, 45, 46, 47, 48, 49] (by decide +kernel) (by decide +kernel)
set_option maxRecDepth 20000 in
theorem gX7_reallyOff_X7_rankOf : GoodIn wsX7_reallyOff (wsV RX7 84 RX7 yX7_rankOf wsX7_rankOf) := goodIn_app (goodIn_of _ (by decide +kernel)) ggX7_reallyOff_X7_rankOf
set_option maxRecDepth 20000 in
theorem ggX7_reallyOff_X7_answer : GoodIn wsX7_reallyOff wsX7_answer := goodIn_r _ [26, 27, 28, 29, 30, 5, 31, 32, 33, 39, 40, 41, 42, 43, 44, 45, 46, 47, 48, 49] (by decide +kernel) (by decide +kernel)
set_option maxRecDepth 20000 in
theorem gX7_reallyOff_X7_answer : GoodIn wsX7_reallyOff (wsV RX7 87 RX7 yX7_answer wsX7_answer) := goodIn_app (goodIn_of _ (by decide +kernel)) ggX7_reallyOff_X7_answer
set_option maxRecDepth 20000 in
theorem ggX7_reallyOff_X7_upTo : GoodIn wsX7_reallyOff wsX7_upTo := goodIn_r _ [37, 7, 38, 39, 40, 41, 42, 43, 44, 45, 46, 47, 48, 49] (by decide +kernel) (by decide +kernel)
set_option maxRecDepth 20000 in
theorem gX7_reallyOff_X7_upTo : GoodIn wsX7_reallyOff (wsV RX7 90 RX7 yX7_upTo wsX7_upTo) := goodIn_app (goodIn_of _ (by decide +kernel)) ggX7_reallyOff_X7_upTo
theorem dX7_reallyOff_0 : decode cX7_reallyOff 0 = .ok (.aload_n 0, 1) := by decide +kernel
theorem dX7_reallyOff_1 : decode cX7_reallyOff 1 = .ok (.iload_n 1, 1) := by decide +kernel
theorem dX7_reallyOff_2 : decode cX7_reallyOff 2 = .ok (.iload_n 2, 1) := by decide +kernel
theorem dX7_reallyOff_3 : decode cX7_reallyOff 3 = .ok (.invokevirtual 81, 3) := by decide +kernel
theorem dX7_reallyOff_6 : decode cX7_reallyOff 6 = .ok (.ifCond .ne 5, 3) := by decide +kernel
theorem dX7_reallyOff_9 : decode cX7_reallyOff 9 = .ok (.iconst 0, 1) := by decide +kernel
theorem dX7_reallyOff_10 : decode cX7_reallyOff 10 = .ok (.ireturn, 1) := by decide +kernel
theorem dX7_reallyOff_11 : decode cX7_reallyOff 11 = .ok (.aload_n 0, 1) := by decide +kernel
theorem dX7_reallyOff_12 : decode cX7_reallyOff 12 = .ok (.iload_n 1, 1) := by decide +kernel
theorem dX7_reallyOff_13 : decode cX7_reallyOff 13 = .ok (.iload_n 2, 1) := by decide +kernel
theorem dX7_reallyOff_14 : decode cX7_reallyOff 14 = .ok (.invokevirtual 84, 3) := by decide +kernel
theorem dX7_reallyOff_17 : decode cX7_reallyOff 17 = .ok (.istore_n 3, 1) := by decide +kernel
theorem dX7_reallyOff_18 : decode cX7_reallyOff 18 = .ok (.aload_n 0, 1) := by decide +kernel
theorem dX7_reallyOff_19 : decode cX7_reallyOff 19 = .ok (.getfield 22, 3) := by decide +kernel
theorem dX7_reallyOff_22 : decode cX7_reallyOff 22 = .ok (.aload_n 0, 1) := by decide +kernel
theorem dX7_reallyOff_23 : decode cX7_reallyOff 23 = .ok (.iload_n 1, 1) := by decide +kernel
theorem dX7_reallyOff_24 : decode cX7_reallyOff 24 = .ok (.iload_n 3, 1) := by decide +kernel
theorem dX7_reallyOff_25 : decode cX7_reallyOff 25 = .ok (.invokevirtual 87, 3) := by decide +kernel
theorem dX7_reallyOff_28 : decode cX7_reallyOff 28 = .ok (.iaload, 1) := by decide +kernel
theorem dX7_reallyOff_29 : decode cX7_reallyOff 29 = .ok (.istore 4, 2) := by decide +kernel
theorem dX7_reallyOff_31 : decode cX7_reallyOff 31 = .ok (.aload_n 0, 1) := by decide +kernel
theorem dX7_reallyOff_32 : decode cX7_reallyOff 32 = .ok (.iload_n 1, 1) := by decide +kernel
theorem dX7_reallyOff_33 : decode cX7_reallyOff 33 = .ok (.iload 4, 2) := by decide +kernel
theorem dX7_reallyOff_35 : decode cX7_reallyOff 35 = .ok (.invokevirtual 90, 3) := by decide +kernel
theorem dX7_reallyOff_38 : decode cX7_reallyOff 38 = .ok (.istore 5, 2) := by decide +kernel
theorem dX7_reallyOff_40 : decode cX7_reallyOff 40 = .ok (.aload_n 0, 1) := by decide +kernel
theorem dX7_reallyOff_41 : decode cX7_reallyOff 41 = .ok (.iload_n 1, 1) := by decide +kernel
theorem dX7_reallyOff_42 : decode cX7_reallyOff 42 = .ok (.iload 4, 2) := by decide +kernel
theorem dX7_reallyOff_44 : decode cX7_reallyOff 44 = .ok (.iconst 1, 1) := by decide +kernel
theorem dX7_reallyOff_45 : decode cX7_reallyOff 45 = .ok (.isub, 1) := by decide +kernel
theorem dX7_reallyOff_46 : decode cX7_reallyOff 46 = .ok (.invokevirtual 90, 3) := by decide +kernel
theorem dX7_reallyOff_49 : decode cX7_reallyOff 49 = .ok (.iconst 1, 1) := by decide +kernel
theorem dX7_reallyOff_50 : decode cX7_reallyOff 50 = .ok (.iadd, 1) := by decide +kernel
theorem dX7_reallyOff_51 : decode cX7_reallyOff 51 = .ok (.istore 6, 2) := by decide +kernel
theorem dX7_reallyOff_53 : decode cX7_reallyOff 53 = .ok (.iload_n 3, 1) := by decide +kernel
theorem dX7_reallyOff_54 : decode cX7_reallyOff 54 = .ok (.iload 6, 2) := by decide +kernel
theorem dX7_reallyOff_56 : decode cX7_reallyOff 56 = .ok (.if_icmp .ge 10, 3) := by decide +kernel
theorem dX7_reallyOff_59 : decode cX7_reallyOff 59 = .ok (.iload 6, 2) := by decide +kernel
theorem dX7_reallyOff_61 : decode cX7_reallyOff 61 = .ok (.iload_n 3, 1) := by decide +kernel
theorem dX7_reallyOff_62 : decode cX7_reallyOff 62 = .ok (.isub, 1) := by decide +kernel
theorem dX7_reallyOff_63 : decode cX7_reallyOff 63 = .ok (.goto 17, 3) := by decide +kernel
theorem dX7_reallyOff_66 : decode cX7_reallyOff 66 = .ok (.iload_n 3, 1) := by decide +kernel
theorem dX7_reallyOff_67 : decode cX7_reallyOff 67 = .ok (.iload 5, 2) := by decide +kernel
theorem dX7_reallyOff_69 : decode cX7_reallyOff 69 = .ok (.if_icmp .le 10, 3) := by decide +kernel
theorem dX7_reallyOff_72 : decode cX7_reallyOff 72 = .ok (.iload_n 3, 1) := by decide +kernel
theorem dX7_reallyOff_73 : decode cX7_reallyOff 73 = .ok (.iload 5, 2) := by decide +kernel
theorem dX7_reallyOff_75 : decode cX7_reallyOff 75 = .ok (.isub, 1) := by decide +kernel
theorem dX7_reallyOff_76 : decode cX7_reallyOff 76 = .ok (.goto 4, 3) := by decide +kernel
theorem dX7_reallyOff_79 : decode cX7_reallyOff 79 = .ok (.iconst 0, 1) := by decide +kernel
theorem dX7_reallyOff_80 : decode cX7_reallyOff 80 = .ok (.ireturn, 1) := by decide +kernel
set_option maxRecDepth 20000 in
theorem ggX7_atLeastUpTo_X7_isThere : GoodIn wsX7_atLeastUpTo wsX7_isThere := goodIn_r _ [8, 9, 10, 7, 11, 12, 13, 14, 15, 16, 17, 18, 19, 20, 21, 22, 23, 24, 25, 26, 27, 28, 29, 30] (by decide +kernel) (by decide +kernel)
set_option maxRecDepth 20000 in
theorem gX7_atLeastUpTo_X7_isThere : GoodIn wsX7_atLeastUpTo (wsV RX7 62 RX7 yX7_isThere wsX7_isThere) := goodIn_app (goodIn_of _ (by decide +kernel)) ggX7_atLeastUpTo_X7_isThere
theorem dX7_atLeastUpTo_0 : decode cX7_atLeastUpTo 0 = .ok (.aload_n 0, 1) := by decide +kernel
theorem dX7_atLeastUpTo_1 : decode cX7_atLeastUpTo 1 = .ok (.iload_n 1, 1) := by decide +kernel
theorem dX7_atLeastUpTo_2 : decode cX7_atLeastUpTo 2 = .ok (.invokevirtual 62, 3) := by decide +kernel
theorem dX7_atLeastUpTo_5 : decode cX7_atLeastUpTo 5 = .ok (.ifCond .ne 5, 3) := by decide +kernel
theorem dX7_atLeastUpTo_8 : decode cX7_atLeastUpTo 8 = .ok (.iconst 0, 1) := by decide +kernel
theorem dX7_atLeastUpTo_9 : decode cX7_atLeastUpTo 9 = .ok (.ireturn, 1) := by decide +kernel
theorem dX7_atLeastUpTo_10 : decode cX7_atLeastUpTo 10 = .ok (.iconst 0, 1) := by decide +kernel
theorem dX7_atLeastUpTo_11 : decode cX7_atLeastUpTo 11 = .ok (.istore_n 3, 1) := by decide +kernel
theorem dX7_atLeastUpTo_12 : decode cX7_atLeastUpTo 12 = .ok (.sipush 600, 3) := by decide +kernel
theorem dX7_atLeastUpTo_15 : decode cX7_atLeastUpTo 15 = .ok (.iload_n 1, 1) := by decide +kernel
theorem dX7_atLeastUpTo_16 : decode cX7_atLeastUpTo 16 = .ok (.imul, 1) := by decide +kernel
theorem dX7_atLeastUpTo_17 : decode cX7_atLeastUpTo 17 = .ok (.istore 4, 2) := by decide +kernel
theorem dX7_atLeastUpTo_19 : decode cX7_atLeastUpTo 19 = .ok (.iload 4, 2) := by decide +kernel
theorem dX7_atLeastUpTo_21 : decode cX7_atLeastUpTo 21 = .ok (.sipush 600, 3) := by decide +kernel
theorem dX7_atLeastUpTo_24 : decode cX7_atLeastUpTo 24 = .ok (.iload_n 1, 1) := by decide +kernel
theorem dX7_atLeastUpTo_25 : decode cX7_atLeastUpTo 25 = .ok (.imul, 1) := by decide +kernel
theorem dX7_atLeastUpTo_26 : decode cX7_atLeastUpTo 26 = .ok (.aload_n 0, 1) := by decide +kernel
theorem dX7_atLeastUpTo_27 : decode cX7_atLeastUpTo 27 = .ok (.getfield 16, 3) := by decide +kernel
theorem dX7_atLeastUpTo_30 : decode cX7_atLeastUpTo 30 = .ok (.iload_n 1, 1) := by decide +kernel
theorem dX7_atLeastUpTo_31 : decode cX7_atLeastUpTo 31 = .ok (.iaload, 1) := by decide +kernel
theorem dX7_atLeastUpTo_32 : decode cX7_atLeastUpTo 32 = .ok (.iadd, 1) := by decide +kernel
theorem dX7_atLeastUpTo_33 : decode cX7_atLeastUpTo 33 = .ok (.if_icmp .ge 32, 3) := by decide +kernel
theorem dX7_atLeastUpTo_36 : decode cX7_atLeastUpTo 36 = .ok (.aload_n 0, 1) := by decide +kernel
theorem dX7_atLeastUpTo_37 : decode cX7_atLeastUpTo 37 = .ok (.getfield 22, 3) := by decide +kernel
theorem dX7_atLeastUpTo_40 : decode cX7_atLeastUpTo 40 = .ok (.iload 4, 2) := by decide +kernel
theorem dX7_atLeastUpTo_42 : decode cX7_atLeastUpTo 42 = .ok (.iaload, 1) := by decide +kernel
theorem dX7_atLeastUpTo_43 : decode cX7_atLeastUpTo 43 = .ok (.iload_n 2, 1) := by decide +kernel
theorem dX7_atLeastUpTo_44 : decode cX7_atLeastUpTo 44 = .ok (.if_icmp .gt 13, 3) := by decide +kernel
theorem dX7_atLeastUpTo_47 : decode cX7_atLeastUpTo 47 = .ok (.aload_n 0, 1) := by decide +kernel
theorem dX7_atLeastUpTo_48 : decode cX7_atLeastUpTo 48 = .ok (.getfield 25, 3) := by decide +kernel
theorem dX7_atLeastUpTo_51 : decode cX7_atLeastUpTo 51 = .ok (.iload 4, 2) := by decide +kernel
theorem dX7_atLeastUpTo_53 : decode cX7_atLeastUpTo 53 = .ok (.iaload, 1) := by decide +kernel
theorem dX7_atLeastUpTo_54 : decode cX7_atLeastUpTo 54 = .ok (.goto 4, 3) := by decide +kernel
theorem dX7_atLeastUpTo_57 : decode cX7_atLeastUpTo 57 = .ok (.iload_n 3, 1) := by decide +kernel
theorem dX7_atLeastUpTo_58 : decode cX7_atLeastUpTo 58 = .ok (.istore_n 3, 1) := by decide +kernel
theorem dX7_atLeastUpTo_59 : decode cX7_atLeastUpTo 59 = .ok (.iinc 4 1, 3) := by decide +kernel
theorem dX7_atLeastUpTo_62 : decode cX7_atLeastUpTo 62 = .ok (.goto (-43), 3) := by decide +kernel
theorem dX7_atLeastUpTo_65 : decode cX7_atLeastUpTo 65 = .ok (.iload_n 3, 1) := by decide +kernel
theorem dX7_atLeastUpTo_66 : decode cX7_atLeastUpTo 66 = .ok (.ireturn, 1) := by decide +kernel
set_option maxRecDepth 20000 in
theorem ggX7_atMostUpTo_X7_isThere : GoodIn wsX7_atMostUpTo wsX7_isThere := goodIn_r _ [9, 10, 11, 8, 12, 13, 14, 15, 16, 17, 18, 19, 20, 21, 22, 23, 24, 25, 26, 27, 28, 29, 30, 31] (by decide +kernel) (by decide +kernel)
set_option maxRecDepth 20000 in
theorem gX7_atMostUpTo_X7_isThere : GoodIn wsX7_atMostUpTo (wsV RX7 62 RX7 yX7_isThere wsX7_isThere) := goodIn_app (goodIn_of _ (by decide +kernel)) ggX7_atMostUpTo_X7_isThere
theorem dX7_atMostUpTo_0 : decode cX7_atMostUpTo 0 = .ok (.aload_n 0, 1) := by decide +kernel
theorem dX7_atMostUpTo_1 : decode cX7_atMostUpTo 1 = .ok (.iload_n 1, 1) := by decide +kernel
theorem dX7_atMostUpTo_2 : decode cX7_atMostUpTo 2 = .ok (.invokevirtual 62, 3) := by decide +kernel
theorem dX7_atMostUpTo_5 : decode cX7_atMostUpTo 5 = .ok (.ifCond .ne 5, 3) := by decide +kernel
theorem dX7_atMostUpTo_8 : decode cX7_atMostUpTo 8 = .ok (.iconst 0, 1) := by decide +kernel
theorem dX7_atMostUpTo_9 : decode cX7_atMostUpTo 9 = .ok (.ireturn, 1) := by decide +kernel
theorem dX7_atMostUpTo_10 : decode cX7_atMostUpTo 10 = .ok (.aload_n 0, 1) := by decide +kernel
theorem dX7_atMostUpTo_11 : decode cX7_atMostUpTo 11 = .ok (.getfield 13, 3) := by decide +kernel
theorem dX7_atMostUpTo_14 : decode cX7_atMostUpTo 14 = .ok (.iload_n 1, 1) := by decide +kernel
theorem dX7_atMostUpTo_15 : decode cX7_atMostUpTo 15 = .ok (.iaload, 1) := by decide +kernel
theorem dX7_atMostUpTo_16 : decode cX7_atMostUpTo 16 = .ok (.istore_n 3, 1) := by decide +kernel
theorem dX7_atMostUpTo_17 : decode cX7_atMostUpTo 17 = .ok (.sipush 600, 3) := by decide +kernel
theorem dX7_atMostUpTo_20 : decode cX7_atMostUpTo 20 = .ok (.iload_n 1, 1) := by decide +kernel
theorem dX7_atMostUpTo_21 : decode cX7_atMostUpTo 21 = .ok (.imul, 1) := by decide +kernel
theorem dX7_atMostUpTo_22 : decode cX7_atMostUpTo 22 = .ok (.aload_n 0, 1) := by decide +kernel
theorem dX7_atMostUpTo_23 : decode cX7_atMostUpTo 23 = .ok (.getfield 16, 3) := by decide +kernel
theorem dX7_atMostUpTo_26 : decode cX7_atMostUpTo 26 = .ok (.iload_n 1, 1) := by decide +kernel
theorem dX7_atMostUpTo_27 : decode cX7_atMostUpTo 27 = .ok (.iaload, 1) := by decide +kernel
theorem dX7_atMostUpTo_28 : decode cX7_atMostUpTo 28 = .ok (.iadd, 1) := by decide +kernel
theorem dX7_atMostUpTo_29 : decode cX7_atMostUpTo 29 = .ok (.iconst 1, 1) := by decide +kernel
theorem dX7_atMostUpTo_30 : decode cX7_atMostUpTo 30 = .ok (.isub, 1) := by decide +kernel
theorem dX7_atMostUpTo_31 : decode cX7_atMostUpTo 31 = .ok (.istore 4, 2) := by decide +kernel
theorem dX7_atMostUpTo_33 : decode cX7_atMostUpTo 33 = .ok (.iload 4, 2) := by decide +kernel
theorem dX7_atMostUpTo_35 : decode cX7_atMostUpTo 35 = .ok (.sipush 600, 3) := by decide +kernel
theorem dX7_atMostUpTo_38 : decode cX7_atMostUpTo 38 = .ok (.iload_n 1, 1) := by decide +kernel
theorem dX7_atMostUpTo_39 : decode cX7_atMostUpTo 39 = .ok (.imul, 1) := by decide +kernel
theorem dX7_atMostUpTo_40 : decode cX7_atMostUpTo 40 = .ok (.if_icmp .lt 34, 3) := by decide +kernel
theorem dX7_atMostUpTo_43 : decode cX7_atMostUpTo 43 = .ok (.aload_n 0, 1) := by decide +kernel
theorem dX7_atMostUpTo_44 : decode cX7_atMostUpTo 44 = .ok (.getfield 22, 3) := by decide +kernel
theorem dX7_atMostUpTo_47 : decode cX7_atMostUpTo 47 = .ok (.iload 4, 2) := by decide +kernel
theorem dX7_atMostUpTo_49 : decode cX7_atMostUpTo 49 = .ok (.iaload, 1) := by decide +kernel
theorem dX7_atMostUpTo_50 : decode cX7_atMostUpTo 50 = .ok (.iload_n 2, 1) := by decide +kernel
theorem dX7_atMostUpTo_51 : decode cX7_atMostUpTo 51 = .ok (.if_icmp .le 15, 3) := by decide +kernel
theorem dX7_atMostUpTo_54 : decode cX7_atMostUpTo 54 = .ok (.aload_n 0, 1) := by decide +kernel
theorem dX7_atMostUpTo_55 : decode cX7_atMostUpTo 55 = .ok (.getfield 28, 3) := by decide +kernel
theorem dX7_atMostUpTo_58 : decode cX7_atMostUpTo 58 = .ok (.iload 4, 2) := by decide +kernel
theorem dX7_atMostUpTo_60 : decode cX7_atMostUpTo 60 = .ok (.iaload, 1) := by decide +kernel
theorem dX7_atMostUpTo_61 : decode cX7_atMostUpTo 61 = .ok (.iconst 1, 1) := by decide +kernel
theorem dX7_atMostUpTo_62 : decode cX7_atMostUpTo 62 = .ok (.isub, 1) := by decide +kernel
theorem dX7_atMostUpTo_63 : decode cX7_atMostUpTo 63 = .ok (.goto 4, 3) := by decide +kernel
theorem dX7_atMostUpTo_66 : decode cX7_atMostUpTo 66 = .ok (.iload_n 3, 1) := by decide +kernel
theorem dX7_atMostUpTo_67 : decode cX7_atMostUpTo 67 = .ok (.istore_n 3, 1) := by decide +kernel
theorem dX7_atMostUpTo_68 : decode cX7_atMostUpTo 68 = .ok (.iinc 4 (-1), 3) := by decide +kernel
theorem dX7_atMostUpTo_71 : decode cX7_atMostUpTo 71 = .ok (.goto (-38), 3) := by decide +kernel
theorem dX7_atMostUpTo_74 : decode cX7_atMostUpTo 74 = .ok (.iload_n 3, 1) := by decide +kernel
theorem dX7_atMostUpTo_75 : decode cX7_atMostUpTo 75 = .ok (.ireturn, 1) := by decide +kernel
set_option maxRecDepth 20000 in
theorem ggX7_reallyUpTo_X7_isThere : GoodIn wsX7_reallyUpTo wsX7_isThere := goodIn_r _ [5, 6, 7, 4, 8, 9, 10, 11, 12, 13, 14, 15, 16, 23, 24, 25, 26, 27, 28, 29, 30, 31, 32, 33] (by decide +kernel) (by decide +kernel)
set_option maxRecDepth 20000 in
theorem gX7_reallyUpTo_X7_isThere : GoodIn wsX7_reallyUpTo (wsV RX7 62 RX7 yX7_isThere wsX7_isThere) := goodIn_app (goodIn_of _ (by decide +kernel)) ggX7_reallyUpTo_X7_isThere
set_option maxRecDepth 20000 in
theorem ggX7_reallyUpTo_X7_upTo : GoodIn wsX7_reallyUpTo wsX7_upTo := goodIn_r _ [20, 21, 22, 23, 24, 25, 26, 27, 28, 29, 30, 31, 32, 33] (by decide +kernel) (by decide +kernel)
set_option maxRecDepth 20000 in
theorem gX7_reallyUpTo_X7_upTo : GoodIn wsX7_reallyUpTo (wsV RX7 90 RX7 yX7_upTo wsX7_upTo) := goodIn_app (goodIn_of _ (by decide +kernel)) ggX7_reallyUpTo_X7_upTo
theorem dX7_reallyUpTo_0 : decode cX7_reallyUpTo 0 = .ok (.aload_n 0, 1) := by decide +kernel
theorem dX7_reallyUpTo_1 : decode cX7_reallyUpTo 1 = .ok (.iload_n 1, 1) := by decide +kernel
theorem dX7_reallyUpTo_2 : decode cX7_reallyUpTo 2 = .ok (.invokevirtual 62, 3) := by decide +kernel
theorem dX7_reallyUpTo_5 : decode cX7_reallyUpTo 5 = .ok (.ifCond .eq 12, 3) := by decide +kernel
theorem dX7_reallyUpTo_8 : decode cX7_reallyUpTo 8 = .ok (.aload_n 0, 1) := by decide +kernel
theorem dX7_reallyUpTo_9 : decode cX7_reallyUpTo 9 = .ok (.iload_n 1, 1) := by decide +kernel
theorem dX7_reallyUpTo_10 : decode cX7_reallyUpTo 10 = .ok (.iload_n 2, 1) := by decide +kernel
theorem dX7_reallyUpTo_11 : decode cX7_reallyUpTo 11 = .ok (.invokevirtual 90, 3) := by decide +kernel
theorem dX7_reallyUpTo_14 : decode cX7_reallyUpTo 14 = .ok (.goto 4, 3) := by decide +kernel
theorem dX7_reallyUpTo_17 : decode cX7_reallyUpTo 17 = .ok (.iconst 0, 1) := by decide +kernel
theorem dX7_reallyUpTo_18 : decode cX7_reallyUpTo 18 = .ok (.ireturn, 1) := by decide +kernel
set_option maxRecDepth 20000 in
theorem ggX7_half_X7_isCounter : GoodIn wsX7_half wsX7_isCounter := goodIn_r _ [6, 7, 8, 5, 9] (by decide +kernel) (by decide +kernel)
set_option maxRecDepth 20000 in
theorem gX7_half_X7_isCounter : GoodIn wsX7_half (va_wsS RX7 48 yX7_isCounter wsX7_isCounter) := goodIn_app (goodIn_of _ (by decide +kernel)) ggX7_half_X7_isCounter
set_option maxRecDepth 20000 in
theorem ggX7_half_X7_isFine : GoodIn wsX7_half wsX7_isFine := goodIn_r _ [13, 14, 15, 16, 17, 18, 19, 20, 21, 22, 23, 24, 25] (by decide +kernel) (by decide +kernel)
set_option maxRecDepth 20000 in
theorem gX7_half_X7_isFine : GoodIn wsX7_half (wsV RX7 52 RX7 yX7_isFine wsX7_isFine) := goodIn_app (goodIn_of _ (by decide +kernel)) ggX7_half_X7_isFine
theorem dX7_half_0 : decode cX7_half 0 = .ok (.aload_n 0, 1) := by decide +kernel
theorem dX7_half_1 : decode cX7_half 1 = .ok (.iload_n 1, 1) := by decide +kernel
theorem dX7_half_2 : decode cX7_half 2 = .ok (.invokestatic 48, 3) := by decide +kernel
theorem dX7_half_5 : decode cX7_half 5 = .ok (.ifCond .ne 7, 3) := by decide +kernel
theorem dX7_half_8 : decode cX7_half 8 = .ok (.iconst 1, 1) := by decide +kernel
theorem dX7_half_9 : decode cX7_half 9 = .ok (.goto 17, 3) := by decide +kernel
theorem dX7_half_12 : decode cX7_half 12 = .ok (.aload_n 0, 1) := by decide +kernel
theorem dX7_half_13 : decode cX7_half 13 = .ok (.getfield 13, 3) := by decide +kernel
theorem dX7_half_16 : decode cX7_half 16 = .ok (.iload_n 1, 1) := by decide +kernel
theorem dX7_half_17 : decode cX7_half 17 = .ok (.iaload, 1) := by decide +kernel
theorem dX7_half_18 : decode cX7_half 18 = .ok (.ifCond .ne 7, 3) := by decide +kernel
theorem dX7_half_21 : decode cX7_half 21 = .ok (.iconst 2, 1) := by decide +kernel
theorem dX7_half_22 : decode cX7_half 22 = .ok (.goto 4, 3) := by decide +kernel
theorem dX7_half_25 : decode cX7_half 25 = .ok (.iconst 0, 1) := by decide +kernel
theorem dX7_half_26 : decode cX7_half 26 = .ok (.invokevirtual 52, 3) := by decide +kernel
theorem dX7_half_29 : decode cX7_half 29 = .ok (.ifCond .ne 5, 3) := by decide +kernel
theorem dX7_half_32 : decode cX7_half 32 = .ok (.iconst 0, 1) := by decide +kernel
theorem dX7_half_33 : decode cX7_half 33 = .ok (.ireturn, 1) := by decide +kernel
theorem dX7_half_34 : decode cX7_half 34 = .ok (.aload_n 0, 1) := by decide +kernel
theorem dX7_half_35 : decode cX7_half 35 = .ok (.getfield 19, 3) := by decide +kernel
theorem dX7_half_38 : decode cX7_half 38 = .ok (.sipush 600, 3) := by decide +kernel
theorem dX7_half_41 : decode cX7_half 41 = .ok (.iload_n 1, 1) := by decide +kernel
theorem dX7_half_42 : decode cX7_half 42 = .ok (.imul, 1) := by decide +kernel
theorem dX7_half_43 : decode cX7_half 43 = .ok (.aload_n 0, 1) := by decide +kernel
theorem dX7_half_44 : decode cX7_half 44 = .ok (.getfield 13, 3) := by decide +kernel
theorem dX7_half_47 : decode cX7_half 47 = .ok (.iload_n 1, 1) := by decide +kernel
theorem dX7_half_48 : decode cX7_half 48 = .ok (.iaload, 1) := by decide +kernel
theorem dX7_half_49 : decode cX7_half 49 = .ok (.iconst 1, 1) := by decide +kernel
theorem dX7_half_50 : decode cX7_half 50 = .ok (.iadd, 1) := by decide +kernel
theorem dX7_half_51 : decode cX7_half 51 = .ok (.iconst 2, 1) := by decide +kernel
theorem dX7_half_52 : decode cX7_half 52 = .ok (.idiv, 1) := by decide +kernel
theorem dX7_half_53 : decode cX7_half 53 = .ok (.iadd, 1) := by decide +kernel
theorem dX7_half_54 : decode cX7_half 54 = .ok (.iconst 1, 1) := by decide +kernel
theorem dX7_half_55 : decode cX7_half 55 = .ok (.isub, 1) := by decide +kernel
theorem dX7_half_56 : decode cX7_half 56 = .ok (.iaload, 1) := by decide +kernel
theorem dX7_half_57 : decode cX7_half 57 = .ok (.ireturn, 1) := by decide +kernel
set_option maxRecDepth 20000 in
theorem ggX7_middle_X7_half : GoodIn wsX7_middle wsX7_half := goodIn_r _ [5, 6, 7, 8, 9, 4, 10, 11, 12, 13, 14, 15, 16, 17, 18, 19, 20, 21, 22, 23, 24, 25, 26, 27, 28, 29] (by decide +kernel) (by decide +kernel)
set_option maxRecDepth 20000 in
theorem gX7_middle_X7_half : GoodIn wsX7_middle (wsV RX7 93 RX7 yX7_half wsX7_half) := goodIn_app (goodIn_of _ (by decide +kernel)) ggX7_middle_X7_half
theorem dX7_middle_0 : decode cX7_middle 0 = .ok (.aload_n 0, 1) := by decide +kernel
theorem dX7_middle_1 : decode cX7_middle 1 = .ok (.iload_n 1, 1) := by decide +kernel
theorem dX7_middle_2 : decode cX7_middle 2 = .ok (.invokevirtual 93, 3) := by decide +kernel
theorem dX7_middle_5 : decode cX7_middle 5 = .ok (.ireturn, 1) := by decide +kernel
set_option maxRecDepth 20000 in
theorem ggX7_middleByHeaps_X7_half : GoodIn wsX7_middleByHeaps wsX7_half := goodIn_r _ [5, 6, 7, 8, 9, 4, 10, 11, 12, 13, 14, 15, 16, 17, 18, 19, 20, 21, 22, 23, 24, 25, 26, 27, 28, 29] (by decide +kernel) (by decide +kernel)
set_option maxRecDepth 20000 in
theorem gX7_middleByHeaps_X7_half : GoodIn wsX7_middleByHeaps (wsV RX7 93 RX7 yX7_half wsX7_half) := goodIn_app (goodIn_of _ (by decide +kernel)) ggX7_middleByHeaps_X7_half
theorem dX7_middleByHeaps_0 : decode cX7_middleByHeaps 0 = .ok (.aload_n 0, 1) := by decide +kernel
theorem dX7_middleByHeaps_1 : decode cX7_middleByHeaps 1 = .ok (.iload_n 1, 1) := by decide +kernel
theorem dX7_middleByHeaps_2 : decode cX7_middleByHeaps 2 = .ok (.invokevirtual 93, 3) := by decide +kernel
theorem dX7_middleByHeaps_5 : decode cX7_middleByHeaps 5 = .ok (.ireturn, 1) := by decide +kernel
set_option maxRecDepth 20000 in
theorem ggX7_part_X7_isThere : GoodIn wsX7_part wsX7_isThere := goodIn_r _ [7, 8, 9, 6, 10, 11, 12, 13, 14, 15, 16, 17, 18, 19, 20, 21, 22, 23, 24, 25, 26, 27, 28, 29] (by decide +kernel) (by decide +kernel)
set_option maxRecDepth 20000 in
theorem gX7_part_X7_isThere : GoodIn wsX7_part (wsV RX7 62 RX7 yX7_isThere wsX7_isThere) := goodIn_app (goodIn_of _ (by decide +kernel)) ggX7_part_X7_isThere
theorem dX7_part_0 : decode cX7_part 0 = .ok (.aload_n 0, 1) := by decide +kernel
theorem dX7_part_1 : decode cX7_part 1 = .ok (.iload_n 1, 1) := by decide +kernel
theorem dX7_part_2 : decode cX7_part 2 = .ok (.invokevirtual 62, 3) := by decide +kernel
theorem dX7_part_5 : decode cX7_part 5 = .ok (.ifCond .eq 30, 3) := by decide +kernel
theorem dX7_part_8 : decode cX7_part 8 = .ok (.aload_n 0, 1) := by decide +kernel
theorem dX7_part_9 : decode cX7_part 9 = .ok (.getfield 13, 3) := by decide +kernel
theorem dX7_part_12 : decode cX7_part 12 = .ok (.iload_n 1, 1) := by decide +kernel
theorem dX7_part_13 : decode cX7_part 13 = .ok (.iaload, 1) := by decide +kernel
theorem dX7_part_14 : decode cX7_part 14 = .ok (.ifCond .le 21, 3) := by decide +kernel
theorem dX7_part_17 : decode cX7_part 17 = .ok (.aload_n 0, 1) := by decide +kernel
theorem dX7_part_18 : decode cX7_part 18 = .ok (.getfield 16, 3) := by decide +kernel
theorem dX7_part_21 : decode cX7_part 21 = .ok (.iload_n 1, 1) := by decide +kernel
theorem dX7_part_22 : decode cX7_part 22 = .ok (.iaload, 1) := by decide +kernel
theorem dX7_part_23 : decode cX7_part 23 = .ok (.i2d, 1) := by decide +kernel
theorem dX7_part_24 : decode cX7_part 24 = .ok (.aload_n 0, 1) := by decide +kernel
theorem dX7_part_25 : decode cX7_part 25 = .ok (.getfield 13, 3) := by decide +kernel
theorem dX7_part_28 : decode cX7_part 28 = .ok (.iload_n 1, 1) := by decide +kernel
theorem dX7_part_29 : decode cX7_part 29 = .ok (.iaload, 1) := by decide +kernel
theorem dX7_part_30 : decode cX7_part 30 = .ok (.i2d, 1) := by decide +kernel
theorem dX7_part_31 : decode cX7_part 31 = .ok (.ddiv, 1) := by decide +kernel
theorem dX7_part_32 : decode cX7_part 32 = .ok (.goto 4, 3) := by decide +kernel
theorem dX7_part_35 : decode cX7_part 35 = .ok (.dconst 0, 1) := by decide +kernel
theorem dX7_part_36 : decode cX7_part 36 = .ok (.dreturn, 1) := by decide +kernel
theorem dJ9_max_7cf53_0 : decode cJ9_max_7cf53 0 = .ok (.iload_n 0, 1) := by decide +kernel
theorem dJ9_max_7cf53_1 : decode cJ9_max_7cf53 1 = .ok (.iload_n 1, 1) := by decide +kernel
theorem dJ9_max_7cf53_2 : decode cJ9_max_7cf53 2 = .ok (.if_icmp .lt 7, 3) := by decide +kernel
theorem dJ9_max_7cf53_5 : decode cJ9_max_7cf53 5 = .ok (.iload_n 0, 1) := by decide +kernel
theorem dJ9_max_7cf53_6 : decode cJ9_max_7cf53 6 = .ok (.goto 4, 3) := by decide +kernel
theorem dJ9_max_7cf53_9 : decode cJ9_max_7cf53 9 = .ok (.iload_n 1, 1) := by decide +kernel
theorem dJ9_max_7cf53_10 : decode cJ9_max_7cf53 10 = .ok (.ireturn, 1) := by decide +kernel
set_option maxRecDepth 20000 in
theorem ggL_begin_X6_begin : GoodIn wsL_begin wsX6_begin := goodIn_ca (goodIn_ca (goodIn_r _ [7, 8, 9, 10, 6, 11, 12, 13, 14, 15, 16, 17, 18, 19, 20, 21, 22, 23, 24, 25, 26, 27, 28, 29, 30, 31, 32, 33, 34, 35, 36, 37, 38, 39, 40, 41, 42, 43, 44, 45, 46, 47, 48, 49, 50, 51, 52, 53, 54, 55, 56, 57, 58, 59, 60, 61, 62, 63, 64, 65, 66, 67, 68, 69, 70, 71, 72, 73, 74, 75, 76, 77, 78, 79, 80, 81, 82, 83, 84, 85, 86, 87, 88, 89] (by decide +kernel) (by decide +kernel)) (goodIn_sub (fun _ h => List.mem_cons_of_mem _ (List.mem_append_left _ (List.mem_append_right _ h))) (by decide +kernel))) (goodIn_sub (fun _ h => List.mem_cons_of_mem _ (List.mem_append_right _ h)) (by decide +kernel))
set_option maxRecDepth 20000 in
theorem gL_begin_X6_begin : GoodIn wsL_begin (wsV RL 7 RX6 yX6_begin wsX6_begin) := goodIn_app (goodIn_of _ (by decide +kernel)) ggL_begin_X6_begin
theorem dL_begin_0 : decode cL_begin 0 = .ok (.aload_n 3, 1) := by decide +kernel
theorem dL_begin_1 : decode cL_begin 1 = .ok (.iconst 0, 1) := by decide +kernel
theorem dL_begin_2 : decode cL_begin 2 = .ok (.aload_n 0, 1) := by decide +kernel
theorem dL_begin_3 : decode cL_begin 3 = .ok (.iload_n 1, 1) := by decide +kernel
theorem dL_begin_4 : decode cL_begin 4 = .ok (.iload_n 2, 1) := by decide +kernel
theorem dL_begin_5 : decode cL_begin 5 = .ok (.invokevirtual 7, 3) := by decide +kernel
theorem dL_begin_8 : decode cL_begin 8 = .ok (.i2l, 1) := by decide +kernel
theorem dL_begin_9 : decode cL_begin 9 = .ok (.lastore, 1) := by decide +kernel
theorem dL_begin_10 : decode cL_begin 10 = .ok (.goto 11, 3) := by decide +kernel
theorem dL_begin_13 : decode cL_begin 13 = .ok (.astore 4, 2) := by decide +kernel
theorem dL_begin_15 : decode cL_begin 15 = .ok (.iconst 1, 1) := by decide +kernel
theorem dL_begin_16 : decode cL_begin 16 = .ok (.ireturn, 1) := by decide +kernel
theorem dL_begin_17 : decode cL_begin 17 = .ok (.astore 4, 2) := by decide +kernel
theorem dL_begin_19 : decode cL_begin 19 = .ok (.iconst 2, 1) := by decide +kernel
theorem dL_begin_20 : decode cL_begin 20 = .ok (.ireturn, 1) := by decide +kernel
theorem dL_begin_21 : decode cL_begin 21 = .ok (.iconst 0, 1) := by decide +kernel
theorem dL_begin_22 : decode cL_begin 22 = .ok (.ireturn, 1) := by decide +kernel
set_option maxRecDepth 20000 in
theorem ggL_show_X6_show : GoodIn wsL_show wsX6_show := goodIn_ca (goodIn_ca (goodIn_ca (goodIn_r _ [8, 9, 10, 11, 7, 12, 13, 14, 15, 16, 17, 18, 19, 20, 21, 22, 23, 24, 25, 26, 27, 28, 29, 30, 31, 32, 33, 34, 35, 36, 37, 38, 39, 40, 41, 42, 43, 44, 45, 46, 47, 48, 49, 50, 51, 52, 53, 54, 55, 56, 57, 58, 59, 60, 61, 62, 63, 64, 65, 66, 67, 68, 69, 70, 71, 72, 73, 74, 75, 76, 77, 78, 79, 80, 81, 82, 83, 84, 85, 86, 87, 88, 89, 90, 91, 92, 93, 94, 95, 96, 97, 98, 99, 100, 101, 102, 103, 104, 105, 106, 107, 108, 109, 110, 111, 112, 113, 114, 115, 116, 117, 118, 119, 120, 121, 122, 123, 124, 125, 126, 127, 128, 129, 130, 131, 132, 133, 134, 135, 136, 137, 138, 139, 140, 141, 142, 143, 144, 145, 146, 147, 148, 149, 150, 151, 152, 153, 154, 155, 156, 157, 158, 159] (by decide +kernel) (by decide +kernel)) (goodIn_sub (fun _ h => List.mem_cons_of_mem _ (List.mem_append_left _ (List.mem_append_left _ (List.mem_append_right _ h)))) (by decide +kernel))) (goodIn_sub (fun _ h => List.mem_cons_of_mem _ (List.mem_append_left _ (List.mem_append_right _ h))) (by decide +kernel))) (goodIn_sub (fun _ h => List.mem_cons_of_mem _ (List.mem_append_right _ h)) (by decide +kernel))
set_option maxRecDepth 20000 in
theorem gL_show_X6_show : GoodIn wsL_show (wsV RL 17 RX6 yX6_show wsX6_show) := goodIn_app (goodIn_of _ (by decide +kernel)) ggL_show_X6_show
theorem dL_show_0 : decode cL_show 0 = .ok (.aload_n 3, 1) := by decide +kernel
theorem dL_show_1 : decode cL_show 1 = .ok (.iconst 0, 1) := by decide +kernel
theorem dL_show_2 : decode cL_show 2 = .ok (.aload_n 0, 1) := by decide +kernel
theorem dL_show_3 : decode cL_show 3 = .ok (.iload_n 1, 1) := by decide +kernel
theorem dL_show_4 : decode cL_show 4 = .ok (.iload_n 2, 1) := by decide +kernel
theorem dL_show_5 : decode cL_show 5 = .ok (.invokevirtual 17, 3) := by decide +kernel
theorem dL_show_8 : decode cL_show 8 = .ok (.i2l, 1) := by decide +kernel
theorem dL_show_9 : decode cL_show 9 = .ok (.lastore, 1) := by decide +kernel
theorem dL_show_10 : decode cL_show 10 = .ok (.goto 15, 3) := by decide +kernel
theorem dL_show_13 : decode cL_show 13 = .ok (.astore 4, 2) := by decide +kernel
theorem dL_show_15 : decode cL_show 15 = .ok (.iconst 1, 1) := by decide +kernel
theorem dL_show_16 : decode cL_show 16 = .ok (.ireturn, 1) := by decide +kernel
theorem dL_show_17 : decode cL_show 17 = .ok (.astore 4, 2) := by decide +kernel
theorem dL_show_19 : decode cL_show 19 = .ok (.iconst 2, 1) := by decide +kernel
theorem dL_show_20 : decode cL_show 20 = .ok (.ireturn, 1) := by decide +kernel
theorem dL_show_21 : decode cL_show 21 = .ok (.astore 4, 2) := by decide +kernel
theorem dL_show_23 : decode cL_show 23 = .ok (.iconst 3, 1) := by decide +kernel
theorem dL_show_24 : decode cL_show 24 = .ok (.ireturn, 1) := by decide +kernel
theorem dL_show_25 : decode cL_show 25 = .ok (.iconst 0, 1) := by decide +kernel
theorem dL_show_26 : decode cL_show 26 = .ok (.ireturn, 1) := by decide +kernel
set_option maxRecDepth 20000 in
theorem ggL_showRow_X6_showRow : GoodIn wsL_showRow wsX6_showRow := goodIn_ca (goodIn_ca (goodIn_ca (goodIn_r _ [8, 9, 10, 11, 7, 12, 13, 14, 15, 16, 17, 18, 19, 20, 21, 22, 23, 24, 25, 26, 27, 28, 29, 30, 31, 32, 33, 34, 35, 36, 37, 38, 39, 40, 41, 42, 43, 44, 45, 46, 47, 48, 49, 50, 51, 52, 53, 54, 55, 56, 57, 58, 59, 60, 61, 62, 63, 64, 65, 66, 67, 68, 69, 70, 71, 72, 73, 74, 75, 76, 77, 78, 79, 80, 81, 82, 83, 84, 85, 86, 87, 88, 89, 90, 91, 92, 93, 94, 95, 96, 97, 98, 99, 100, 101, 102, 103, 104, 105, 106, 107, 108, 109, 110, 111, 112, 113, 114, 115, 116, 117, 118, 119, 120, 121, 122, 123, 124, 125, 126, 127, 128, 129, 130, 131, 132, 133, 134, 135, 136, 137, 138, 139, 140, 141, 142, 143, 144, 145, 146, 147, 148, 149, 150, 151, 152, 153, 154, 155, 156, 157, 158, 159] (by decide +kernel) (by decide +kernel)) (goodIn_sub (fun _ h => List.mem_cons_of_mem _ (List.mem_append_left _ (List.mem_append_left _ (List.mem_append_right _ h)))) (by decide +kernel))) (goodIn_sub (fun _ h => List.mem_cons_of_mem _ (List.mem_append_left _ (List.mem_append_right _ h))) (by decide +kernel))) (goodIn_sub (fun _ h => List.mem_cons_of_mem _ (List.mem_append_right _ h)) (by decide +kernel))
set_option maxRecDepth 20000 in
theorem gL_showRow_X6_showRow : GoodIn wsL_showRow (wsV RL 22 RX6 yX6_showRow wsX6_showRow) := goodIn_app (goodIn_of _ (by decide +kernel)) ggL_showRow_X6_showRow
theorem dL_showRow_0 : decode cL_showRow 0 = .ok (.aload 5, 2) := by decide +kernel
theorem dL_showRow_2 : decode cL_showRow 2 = .ok (.iconst 0, 1) := by decide +kernel
theorem dL_showRow_3 : decode cL_showRow 3 = .ok (.aload_n 0, 1) := by decide +kernel
theorem dL_showRow_4 : decode cL_showRow 4 = .ok (.iload_n 1, 1) := by decide +kernel
theorem dL_showRow_5 : decode cL_showRow 5 = .ok (.iload_n 2, 1) := by decide +kernel
theorem dL_showRow_6 : decode cL_showRow 6 = .ok (.iload_n 3, 1) := by decide +kernel
theorem dL_showRow_7 : decode cL_showRow 7 = .ok (.iload 4, 2) := by decide +kernel
theorem dL_showRow_9 : decode cL_showRow 9 = .ok (.invokevirtual 22, 3) := by decide +kernel
theorem dL_showRow_12 : decode cL_showRow 12 = .ok (.i2l, 1) := by decide +kernel
theorem dL_showRow_13 : decode cL_showRow 13 = .ok (.lastore, 1) := by decide +kernel
theorem dL_showRow_14 : decode cL_showRow 14 = .ok (.goto 15, 3) := by decide +kernel
theorem dL_showRow_17 : decode cL_showRow 17 = .ok (.astore 6, 2) := by decide +kernel
theorem dL_showRow_19 : decode cL_showRow 19 = .ok (.iconst 1, 1) := by decide +kernel
theorem dL_showRow_20 : decode cL_showRow 20 = .ok (.ireturn, 1) := by decide +kernel
theorem dL_showRow_21 : decode cL_showRow 21 = .ok (.astore 6, 2) := by decide +kernel
theorem dL_showRow_23 : decode cL_showRow 23 = .ok (.iconst 2, 1) := by decide +kernel
theorem dL_showRow_24 : decode cL_showRow 24 = .ok (.ireturn, 1) := by decide +kernel
theorem dL_showRow_25 : decode cL_showRow 25 = .ok (.astore 6, 2) := by decide +kernel
theorem dL_showRow_27 : decode cL_showRow 27 = .ok (.iconst 3, 1) := by decide +kernel
theorem dL_showRow_28 : decode cL_showRow 28 = .ok (.ireturn, 1) := by decide +kernel
theorem dL_showRow_29 : decode cL_showRow 29 = .ok (.iconst 0, 1) := by decide +kernel
theorem dL_showRow_30 : decode cL_showRow 30 = .ok (.ireturn, 1) := by decide +kernel
set_option maxRecDepth 20000 in
theorem ggL_thinOut_X6_thinOut : GoodIn wsL_thinOut wsX6_thinOut := goodIn_ca (goodIn_r _ [6, 7, 8, 9, 5, 10, 11, 12, 13, 14, 15, 16, 17, 18, 19, 20, 21, 22, 23, 24, 25, 26, 27, 28, 29, 30, 31, 32, 33, 34, 35, 36, 37, 38, 39, 40, 41, 42, 43, 44, 45, 46, 47, 48, 49, 50, 51, 52, 53, 54, 55, 56, 57, 58, 59, 60, 61, 62, 63, 64, 65, 66, 67, 68, 69, 70, 71, 72, 73, 74, 75, 76, 77, 78, 79, 80, 81, 82, 83, 84, 85, 86, 87, 88, 89, 90, 91] (by decide +kernel) (by decide +kernel)) (goodIn_sub (fun _ h => List.mem_cons_of_mem _ (List.mem_append_right _ h)) (by decide +kernel))
set_option maxRecDepth 20000 in
theorem gL_thinOut_X6_thinOut : GoodIn wsL_thinOut (wsV RL 26 RX6 yX6_thinOut wsX6_thinOut) := goodIn_app (goodIn_of _ (by decide +kernel)) ggL_thinOut_X6_thinOut
theorem dL_thinOut_0 : decode cL_thinOut 0 = .ok (.aload_n 2, 1) := by decide +kernel
theorem dL_thinOut_1 : decode cL_thinOut 1 = .ok (.iconst 0, 1) := by decide +kernel
theorem dL_thinOut_2 : decode cL_thinOut 2 = .ok (.aload_n 0, 1) := by decide +kernel
theorem dL_thinOut_3 : decode cL_thinOut 3 = .ok (.iload_n 1, 1) := by decide +kernel
theorem dL_thinOut_4 : decode cL_thinOut 4 = .ok (.invokevirtual 26, 3) := by decide +kernel
theorem dL_thinOut_7 : decode cL_thinOut 7 = .ok (.i2l, 1) := by decide +kernel
theorem dL_thinOut_8 : decode cL_thinOut 8 = .ok (.lastore, 1) := by decide +kernel
theorem dL_thinOut_9 : decode cL_thinOut 9 = .ok (.goto 6, 3) := by decide +kernel
theorem dL_thinOut_12 : decode cL_thinOut 12 = .ok (.astore_n 3, 1) := by decide +kernel
theorem dL_thinOut_13 : decode cL_thinOut 13 = .ok (.iconst 1, 1) := by decide +kernel
theorem dL_thinOut_14 : decode cL_thinOut 14 = .ok (.ireturn, 1) := by decide +kernel
theorem dL_thinOut_15 : decode cL_thinOut 15 = .ok (.iconst 0, 1) := by decide +kernel
theorem dL_thinOut_16 : decode cL_thinOut 16 = .ok (.ireturn, 1) := by decide +kernel
set_option maxRecDepth 20000 in
theorem ggL_pour_X6_pour : GoodIn wsL_pour wsX6_pour := goodIn_ca (goodIn_ca (goodIn_ca (goodIn_r _ [8, 9, 10, 11, 12, 13, 7, 14, 15, 16, 17, 18, 19, 20, 21, 22, 23, 24, 25, 26, 27, 28, 29, 30, 31, 32, 33, 34, 35, 36, 37, 38, 39, 40, 41, 42, 43, 44, 45, 46, 47, 48, 49, 50, 51, 52, 53, 54, 55, 56, 57, 58, 59, 60, 61, 62, 63, 64, 65, 66, 67, 68, 69, 70, 71, 72, 73, 74, 75, 76, 77, 78, 79, 80, 81, 82, 83, 84, 85, 86, 87, 88, 89, 90, 91, 92, 93, 94, 95, 96, 97, 98, 99, 100, 101, 102, 103, 104, 105, 106, 107, 108, 109, 110, 111, 112, 113, 114, 115, 116, 117, 118, 119, 120, 121, 122, 123, 124, 125, 126, 127, 128, 129, 130, 131, 132, 133, 134, 135, 136, 137, 138, 139, 140, 141, 142, 143, 144, 145, 146, 147, 148, 149, 150, 151, 152, 153, 154, 155, 156, 157, 158, 159, 160, 161, 162, 163, 164, 165, 166, 167, 168, 169, 170, 171, 172, 173, 174, 175, 176, 177, 178] (by decide +kernel) (by decide +kernel)) (goodIn_sub (fun _ h => List.mem_cons_of_mem _ (List.mem_append_left _ (List.mem_append_left _ (List.mem_append_right _ h)))) (by decide +kernel))) (goodIn_sub (fun _ h => List.mem_cons_of_mem _ (List.mem_append_left _ (List.mem_append_right _ h))) (by decide +kernel))) (goodIn_sub (fun _ h => List.mem_cons_of_mem _ (List.mem_append_right _ h)) (by decide +kernel))
set_option maxRecDepth 20000 in
theorem gL_pour_X6_pour : GoodIn wsL_pour (wsV RL 30 RX6 yX6_pour wsX6_pour) := goodIn_app (goodIn_of _ (by decide +kernel)) ggL_pour_X6_pour
theorem dL_pour_0 : decode cL_pour 0 = .ok (.aload_n 3, 1) := by decide +kernel
theorem dL_pour_1 : decode cL_pour 1 = .ok (.iconst 0, 1) := by decide +kernel
theorem dL_pour_2 : decode cL_pour 2 = .ok (.aload_n 0, 1) := by decide +kernel
theorem dL_pour_3 : decode cL_pour 3 = .ok (.iload_n 1, 1) := by decide +kernel
theorem dL_pour_4 : decode cL_pour 4 = .ok (.iload_n 2, 1) := by decide +kernel
theorem dL_pour_5 : decode cL_pour 5 = .ok (.invokevirtual 30, 3) := by decide +kernel
theorem dL_pour_8 : decode cL_pour 8 = .ok (.i2l, 1) := by decide +kernel
theorem dL_pour_9 : decode cL_pour 9 = .ok (.lastore, 1) := by decide +kernel
theorem dL_pour_10 : decode cL_pour 10 = .ok (.goto 15, 3) := by decide +kernel
theorem dL_pour_13 : decode cL_pour 13 = .ok (.astore 4, 2) := by decide +kernel
theorem dL_pour_15 : decode cL_pour 15 = .ok (.iconst 1, 1) := by decide +kernel
theorem dL_pour_16 : decode cL_pour 16 = .ok (.ireturn, 1) := by decide +kernel
theorem dL_pour_17 : decode cL_pour 17 = .ok (.astore 4, 2) := by decide +kernel
theorem dL_pour_19 : decode cL_pour 19 = .ok (.iconst 2, 1) := by decide +kernel
theorem dL_pour_20 : decode cL_pour 20 = .ok (.ireturn, 1) := by decide +kernel
theorem dL_pour_21 : decode cL_pour 21 = .ok (.astore 4, 2) := by decide +kernel
theorem dL_pour_23 : decode cL_pour 23 = .ok (.iconst 3, 1) := by decide +kernel
theorem dL_pour_24 : decode cL_pour 24 = .ok (.ireturn, 1) := by decide +kernel
theorem dL_pour_25 : decode cL_pour 25 = .ok (.iconst 0, 1) := by decide +kernel
theorem dL_pour_26 : decode cL_pour 26 = .ok (.ireturn, 1) := by decide +kernel
set_option maxRecDepth 20000 in
theorem ggL_count_X6_count : GoodIn wsL_count wsX6_count := goodIn_ca (goodIn_r _ [6, 7, 8, 9, 5, 10, 11, 12, 13, 14, 15, 16, 17, 18, 19, 20, 21, 22, 23, 24, 25, 26, 27] (by decide +kernel) (by decide +kernel)) (goodIn_sub (fun _ h => List.mem_cons_of_mem _ (List.mem_append_right _ h)) (by decide +kernel))
set_option maxRecDepth 20000 in
theorem gL_count_X6_count : GoodIn wsL_count (wsV RL 33 RX6 yX6_count wsX6_count) := goodIn_app (goodIn_of _ (by decide +kernel)) ggL_count_X6_count
theorem dL_count_0 : decode cL_count 0 = .ok (.aload_n 2, 1) := by decide +kernel
theorem dL_count_1 : decode cL_count 1 = .ok (.iconst 0, 1) := by decide +kernel
theorem dL_count_2 : decode cL_count 2 = .ok (.aload_n 0, 1) := by decide +kernel
theorem dL_count_3 : decode cL_count 3 = .ok (.iload_n 1, 1) := by decide +kernel
theorem dL_count_4 : decode cL_count 4 = .ok (.invokevirtual 33, 3) := by decide +kernel
theorem dL_count_7 : decode cL_count 7 = .ok (.i2l, 1) := by decide +kernel
theorem dL_count_8 : decode cL_count 8 = .ok (.lastore, 1) := by decide +kernel
theorem dL_count_9 : decode cL_count 9 = .ok (.goto 6, 3) := by decide +kernel
theorem dL_count_12 : decode cL_count 12 = .ok (.astore_n 3, 1) := by decide +kernel
theorem dL_count_13 : decode cL_count 13 = .ok (.iconst 1, 1) := by decide +kernel
theorem dL_count_14 : decode cL_count 14 = .ok (.ireturn, 1) := by decide +kernel
theorem dL_count_15 : decode cL_count 15 = .ok (.iconst 0, 1) := by decide +kernel
theorem dL_count_16 : decode cL_count 16 = .ok (.ireturn, 1) := by decide +kernel
set_option maxRecDepth 20000 in
theorem ggL_bound_X6_bound : GoodIn wsL_bound wsX6_bound := goodIn_ca (goodIn_r _ [6, 7, 8, 9, 5, 10, 11, 12, 13, 14, 15, 16, 17, 18] (by decide +kernel) (by decide +kernel)) (goodIn_sub (fun _ h => List.mem_cons_of_mem _ (List.mem_append_right _ h)) (by decide +kernel))
set_option maxRecDepth 20000 in
theorem gL_bound_X6_bound : GoodIn wsL_bound (wsV RL 36 RX6 yX6_bound wsX6_bound) := goodIn_app (goodIn_of _ (by decide +kernel)) ggL_bound_X6_bound
theorem dL_bound_0 : decode cL_bound 0 = .ok (.aload_n 2, 1) := by decide +kernel
theorem dL_bound_1 : decode cL_bound 1 = .ok (.iconst 0, 1) := by decide +kernel
theorem dL_bound_2 : decode cL_bound 2 = .ok (.aload_n 0, 1) := by decide +kernel
theorem dL_bound_3 : decode cL_bound 3 = .ok (.iload_n 1, 1) := by decide +kernel
theorem dL_bound_4 : decode cL_bound 4 = .ok (.invokevirtual 36, 3) := by decide +kernel
theorem dL_bound_7 : decode cL_bound 7 = .ok (.i2l, 1) := by decide +kernel
theorem dL_bound_8 : decode cL_bound 8 = .ok (.lastore, 1) := by decide +kernel
theorem dL_bound_9 : decode cL_bound 9 = .ok (.goto 6, 3) := by decide +kernel
theorem dL_bound_12 : decode cL_bound 12 = .ok (.astore_n 3, 1) := by decide +kernel
theorem dL_bound_13 : decode cL_bound 13 = .ok (.iconst 1, 1) := by decide +kernel
theorem dL_bound_14 : decode cL_bound 14 = .ok (.ireturn, 1) := by decide +kernel
theorem dL_bound_15 : decode cL_bound 15 = .ok (.iconst 0, 1) := by decide +kernel
theorem dL_bound_16 : decode cL_bound 16 = .ok (.ireturn, 1) := by decide +kernel
set_option maxRecDepth 20000 in
theorem ggL_allowance_X6_allowance : GoodIn wsL_allowance wsX6_allowance := goodIn_ca (goodIn_r _ [6, 7, 8, 9, 5, 10, 11, 12, 13, 14, 15, 16, 17, 18, 19, 20, 21, 22, 23, 24, 25, 26, 27, 28, 29, 30, 31, 32, 33, 34] (by decide +kernel) (by decide +kernel)) (goodIn_sub (fun _ h => List.mem_cons_of_mem _ (List.mem_append_right _ h)) (by decide +kernel))
set_option maxRecDepth 20000 in
theorem gL_allowance_X6_allowance : GoodIn wsL_allowance (wsV RL 39 RX6 yX6_allowance wsX6_allowance) := goodIn_app (goodIn_of _ (by decide +kernel)) ggL_allowance_X6_allowance
theorem dL_allowance_0 : decode cL_allowance 0 = .ok (.aload_n 2, 1) := by decide +kernel
theorem dL_allowance_1 : decode cL_allowance 1 = .ok (.iconst 0, 1) := by decide +kernel
theorem dL_allowance_2 : decode cL_allowance 2 = .ok (.aload_n 0, 1) := by decide +kernel
theorem dL_allowance_3 : decode cL_allowance 3 = .ok (.iload_n 1, 1) := by decide +kernel
theorem dL_allowance_4 : decode cL_allowance 4 = .ok (.invokevirtual 39, 3) := by decide +kernel
theorem dL_allowance_7 : decode cL_allowance 7 = .ok (.i2l, 1) := by decide +kernel
theorem dL_allowance_8 : decode cL_allowance 8 = .ok (.lastore, 1) := by decide +kernel
theorem dL_allowance_9 : decode cL_allowance 9 = .ok (.goto 6, 3) := by decide +kernel
theorem dL_allowance_12 : decode cL_allowance 12 = .ok (.astore_n 3, 1) := by decide +kernel
theorem dL_allowance_13 : decode cL_allowance 13 = .ok (.iconst 1, 1) := by decide +kernel
theorem dL_allowance_14 : decode cL_allowance 14 = .ok (.ireturn, 1) := by decide +kernel
theorem dL_allowance_15 : decode cL_allowance 15 = .ok (.iconst 0, 1) := by decide +kernel
theorem dL_allowance_16 : decode cL_allowance 16 = .ok (.ireturn, 1) := by decide +kernel
set_option maxRecDepth 20000 in
theorem ggL_marks_X6_marks : GoodIn wsL_marks wsX6_marks := goodIn_ca (goodIn_r _ [6, 7, 8, 9, 5, 10, 11, 12, 13, 14, 15, 16, 17, 18, 19, 20, 21, 22, 23, 24, 25, 26, 27, 28, 29, 30, 31, 32, 33, 34, 35] (by decide +kernel) (by decide +kernel)) (goodIn_sub (fun _ h => List.mem_cons_of_mem _ (List.mem_append_right _ h)) (by decide +kernel))
set_option maxRecDepth 20000 in
theorem gL_marks_X6_marks : GoodIn wsL_marks (wsV RL 42 RX6 yX6_marks wsX6_marks) := goodIn_app (goodIn_of _ (by decide +kernel)) ggL_marks_X6_marks
theorem dL_marks_0 : decode cL_marks 0 = .ok (.aload_n 2, 1) := by decide +kernel
theorem dL_marks_1 : decode cL_marks 1 = .ok (.iconst 0, 1) := by decide +kernel
theorem dL_marks_2 : decode cL_marks 2 = .ok (.aload_n 0, 1) := by decide +kernel
theorem dL_marks_3 : decode cL_marks 3 = .ok (.iload_n 1, 1) := by decide +kernel
theorem dL_marks_4 : decode cL_marks 4 = .ok (.invokevirtual 42, 3) := by decide +kernel
theorem dL_marks_7 : decode cL_marks 7 = .ok (.i2l, 1) := by decide +kernel
theorem dL_marks_8 : decode cL_marks 8 = .ok (.lastore, 1) := by decide +kernel
theorem dL_marks_9 : decode cL_marks 9 = .ok (.goto 6, 3) := by decide +kernel
theorem dL_marks_12 : decode cL_marks 12 = .ok (.astore_n 3, 1) := by decide +kernel
theorem dL_marks_13 : decode cL_marks 13 = .ok (.iconst 1, 1) := by decide +kernel
theorem dL_marks_14 : decode cL_marks 14 = .ok (.ireturn, 1) := by decide +kernel
theorem dL_marks_15 : decode cL_marks 15 = .ok (.iconst 0, 1) := by decide +kernel
theorem dL_marks_16 : decode cL_marks 16 = .ok (.ireturn, 1) := by decide +kernel
set_option maxRecDepth 20000 in
theorem ggL_value_X6_value : GoodIn wsL_value wsX6_value := goodIn_ca (goodIn_r _ [6, 7, 8, 9, 5, 10, 11, 12, 13, 14, 15, 16, 17, 18, 19, 20, 21, 22, 23, 24, 25, 26, 27, 28, 29, 30, 31, 32, 33, 34, 35, 36, 37, 38, 39, 40, 41, 42, 43, 44, 45, 46, 47, 48, 49, 50, 51, 52] (by decide +kernel) (by decide +kernel)) (goodIn_sub (fun _ h => List.mem_cons_of_mem _ (List.mem_append_right _ h)) (by decide +kernel))
set_option maxRecDepth 20000 in
theorem gL_value_X6_value : GoodIn wsL_value (wsV RL 45 RX6 yX6_value wsX6_value) := goodIn_app (goodIn_of _ (by decide +kernel)) ggL_value_X6_value
theorem dL_value_0 : decode cL_value 0 = .ok (.aload_n 3, 1) := by decide +kernel
theorem dL_value_1 : decode cL_value 1 = .ok (.iconst 0, 1) := by decide +kernel
theorem dL_value_2 : decode cL_value 2 = .ok (.aload_n 0, 1) := by decide +kernel
theorem dL_value_3 : decode cL_value 3 = .ok (.iload_n 1, 1) := by decide +kernel
theorem dL_value_4 : decode cL_value 4 = .ok (.iload_n 2, 1) := by decide +kernel
theorem dL_value_5 : decode cL_value 5 = .ok (.invokevirtual 45, 3) := by decide +kernel
theorem dL_value_8 : decode cL_value 8 = .ok (.i2l, 1) := by decide +kernel
theorem dL_value_9 : decode cL_value 9 = .ok (.lastore, 1) := by decide +kernel
theorem dL_value_10 : decode cL_value 10 = .ok (.goto 7, 3) := by decide +kernel
theorem dL_value_13 : decode cL_value 13 = .ok (.astore 4, 2) := by decide +kernel
theorem dL_value_15 : decode cL_value 15 = .ok (.iconst 1, 1) := by decide +kernel
theorem dL_value_16 : decode cL_value 16 = .ok (.ireturn, 1) := by decide +kernel
theorem dL_value_17 : decode cL_value 17 = .ok (.iconst 0, 1) := by decide +kernel
theorem dL_value_18 : decode cL_value 18 = .ok (.ireturn, 1) := by decide +kernel
set_option maxRecDepth 20000 in
theorem ggL_lowestRank_X6_lowestRank : GoodIn wsL_lowestRank wsX6_lowestRank := goodIn_ca (goodIn_r _ [6, 7, 8, 9, 5, 10, 11, 12, 13, 14, 15, 16, 17, 18, 19, 20, 21, 22, 23, 24, 25, 26, 27, 28, 29, 30, 31, 32, 33, 34, 35, 36, 37, 38, 39, 40, 41, 42, 43, 44, 45, 46, 47, 48, 49, 50, 51, 52, 53, 54, 55, 56, 57] (by decide +kernel) (by decide +kernel)) (goodIn_sub (fun _ h => List.mem_cons_of_mem _ (List.mem_append_right _ h)) (by decide +kernel))
set_option maxRecDepth 20000 in
theorem gL_lowestRank_X6_lowestRank : GoodIn wsL_lowestRank (wsV RL 48 RX6 yX6_lowestRank wsX6_lowestRank) := goodIn_app (goodIn_of _ (by decide +kernel)) ggL_lowestRank_X6_lowestRank
theorem dL_lowestRank_0 : decode cL_lowestRank 0 = .ok (.aload_n 3, 1) := by decide +kernel
theorem dL_lowestRank_1 : decode cL_lowestRank 1 = .ok (.iconst 0, 1) := by decide +kernel
theorem dL_lowestRank_2 : decode cL_lowestRank 2 = .ok (.aload_n 0, 1) := by decide +kernel
theorem dL_lowestRank_3 : decode cL_lowestRank 3 = .ok (.iload_n 1, 1) := by decide +kernel
theorem dL_lowestRank_4 : decode cL_lowestRank 4 = .ok (.iload_n 2, 1) := by decide +kernel
theorem dL_lowestRank_5 : decode cL_lowestRank 5 = .ok (.invokevirtual 48, 3) := by decide +kernel
theorem dL_lowestRank_8 : decode cL_lowestRank 8 = .ok (.i2l, 1) := by decide +kernel
theorem dL_lowestRank_9 : decode cL_lowestRank 9 = .ok (.lastore, 1) := by decide +kernel
theorem dL_lowestRank_10 : decode cL_lowestRank 10 = .ok (.goto 7, 3) := by decide +kernel
theorem dL_lowestRank_13 : decode cL_lowestRank 13 = .ok (.astore 4, 2) := by decide +kernel
theorem dL_lowestRank_15 : decode cL_lowestRank 15 = .ok (.iconst 1, 1) := by decide +kernel
theorem dL_lowestRank_16 : decode cL_lowestRank 16 = .ok (.ireturn, 1) := by decide +kernel
theorem dL_lowestRank_17 : decode cL_lowestRank 17 = .ok (.iconst 0, 1) := by decide +kernel
theorem dL_lowestRank_18 : decode cL_lowestRank 18 = .ok (.ireturn, 1) := by decide +kernel
set_option maxRecDepth 20000 in
theorem ggL_highestRank_X6_highestRank : GoodIn wsL_highestRank wsX6_highestRank := goodIn_ca (goodIn_r _ [6, 7, 8, 9, 5, 10, 11, 12, 13, 14, 15, 16, 17, 18, 19, 20, 21, 22, 23, 24, 25, 26, 27, 28, 29, 30, 31, 32, 33, 34, 35, 36, 37, 38, 39, 40, 41, 42, 43, 44, 45, 46, 47, 48, 49, 50, 51, 52, 53, 54, 55, 56, 57, 58, 59, 60, 61, 62, 63] (by decide +kernel) (by decide +kernel)) (goodIn_sub (fun _ h => List.mem_cons_of_mem _ (List.mem_append_right _ h)) (by decide +kernel))
set_option maxRecDepth 20000 in
theorem gL_highestRank_X6_highestRank : GoodIn wsL_highestRank (wsV RL 51 RX6 yX6_highestRank wsX6_highestRank) := goodIn_app (goodIn_of _ (by decide +kernel)) ggL_highestRank_X6_highestRank
theorem dL_highestRank_0 : decode cL_highestRank 0 = .ok (.aload_n 3, 1) := by decide +kernel
theorem dL_highestRank_1 : decode cL_highestRank 1 = .ok (.iconst 0, 1) := by decide +kernel
theorem dL_highestRank_2 : decode cL_highestRank 2 = .ok (.aload_n 0, 1) := by decide +kernel
theorem dL_highestRank_3 : decode cL_highestRank 3 = .ok (.iload_n 1, 1) := by decide +kernel
theorem dL_highestRank_4 : decode cL_highestRank 4 = .ok (.iload_n 2, 1) := by decide +kernel
theorem dL_highestRank_5 : decode cL_highestRank 5 = .ok (.invokevirtual 51, 3) := by decide +kernel
theorem dL_highestRank_8 : decode cL_highestRank 8 = .ok (.i2l, 1) := by decide +kernel
theorem dL_highestRank_9 : decode cL_highestRank 9 = .ok (.lastore, 1) := by decide +kernel
theorem dL_highestRank_10 : decode cL_highestRank 10 = .ok (.goto 7, 3) := by decide +kernel
theorem dL_highestRank_13 : decode cL_highestRank 13 = .ok (.astore 4, 2) := by decide +kernel
theorem dL_highestRank_15 : decode cL_highestRank 15 = .ok (.iconst 1, 1) := by decide +kernel
theorem dL_highestRank_16 : decode cL_highestRank 16 = .ok (.ireturn, 1) := by decide +kernel
theorem dL_highestRank_17 : decode cL_highestRank 17 = .ok (.iconst 0, 1) := by decide +kernel
theorem dL_highestRank_18 : decode cL_highestRank 18 = .ok (.ireturn, 1) := by decide +kernel
set_option maxRecDepth 20000 in
theorem ggL_widest_X6_widest : GoodIn wsL_widest wsX6_widest := goodIn_ca (goodIn_r _ [6, 7, 8, 9, 5, 10, 11, 12, 13, 14, 15, 16, 17, 18, 19, 20, 21, 22, 23, 24, 25, 26, 27, 28, 29, 30, 31, 32, 33, 34, 35, 36, 37, 38, 39, 40, 41, 42, 43, 44, 45, 46, 47, 48, 49, 50, 51, 52, 53, 54, 55, 56, 57, 58] (by decide +kernel) (by decide +kernel)) (goodIn_sub (fun _ h => List.mem_cons_of_mem _ (List.mem_append_right _ h)) (by decide +kernel))
set_option maxRecDepth 20000 in
theorem gL_widest_X6_widest : GoodIn wsL_widest (wsV RL 54 RX6 yX6_widest wsX6_widest) := goodIn_app (goodIn_of _ (by decide +kernel)) ggL_widest_X6_widest
theorem dL_widest_0 : decode cL_widest 0 = .ok (.aload_n 2, 1) := by decide +kernel
theorem dL_widest_1 : decode cL_widest 1 = .ok (.iconst 0, 1) := by decide +kernel
theorem dL_widest_2 : decode cL_widest 2 = .ok (.aload_n 0, 1) := by decide +kernel
theorem dL_widest_3 : decode cL_widest 3 = .ok (.iload_n 1, 1) := by decide +kernel
theorem dL_widest_4 : decode cL_widest 4 = .ok (.invokevirtual 54, 3) := by decide +kernel
theorem dL_widest_7 : decode cL_widest 7 = .ok (.i2l, 1) := by decide +kernel
theorem dL_widest_8 : decode cL_widest 8 = .ok (.lastore, 1) := by decide +kernel
theorem dL_widest_9 : decode cL_widest 9 = .ok (.goto 6, 3) := by decide +kernel
theorem dL_widest_12 : decode cL_widest 12 = .ok (.astore_n 3, 1) := by decide +kernel
theorem dL_widest_13 : decode cL_widest 13 = .ok (.iconst 1, 1) := by decide +kernel
theorem dL_widest_14 : decode cL_widest 14 = .ok (.ireturn, 1) := by decide +kernel
theorem dL_widest_15 : decode cL_widest 15 = .ok (.iconst 0, 1) := by decide +kernel
theorem dL_widest_16 : decode cL_widest 16 = .ok (.ireturn, 1) := by decide +kernel
set_option maxRecDepth 20000 in
theorem ggL_ask_X6_ask : GoodIn wsL_ask wsX6_ask := goodIn_ca (goodIn_ca (goodIn_ca (goodIn_r _ [8, 9, 10, 11, 7, 12, 13, 14, 15, 16, 17, 18, 19, 20, 21, 22, 23, 24, 25, 26, 27, 28, 29, 30, 31, 32, 33, 34, 35, 36, 37, 38, 39, 40, 41, 42, 43, 44, 45, 46, 47, 48, 49, 50, 51, 52, 53, 54, 55, 56, 57, 58, 59, 60, 61, 62, 63, 64, 65, 66, 67, 68, 69, 70, 71, 72, 73, 74, 75, 76, 77, 78, 79, 80, 81, 82, 83, 84, 85, 86, 87, 88, 89, 90, 91, 92, 93, 94, 95, 96, 97, 98, 99, 100, 101, 102, 103, 104, 105, 106, 107, 108] (by decide +kernel) (by decide +kernel)) (goodIn_sub (fun _ h => List.mem_cons_of_mem _ (List.mem_append_left _ (List.mem_append_left _ (List.mem_append_right _ h)))) (by decide +kernel))) (goodIn_sub (fun _ h => List.mem_cons_of_mem _ (List.mem_append_left _ (List.mem_append_right _ h))) (by decide +kernel))) (goodIn_sub (fun _ h => List.mem_cons_of_mem _ (List.mem_append_right _ h)) (by decide +kernel))
set_option maxRecDepth 20000 in
theorem gL_ask_X6_ask : GoodIn wsL_ask (wsV RL 57 RX6 yX6_ask wsX6_ask) := goodIn_app (goodIn_of _ (by decide +kernel)) ggL_ask_X6_ask
theorem dL_ask_0 : decode cL_ask 0 = .ok (.aload_n 3, 1) := by decide +kernel
theorem dL_ask_1 : decode cL_ask 1 = .ok (.iconst 0, 1) := by decide +kernel
theorem dL_ask_2 : decode cL_ask 2 = .ok (.aload_n 0, 1) := by decide +kernel
theorem dL_ask_3 : decode cL_ask 3 = .ok (.iload_n 1, 1) := by decide +kernel
theorem dL_ask_4 : decode cL_ask 4 = .ok (.iload_n 2, 1) := by decide +kernel
theorem dL_ask_5 : decode cL_ask 5 = .ok (.invokevirtual 57, 3) := by decide +kernel
theorem dL_ask_8 : decode cL_ask 8 = .ok (.i2l, 1) := by decide +kernel
theorem dL_ask_9 : decode cL_ask 9 = .ok (.lastore, 1) := by decide +kernel
theorem dL_ask_10 : decode cL_ask 10 = .ok (.goto 15, 3) := by decide +kernel
theorem dL_ask_13 : decode cL_ask 13 = .ok (.astore 4, 2) := by decide +kernel
theorem dL_ask_15 : decode cL_ask 15 = .ok (.iconst 1, 1) := by decide +kernel
theorem dL_ask_16 : decode cL_ask 16 = .ok (.ireturn, 1) := by decide +kernel
theorem dL_ask_17 : decode cL_ask 17 = .ok (.astore 4, 2) := by decide +kernel
theorem dL_ask_19 : decode cL_ask 19 = .ok (.iconst 2, 1) := by decide +kernel
theorem dL_ask_20 : decode cL_ask 20 = .ok (.ireturn, 1) := by decide +kernel
theorem dL_ask_21 : decode cL_ask 21 = .ok (.astore 4, 2) := by decide +kernel
theorem dL_ask_23 : decode cL_ask 23 = .ok (.iconst 3, 1) := by decide +kernel
theorem dL_ask_24 : decode cL_ask 24 = .ok (.ireturn, 1) := by decide +kernel
theorem dL_ask_25 : decode cL_ask 25 = .ok (.iconst 0, 1) := by decide +kernel
theorem dL_ask_26 : decode cL_ask 26 = .ok (.ireturn, 1) := by decide +kernel
set_option maxRecDepth 20000 in
theorem ggL_off_X6_off : GoodIn wsL_off wsX6_off := goodIn_ca (goodIn_ca (goodIn_ca (goodIn_r _ [8, 9, 10, 11, 7, 12, 13, 14, 15, 16, 17, 18, 19, 20, 21, 22, 23, 24, 25, 26, 27, 28, 29, 30, 31, 32, 33, 34, 35, 36, 37, 38, 39, 40, 41, 42, 43, 44, 45, 46, 47, 48, 49, 50, 51, 52, 53, 54, 55, 56, 57, 58, 59, 60, 61, 62, 63, 64, 65, 66, 67, 68, 69, 70, 71, 72, 73, 74, 75, 76, 77, 78, 79, 80, 81, 82, 83, 84, 85, 86, 87, 88, 89, 90, 91, 92, 93, 94, 95, 96, 97, 98, 99, 100, 101, 102, 103, 104, 105] (by decide +kernel) (by decide +kernel)) (goodIn_sub (fun _ h => List.mem_cons_of_mem _ (List.mem_append_left _ (List.mem_append_left _ (List.mem_append_right _ h)))) (by decide +kernel))) (goodIn_sub (fun _ h => List.mem_cons_of_mem _ (List.mem_append_left _ (List.mem_append_right _ h))) (by decide +kernel))) (goodIn_sub (fun _ h => List.mem_cons_of_mem _ (List.mem_append_right _ h)) (by decide +kernel))
set_option maxRecDepth 20000 in
theorem gL_off_X6_off : GoodIn wsL_off (wsV RL 60 RX6 yX6_off wsX6_off) := goodIn_app (goodIn_of _ (by decide +kernel)) ggL_off_X6_off
theorem dL_off_0 : decode cL_off 0 = .ok (.aload_n 3, 1) := by decide +kernel
theorem dL_off_1 : decode cL_off 1 = .ok (.iconst 0, 1) := by decide +kernel
theorem dL_off_2 : decode cL_off 2 = .ok (.aload_n 0, 1) := by decide +kernel
theorem dL_off_3 : decode cL_off 3 = .ok (.iload_n 1, 1) := by decide +kernel
theorem dL_off_4 : decode cL_off 4 = .ok (.iload_n 2, 1) := by decide +kernel
theorem dL_off_5 : decode cL_off 5 = .ok (.invokevirtual 60, 3) := by decide +kernel
theorem dL_off_8 : decode cL_off 8 = .ok (.i2l, 1) := by decide +kernel
theorem dL_off_9 : decode cL_off 9 = .ok (.lastore, 1) := by decide +kernel
theorem dL_off_10 : decode cL_off 10 = .ok (.goto 15, 3) := by decide +kernel
theorem dL_off_13 : decode cL_off 13 = .ok (.astore 4, 2) := by decide +kernel
theorem dL_off_15 : decode cL_off 15 = .ok (.iconst 1, 1) := by decide +kernel
theorem dL_off_16 : decode cL_off 16 = .ok (.ireturn, 1) := by decide +kernel
theorem dL_off_17 : decode cL_off 17 = .ok (.astore 4, 2) := by decide +kernel
theorem dL_off_19 : decode cL_off 19 = .ok (.iconst 2, 1) := by decide +kernel
theorem dL_off_20 : decode cL_off 20 = .ok (.ireturn, 1) := by decide +kernel
theorem dL_off_21 : decode cL_off 21 = .ok (.astore 4, 2) := by decide +kernel
theorem dL_off_23 : decode cL_off 23 = .ok (.iconst 3, 1) := by decide +kernel
theorem dL_off_24 : decode cL_off 24 = .ok (.ireturn, 1) := by decide +kernel
theorem dL_off_25 : decode cL_off 25 = .ok (.iconst 0, 1) := by decide +kernel
theorem dL_off_26 : decode cL_off 26 = .ok (.ireturn, 1) := by decide +kernel
set_option maxRecDepth 20000 in
theorem ggL_reallyOff_X6_reallyOff : GoodIn wsL_reallyOff wsX6_reallyOff := goodIn_ca (goodIn_ca (goodIn_ca (goodIn_r _ [8, 9, 10, 11, 7, 12, 13, 14, 15, 16, 17, 18, 19, 20, 21, 22, 23, 24, 25, 26, 27, 28, 29, 30, 31, 32, 33, 34, 35, 36, 37, 38, 39, 40, 41, 42, 43, 44, 45, 46, 47, 48, 49, 50, 51, 52, 53, 54, 55, 56, 57, 58, 59, 60, 61, 62, 63, 64, 65, 66, 67, 68, 69, 70, 71, 72, 73, 74, 75, 76, 77, 78, 79, 80, 81, 82, 83, 84, 85, 86, 87, 88, 89, 90, 91, 92, 93, 94, 95, 96, 97, 98, 99, 100, 101, 102, 103, 104, 105, 106, 107, 108, 109, 110, 111, 112, 113, 114, 115, 116, 117, 118, 119] (by decide +kernel) (by decide +kernel)) (goodIn_sub (fun _ h => List.mem_cons_of_mem _ (List.mem_append_left _ (List.mem_append_left _ (List.mem_append_right _ h)))) (by decide +kernel))) (goodIn_sub (fun _ h => List.mem_cons_of_mem _ (List.mem_append_left _ (List.mem_append_right _ h))) (by decide +kernel))) (goodIn_sub (fun _ h => List.mem_cons_of_mem _ (List.mem_append_right _ h)) (by decide +kernel))
set_option maxRecDepth 20000 in
theorem gL_reallyOff_X6_reallyOff : GoodIn wsL_reallyOff (wsV RL 63 RX6 yX6_reallyOff wsX6_reallyOff) := goodIn_app (goodIn_of _ (by decide +kernel)) ggL_reallyOff_X6_reallyOff
theorem dL_reallyOff_0 : decode cL_reallyOff 0 = .ok (.aload_n 3, 1) := by decide +kernel
theorem dL_reallyOff_1 : decode cL_reallyOff 1 = .ok (.iconst 0, 1) := by decide +kernel
theorem dL_reallyOff_2 : decode cL_reallyOff 2 = .ok (.aload_n 0, 1) := by decide +kernel
theorem dL_reallyOff_3 : decode cL_reallyOff 3 = .ok (.iload_n 1, 1) := by decide +kernel
theorem dL_reallyOff_4 : decode cL_reallyOff 4 = .ok (.iload_n 2, 1) := by decide +kernel
theorem dL_reallyOff_5 : decode cL_reallyOff 5 = .ok (.invokevirtual 63, 3) := by decide +kernel
theorem dL_reallyOff_8 : decode cL_reallyOff 8 = .ok (.i2l, 1) := by decide +kernel
theorem dL_reallyOff_9 : decode cL_reallyOff 9 = .ok (.lastore, 1) := by decide +kernel
theorem dL_reallyOff_10 : decode cL_reallyOff 10 = .ok (.goto 15, 3) := by decide +kernel
theorem dL_reallyOff_13 : decode cL_reallyOff 13 = .ok (.astore 4, 2) := by decide +kernel
theorem dL_reallyOff_15 : decode cL_reallyOff 15 = .ok (.iconst 1, 1) := by decide +kernel
theorem dL_reallyOff_16 : decode cL_reallyOff 16 = .ok (.ireturn, 1) := by decide +kernel
theorem dL_reallyOff_17 : decode cL_reallyOff 17 = .ok (.astore 4, 2) := by decide +kernel
theorem dL_reallyOff_19 : decode cL_reallyOff 19 = .ok (.iconst 2, 1) := by decide +kernel
theorem dL_reallyOff_20 : decode cL_reallyOff 20 = .ok (.ireturn, 1) := by decide +kernel
theorem dL_reallyOff_21 : decode cL_reallyOff 21 = .ok (.astore 4, 2) := by decide +kernel
theorem dL_reallyOff_23 : decode cL_reallyOff 23 = .ok (.iconst 3, 1) := by decide +kernel
theorem dL_reallyOff_24 : decode cL_reallyOff 24 = .ok (.ireturn, 1) := by decide +kernel
theorem dL_reallyOff_25 : decode cL_reallyOff 25 = .ok (.iconst 0, 1) := by decide +kernel
theorem dL_reallyOff_26 : decode cL_reallyOff 26 = .ok (.ireturn, 1) := by decide +kernel
set_option maxRecDepth 20000 in
theorem ggL_atLeastUpTo_X6_atLeastUpTo : GoodIn wsL_atLeastUpTo wsX6_atLeastUpTo := goodIn_ca (goodIn_r _ [6, 7, 8, 9, 5, 10, 11, 12, 13, 14, 15, 16, 17, 18, 19, 20, 21, 22, 23, 24, 25, 26, 27, 28, 29, 30, 31, 32, 33, 34, 35, 36, 37, 38, 39, 40, 41, 42, 43, 44, 45, 46, 47, 48, 49] (by decide +kernel) (by decide +kernel)) (goodIn_sub (fun _ h => List.mem_cons_of_mem _ (List.mem_append_right _ h)) (by decide +kernel))
set_option maxRecDepth 20000 in
theorem gL_atLeastUpTo_X6_atLeastUpTo : GoodIn wsL_atLeastUpTo (wsV RL 66 RX6 yX6_atLeastUpTo wsX6_atLeastUpTo) := goodIn_app (goodIn_of _ (by decide +kernel)) ggL_atLeastUpTo_X6_atLeastUpTo
theorem dL_atLeastUpTo_0 : decode cL_atLeastUpTo 0 = .ok (.aload_n 3, 1) := by decide +kernel
theorem dL_atLeastUpTo_1 : decode cL_atLeastUpTo 1 = .ok (.iconst 0, 1) := by decide +kernel
theorem dL_atLeastUpTo_2 : decode cL_atLeastUpTo 2 = .ok (.aload_n 0, 1) := by decide +kernel
theorem dL_atLeastUpTo_3 : decode cL_atLeastUpTo 3 = .ok (.iload_n 1, 1) := by decide +kernel
theorem dL_atLeastUpTo_4 : decode cL_atLeastUpTo 4 = .ok (.iload_n 2, 1) := by decide +kernel
theorem dL_atLeastUpTo_5 : decode cL_atLeastUpTo 5 = .ok (.invokevirtual 66, 3) := by decide +kernel
theorem dL_atLeastUpTo_8 : decode cL_atLeastUpTo 8 = .ok (.i2l, 1) := by decide +kernel
theorem dL_atLeastUpTo_9 : decode cL_atLeastUpTo 9 = .ok (.lastore, 1) := by decide +kernel
theorem dL_atLeastUpTo_10 : decode cL_atLeastUpTo 10 = .ok (.goto 7, 3) := by decide +kernel
theorem dL_atLeastUpTo_13 : decode cL_atLeastUpTo 13 = .ok (.astore 4, 2) := by decide +kernel
theorem dL_atLeastUpTo_15 : decode cL_atLeastUpTo 15 = .ok (.iconst 1, 1) := by decide +kernel
theorem dL_atLeastUpTo_16 : decode cL_atLeastUpTo 16 = .ok (.ireturn, 1) := by decide +kernel
theorem dL_atLeastUpTo_17 : decode cL_atLeastUpTo 17 = .ok (.iconst 0, 1) := by decide +kernel
theorem dL_atLeastUpTo_18 : decode cL_atLeastUpTo 18 = .ok (.ireturn, 1) := by decide +kernel
set_option maxRecDepth 20000 in
theorem ggL_atMostUpTo_X6_atMostUpTo : GoodIn wsL_atMostUpTo wsX6_atMostUpTo := goodIn_ca (goodIn_r _ [6, 7, 8, 9, 5, 10, 11, 12, 13, 14, 15, 16, 17, 18, 19, 20, 21, 22, 23, 24, 25, 26, 27, 28, 29, 30, 31, 32, 33, 34, 35, 36, 37, 38, 39, 40, 41, 42, 43, 44, 45, 46, 47, 48, 49, 50, 51, 52, 53, 54, 55, 56, 57, 58, 59, 60, 61, 62, 63, 64, 65, 66, 67, 68, 69, 70, 71, 72, 73, 74, 75, 76] (by decide +kernel) (by decide +kernel)) (goodIn_sub (fun _ h => List.mem_cons_of_mem _ (List.mem_append_right _ h)) (by decide +kernel))
set_option maxRecDepth 20000 in
theorem gL_atMostUpTo_X6_atMostUpTo : GoodIn wsL_atMostUpTo (wsV RL 69 RX6 yX6_atMostUpTo wsX6_atMostUpTo) := goodIn_app (goodIn_of _ (by decide +kernel)) ggL_atMostUpTo_X6_atMostUpTo
theorem dL_atMostUpTo_0 : decode cL_atMostUpTo 0 = .ok (.aload_n 3, 1) := by decide +kernel
theorem dL_atMostUpTo_1 : decode cL_atMostUpTo 1 = .ok (.iconst 0, 1) := by decide +kernel
theorem dL_atMostUpTo_2 : decode cL_atMostUpTo 2 = .ok (.aload_n 0, 1) := by decide +kernel
theorem dL_atMostUpTo_3 : decode cL_atMostUpTo 3 = .ok (.iload_n 1, 1) := by decide +kernel
theorem dL_atMostUpTo_4 : decode cL_atMostUpTo 4 = .ok (.iload_n 2, 1) := by decide +kernel
theorem dL_atMostUpTo_5 : decode cL_atMostUpTo 5 = .ok (.invokevirtual 69, 3) := by decide +kernel
theorem dL_atMostUpTo_8 : decode cL_atMostUpTo 8 = .ok (.i2l, 1) := by decide +kernel
theorem dL_atMostUpTo_9 : decode cL_atMostUpTo 9 = .ok (.lastore, 1) := by decide +kernel
theorem dL_atMostUpTo_10 : decode cL_atMostUpTo 10 = .ok (.goto 7, 3) := by decide +kernel
theorem dL_atMostUpTo_13 : decode cL_atMostUpTo 13 = .ok (.astore 4, 2) := by decide +kernel
theorem dL_atMostUpTo_15 : decode cL_atMostUpTo 15 = .ok (.iconst 1, 1) := by decide +kernel
theorem dL_atMostUpTo_16 : decode cL_atMostUpTo 16 = .ok (.ireturn, 1) := by decide +kernel
theorem dL_atMostUpTo_17 : decode cL_atMostUpTo 17 = .ok (.iconst 0, 1) := by decide +kernel
theorem dL_atMostUpTo_18 : decode cL_atMostUpTo 18 = .ok (.ireturn, 1) := by decide +kernel
set_option maxRecDepth 20000 in
theorem ggL_reallyUpTo_X6_reallyUpTo : GoodIn wsL_reallyUpTo wsX6_reallyUpTo := goodIn_ca (goodIn_r _ [6, 7, 8, 9, 5, 10, 11, 12, 13, 14, 15, 16, 17, 18, 19, 20, 21, 22, 23, 24, 25, 26, 27, 28, 29, 30, 31, 32, 33, 34, 35, 36, 37, 38, 39, 40, 41, 42, 43, 44, 45, 46, 47, 48, 49] (by decide +kernel) (by decide +kernel)) (goodIn_sub (fun _ h => List.mem_cons_of_mem _ (List.mem_append_right _ h)) (by decide +kernel))
set_option maxRecDepth 20000 in
theorem gL_reallyUpTo_X6_reallyUpTo : GoodIn wsL_reallyUpTo (wsV RL 72 RX6 yX6_reallyUpTo wsX6_reallyUpTo) := goodIn_app (goodIn_of _ (by decide +kernel)) ggL_reallyUpTo_X6_reallyUpTo
theorem dL_reallyUpTo_0 : decode cL_reallyUpTo 0 = .ok (.aload_n 3, 1) := by decide +kernel
theorem dL_reallyUpTo_1 : decode cL_reallyUpTo 1 = .ok (.iconst 0, 1) := by decide +kernel
theorem dL_reallyUpTo_2 : decode cL_reallyUpTo 2 = .ok (.aload_n 0, 1) := by decide +kernel
theorem dL_reallyUpTo_3 : decode cL_reallyUpTo 3 = .ok (.iload_n 1, 1) := by decide +kernel
theorem dL_reallyUpTo_4 : decode cL_reallyUpTo 4 = .ok (.iload_n 2, 1) := by decide +kernel
theorem dL_reallyUpTo_5 : decode cL_reallyUpTo 5 = .ok (.invokevirtual 72, 3) := by decide +kernel
theorem dL_reallyUpTo_8 : decode cL_reallyUpTo 8 = .ok (.i2l, 1) := by decide +kernel
theorem dL_reallyUpTo_9 : decode cL_reallyUpTo 9 = .ok (.lastore, 1) := by decide +kernel
theorem dL_reallyUpTo_10 : decode cL_reallyUpTo 10 = .ok (.goto 7, 3) := by decide +kernel
theorem dL_reallyUpTo_13 : decode cL_reallyUpTo 13 = .ok (.astore 4, 2) := by decide +kernel
theorem dL_reallyUpTo_15 : decode cL_reallyUpTo 15 = .ok (.iconst 1, 1) := by decide +kernel
theorem dL_reallyUpTo_16 : decode cL_reallyUpTo 16 = .ok (.ireturn, 1) := by decide +kernel
theorem dL_reallyUpTo_17 : decode cL_reallyUpTo 17 = .ok (.iconst 0, 1) := by decide +kernel
theorem dL_reallyUpTo_18 : decode cL_reallyUpTo 18 = .ok (.ireturn, 1) := by decide +kernel
set_option maxRecDepth 20000 in
theorem ggL_middle_X6_middle : GoodIn wsL_middle wsX6_middle := goodIn_ca (goodIn_ca (goodIn_r _ [7, 8, 9, 10, 6, 11, 12, 13, 14, 15, 16, 17, 18, 19, 20, 21, 22, 23, 24, 25, 26, 27, 28, 29, 30, 31, 32, 33, 34, 35, 36, 37, 38, 39, 40, 41, 42, 43, 44, 45, 46, 47, 48, 49, 50, 51, 52, 53, 54, 55, 56, 57, 58, 59, 60] (by decide +kernel) (by decide +kernel)) (goodIn_sub (fun _ h => List.mem_cons_of_mem _ (List.mem_append_left _ (List.mem_append_right _ h))) (by decide +kernel))) (goodIn_sub (fun _ h => List.mem_cons_of_mem _ (List.mem_append_right _ h)) (by decide +kernel))
set_option maxRecDepth 20000 in
theorem gL_middle_X6_middle : GoodIn wsL_middle (wsV RL 75 RX6 yX6_middle wsX6_middle) := goodIn_app (goodIn_of _ (by decide +kernel)) ggL_middle_X6_middle
theorem dL_middle_0 : decode cL_middle 0 = .ok (.aload_n 2, 1) := by decide +kernel
theorem dL_middle_1 : decode cL_middle 1 = .ok (.iconst 0, 1) := by decide +kernel
theorem dL_middle_2 : decode cL_middle 2 = .ok (.aload_n 0, 1) := by decide +kernel
theorem dL_middle_3 : decode cL_middle 3 = .ok (.iload_n 1, 1) := by decide +kernel
theorem dL_middle_4 : decode cL_middle 4 = .ok (.invokevirtual 75, 3) := by decide +kernel
theorem dL_middle_7 : decode cL_middle 7 = .ok (.i2l, 1) := by decide +kernel
theorem dL_middle_8 : decode cL_middle 8 = .ok (.lastore, 1) := by decide +kernel
theorem dL_middle_9 : decode cL_middle 9 = .ok (.goto 9, 3) := by decide +kernel
theorem dL_middle_12 : decode cL_middle 12 = .ok (.astore_n 3, 1) := by decide +kernel
theorem dL_middle_13 : decode cL_middle 13 = .ok (.iconst 1, 1) := by decide +kernel
theorem dL_middle_14 : decode cL_middle 14 = .ok (.ireturn, 1) := by decide +kernel
theorem dL_middle_15 : decode cL_middle 15 = .ok (.astore_n 3, 1) := by decide +kernel
theorem dL_middle_16 : decode cL_middle 16 = .ok (.iconst 2, 1) := by decide +kernel
theorem dL_middle_17 : decode cL_middle 17 = .ok (.ireturn, 1) := by decide +kernel
theorem dL_middle_18 : decode cL_middle 18 = .ok (.iconst 0, 1) := by decide +kernel
theorem dL_middle_19 : decode cL_middle 19 = .ok (.ireturn, 1) := by decide +kernel
set_option maxRecDepth 20000 in
theorem ggL_middleByHeaps_X6_middleByHeaps : GoodIn wsL_middleByHeaps wsX6_middleByHeaps := goodIn_ca (goodIn_ca (goodIn_r _ [7, 8, 9, 10, 6, 11, 12, 13, 14, 15, 16, 17, 18, 19, 20, 21, 22, 23, 24, 25, 26, 27, 28, 29, 30, 31, 32, 33, 34, 35, 36, 37, 38, 39, 40, 41, 42, 43, 44, 45, 46, 47, 48, 49, 50, 51, 52, 53, 54, 55, 56, 57, 58, 59, 60, 61, 62, 63, 64] (by decide +kernel) (by decide +kernel)) (goodIn_sub (fun _ h => List.mem_cons_of_mem _ (List.mem_append_left _ (List.mem_append_right _ h))) (by decide +kernel))) (goodIn_sub (fun _ h => List.mem_cons_of_mem _ (List.mem_append_right _ h)) (by decide +kernel))
set_option maxRecDepth 20000 in
theorem gL_middleByHeaps_X6_middleByHeaps : GoodIn wsL_middleByHeaps (wsV RL 78 RX6 yX6_middleByHeaps wsX6_middleByHeaps) := goodIn_app (goodIn_of _ (by decide +kernel)) ggL_middleByHeaps_X6_middleByHeaps
theorem dL_middleByHeaps_0 : decode cL_middleByHeaps 0 = .ok (.aload_n 2, 1) := by decide +kernel
theorem dL_middleByHeaps_1 : decode cL_middleByHeaps 1 = .ok (.iconst 0, 1) := by decide +kernel
theorem dL_middleByHeaps_2 : decode cL_middleByHeaps 2 = .ok (.aload_n 0, 1) := by decide +kernel
theorem dL_middleByHeaps_3 : decode cL_middleByHeaps 3 = .ok (.iload_n 1, 1) := by decide +kernel
theorem dL_middleByHeaps_4 : decode cL_middleByHeaps 4 = .ok (.invokevirtual 78, 3) := by decide +kernel
theorem dL_middleByHeaps_7 : decode cL_middleByHeaps 7 = .ok (.i2l, 1) := by decide +kernel
theorem dL_middleByHeaps_8 : decode cL_middleByHeaps 8 = .ok (.lastore, 1) := by decide +kernel
theorem dL_middleByHeaps_9 : decode cL_middleByHeaps 9 = .ok (.goto 9, 3) := by decide +kernel
theorem dL_middleByHeaps_12 : decode cL_middleByHeaps 12 = .ok (.astore_n 3, 1) := by decide +kernel
theorem dL_middleByHeaps_13 : decode cL_middleByHeaps 13 = .ok (.iconst 1, 1) := by decide +kernel
theorem dL_middleByHeaps_14 : decode cL_middleByHeaps 14 = .ok (.ireturn, 1) := by decide +kernel
theorem dL_middleByHeaps_15 : decode cL_middleByHeaps 15 = .ok (.astore_n 3, 1) := by decide +kernel
theorem dL_middleByHeaps_16 : decode cL_middleByHeaps 16 = .ok (.iconst 2, 1) := by decide +kernel
theorem dL_middleByHeaps_17 : decode cL_middleByHeaps 17 = .ok (.ireturn, 1) := by decide +kernel
theorem dL_middleByHeaps_18 : decode cL_middleByHeaps 18 = .ok (.iconst 0, 1) := by decide +kernel
theorem dL_middleByHeaps_19 : decode cL_middleByHeaps 19 = .ok (.ireturn, 1) := by decide +kernel
set_option maxRecDepth 20000 in
theorem ggL_part_X6_part : GoodIn wsL_part wsX6_part := goodIn_ca (goodIn_r _ [6, 7, 8, 9, 5, 10, 11, 12, 13, 14, 15, 16, 17, 18, 19, 20, 21, 22, 23, 24, 25, 26, 27, 28, 29, 30, 31, 32, 33, 34, 35, 36, 37, 38, 39, 40, 41, 42, 43, 44] (by decide +kernel) (by decide +kernel)) (goodIn_sub (fun _ h => List.mem_cons_of_mem _ (List.mem_append_right _ h)) (by decide +kernel))
set_option maxRecDepth 20000 in
theorem gL_part_X6_part : GoodIn wsL_part (wsV RL 81 RX6 yX6_part wsX6_part) := goodIn_app (goodIn_of _ (by decide +kernel)) ggL_part_X6_part
theorem dL_part_0 : decode cL_part 0 = .ok (.aload_n 2, 1) := by decide +kernel
theorem dL_part_1 : decode cL_part 1 = .ok (.iconst 0, 1) := by decide +kernel
theorem dL_part_2 : decode cL_part 2 = .ok (.aload_n 0, 1) := by decide +kernel
theorem dL_part_3 : decode cL_part 3 = .ok (.iload_n 1, 1) := by decide +kernel
theorem dL_part_4 : decode cL_part 4 = .ok (.invokevirtual 81, 3) := by decide +kernel
theorem dL_part_7 : decode cL_part 7 = .ok (.dastore, 1) := by decide +kernel
theorem dL_part_8 : decode cL_part 8 = .ok (.goto 6, 3) := by decide +kernel
theorem dL_part_11 : decode cL_part 11 = .ok (.astore_n 3, 1) := by decide +kernel
theorem dL_part_12 : decode cL_part 12 = .ok (.iconst 1, 1) := by decide +kernel
theorem dL_part_13 : decode cL_part 13 = .ok (.ireturn, 1) := by decide +kernel
theorem dL_part_14 : decode cL_part 14 = .ok (.iconst 0, 1) := by decide +kernel
theorem dL_part_15 : decode cL_part 15 = .ok (.ireturn, 1) := by decide +kernel
abbrev vwCl : List vw_C := [(RX0, TX0, 4), (RX1, TX1, 2), (RX2, TX2, 1), (RX3, TX3, 3), (RX4, TX4, 2), (RX5, TX5, 3), (RX6, TX6, 1), (RX7, TX7, 11)]
