set_option maxRecDepth 20000 in
theorem ggX8_init_X6_init : GoodIn wsX8_init wsX6_init := goodIn_r _ [38, 39, 2, 3, 40, 41, 97, 98] (by decide +kernel) (by decide +kernel)
set_option maxRecDepth 20000 in
theorem gX8_init_X6_init_n9 : GoodIn wsX8_init (wsX6_init) := ggX8_init_X6_init
set_option maxRecDepth 20000 in
theorem ggX8_init_X1_init : GoodIn wsX8_init wsX1_init := goodIn_r _ [43, 44, 2, 3, 40, 45, 46, 47, 48, 49, 108, 109, 110, 111, 112, 113, 114, 115] (by decide +kernel) (by decide +kernel)
set_option maxRecDepth 20000 in
theorem gX8_init_X1_init_n18 : GoodIn wsX8_init (wsX1_init) := ggX8_init_X1_init
set_option maxRecDepth 20000 in
theorem ggX8_init_X4_init : GoodIn wsX8_init wsX4_init := goodIn_r _ [52, 53, 2, 3, 40, 54, 55, 56, 57, 116, 117, 118, 119, 120, 121] (by decide +kernel) (by decide +kernel)
set_option maxRecDepth 20000 in
theorem gX8_init_X4_init : GoodIn wsX8_init (wsX4_init) := ggX8_init_X4_init
set_option maxRecDepth 20000 in
theorem ggX8_init_X0_init : GoodIn wsX8_init wsX0_init := goodIn_r _ [60, 61, 2, 3, 62, 63, 14, 15, 64, 51, 52, 53, 40, 54, 55, 56, 57, 122, 123, 124, 116, 117, 118, 119, 120, 121] (by decide +kernel) (by decide +kernel)
set_option maxRecDepth 20000 in
theorem gX8_init_X0_init : GoodIn wsX8_init (wsX0_init) := ggX8_init_X0_init
set_option maxRecDepth 20000 in
theorem ggX8_init_X5_init : GoodIn wsX8_init wsX5_init := goodIn_r _ [67, 68, 2, 3, 69, 70, 14, 15, 71, 72, 73, 51, 52, 53, 40, 54, 55, 56, 57, 125, 126, 127, 116, 117, 118, 119, 120, 121] (by decide +kernel) (by decide +kernel)
set_option maxRecDepth 20000 in
theorem gX8_init_X5_init : GoodIn wsX8_init (wsX5_init) := ggX8_init_X5_init
set_option maxRecDepth 20000 in
theorem ggX8_init_X2_init : GoodIn wsX8_init wsX2_init := goodIn_r _ [76, 77, 2, 3, 78, 79, 14, 15, 80, 81, 51, 52, 53, 40, 54, 55, 56, 57, 128, 129, 130, 116, 117, 118, 119, 120, 121] (by decide +kernel) (by decide +kernel)
set_option maxRecDepth 20000 in
theorem gX8_init_X2_init : GoodIn wsX8_init (wsX2_init) := ggX8_init_X2_init
set_option maxRecDepth 20000 in
theorem ggX8_init_X3_init : GoodIn wsX8_init wsX3_init := goodIn_r _ [83, 84, 2, 3, 40, 85, 86, 87, 131, 132, 133, 134] (by decide +kernel) (by decide +kernel)
set_option maxRecDepth 20000 in
theorem gX8_init_X3_init_n58 : GoodIn wsX8_init (wsX3_init) := ggX8_init_X3_init
set_option maxRecDepth 20000 in
theorem ggX8_init_X7_init : GoodIn wsX8_init wsX7_init := goodIn_r _ [90, 91, 2, 3, 92, 93, 94, 95, 14, 15, 96, 51, 52, 53, 40, 54, 55, 56, 57, 135, 136, 116, 117, 118, 119, 120, 121] (by decide +kernel) (by decide +kernel)
set_option maxRecDepth 20000 in
theorem gX8_init_X7_init : GoodIn wsX8_init (wsX7_init) := ggX8_init_X7_init
theorem dX8_init_0 : decode cX8_init 0 = .ok (.aload_n 0, 1) := by decide +kernel
theorem dX8_init_1 : decode cX8_init 1 = .ok (.invokespecial 1, 3) := by decide +kernel
theorem dX8_init_4 : decode cX8_init 4 = .ok (.aload_n 0, 1) := by decide +kernel
theorem dX8_init_5 : decode cX8_init 5 = .ok (.new 7, 3) := by decide +kernel
theorem dX8_init_8 : decode cX8_init 8 = .ok (.dup, 1) := by decide +kernel
theorem dX8_init_9 : decode cX8_init 9 = .ok (.invokespecial 9, 3) := by decide +kernel
theorem dX8_init_12 : decode cX8_init 12 = .ok (.putfield 10, 3) := by decide +kernel
theorem dX8_init_15 : decode cX8_init 15 = .ok (.aload_n 0, 1) := by decide +kernel
theorem dX8_init_16 : decode cX8_init 16 = .ok (.new 16, 3) := by decide +kernel
theorem dX8_init_19 : decode cX8_init 19 = .ok (.dup, 1) := by decide +kernel
theorem dX8_init_20 : decode cX8_init 20 = .ok (.invokespecial 18, 3) := by decide +kernel
theorem dX8_init_23 : decode cX8_init 23 = .ok (.putfield 19, 3) := by decide +kernel
theorem dX8_init_26 : decode cX8_init 26 = .ok (.aload_n 0, 1) := by decide +kernel
theorem dX8_init_27 : decode cX8_init 27 = .ok (.new 16, 3) := by decide +kernel
theorem dX8_init_30 : decode cX8_init 30 = .ok (.dup, 1) := by decide +kernel
theorem dX8_init_31 : decode cX8_init 31 = .ok (.invokespecial 18, 3) := by decide +kernel
theorem dX8_init_34 : decode cX8_init 34 = .ok (.putfield 23, 3) := by decide +kernel
theorem dX8_init_37 : decode cX8_init 37 = .ok (.aload_n 0, 1) := by decide +kernel
theorem dX8_init_38 : decode cX8_init 38 = .ok (.new 26, 3) := by decide +kernel
theorem dX8_init_41 : decode cX8_init 41 = .ok (.dup, 1) := by decide +kernel
theorem dX8_init_42 : decode cX8_init 42 = .ok (.aload_n 0, 1) := by decide +kernel
theorem dX8_init_43 : decode cX8_init 43 = .ok (.getfield 19, 3) := by decide +kernel
theorem dX8_init_46 : decode cX8_init 46 = .ok (.invokespecial 28, 3) := by decide +kernel
theorem dX8_init_49 : decode cX8_init 49 = .ok (.putfield 31, 3) := by decide +kernel
theorem dX8_init_52 : decode cX8_init 52 = .ok (.aload_n 0, 1) := by decide +kernel
theorem dX8_init_53 : decode cX8_init 53 = .ok (.new 35, 3) := by decide +kernel
theorem dX8_init_56 : decode cX8_init 56 = .ok (.dup, 1) := by decide +kernel
theorem dX8_init_57 : decode cX8_init 57 = .ok (.aload_n 0, 1) := by decide +kernel
theorem dX8_init_58 : decode cX8_init 58 = .ok (.getfield 19, 3) := by decide +kernel
theorem dX8_init_61 : decode cX8_init 61 = .ok (.invokespecial 37, 3) := by decide +kernel
theorem dX8_init_64 : decode cX8_init 64 = .ok (.putfield 38, 3) := by decide +kernel
theorem dX8_init_67 : decode cX8_init 67 = .ok (.aload_n 0, 1) := by decide +kernel
theorem dX8_init_68 : decode cX8_init 68 = .ok (.new 42, 3) := by decide +kernel
theorem dX8_init_71 : decode cX8_init 71 = .ok (.dup, 1) := by decide +kernel
theorem dX8_init_72 : decode cX8_init 72 = .ok (.aload_n 0, 1) := by decide +kernel
theorem dX8_init_73 : decode cX8_init 73 = .ok (.getfield 19, 3) := by decide +kernel
theorem dX8_init_76 : decode cX8_init 76 = .ok (.invokespecial 44, 3) := by decide +kernel
theorem dX8_init_79 : decode cX8_init 79 = .ok (.putfield 45, 3) := by decide +kernel
theorem dX8_init_82 : decode cX8_init 82 = .ok (.aload_n 0, 1) := by decide +kernel
theorem dX8_init_83 : decode cX8_init 83 = .ok (.new 49, 3) := by decide +kernel
theorem dX8_init_86 : decode cX8_init 86 = .ok (.dup, 1) := by decide +kernel
theorem dX8_init_87 : decode cX8_init 87 = .ok (.aload_n 0, 1) := by decide +kernel
theorem dX8_init_88 : decode cX8_init 88 = .ok (.getfield 19, 3) := by decide +kernel
theorem dX8_init_91 : decode cX8_init 91 = .ok (.invokespecial 51, 3) := by decide +kernel
theorem dX8_init_94 : decode cX8_init 94 = .ok (.putfield 52, 3) := by decide +kernel
theorem dX8_init_97 : decode cX8_init 97 = .ok (.aload_n 0, 1) := by decide +kernel
theorem dX8_init_98 : decode cX8_init 98 = .ok (.new 56, 3) := by decide +kernel
theorem dX8_init_101 : decode cX8_init 101 = .ok (.dup, 1) := by decide +kernel
theorem dX8_init_102 : decode cX8_init 102 = .ok (.invokespecial 58, 3) := by decide +kernel
theorem dX8_init_105 : decode cX8_init 105 = .ok (.putfield 59, 3) := by decide +kernel
theorem dX8_init_108 : decode cX8_init 108 = .ok (.aload_n 0, 1) := by decide +kernel
theorem dX8_init_109 : decode cX8_init 109 = .ok (.new 63, 3) := by decide +kernel
theorem dX8_init_112 : decode cX8_init 112 = .ok (.dup, 1) := by decide +kernel
theorem dX8_init_113 : decode cX8_init 113 = .ok (.aload_n 0, 1) := by decide +kernel
theorem dX8_init_114 : decode cX8_init 114 = .ok (.getfield 19, 3) := by decide +kernel
theorem dX8_init_117 : decode cX8_init 117 = .ok (.invokespecial 65, 3) := by decide +kernel
theorem dX8_init_120 : decode cX8_init 120 = .ok (.putfield 66, 3) := by decide +kernel
theorem dX8_init_123 : decode cX8_init 123 = .ok (.return_, 1) := by decide +kernel
set_option maxRecDepth 20000 in
theorem ggX8_write_X6_append : GoodIn wsX8_write wsX6_append := goodIn_r _ [6, 7, 8, 18, 19] (by decide +kernel) (by decide +kernel)
set_option maxRecDepth 20000 in
theorem gX8_write_X6_append : GoodIn wsX8_write (wsV RX8 70 RX6 yX6_append wsX6_append) := goodIn_app (goodIn_of _ (by decide +kernel)) ggX8_write_X6_append
theorem dX8_write_0 : decode cX8_write 0 = .ok (.iload_n 1, 1) := by decide +kernel
theorem dX8_write_1 : decode cX8_write 1 = .ok (.ifCond .lt 10, 3) := by decide +kernel
theorem dX8_write_4 : decode cX8_write 4 = .ok (.iload_n 1, 1) := by decide +kernel
theorem dX8_write_5 : decode cX8_write 5 = .ok (.sipush 255, 3) := by decide +kernel
theorem dX8_write_8 : decode cX8_write 8 = .ok (.if_icmp .le 6, 3) := by decide +kernel
theorem dX8_write_11 : decode cX8_write 11 = .ok (.bipush (-2), 2) := by decide +kernel
theorem dX8_write_13 : decode cX8_write 13 = .ok (.ireturn, 1) := by decide +kernel
theorem dX8_write_14 : decode cX8_write 14 = .ok (.aload_n 0, 1) := by decide +kernel
theorem dX8_write_15 : decode cX8_write 15 = .ok (.getfield 10, 3) := by decide +kernel
theorem dX8_write_18 : decode cX8_write 18 = .ok (.iload_n 1, 1) := by decide +kernel
theorem dX8_write_19 : decode cX8_write 19 = .ok (.invokevirtual 70, 3) := by decide +kernel
theorem dX8_write_22 : decode cX8_write 22 = .ok (.ireturn, 1) := by decide +kernel
set_option maxRecDepth 20000 in
theorem ggX8_wipe_X6_empty : GoodIn wsX8_wipe wsX6_empty := goodIn_r _ [6, 7, 17, 18] (by decide +kernel) (by decide +kernel)
set_option maxRecDepth 20000 in
theorem gX8_wipe_X6_empty : GoodIn wsX8_wipe (wsV RX8 74 RX6 yX6_empty wsX6_empty) := goodIn_app (goodIn_of _ (by decide +kernel)) ggX8_wipe_X6_empty
theorem dX8_wipe_0 : decode cX8_wipe 0 = .ok (.aload_n 0, 1) := by decide +kernel
theorem dX8_wipe_1 : decode cX8_wipe 1 = .ok (.getfield 10, 3) := by decide +kernel
theorem dX8_wipe_4 : decode cX8_wipe 4 = .ok (.invokevirtual 74, 3) := by decide +kernel
theorem dX8_wipe_7 : decode cX8_wipe 7 = .ok (.ireturn, 1) := by decide +kernel
set_option maxRecDepth 20000 in
theorem ggX8_fault_X6_tellTo : GoodIn wsX8_fault wsX6_tellTo := goodIn_r _ [7, 8, 9, 10, 11, 12, 13, 14, 15, 16, 17, 18, 19, 20, 6, 21, 22, 23, 24, 25, 26, 27, 28, 29, 30, 31, 32, 33, 34, 35, 36, 37, 38, 39, 40, 41, 42, 43, 44, 45, 46, 47, 48, 49, 50, 51, 61, 62, 63, 64, 65, 66, 67, 68, 69, 70] (by decide +kernel) (by decide +kernel)
set_option maxRecDepth 20000 in
theorem gX8_fault_X6_tellTo : GoodIn wsX8_fault (wsV RX8 78 RX6 yX6_tellTo wsX6_tellTo) := goodIn_app (goodIn_of _ (by decide +kernel)) ggX8_fault_X6_tellTo
theorem dX8_fault_0 : decode cX8_fault 0 = .ok (.aload_n 0, 1) := by decide +kernel
theorem dX8_fault_1 : decode cX8_fault 1 = .ok (.getfield 10, 3) := by decide +kernel
theorem dX8_fault_4 : decode cX8_fault 4 = .ok (.aload_n 0, 1) := by decide +kernel
theorem dX8_fault_5 : decode cX8_fault 5 = .ok (.getfield 23, 3) := by decide +kernel
theorem dX8_fault_8 : decode cX8_fault 8 = .ok (.invokevirtual 78, 3) := by decide +kernel
theorem dX8_fault_11 : decode cX8_fault 11 = .ok (.ireturn, 1) := by decide +kernel
set_option maxRecDepth 20000 in
theorem ggX8_house_X6_tellTo : GoodIn wsX8_house wsX6_tellTo := goodIn_r _ [13, 14, 15, 16, 17, 18, 19, 20, 21, 22, 23, 24, 25, 26, 12, 27, 28, 29, 30, 31, 32, 33, 34, 35, 36, 37, 38, 39, 40, 41, 42, 43, 44, 45, 46, 47, 48, 49, 50, 51, 52, 53, 54, 55, 56, 57, 105, 106, 97, 98, 99, 100, 101, 102, 103, 104] (by decide +kernel) (by decide +kernel)
set_option maxRecDepth 20000 in
theorem gX8_house_X6_tellTo : GoodIn wsX8_house (wsV RX8 78 RX6 yX6_tellTo wsX6_tellTo) := goodIn_app (goodIn_of _ (by decide +kernel)) ggX8_house_X6_tellTo
set_option maxRecDepth 20000 in
theorem ggX8_house_X4_begin : GoodIn wsX8_house wsX4_begin := goodIn_r _ [62, 63, 64, 65, 66, 67, 68, 69, 70, 71, 72, 73, 74, 107, 108, 109, 110, 111, 112, 97, 98, 99, 100, 101, 102, 103, 104] (by decide +kernel) (by decide +kernel)
set_option maxRecDepth 20000 in
theorem gX8_house_X4_begin : GoodIn wsX8_house (wsV RX8 82 RX4 yX4_begin wsX4_begin) := goodIn_app (goodIn_of _ (by decide +kernel)) ggX8_house_X4_begin
set_option maxRecDepth 20000 in
theorem ggX8_house_X0_forget : GoodIn wsX8_house wsX0_forget := goodIn_r _ [79, 80, 81, 113, 114, 115] (by decide +kernel) (by decide +kernel)
set_option maxRecDepth 20000 in
theorem gX8_house_X0_forget : GoodIn wsX8_house (wsV RX8 85 RX0 yX0_forget wsX0_forget) := goodIn_app (goodIn_of _ (by decide +kernel)) ggX8_house_X0_forget
set_option maxRecDepth 20000 in
theorem ggX8_house_X7_forget : GoodIn wsX8_house wsX7_forget := goodIn_r _ [86, 87, 116, 117] (by decide +kernel) (by decide +kernel)
set_option maxRecDepth 20000 in
theorem gX8_house_X7_forget : GoodIn wsX8_house (wsV RX8 88 RX7 yX7_forget wsX7_forget) := goodIn_app (goodIn_of _ (by decide +kernel)) ggX8_house_X7_forget
theorem dX8_house_0 : decode cX8_house 0 = .ok (.aload_n 0, 1) := by decide +kernel
theorem dX8_house_1 : decode cX8_house 1 = .ok (.getfield 10, 3) := by decide +kernel
theorem dX8_house_4 : decode cX8_house 4 = .ok (.aload_n 0, 1) := by decide +kernel
theorem dX8_house_5 : decode cX8_house 5 = .ok (.getfield 23, 3) := by decide +kernel
theorem dX8_house_8 : decode cX8_house 8 = .ok (.invokevirtual 78, 3) := by decide +kernel
theorem dX8_house_11 : decode cX8_house 11 = .ok (.bipush (-9), 2) := by decide +kernel
theorem dX8_house_13 : decode cX8_house 13 = .ok (.if_icmp .eq 6, 3) := by decide +kernel
theorem dX8_house_16 : decode cX8_house 16 = .ok (.bipush (-3), 2) := by decide +kernel
theorem dX8_house_18 : decode cX8_house 18 = .ok (.ireturn, 1) := by decide +kernel
theorem dX8_house_19 : decode cX8_house 19 = .ok (.aload_n 0, 1) := by decide +kernel
theorem dX8_house_20 : decode cX8_house 20 = .ok (.getfield 10, 3) := by decide +kernel
theorem dX8_house_23 : decode cX8_house 23 = .ok (.aload_n 0, 1) := by decide +kernel
theorem dX8_house_24 : decode cX8_house 24 = .ok (.getfield 19, 3) := by decide +kernel
theorem dX8_house_27 : decode cX8_house 27 = .ok (.invokevirtual 78, 3) := by decide +kernel
theorem dX8_house_30 : decode cX8_house 30 = .ok (.pop, 1) := by decide +kernel
theorem dX8_house_31 : decode cX8_house 31 = .ok (.aload_n 0, 1) := by decide +kernel
theorem dX8_house_32 : decode cX8_house 32 = .ok (.getfield 31, 3) := by decide +kernel
theorem dX8_house_35 : decode cX8_house 35 = .ok (.invokevirtual 82, 3) := by decide +kernel
theorem dX8_house_38 : decode cX8_house 38 = .ok (.aload_n 0, 1) := by decide +kernel
theorem dX8_house_39 : decode cX8_house 39 = .ok (.getfield 38, 3) := by decide +kernel
theorem dX8_house_42 : decode cX8_house 42 = .ok (.invokevirtual 85, 3) := by decide +kernel
theorem dX8_house_45 : decode cX8_house 45 = .ok (.aload_n 0, 1) := by decide +kernel
theorem dX8_house_46 : decode cX8_house 46 = .ok (.getfield 66, 3) := by decide +kernel
theorem dX8_house_49 : decode cX8_house 49 = .ok (.invokevirtual 88, 3) := by decide +kernel
theorem dX8_house_52 : decode cX8_house 52 = .ok (.bipush 10, 2) := by decide +kernel
theorem dX8_house_54 : decode cX8_house 54 = .ok (.aload_n 0, 1) := by decide +kernel
theorem dX8_house_55 : decode cX8_house 55 = .ok (.getfield 19, 3) := by decide +kernel
theorem dX8_house_58 : decode cX8_house 58 = .ok (.getfield 89, 3) := by decide +kernel
theorem dX8_house_61 : decode cX8_house 61 = .ok (.imul, 1) := by decide +kernel
theorem dX8_house_62 : decode cX8_house 62 = .ok (.aload_n 0, 1) := by decide +kernel
theorem dX8_house_63 : decode cX8_house 63 = .ok (.getfield 19, 3) := by decide +kernel
theorem dX8_house_66 : decode cX8_house 66 = .ok (.getfield 93, 3) := by decide +kernel
theorem dX8_house_69 : decode cX8_house 69 = .ok (.iadd, 1) := by decide +kernel
theorem dX8_house_70 : decode cX8_house 70 = .ok (.ireturn, 1) := by decide +kernel
set_option maxRecDepth 20000 in
theorem ggX8_about_X4_takenSeats : GoodIn wsX8_about wsX4_takenSeats := goodIn_r _ [17, 18, 19, 20, 21, 22, 23, 24, 25, 26, 27, 16, 28, 29, 30, 70, 71, 72, 73, 74, 75, 62, 63, 64, 65, 66, 67, 68, 69] (by decide +kernel) (by decide +kernel)
set_option maxRecDepth 20000 in
theorem gX8_about_X4_takenSeats : GoodIn wsX8_about (wsV RX8 102 RX4 yX4_takenSeats wsX4_takenSeats) := goodIn_app (goodIn_of _ (by decide +kernel)) ggX8_about_X4_takenSeats
set_option maxRecDepth 20000 in
theorem ggX8_about_X4_allVigour : GoodIn wsX8_about wsX4_allVigour := goodIn_r _ [34, 18, 29, 35, 70, 71, 72, 73, 74, 75, 62, 63, 64, 65, 66, 67, 68, 69] (by decide +kernel) (by decide +kernel)
set_option maxRecDepth 20000 in
theorem gX8_about_X4_allVigour : GoodIn wsX8_about (wsV RX8 105 RX4 yX4_allVigour wsX4_allVigour) := goodIn_app (goodIn_of _ (by decide +kernel)) ggX8_about_X4_allVigour
set_option maxRecDepth 20000 in
theorem ggX8_about_X1_everyHand : GoodIn wsX8_about wsX1_everyHand := goodIn_r _ [23, 24, 62, 63, 64, 65, 66, 67, 68, 69] (by decide +kernel) (by decide +kernel)
set_option maxRecDepth 20000 in
theorem gX8_about_X1_everyHand : GoodIn wsX8_about (wsV RX8 108 RX1 yX1_everyHand wsX1_everyHand) := goodIn_app (goodIn_of _ (by decide +kernel)) ggX8_about_X1_everyHand
set_option maxRecDepth 20000 in
theorem ggX8_about_X4_hushed : GoodIn wsX8_about wsX4_hushed := goodIn_r _ [40, 41, 42, 43, 16, 44, 18, 29, 45, 35, 25, 26, 27, 28, 30, 46, 47, 48, 49, 50, 51, 52, 70, 71, 72, 73, 74, 75, 62, 63, 64, 65, 66, 67, 68, 69] (by decide +kernel) (by decide +kernel)
set_option maxRecDepth 20000 in
theorem gX8_about_X4_hushed : GoodIn wsX8_about (wsV RX8 111 RX4 yX4_hushed wsX4_hushed) := goodIn_app (goodIn_of _ (by decide +kernel)) ggX8_about_X4_hushed
theorem dX8_about_0 : decode cX8_about 0 = .ok (.iload_n 1, 1) := by decide +kernel
theorem dX8_about_1 : decode cX8_about 1 = .ok (.tableswitch 142 0 9 #[55, 63, 71, 79, 87, 95, 103, 118, 126, 134], 55) := by decide +kernel
theorem dX8_about_56 : decode cX8_about 56 = .ok (.aload_n 0, 1) := by decide +kernel
theorem dX8_about_57 : decode cX8_about 57 = .ok (.getfield 19, 3) := by decide +kernel
theorem dX8_about_60 : decode cX8_about 60 = .ok (.getfield 89, 3) := by decide +kernel
theorem dX8_about_63 : decode cX8_about 63 = .ok (.ireturn, 1) := by decide +kernel
theorem dX8_about_64 : decode cX8_about 64 = .ok (.aload_n 0, 1) := by decide +kernel
theorem dX8_about_65 : decode cX8_about 65 = .ok (.getfield 19, 3) := by decide +kernel
theorem dX8_about_68 : decode cX8_about 68 = .ok (.getfield 93, 3) := by decide +kernel
theorem dX8_about_71 : decode cX8_about 71 = .ok (.ireturn, 1) := by decide +kernel
theorem dX8_about_72 : decode cX8_about 72 = .ok (.aload_n 0, 1) := by decide +kernel
theorem dX8_about_73 : decode cX8_about 73 = .ok (.getfield 31, 3) := by decide +kernel
theorem dX8_about_76 : decode cX8_about 76 = .ok (.getfield 96, 3) := by decide +kernel
theorem dX8_about_79 : decode cX8_about 79 = .ok (.ireturn, 1) := by decide +kernel
theorem dX8_about_80 : decode cX8_about 80 = .ok (.aload_n 0, 1) := by decide +kernel
theorem dX8_about_81 : decode cX8_about 81 = .ok (.getfield 31, 3) := by decide +kernel
theorem dX8_about_84 : decode cX8_about 84 = .ok (.getfield 99, 3) := by decide +kernel
theorem dX8_about_87 : decode cX8_about 87 = .ok (.ireturn, 1) := by decide +kernel
theorem dX8_about_88 : decode cX8_about 88 = .ok (.aload_n 0, 1) := by decide +kernel
theorem dX8_about_89 : decode cX8_about 89 = .ok (.getfield 31, 3) := by decide +kernel
theorem dX8_about_92 : decode cX8_about 92 = .ok (.invokevirtual 102, 3) := by decide +kernel
theorem dX8_about_95 : decode cX8_about 95 = .ok (.ireturn, 1) := by decide +kernel
theorem dX8_about_96 : decode cX8_about 96 = .ok (.aload_n 0, 1) := by decide +kernel
theorem dX8_about_97 : decode cX8_about 97 = .ok (.getfield 31, 3) := by decide +kernel
theorem dX8_about_100 : decode cX8_about 100 = .ok (.invokevirtual 105, 3) := by decide +kernel
theorem dX8_about_103 : decode cX8_about 103 = .ok (.ireturn, 1) := by decide +kernel
theorem dX8_about_104 : decode cX8_about 104 = .ok (.aload_n 0, 1) := by decide +kernel
theorem dX8_about_105 : decode cX8_about 105 = .ok (.getfield 31, 3) := by decide +kernel
theorem dX8_about_108 : decode cX8_about 108 = .ok (.aload_n 0, 1) := by decide +kernel
theorem dX8_about_109 : decode cX8_about 109 = .ok (.getfield 19, 3) := by decide +kernel
theorem dX8_about_112 : decode cX8_about 112 = .ok (.invokevirtual 108, 3) := by decide +kernel
theorem dX8_about_115 : decode cX8_about 115 = .ok (.invokevirtual 111, 3) := by decide +kernel
theorem dX8_about_118 : decode cX8_about 118 = .ok (.ireturn, 1) := by decide +kernel
theorem dX8_about_119 : decode cX8_about 119 = .ok (.aload_n 0, 1) := by decide +kernel
theorem dX8_about_120 : decode cX8_about 120 = .ok (.getfield 38, 3) := by decide +kernel
theorem dX8_about_123 : decode cX8_about 123 = .ok (.getfield 114, 3) := by decide +kernel
theorem dX8_about_126 : decode cX8_about 126 = .ok (.ireturn, 1) := by decide +kernel
theorem dX8_about_127 : decode cX8_about 127 = .ok (.aload_n 0, 1) := by decide +kernel
theorem dX8_about_128 : decode cX8_about 128 = .ok (.getfield 59, 3) := by decide +kernel
theorem dX8_about_131 : decode cX8_about 131 = .ok (.getfield 117, 3) := by decide +kernel
theorem dX8_about_134 : decode cX8_about 134 = .ok (.ireturn, 1) := by decide +kernel
theorem dX8_about_135 : decode cX8_about 135 = .ok (.aload_n 0, 1) := by decide +kernel
theorem dX8_about_136 : decode cX8_about 136 = .ok (.getfield 10, 3) := by decide +kernel
theorem dX8_about_139 : decode cX8_about 139 = .ok (.getfield 118, 3) := by decide +kernel
theorem dX8_about_142 : decode cX8_about 142 = .ok (.ireturn, 1) := by decide +kernel
theorem dX8_about_143 : decode cX8_about 143 = .ok (.bipush (-2), 2) := by decide +kernel
theorem dX8_about_145 : decode cX8_about 145 = .ok (.ireturn, 1) := by decide +kernel
set_option maxRecDepth 20000 in
theorem ggX8_player_X1_hasPlayer : GoodIn wsX8_player wsX1_hasPlayer := goodIn_r _ [9, 10, 76, 77, 78, 79, 80, 81, 82, 83] (by decide +kernel) (by decide +kernel)
set_option maxRecDepth 20000 in
theorem gX8_player_X1_hasPlayer : GoodIn wsX8_player (wsV RX8 121 RX1 yX1_hasPlayer wsX1_hasPlayer) := goodIn_app (goodIn_of _ (by decide +kernel)) ggX8_player_X1_hasPlayer
set_option maxRecDepth 20000 in
theorem ggX8_player_X1_everyHand : GoodIn wsX8_player wsX1_everyHand := goodIn_r _ [14, 15, 76, 77, 78, 79, 80, 81, 82, 83] (by decide +kernel) (by decide +kernel)
set_option maxRecDepth 20000 in
theorem gX8_player_X1_everyHand : GoodIn wsX8_player (wsV RX8 108 RX1 yX1_everyHand wsX1_everyHand) := goodIn_app (goodIn_of _ (by decide +kernel)) ggX8_player_X1_everyHand
set_option maxRecDepth 20000 in
theorem ggX8_player_X4_clapping : GoodIn wsX8_player wsX4_clapping := goodIn_r _ [20, 21, 22, 23, 24, 25, 19, 26, 27, 28, 29, 30, 31, 32, 33, 34, 35, 36, 37, 38, 39, 40, 41, 42, 43, 44, 45, 46, 47, 48, 49, 84, 85, 86, 87, 88, 89, 76, 77, 78, 79, 80, 81, 82, 83] (by decide +kernel) (by decide +kernel)
set_option maxRecDepth 20000 in
theorem gX8_player_X4_clapping : GoodIn wsX8_player (wsV RX8 132 RX4 yX4_clapping wsX4_clapping) := goodIn_app (goodIn_of _ (by decide +kernel)) ggX8_player_X4_clapping
set_option maxRecDepth 20000 in
theorem ggX8_player_X4_loud : GoodIn wsX8_player wsX4_loud := goodIn_r _ [53, 54, 17, 18, 19, 20, 21, 22, 23, 24, 25, 26, 27, 28, 29, 30, 31, 32, 33, 34, 35, 36, 37, 38, 39, 40, 41, 42, 43, 44, 45, 46, 47, 48, 49, 55, 56, 57, 58, 59, 60, 61, 84, 85, 86, 87, 88, 89, 76, 77, 78, 79, 80, 81, 82, 83] (by decide +kernel) (by decide +kernel)
set_option maxRecDepth 20000 in
theorem gX8_player_X4_loud : GoodIn wsX8_player (wsV RX8 136 RX4 yX4_loud wsX4_loud) := goodIn_app (goodIn_of _ (by decide +kernel)) ggX8_player_X4_loud
set_option maxRecDepth 20000 in
theorem ggX8_player_X4_isDead : GoodIn wsX8_player wsX4_isDead := goodIn_r _ [65, 66, 84, 85, 86, 87, 88, 89] (by decide +kernel) (by decide +kernel)
set_option maxRecDepth 20000 in
theorem gX8_player_X4_isDead : GoodIn wsX8_player (wsV RX8 139 RX4 yX4_isDead wsX4_isDead) := goodIn_app (goodIn_of _ (by decide +kernel)) ggX8_player_X4_isDead
theorem dX8_player_0 : decode cX8_player 0 = .ok (.aload_n 0, 1) := by decide +kernel
theorem dX8_player_1 : decode cX8_player 1 = .ok (.getfield 19, 3) := by decide +kernel
theorem dX8_player_4 : decode cX8_player 4 = .ok (.iload_n 1, 1) := by decide +kernel
theorem dX8_player_5 : decode cX8_player 5 = .ok (.invokevirtual 121, 3) := by decide +kernel
theorem dX8_player_8 : decode cX8_player 8 = .ok (.ifCond .ne 5, 3) := by decide +kernel
theorem dX8_player_11 : decode cX8_player 11 = .ok (.iconst (-1), 1) := by decide +kernel
theorem dX8_player_12 : decode cX8_player 12 = .ok (.ireturn, 1) := by decide +kernel
theorem dX8_player_13 : decode cX8_player 13 = .ok (.iload_n 2, 1) := by decide +kernel
theorem dX8_player_14 : decode cX8_player 14 = .ok (.tableswitch 103 0 4 #[34, 44, 54, 70, 86], 34) := by decide +kernel
theorem dX8_player_48 : decode cX8_player 48 = .ok (.aload_n 0, 1) := by decide +kernel
theorem dX8_player_49 : decode cX8_player 49 = .ok (.getfield 19, 3) := by decide +kernel
theorem dX8_player_52 : decode cX8_player 52 = .ok (.getfield 125, 3) := by decide +kernel
theorem dX8_player_55 : decode cX8_player 55 = .ok (.iload_n 1, 1) := by decide +kernel
theorem dX8_player_56 : decode cX8_player 56 = .ok (.iaload, 1) := by decide +kernel
theorem dX8_player_57 : decode cX8_player 57 = .ok (.ireturn, 1) := by decide +kernel
theorem dX8_player_58 : decode cX8_player 58 = .ok (.aload_n 0, 1) := by decide +kernel
theorem dX8_player_59 : decode cX8_player 59 = .ok (.getfield 31, 3) := by decide +kernel
theorem dX8_player_62 : decode cX8_player 62 = .ok (.getfield 129, 3) := by decide +kernel
theorem dX8_player_65 : decode cX8_player 65 = .ok (.iload_n 1, 1) := by decide +kernel
theorem dX8_player_66 : decode cX8_player 66 = .ok (.iaload, 1) := by decide +kernel
theorem dX8_player_67 : decode cX8_player 67 = .ok (.ireturn, 1) := by decide +kernel
theorem dX8_player_68 : decode cX8_player 68 = .ok (.aload_n 0, 1) := by decide +kernel
theorem dX8_player_69 : decode cX8_player 69 = .ok (.getfield 31, 3) := by decide +kernel
theorem dX8_player_72 : decode cX8_player 72 = .ok (.iload_n 1, 1) := by decide +kernel
theorem dX8_player_73 : decode cX8_player 73 = .ok (.aload_n 0, 1) := by decide +kernel
theorem dX8_player_74 : decode cX8_player 74 = .ok (.getfield 19, 3) := by decide +kernel
theorem dX8_player_77 : decode cX8_player 77 = .ok (.invokevirtual 108, 3) := by decide +kernel
theorem dX8_player_80 : decode cX8_player 80 = .ok (.invokevirtual 132, 3) := by decide +kernel
theorem dX8_player_83 : decode cX8_player 83 = .ok (.ireturn, 1) := by decide +kernel
theorem dX8_player_84 : decode cX8_player 84 = .ok (.aload_n 0, 1) := by decide +kernel
theorem dX8_player_85 : decode cX8_player 85 = .ok (.getfield 31, 3) := by decide +kernel
theorem dX8_player_88 : decode cX8_player 88 = .ok (.iload_n 1, 1) := by decide +kernel
theorem dX8_player_89 : decode cX8_player 89 = .ok (.aload_n 0, 1) := by decide +kernel
theorem dX8_player_90 : decode cX8_player 90 = .ok (.getfield 19, 3) := by decide +kernel
theorem dX8_player_93 : decode cX8_player 93 = .ok (.invokevirtual 108, 3) := by decide +kernel
theorem dX8_player_96 : decode cX8_player 96 = .ok (.invokevirtual 136, 3) := by decide +kernel
theorem dX8_player_99 : decode cX8_player 99 = .ok (.ireturn, 1) := by decide +kernel
theorem dX8_player_100 : decode cX8_player 100 = .ok (.aload_n 0, 1) := by decide +kernel
theorem dX8_player_101 : decode cX8_player 101 = .ok (.getfield 31, 3) := by decide +kernel
theorem dX8_player_104 : decode cX8_player 104 = .ok (.iload_n 1, 1) := by decide +kernel
theorem dX8_player_105 : decode cX8_player 105 = .ok (.invokevirtual 139, 3) := by decide +kernel
theorem dX8_player_108 : decode cX8_player 108 = .ok (.ifCond .eq 7, 3) := by decide +kernel
theorem dX8_player_111 : decode cX8_player 111 = .ok (.iconst 1, 1) := by decide +kernel
theorem dX8_player_112 : decode cX8_player 112 = .ok (.goto 4, 3) := by decide +kernel
theorem dX8_player_115 : decode cX8_player 115 = .ok (.iconst 0, 1) := by decide +kernel
theorem dX8_player_116 : decode cX8_player 116 = .ok (.ireturn, 1) := by decide +kernel
theorem dX8_player_117 : decode cX8_player 117 = .ok (.bipush (-2), 2) := by decide +kernel
theorem dX8_player_119 : decode cX8_player 119 = .ok (.ireturn, 1) := by decide +kernel
set_option maxRecDepth 20000 in
theorem ggX8_hand_X1_hasHand : GoodIn wsX8_hand wsX1_hasHand := goodIn_r _ [12, 13, 58, 59, 60, 61, 62, 63, 64, 65] (by decide +kernel) (by decide +kernel)
set_option maxRecDepth 20000 in
theorem gX8_hand_X1_hasHand : GoodIn wsX8_hand (wsV RX8 142 RX1 yX1_hasHand wsX1_hasHand) := goodIn_app (goodIn_of _ (by decide +kernel)) ggX8_hand_X1_hasHand
set_option maxRecDepth 20000 in
theorem ggX8_hand_X1_everyHand : GoodIn wsX8_hand wsX1_everyHand := goodIn_r _ [17, 13, 58, 59, 60, 61, 62, 63, 64, 65] (by decide +kernel) (by decide +kernel)
set_option maxRecDepth 20000 in
theorem gX8_hand_X1_everyHand : GoodIn wsX8_hand (wsV RX8 108 RX1 yX1_everyHand wsX1_everyHand) := goodIn_app (goodIn_of _ (by decide +kernel)) ggX8_hand_X1_everyHand
set_option maxRecDepth 20000 in
theorem ggX8_hand_X4_hushed : GoodIn wsX8_hand wsX4_hushed := goodIn_r _ [22, 23, 24, 25, 21, 26, 27, 28, 29, 30, 31, 32, 33, 34, 35, 36, 37, 38, 39, 40, 41, 42, 52, 53, 54, 55, 56, 57, 58, 59, 60, 61, 62, 63, 64, 65] (by decide +kernel) (by decide +kernel)
set_option maxRecDepth 20000 in
theorem gX8_hand_X4_hushed : GoodIn wsX8_hand (wsV RX8 111 RX4 yX4_hushed wsX4_hushed) := goodIn_app (goodIn_of _ (by decide +kernel)) ggX8_hand_X4_hushed
theorem dX8_hand_0 : decode cX8_hand 0 = .ok (.aload_n 0, 1) := by decide +kernel
theorem dX8_hand_1 : decode cX8_hand 1 = .ok (.getfield 19, 3) := by decide +kernel
theorem dX8_hand_4 : decode cX8_hand 4 = .ok (.iload_n 1, 1) := by decide +kernel
theorem dX8_hand_5 : decode cX8_hand 5 = .ok (.invokevirtual 142, 3) := by decide +kernel
theorem dX8_hand_8 : decode cX8_hand 8 = .ok (.ifCond .ne 5, 3) := by decide +kernel
theorem dX8_hand_11 : decode cX8_hand 11 = .ok (.iconst (-1), 1) := by decide +kernel
theorem dX8_hand_12 : decode cX8_hand 12 = .ok (.ireturn, 1) := by decide +kernel
theorem dX8_hand_13 : decode cX8_hand 13 = .ok (.iload_n 2, 1) := by decide +kernel
theorem dX8_hand_14 : decode cX8_hand 14 = .ok (.tableswitch 107 0 5 #[38, 48, 58, 68, 78, 88], 38) := by decide +kernel
theorem dX8_hand_52 : decode cX8_hand 52 = .ok (.aload_n 0, 1) := by decide +kernel
theorem dX8_hand_53 : decode cX8_hand 53 = .ok (.getfield 31, 3) := by decide +kernel
theorem dX8_hand_56 : decode cX8_hand 56 = .ok (.getfield 145, 3) := by decide +kernel
theorem dX8_hand_59 : decode cX8_hand 59 = .ok (.iload_n 1, 1) := by decide +kernel
theorem dX8_hand_60 : decode cX8_hand 60 = .ok (.iaload, 1) := by decide +kernel
theorem dX8_hand_61 : decode cX8_hand 61 = .ok (.ireturn, 1) := by decide +kernel
theorem dX8_hand_62 : decode cX8_hand 62 = .ok (.aload_n 0, 1) := by decide +kernel
theorem dX8_hand_63 : decode cX8_hand 63 = .ok (.getfield 19, 3) := by decide +kernel
theorem dX8_hand_66 : decode cX8_hand 66 = .ok (.getfield 148, 3) := by decide +kernel
theorem dX8_hand_69 : decode cX8_hand 69 = .ok (.iload_n 1, 1) := by decide +kernel
theorem dX8_hand_70 : decode cX8_hand 70 = .ok (.iaload, 1) := by decide +kernel
theorem dX8_hand_71 : decode cX8_hand 71 = .ok (.ireturn, 1) := by decide +kernel
theorem dX8_hand_72 : decode cX8_hand 72 = .ok (.aload_n 0, 1) := by decide +kernel
theorem dX8_hand_73 : decode cX8_hand 73 = .ok (.getfield 19, 3) := by decide +kernel
theorem dX8_hand_76 : decode cX8_hand 76 = .ok (.getfield 151, 3) := by decide +kernel
theorem dX8_hand_79 : decode cX8_hand 79 = .ok (.iload_n 1, 1) := by decide +kernel
theorem dX8_hand_80 : decode cX8_hand 80 = .ok (.iaload, 1) := by decide +kernel
theorem dX8_hand_81 : decode cX8_hand 81 = .ok (.ireturn, 1) := by decide +kernel
theorem dX8_hand_82 : decode cX8_hand 82 = .ok (.aload_n 0, 1) := by decide +kernel
theorem dX8_hand_83 : decode cX8_hand 83 = .ok (.getfield 19, 3) := by decide +kernel
theorem dX8_hand_86 : decode cX8_hand 86 = .ok (.getfield 154, 3) := by decide +kernel
theorem dX8_hand_89 : decode cX8_hand 89 = .ok (.iload_n 1, 1) := by decide +kernel
theorem dX8_hand_90 : decode cX8_hand 90 = .ok (.iaload, 1) := by decide +kernel
theorem dX8_hand_91 : decode cX8_hand 91 = .ok (.ireturn, 1) := by decide +kernel
theorem dX8_hand_92 : decode cX8_hand 92 = .ok (.aload_n 0, 1) := by decide +kernel
theorem dX8_hand_93 : decode cX8_hand 93 = .ok (.getfield 31, 3) := by decide +kernel
theorem dX8_hand_96 : decode cX8_hand 96 = .ok (.getfield 157, 3) := by decide +kernel
theorem dX8_hand_99 : decode cX8_hand 99 = .ok (.iload_n 1, 1) := by decide +kernel
theorem dX8_hand_100 : decode cX8_hand 100 = .ok (.iaload, 1) := by decide +kernel
theorem dX8_hand_101 : decode cX8_hand 101 = .ok (.ireturn, 1) := by decide +kernel
theorem dX8_hand_102 : decode cX8_hand 102 = .ok (.aload_n 0, 1) := by decide +kernel
theorem dX8_hand_103 : decode cX8_hand 103 = .ok (.getfield 31, 3) := by decide +kernel
theorem dX8_hand_106 : decode cX8_hand 106 = .ok (.aload_n 0, 1) := by decide +kernel
theorem dX8_hand_107 : decode cX8_hand 107 = .ok (.getfield 19, 3) := by decide +kernel
theorem dX8_hand_110 : decode cX8_hand 110 = .ok (.invokevirtual 108, 3) := by decide +kernel
theorem dX8_hand_113 : decode cX8_hand 113 = .ok (.invokevirtual 111, 3) := by decide +kernel
theorem dX8_hand_116 : decode cX8_hand 116 = .ok (.iload_n 1, 1) := by decide +kernel
theorem dX8_hand_117 : decode cX8_hand 117 = .ok (.ishr, 1) := by decide +kernel
theorem dX8_hand_118 : decode cX8_hand 118 = .ok (.iconst 1, 1) := by decide +kernel
theorem dX8_hand_119 : decode cX8_hand 119 = .ok (.iand, 1) := by decide +kernel
theorem dX8_hand_120 : decode cX8_hand 120 = .ok (.ireturn, 1) := by decide +kernel
theorem dX8_hand_121 : decode cX8_hand 121 = .ok (.bipush (-2), 2) := by decide +kernel
theorem dX8_hand_123 : decode cX8_hand 123 = .ok (.ireturn, 1) := by decide +kernel
set_option maxRecDepth 20000 in
theorem ggX8_call_X1_hasPlayer : GoodIn wsX8_call wsX1_hasPlayer := goodIn_r _ [8, 9, 99, 100, 101, 102, 103, 104, 105, 106] (by decide +kernel) (by decide +kernel)
set_option maxRecDepth 20000 in
theorem gX8_call_X1_hasPlayer : GoodIn wsX8_call (wsV RX8 121 RX1 yX1_hasPlayer wsX1_hasPlayer) := goodIn_app (goodIn_of _ (by decide +kernel)) ggX8_call_X1_hasPlayer
set_option maxRecDepth 20000 in
theorem ggX8_call_X4_isDead : GoodIn wsX8_call wsX4_isDead := goodIn_r _ [14, 15, 107, 108, 109, 110, 111, 112] (by decide +kernel) (by decide +kernel)
set_option maxRecDepth 20000 in
theorem gX8_call_X4_isDead : GoodIn wsX8_call (wsV RX8 139 RX4 yX4_isDead wsX4_isDead) := goodIn_app (goodIn_of _ (by decide +kernel)) ggX8_call_X4_isDead
set_option maxRecDepth 20000 in
theorem ggX8_call_X0_note : GoodIn wsX8_call wsX0_note := goodIn_r _ [20, 21, 22, 23, 24, 25, 26, 13, 27, 28, 29, 30, 31, 32, 33, 34, 15, 35, 113, 114, 115, 107, 108, 109, 110, 111, 112] (by decide +kernel) (by decide +kernel)
set_option maxRecDepth 20000 in
theorem gX8_call_X0_note : GoodIn wsX8_call (wsV RX8 160 RX0 yX0_note wsX0_note) := goodIn_app (goodIn_of _ (by decide +kernel)) ggX8_call_X0_note
set_option maxRecDepth 20000 in
theorem ggX8_call_X1_everyHand : GoodIn wsX8_call wsX1_everyHand := goodIn_r _ [39, 40, 99, 100, 101, 102, 103, 104, 105, 106] (by decide +kernel) (by decide +kernel)
set_option maxRecDepth 20000 in
theorem gX8_call_X1_everyHand : GoodIn wsX8_call (wsV RX8 108 RX1 yX1_everyHand wsX1_everyHand) := goodIn_app (goodIn_of _ (by decide +kernel)) ggX8_call_X1_everyHand
set_option maxRecDepth 20000 in
theorem ggX8_call_X4_loud : GoodIn wsX8_call wsX4_loud := goodIn_r _ [44, 45, 46, 47, 13, 48, 49, 50, 51, 52, 53, 54, 55, 56, 57, 58, 59, 33, 60, 61, 62, 63, 28, 64, 65, 66, 67, 68, 69, 70, 71, 72, 73, 74, 75, 76, 77, 78, 79, 80, 81, 82, 107, 108, 109, 110, 111, 112, 99, 100, 101, 102, 103, 104, 105, 106] (by decide +kernel) (by decide +kernel)
set_option maxRecDepth 20000 in
theorem gX8_call_X4_loud : GoodIn wsX8_call (wsV RX8 136 RX4 yX4_loud wsX4_loud) := goodIn_app (goodIn_of _ (by decide +kernel)) ggX8_call_X4_loud
set_option maxRecDepth 20000 in
theorem ggX8_call_X4_bringOut : GoodIn wsX8_call wsX4_bringOut := goodIn_r _ [86, 49, 87, 15, 34, 50, 33, 88, 11, 12, 13, 14, 89, 37, 38, 7, 39, 40, 45, 46, 47, 48, 51, 52, 53, 54, 55, 56, 57, 58, 59, 60, 61, 62, 63, 28, 64, 65, 66, 67, 68, 69, 70, 71, 72, 73, 74, 75, 76, 77, 78, 79, 80, 81, 82, 107, 108, 109, 110, 111, 112, 99, 100, 101, 102, 103, 104, 105, 106] (by decide +kernel) (by decide +kernel)
set_option maxRecDepth 20000 in
theorem gX8_call_X4_bringOut : GoodIn wsX8_call (wsV RX8 164 RX4 yX4_bringOut wsX4_bringOut) := goodIn_app (goodIn_of _ (by decide +kernel)) ggX8_call_X4_bringOut
theorem dX8_call_0 : decode cX8_call 0 = .ok (.aload_n 0, 1) := by decide +kernel
theorem dX8_call_1 : decode cX8_call 1 = .ok (.getfield 19, 3) := by decide +kernel
theorem dX8_call_4 : decode cX8_call 4 = .ok (.iload_n 1, 1) := by decide +kernel
theorem dX8_call_5 : decode cX8_call 5 = .ok (.invokevirtual 121, 3) := by decide +kernel
theorem dX8_call_8 : decode cX8_call 8 = .ok (.ifCond .ne 5, 3) := by decide +kernel
theorem dX8_call_11 : decode cX8_call 11 = .ok (.iconst (-1), 1) := by decide +kernel
theorem dX8_call_12 : decode cX8_call 12 = .ok (.ireturn, 1) := by decide +kernel
theorem dX8_call_13 : decode cX8_call 13 = .ok (.aload_n 0, 1) := by decide +kernel
theorem dX8_call_14 : decode cX8_call 14 = .ok (.getfield 31, 3) := by decide +kernel
theorem dX8_call_17 : decode cX8_call 17 = .ok (.iload_n 1, 1) := by decide +kernel
theorem dX8_call_18 : decode cX8_call 18 = .ok (.invokevirtual 139, 3) := by decide +kernel
theorem dX8_call_21 : decode cX8_call 21 = .ok (.ifCond .eq 6, 3) := by decide +kernel
theorem dX8_call_24 : decode cX8_call 24 = .ok (.bipush (-3), 2) := by decide +kernel
theorem dX8_call_26 : decode cX8_call 26 = .ok (.ireturn, 1) := by decide +kernel
theorem dX8_call_27 : decode cX8_call 27 = .ok (.aload_n 0, 1) := by decide +kernel
theorem dX8_call_28 : decode cX8_call 28 = .ok (.getfield 38, 3) := by decide +kernel
theorem dX8_call_31 : decode cX8_call 31 = .ok (.aload_n 0, 1) := by decide +kernel
theorem dX8_call_32 : decode cX8_call 32 = .ok (.getfield 31, 3) := by decide +kernel
theorem dX8_call_35 : decode cX8_call 35 = .ok (.invokevirtual 160, 3) := by decide +kernel
theorem dX8_call_38 : decode cX8_call 38 = .ok (.aload_n 0, 1) := by decide +kernel
theorem dX8_call_39 : decode cX8_call 39 = .ok (.getfield 31, 3) := by decide +kernel
theorem dX8_call_42 : decode cX8_call 42 = .ok (.iload_n 1, 1) := by decide +kernel
theorem dX8_call_43 : decode cX8_call 43 = .ok (.aload_n 0, 1) := by decide +kernel
theorem dX8_call_44 : decode cX8_call 44 = .ok (.getfield 19, 3) := by decide +kernel
theorem dX8_call_47 : decode cX8_call 47 = .ok (.invokevirtual 108, 3) := by decide +kernel
theorem dX8_call_50 : decode cX8_call 50 = .ok (.invokevirtual 136, 3) := by decide +kernel
theorem dX8_call_53 : decode cX8_call 53 = .ok (.istore_n 2, 1) := by decide +kernel
theorem dX8_call_54 : decode cX8_call 54 = .ok (.aload_n 0, 1) := by decide +kernel
theorem dX8_call_55 : decode cX8_call 55 = .ok (.getfield 31, 3) := by decide +kernel
theorem dX8_call_58 : decode cX8_call 58 = .ok (.iload_n 1, 1) := by decide +kernel
theorem dX8_call_59 : decode cX8_call 59 = .ok (.invokevirtual 164, 3) := by decide +kernel
theorem dX8_call_62 : decode cX8_call 62 = .ok (.pop, 1) := by decide +kernel
theorem dX8_call_63 : decode cX8_call 63 = .ok (.iload_n 2, 1) := by decide +kernel
theorem dX8_call_64 : decode cX8_call 64 = .ok (.ireturn, 1) := by decide +kernel
set_option maxRecDepth 20000 in
theorem ggX8_flowers_X1_hasPlayer : GoodIn wsX8_flowers wsX1_hasPlayer := goodIn_r _ [8, 9, 96, 97, 98, 99, 100, 101, 102, 103] (by decide +kernel) (by decide +kernel)
set_option maxRecDepth 20000 in
theorem gX8_flowers_X1_hasPlayer : GoodIn wsX8_flowers (wsV RX8 121 RX1 yX1_hasPlayer wsX1_hasPlayer) := goodIn_app (goodIn_of _ (by decide +kernel)) ggX8_flowers_X1_hasPlayer
set_option maxRecDepth 20000 in
theorem ggX8_flowers_X0_note : GoodIn wsX8_flowers wsX0_note := goodIn_r _ [14, 15, 16, 17, 18, 19, 20, 21, 22, 23, 24, 25, 26, 27, 28, 29, 30, 31, 104, 105, 106, 107, 108, 109, 110, 111, 112] (by decide +kernel) (by decide +kernel)
set_option maxRecDepth 20000 in
theorem gX8_flowers_X0_note : GoodIn wsX8_flowers (wsV RX8 160 RX0 yX0_note wsX0_note) := goodIn_app (goodIn_of _ (by decide +kernel)) ggX8_flowers_X0_note
set_option maxRecDepth 20000 in
theorem ggX8_flowers_X4_strew : GoodIn wsX8_flowers wsX4_strew := goodIn_r _ [35, 36, 37, 38, 28, 39, 40, 41, 42, 107, 108, 109, 110, 111, 112, 96, 97, 98, 99, 100, 101, 102, 103] (by decide +kernel) (by decide +kernel)
set_option maxRecDepth 20000 in
theorem gX8_flowers_X4_strew : GoodIn wsX8_flowers (wsV RX8 167 RX4 yX4_strew wsX4_strew) := goodIn_app (goodIn_of _ (by decide +kernel)) ggX8_flowers_X4_strew
set_option maxRecDepth 20000 in
theorem ggX8_flowers_X1_everyHand : GoodIn wsX8_flowers wsX1_everyHand := goodIn_r _ [46, 47, 96, 97, 98, 99, 100, 101, 102, 103] (by decide +kernel) (by decide +kernel)
set_option maxRecDepth 20000 in
theorem gX8_flowers_X1_everyHand : GoodIn wsX8_flowers (wsV RX8 108 RX1 yX1_everyHand wsX1_everyHand) := goodIn_app (goodIn_of _ (by decide +kernel)) ggX8_flowers_X1_everyHand
set_option maxRecDepth 20000 in
theorem ggX8_flowers_X4_loud : GoodIn wsX8_flowers wsX4_loud := goodIn_r _ [51, 52, 53, 54, 21, 55, 36, 37, 56, 57, 58, 59, 60, 61, 62, 63, 64, 28, 65, 66, 67, 68, 23, 69, 70, 71, 72, 73, 74, 75, 76, 77, 78, 79, 38, 80, 81, 82, 83, 84, 85, 86, 107, 108, 109, 110, 111, 112, 96, 97, 98, 99, 100, 101, 102, 103] (by decide +kernel) (by decide +kernel)
set_option maxRecDepth 20000 in
theorem gX8_flowers_X4_loud : GoodIn wsX8_flowers (wsV RX8 136 RX4 yX4_loud wsX4_loud) := goodIn_app (goodIn_of _ (by decide +kernel)) ggX8_flowers_X4_loud
theorem dX8_flowers_0 : decode cX8_flowers 0 = .ok (.aload_n 0, 1) := by decide +kernel
theorem dX8_flowers_1 : decode cX8_flowers 1 = .ok (.getfield 19, 3) := by decide +kernel
theorem dX8_flowers_4 : decode cX8_flowers 4 = .ok (.iload_n 1, 1) := by decide +kernel
theorem dX8_flowers_5 : decode cX8_flowers 5 = .ok (.invokevirtual 121, 3) := by decide +kernel
theorem dX8_flowers_8 : decode cX8_flowers 8 = .ok (.ifCond .ne 5, 3) := by decide +kernel
theorem dX8_flowers_11 : decode cX8_flowers 11 = .ok (.iconst (-1), 1) := by decide +kernel
theorem dX8_flowers_12 : decode cX8_flowers 12 = .ok (.ireturn, 1) := by decide +kernel
theorem dX8_flowers_13 : decode cX8_flowers 13 = .ok (.aload_n 0, 1) := by decide +kernel
theorem dX8_flowers_14 : decode cX8_flowers 14 = .ok (.getfield 38, 3) := by decide +kernel
theorem dX8_flowers_17 : decode cX8_flowers 17 = .ok (.aload_n 0, 1) := by decide +kernel
theorem dX8_flowers_18 : decode cX8_flowers 18 = .ok (.getfield 31, 3) := by decide +kernel
theorem dX8_flowers_21 : decode cX8_flowers 21 = .ok (.invokevirtual 160, 3) := by decide +kernel
theorem dX8_flowers_24 : decode cX8_flowers 24 = .ok (.aload_n 0, 1) := by decide +kernel
theorem dX8_flowers_25 : decode cX8_flowers 25 = .ok (.getfield 31, 3) := by decide +kernel
theorem dX8_flowers_28 : decode cX8_flowers 28 = .ok (.iload_n 1, 1) := by decide +kernel
theorem dX8_flowers_29 : decode cX8_flowers 29 = .ok (.iconst 1, 1) := by decide +kernel
theorem dX8_flowers_30 : decode cX8_flowers 30 = .ok (.invokevirtual 167, 3) := by decide +kernel
theorem dX8_flowers_33 : decode cX8_flowers 33 = .ok (.aload_n 0, 1) := by decide +kernel
theorem dX8_flowers_34 : decode cX8_flowers 34 = .ok (.getfield 31, 3) := by decide +kernel
theorem dX8_flowers_37 : decode cX8_flowers 37 = .ok (.iload_n 1, 1) := by decide +kernel
theorem dX8_flowers_38 : decode cX8_flowers 38 = .ok (.aload_n 0, 1) := by decide +kernel
theorem dX8_flowers_39 : decode cX8_flowers 39 = .ok (.getfield 19, 3) := by decide +kernel
theorem dX8_flowers_42 : decode cX8_flowers 42 = .ok (.invokevirtual 108, 3) := by decide +kernel
theorem dX8_flowers_45 : decode cX8_flowers 45 = .ok (.invokevirtual 136, 3) := by decide +kernel
theorem dX8_flowers_48 : decode cX8_flowers 48 = .ok (.ireturn, 1) := by decide +kernel
set_option maxRecDepth 20000 in
theorem ggX8_seat_X1_hasHand : GoodIn wsX8_seat wsX1_hasHand := goodIn_r _ [9, 10, 70, 71, 72, 73, 74, 75, 76, 77] (by decide +kernel) (by decide +kernel)
set_option maxRecDepth 20000 in
theorem gX8_seat_X1_hasHand : GoodIn wsX8_seat (wsV RX8 142 RX1 yX1_hasHand wsX1_hasHand) := goodIn_app (goodIn_of _ (by decide +kernel)) ggX8_seat_X1_hasHand
set_option maxRecDepth 20000 in
theorem ggX8_seat_X8_isSeat : GoodIn wsX8_seat wsX8_isSeat := goodIn_r _ [14] (by decide +kernel) (by decide +kernel)
set_option maxRecDepth 20000 in
theorem gX8_seat_X8_isSeat : GoodIn wsX8_seat (va_wsS RX8 171 yX8_isSeat wsX8_isSeat) := goodIn_app (goodIn_of _ (by decide +kernel)) ggX8_seat_X8_isSeat
set_option maxRecDepth 20000 in
theorem ggX8_seat_X4_isTaken : GoodIn wsX8_seat wsX4_isTaken := goodIn_r _ [19, 20, 21, 22, 18, 23, 24, 25, 26, 27, 8, 28, 10, 29, 30, 31, 32, 33, 34, 64, 65, 66, 67, 68, 69, 70, 71, 72, 73, 74, 75, 76, 77] (by decide +kernel) (by decide +kernel)
set_option maxRecDepth 20000 in
theorem gX8_seat_X4_isTaken : GoodIn wsX8_seat (wsV RX8 174 RX4 yX4_isTaken wsX4_isTaken) := goodIn_app (goodIn_of _ (by decide +kernel)) ggX8_seat_X4_isTaken
set_option maxRecDepth 20000 in
theorem ggX8_seat_X0_note : GoodIn wsX8_seat wsX0_note := goodIn_r _ [39, 40, 41, 42, 43, 44, 45, 18, 46, 34, 47, 48, 49, 50, 51, 52, 53, 54, 78, 79, 80, 64, 65, 66, 67, 68, 69] (by decide +kernel) (by decide +kernel)
set_option maxRecDepth 20000 in
theorem gX8_seat_X0_note : GoodIn wsX8_seat (wsV RX8 160 RX0 yX0_note wsX0_note) := goodIn_app (goodIn_of _ (by decide +kernel)) ggX8_seat_X0_note
theorem dX8_seat_0 : decode cX8_seat 0 = .ok (.aload_n 0, 1) := by decide +kernel
theorem dX8_seat_1 : decode cX8_seat 1 = .ok (.getfield 19, 3) := by decide +kernel
theorem dX8_seat_4 : decode cX8_seat 4 = .ok (.iload_n 1, 1) := by decide +kernel
theorem dX8_seat_5 : decode cX8_seat 5 = .ok (.invokevirtual 142, 3) := by decide +kernel
theorem dX8_seat_8 : decode cX8_seat 8 = .ok (.ifCond .eq 10, 3) := by decide +kernel
theorem dX8_seat_11 : decode cX8_seat 11 = .ok (.iload_n 2, 1) := by decide +kernel
theorem dX8_seat_12 : decode cX8_seat 12 = .ok (.invokestatic 171, 3) := by decide +kernel
theorem dX8_seat_15 : decode cX8_seat 15 = .ok (.ifCond .ne 5, 3) := by decide +kernel
theorem dX8_seat_18 : decode cX8_seat 18 = .ok (.iconst (-1), 1) := by decide +kernel
theorem dX8_seat_19 : decode cX8_seat 19 = .ok (.ireturn, 1) := by decide +kernel
theorem dX8_seat_20 : decode cX8_seat 20 = .ok (.aload_n 0, 1) := by decide +kernel
theorem dX8_seat_21 : decode cX8_seat 21 = .ok (.getfield 31, 3) := by decide +kernel
theorem dX8_seat_24 : decode cX8_seat 24 = .ok (.iload_n 2, 1) := by decide +kernel
theorem dX8_seat_25 : decode cX8_seat 25 = .ok (.invokevirtual 174, 3) := by decide +kernel
theorem dX8_seat_28 : decode cX8_seat 28 = .ok (.ifCond .eq 6, 3) := by decide +kernel
theorem dX8_seat_31 : decode cX8_seat 31 = .ok (.bipush (-3), 2) := by decide +kernel
theorem dX8_seat_33 : decode cX8_seat 33 = .ok (.ireturn, 1) := by decide +kernel
theorem dX8_seat_34 : decode cX8_seat 34 = .ok (.aload_n 0, 1) := by decide +kernel
theorem dX8_seat_35 : decode cX8_seat 35 = .ok (.getfield 38, 3) := by decide +kernel
theorem dX8_seat_38 : decode cX8_seat 38 = .ok (.aload_n 0, 1) := by decide +kernel
theorem dX8_seat_39 : decode cX8_seat 39 = .ok (.getfield 31, 3) := by decide +kernel
theorem dX8_seat_42 : decode cX8_seat 42 = .ok (.invokevirtual 160, 3) := by decide +kernel
theorem dX8_seat_45 : decode cX8_seat 45 = .ok (.aload_n 0, 1) := by decide +kernel
theorem dX8_seat_46 : decode cX8_seat 46 = .ok (.getfield 31, 3) := by decide +kernel
theorem dX8_seat_49 : decode cX8_seat 49 = .ok (.getfield 145, 3) := by decide +kernel
theorem dX8_seat_52 : decode cX8_seat 52 = .ok (.iload_n 1, 1) := by decide +kernel
theorem dX8_seat_53 : decode cX8_seat 53 = .ok (.iaload, 1) := by decide +kernel
theorem dX8_seat_54 : decode cX8_seat 54 = .ok (.istore_n 3, 1) := by decide +kernel
theorem dX8_seat_55 : decode cX8_seat 55 = .ok (.aload_n 0, 1) := by decide +kernel
theorem dX8_seat_56 : decode cX8_seat 56 = .ok (.getfield 31, 3) := by decide +kernel
theorem dX8_seat_59 : decode cX8_seat 59 = .ok (.getfield 145, 3) := by decide +kernel
theorem dX8_seat_62 : decode cX8_seat 62 = .ok (.iload_n 1, 1) := by decide +kernel
theorem dX8_seat_63 : decode cX8_seat 63 = .ok (.iload_n 2, 1) := by decide +kernel
theorem dX8_seat_64 : decode cX8_seat 64 = .ok (.iastore, 1) := by decide +kernel
theorem dX8_seat_65 : decode cX8_seat 65 = .ok (.iload_n 3, 1) := by decide +kernel
theorem dX8_seat_66 : decode cX8_seat 66 = .ok (.ireturn, 1) := by decide +kernel
set_option maxRecDepth 20000 in
theorem ggX8_night_X0_note : GoodIn wsX8_night wsX0_note := goodIn_r _ [7, 8, 9, 10, 11, 12, 13, 14, 15, 16, 17, 18, 19, 20, 21, 22, 23, 24, 45, 46, 47, 48, 49, 50, 51, 52, 53] (by decide +kernel) (by decide +kernel)
set_option maxRecDepth 20000 in
theorem gX8_night_X0_note : GoodIn wsX8_night (wsV RX8 160 RX0 yX0_note wsX0_note) := goodIn_app (goodIn_of _ (by decide +kernel)) ggX8_night_X0_note
set_option maxRecDepth 20000 in
theorem ggX8_night_X4_sleep : GoodIn wsX8_night wsX4_sleep := goodIn_r _ [28, 29, 30, 21, 31, 24, 48, 49, 50, 51, 52, 53, 54, 55, 56, 57, 58, 59, 60, 61] (by decide +kernel) (by decide +kernel)
set_option maxRecDepth 20000 in
theorem gX8_night_X4_sleep : GoodIn wsX8_night (wsV RX8 177 RX4 yX4_sleep wsX4_sleep) := goodIn_app (goodIn_of _ (by decide +kernel)) ggX8_night_X4_sleep
set_option maxRecDepth 20000 in
theorem ggX8_night_X4_allVigour : GoodIn wsX8_night wsX4_allVigour := goodIn_r _ [35, 29, 30, 21, 48, 49, 50, 51, 52, 53, 54, 55, 56, 57, 58, 59, 60, 61] (by decide +kernel) (by decide +kernel)
set_option maxRecDepth 20000 in
theorem gX8_night_X4_allVigour : GoodIn wsX8_night (wsV RX8 105 RX4 yX4_allVigour wsX4_allVigour) := goodIn_app (goodIn_of _ (by decide +kernel)) ggX8_night_X4_allVigour
theorem dX8_night_0 : decode cX8_night 0 = .ok (.aload_n 0, 1) := by decide +kernel
theorem dX8_night_1 : decode cX8_night 1 = .ok (.getfield 38, 3) := by decide +kernel
theorem dX8_night_4 : decode cX8_night 4 = .ok (.aload_n 0, 1) := by decide +kernel
theorem dX8_night_5 : decode cX8_night 5 = .ok (.getfield 31, 3) := by decide +kernel
theorem dX8_night_8 : decode cX8_night 8 = .ok (.invokevirtual 160, 3) := by decide +kernel
theorem dX8_night_11 : decode cX8_night 11 = .ok (.aload_n 0, 1) := by decide +kernel
theorem dX8_night_12 : decode cX8_night 12 = .ok (.getfield 31, 3) := by decide +kernel
theorem dX8_night_15 : decode cX8_night 15 = .ok (.invokevirtual 177, 3) := by decide +kernel
theorem dX8_night_18 : decode cX8_night 18 = .ok (.aload_n 0, 1) := by decide +kernel
theorem dX8_night_19 : decode cX8_night 19 = .ok (.getfield 31, 3) := by decide +kernel
theorem dX8_night_22 : decode cX8_night 22 = .ok (.invokevirtual 105, 3) := by decide +kernel
theorem dX8_night_25 : decode cX8_night 25 = .ok (.ireturn, 1) := by decide +kernel
set_option maxRecDepth 20000 in
theorem ggX8_undo_X0_takeBack : GoodIn wsX8_undo wsX0_takeBack := goodIn_r _ [8, 9, 10, 11, 12, 13, 14, 15, 16, 17, 18, 19, 20, 21, 22, 23, 24, 25, 35, 36, 37, 38, 39, 40, 41, 42, 43] (by decide +kernel) (by decide +kernel)
set_option maxRecDepth 20000 in
theorem gX8_undo_X0_takeBack : GoodIn wsX8_undo (wsV RX8 180 RX0 yX0_takeBack wsX0_takeBack) := goodIn_app (goodIn_of _ (by decide +kernel)) ggX8_undo_X0_takeBack
theorem dX8_undo_0 : decode cX8_undo 0 = .ok (.aload_n 0, 1) := by decide +kernel
theorem dX8_undo_1 : decode cX8_undo 1 = .ok (.getfield 38, 3) := by decide +kernel
theorem dX8_undo_4 : decode cX8_undo 4 = .ok (.getfield 114, 3) := by decide +kernel
theorem dX8_undo_7 : decode cX8_undo 7 = .ok (.ifCond .ne 6, 3) := by decide +kernel
theorem dX8_undo_10 : decode cX8_undo 10 = .ok (.bipush (-3), 2) := by decide +kernel
theorem dX8_undo_12 : decode cX8_undo 12 = .ok (.ireturn, 1) := by decide +kernel
theorem dX8_undo_13 : decode cX8_undo 13 = .ok (.aload_n 0, 1) := by decide +kernel
theorem dX8_undo_14 : decode cX8_undo 14 = .ok (.getfield 38, 3) := by decide +kernel
theorem dX8_undo_17 : decode cX8_undo 17 = .ok (.aload_n 0, 1) := by decide +kernel
theorem dX8_undo_18 : decode cX8_undo 18 = .ok (.getfield 31, 3) := by decide +kernel
theorem dX8_undo_21 : decode cX8_undo 21 = .ok (.invokevirtual 180, 3) := by decide +kernel
theorem dX8_undo_24 : decode cX8_undo 24 = .ok (.aload_n 0, 1) := by decide +kernel
theorem dX8_undo_25 : decode cX8_undo 25 = .ok (.getfield 38, 3) := by decide +kernel
theorem dX8_undo_28 : decode cX8_undo 28 = .ok (.getfield 114, 3) := by decide +kernel
theorem dX8_undo_31 : decode cX8_undo 31 = .ok (.ireturn, 1) := by decide +kernel
set_option maxRecDepth 20000 in
theorem ggX8_yet_X1_hasPlayer : GoodIn wsX8_yet wsX1_hasPlayer := goodIn_r _ [8, 9, 92, 93, 94, 95, 96, 97, 98, 99] (by decide +kernel) (by decide +kernel)
set_option maxRecDepth 20000 in
theorem gX8_yet_X1_hasPlayer : GoodIn wsX8_yet (wsV RX8 121 RX1 yX1_hasPlayer wsX1_hasPlayer) := goodIn_app (goodIn_of _ (by decide +kernel)) ggX8_yet_X1_hasPlayer
set_option maxRecDepth 20000 in
theorem ggX8_yet_X4_isDead : GoodIn wsX8_yet wsX4_isDead := goodIn_r _ [14, 15, 100, 101, 102, 103, 104, 105] (by decide +kernel) (by decide +kernel)
set_option maxRecDepth 20000 in
theorem gX8_yet_X4_isDead : GoodIn wsX8_yet (wsV RX8 139 RX4 yX4_isDead wsX4_isDead) := goodIn_app (goodIn_of _ (by decide +kernel)) ggX8_yet_X4_isDead
set_option maxRecDepth 20000 in
theorem ggX8_yet_X5_comings : GoodIn wsX8_yet wsX5_comings := goodIn_r _ [20, 21, 22, 23, 24, 13, 25, 26, 27, 28, 29, 30, 31, 32, 15, 33, 34, 35, 36, 37, 38, 39, 40, 41, 11, 12, 14, 42, 43, 44, 7, 45, 46, 47, 48, 49, 50, 51, 52, 53, 54, 55, 56, 57, 58, 59, 60, 61, 62, 63, 64, 65, 66, 67, 68, 69, 70, 71, 72, 73, 74, 75, 76, 77, 78, 79, 80, 81, 82, 106, 107, 108, 100, 101, 102, 103, 104, 105, 92, 93, 94, 95, 96, 97, 98, 99] (by decide +kernel) (by decide +kernel)
set_option maxRecDepth 20000 in
theorem gX8_yet_X5_comings : GoodIn wsX8_yet (wsV RX8 183 RX5 yX5_comings wsX5_comings) := goodIn_app (goodIn_of _ (by decide +kernel)) ggX8_yet_X5_comings
theorem dX8_yet_0 : decode cX8_yet 0 = .ok (.aload_n 0, 1) := by decide +kernel
theorem dX8_yet_1 : decode cX8_yet 1 = .ok (.getfield 19, 3) := by decide +kernel
theorem dX8_yet_4 : decode cX8_yet 4 = .ok (.iload_n 1, 1) := by decide +kernel
theorem dX8_yet_5 : decode cX8_yet 5 = .ok (.invokevirtual 121, 3) := by decide +kernel
theorem dX8_yet_8 : decode cX8_yet 8 = .ok (.ifCond .ne 5, 3) := by decide +kernel
theorem dX8_yet_11 : decode cX8_yet 11 = .ok (.iconst (-1), 1) := by decide +kernel
theorem dX8_yet_12 : decode cX8_yet 12 = .ok (.ireturn, 1) := by decide +kernel
theorem dX8_yet_13 : decode cX8_yet 13 = .ok (.aload_n 0, 1) := by decide +kernel
theorem dX8_yet_14 : decode cX8_yet 14 = .ok (.getfield 31, 3) := by decide +kernel
theorem dX8_yet_17 : decode cX8_yet 17 = .ok (.iload_n 1, 1) := by decide +kernel
theorem dX8_yet_18 : decode cX8_yet 18 = .ok (.invokevirtual 139, 3) := by decide +kernel
theorem dX8_yet_21 : decode cX8_yet 21 = .ok (.ifCond .eq 6, 3) := by decide +kernel
theorem dX8_yet_24 : decode cX8_yet 24 = .ok (.bipush (-3), 2) := by decide +kernel
theorem dX8_yet_26 : decode cX8_yet 26 = .ok (.ireturn, 1) := by decide +kernel
theorem dX8_yet_27 : decode cX8_yet 27 = .ok (.aload_n 0, 1) := by decide +kernel
theorem dX8_yet_28 : decode cX8_yet 28 = .ok (.getfield 45, 3) := by decide +kernel
theorem dX8_yet_31 : decode cX8_yet 31 = .ok (.aload_n 0, 1) := by decide +kernel
theorem dX8_yet_32 : decode cX8_yet 32 = .ok (.getfield 31, 3) := by decide +kernel
theorem dX8_yet_35 : decode cX8_yet 35 = .ok (.iload_n 1, 1) := by decide +kernel
theorem dX8_yet_36 : decode cX8_yet 36 = .ok (.invokevirtual 183, 3) := by decide +kernel
theorem dX8_yet_39 : decode cX8_yet 39 = .ok (.ireturn, 1) := by decide +kernel
set_option maxRecDepth 20000 in
theorem ggX8_best_X1_hasHand : GoodIn wsX8_best wsX1_hasHand := goodIn_r _ [9, 10, 112, 113, 114, 115, 116, 117, 118, 119] (by decide +kernel) (by decide +kernel)
set_option maxRecDepth 20000 in
theorem gX8_best_X1_hasHand : GoodIn wsX8_best (wsV RX8 142 RX1 yX1_hasHand wsX1_hasHand) := goodIn_app (goodIn_of _ (by decide +kernel)) ggX8_best_X1_hasHand
set_option maxRecDepth 20000 in
theorem ggX8_best_X8_isEitherOr : GoodIn wsX8_best wsX8_isEitherOr := goodIn_r _ [14] (by decide +kernel) (by decide +kernel)
set_option maxRecDepth 20000 in
theorem gX8_best_X8_isEitherOr : GoodIn wsX8_best (va_wsS RX8 187 yX8_isEitherOr wsX8_isEitherOr) := goodIn_app (goodIn_of _ (by decide +kernel)) ggX8_best_X8_isEitherOr
set_option maxRecDepth 20000 in
theorem ggX8_best_X4_isDead : GoodIn wsX8_best wsX4_isDead := goodIn_r _ [19, 20, 120, 121, 122, 123, 124, 125] (by decide +kernel) (by decide +kernel)
set_option maxRecDepth 20000 in
theorem gX8_best_X4_isDead : GoodIn wsX8_best (wsV RX8 139 RX4 yX4_isDead wsX4_isDead) := goodIn_app (goodIn_of _ (by decide +kernel)) ggX8_best_X4_isDead
set_option maxRecDepth 20000 in
theorem ggX8_best_X5_bestSeat : GoodIn wsX8_best wsX5_bestSeat := goodIn_r _ [25, 26, 27, 28, 29, 30, 31, 32, 18, 33, 34, 35, 36, 37, 38, 39, 40, 41, 8, 42, 10, 43, 44, 45, 46, 47, 48, 49, 50, 51, 52, 53, 54, 55, 56, 57, 58, 20, 59, 60, 61, 62, 24, 63, 64, 65, 66, 67, 68, 69, 70, 16, 17, 19, 71, 72, 73, 74, 75, 76, 77, 78, 79, 80, 81, 82, 83, 84, 85, 86, 87, 88, 89, 90, 91, 92, 93, 94, 95, 96, 97, 98, 99, 100, 101, 102, 120, 121, 122, 123, 124, 125, 126, 127, 128, 112, 113, 114, 115, 116, 117, 118, 119] (by decide +kernel) (by decide +kernel)
set_option maxRecDepth 20000 in
theorem gX8_best_X5_bestSeat : GoodIn wsX8_best (wsV RX8 190 RX5 yX5_bestSeat wsX5_bestSeat) := goodIn_app (goodIn_of _ (by decide +kernel)) ggX8_best_X5_bestSeat
theorem dX8_best_0 : decode cX8_best 0 = .ok (.aload_n 0, 1) := by decide +kernel
theorem dX8_best_1 : decode cX8_best 1 = .ok (.getfield 19, 3) := by decide +kernel
theorem dX8_best_4 : decode cX8_best 4 = .ok (.iload_n 1, 1) := by decide +kernel
theorem dX8_best_5 : decode cX8_best 5 = .ok (.invokevirtual 142, 3) := by decide +kernel
theorem dX8_best_8 : decode cX8_best 8 = .ok (.ifCond .ne 5, 3) := by decide +kernel
theorem dX8_best_11 : decode cX8_best 11 = .ok (.iconst (-1), 1) := by decide +kernel
theorem dX8_best_12 : decode cX8_best 12 = .ok (.ireturn, 1) := by decide +kernel
theorem dX8_best_13 : decode cX8_best 13 = .ok (.iload_n 2, 1) := by decide +kernel
theorem dX8_best_14 : decode cX8_best 14 = .ok (.invokestatic 187, 3) := by decide +kernel
theorem dX8_best_17 : decode cX8_best 17 = .ok (.ifCond .ne 6, 3) := by decide +kernel
theorem dX8_best_20 : decode cX8_best 20 = .ok (.bipush (-2), 2) := by decide +kernel
theorem dX8_best_22 : decode cX8_best 22 = .ok (.ireturn, 1) := by decide +kernel
theorem dX8_best_23 : decode cX8_best 23 = .ok (.aload_n 0, 1) := by decide +kernel
theorem dX8_best_24 : decode cX8_best 24 = .ok (.getfield 31, 3) := by decide +kernel
theorem dX8_best_27 : decode cX8_best 27 = .ok (.aload_n 0, 1) := by decide +kernel
theorem dX8_best_28 : decode cX8_best 28 = .ok (.getfield 19, 3) := by decide +kernel
theorem dX8_best_31 : decode cX8_best 31 = .ok (.getfield 148, 3) := by decide +kernel
theorem dX8_best_34 : decode cX8_best 34 = .ok (.iload_n 1, 1) := by decide +kernel
theorem dX8_best_35 : decode cX8_best 35 = .ok (.iaload, 1) := by decide +kernel
theorem dX8_best_36 : decode cX8_best 36 = .ok (.invokevirtual 139, 3) := by decide +kernel
theorem dX8_best_39 : decode cX8_best 39 = .ok (.ifCond .eq 6, 3) := by decide +kernel
theorem dX8_best_42 : decode cX8_best 42 = .ok (.bipush (-3), 2) := by decide +kernel
theorem dX8_best_44 : decode cX8_best 44 = .ok (.ireturn, 1) := by decide +kernel
theorem dX8_best_45 : decode cX8_best 45 = .ok (.aload_n 0, 1) := by decide +kernel
theorem dX8_best_46 : decode cX8_best 46 = .ok (.getfield 45, 3) := by decide +kernel
theorem dX8_best_49 : decode cX8_best 49 = .ok (.aload_n 0, 1) := by decide +kernel
theorem dX8_best_50 : decode cX8_best 50 = .ok (.getfield 31, 3) := by decide +kernel
theorem dX8_best_53 : decode cX8_best 53 = .ok (.iload_n 1, 1) := by decide +kernel
theorem dX8_best_54 : decode cX8_best 54 = .ok (.iload_n 2, 1) := by decide +kernel
theorem dX8_best_55 : decode cX8_best 55 = .ok (.iconst 1, 1) := by decide +kernel
theorem dX8_best_56 : decode cX8_best 56 = .ok (.if_icmp .ne 7, 3) := by decide +kernel
theorem dX8_best_59 : decode cX8_best 59 = .ok (.iconst 1, 1) := by decide +kernel
theorem dX8_best_60 : decode cX8_best 60 = .ok (.goto 4, 3) := by decide +kernel
theorem dX8_best_63 : decode cX8_best 63 = .ok (.iconst 0, 1) := by decide +kernel
theorem dX8_best_64 : decode cX8_best 64 = .ok (.invokevirtual 190, 3) := by decide +kernel
theorem dX8_best_67 : decode cX8_best 67 = .ok (.ireturn, 1) := by decide +kernel
set_option maxRecDepth 20000 in
theorem ggX8_wants_X1_hasPlayer : GoodIn wsX8_wants wsX1_hasPlayer := goodIn_r _ [8, 9, 105, 106, 107, 108, 109, 110, 111, 112] (by decide +kernel) (by decide +kernel)
set_option maxRecDepth 20000 in
theorem gX8_wants_X1_hasPlayer : GoodIn wsX8_wants (wsV RX8 121 RX1 yX1_hasPlayer wsX1_hasPlayer) := goodIn_app (goodIn_of _ (by decide +kernel)) ggX8_wants_X1_hasPlayer
set_option maxRecDepth 20000 in
theorem ggX8_wants_X4_isDead : GoodIn wsX8_wants wsX4_isDead := goodIn_r _ [14, 15, 113, 114, 115, 116, 117, 118] (by decide +kernel) (by decide +kernel)
set_option maxRecDepth 20000 in
theorem gX8_wants_X4_isDead : GoodIn wsX8_wants (wsV RX8 139 RX4 yX4_isDead wsX4_isDead) := goodIn_app (goodIn_of _ (by decide +kernel)) ggX8_wants_X4_isDead
set_option maxRecDepth 20000 in
theorem ggX8_wants_X5_fewestFlowers : GoodIn wsX8_wants wsX5_fewestFlowers := goodIn_r _ [20, 21, 22, 23, 24, 13, 25, 26, 27, 28, 29, 30, 31, 32, 15, 33, 34, 35, 36, 37, 38, 39, 40, 41, 42, 43, 44, 45, 46, 47, 19, 48, 49, 50, 51, 52, 53, 54, 55, 11, 12, 14, 56, 57, 58, 7, 59, 60, 61, 62, 63, 64, 65, 66, 67, 68, 69, 70, 71, 72, 73, 74, 75, 76, 77, 78, 79, 80, 81, 82, 83, 84, 85, 86, 87, 88, 89, 90, 91, 92, 93, 94, 95, 119, 120, 121, 113, 114, 115, 116, 117, 118, 105, 106, 107, 108, 109, 110, 111, 112] (by decide +kernel) (by decide +kernel)
set_option maxRecDepth 20000 in
theorem gX8_wants_X5_fewestFlowers : GoodIn wsX8_wants (wsV RX8 194 RX5 yX5_fewestFlowers wsX5_fewestFlowers) := goodIn_app (goodIn_of _ (by decide +kernel)) ggX8_wants_X5_fewestFlowers
theorem dX8_wants_0 : decode cX8_wants 0 = .ok (.aload_n 0, 1) := by decide +kernel
theorem dX8_wants_1 : decode cX8_wants 1 = .ok (.getfield 19, 3) := by decide +kernel
theorem dX8_wants_4 : decode cX8_wants 4 = .ok (.iload_n 1, 1) := by decide +kernel
theorem dX8_wants_5 : decode cX8_wants 5 = .ok (.invokevirtual 121, 3) := by decide +kernel
theorem dX8_wants_8 : decode cX8_wants 8 = .ok (.ifCond .ne 5, 3) := by decide +kernel
theorem dX8_wants_11 : decode cX8_wants 11 = .ok (.iconst (-1), 1) := by decide +kernel
theorem dX8_wants_12 : decode cX8_wants 12 = .ok (.ireturn, 1) := by decide +kernel
theorem dX8_wants_13 : decode cX8_wants 13 = .ok (.iload_n 2, 1) := by decide +kernel
theorem dX8_wants_14 : decode cX8_wants 14 = .ok (.iconst 1, 1) := by decide +kernel
theorem dX8_wants_15 : decode cX8_wants 15 = .ok (.if_icmp .lt 9, 3) := by decide +kernel
theorem dX8_wants_18 : decode cX8_wants 18 = .ok (.iload_n 2, 1) := by decide +kernel
theorem dX8_wants_19 : decode cX8_wants 19 = .ok (.bipush 9, 2) := by decide +kernel
theorem dX8_wants_21 : decode cX8_wants 21 = .ok (.if_icmp .le 6, 3) := by decide +kernel
theorem dX8_wants_24 : decode cX8_wants 24 = .ok (.bipush (-2), 2) := by decide +kernel
theorem dX8_wants_26 : decode cX8_wants 26 = .ok (.ireturn, 1) := by decide +kernel
theorem dX8_wants_27 : decode cX8_wants 27 = .ok (.aload_n 0, 1) := by decide +kernel
theorem dX8_wants_28 : decode cX8_wants 28 = .ok (.getfield 31, 3) := by decide +kernel
theorem dX8_wants_31 : decode cX8_wants 31 = .ok (.iload_n 1, 1) := by decide +kernel
theorem dX8_wants_32 : decode cX8_wants 32 = .ok (.invokevirtual 139, 3) := by decide +kernel
theorem dX8_wants_35 : decode cX8_wants 35 = .ok (.ifCond .eq 6, 3) := by decide +kernel
theorem dX8_wants_38 : decode cX8_wants 38 = .ok (.bipush (-3), 2) := by decide +kernel
theorem dX8_wants_40 : decode cX8_wants 40 = .ok (.ireturn, 1) := by decide +kernel
theorem dX8_wants_41 : decode cX8_wants 41 = .ok (.aload_n 0, 1) := by decide +kernel
theorem dX8_wants_42 : decode cX8_wants 42 = .ok (.getfield 45, 3) := by decide +kernel
theorem dX8_wants_45 : decode cX8_wants 45 = .ok (.aload_n 0, 1) := by decide +kernel
theorem dX8_wants_46 : decode cX8_wants 46 = .ok (.getfield 31, 3) := by decide +kernel
theorem dX8_wants_49 : decode cX8_wants 49 = .ok (.iload_n 1, 1) := by decide +kernel
theorem dX8_wants_50 : decode cX8_wants 50 = .ok (.iload_n 2, 1) := by decide +kernel
theorem dX8_wants_51 : decode cX8_wants 51 = .ok (.invokevirtual 194, 3) := by decide +kernel
theorem dX8_wants_54 : decode cX8_wants 54 = .ok (.ireturn, 1) := by decide +kernel
set_option maxRecDepth 20000 in
theorem ggX8_still_X1_hasPlayer : GoodIn wsX8_still wsX1_hasPlayer := goodIn_r _ [8, 9, 86, 87, 88, 89, 90, 91, 92, 93] (by decide +kernel) (by decide +kernel)
set_option maxRecDepth 20000 in
theorem gX8_still_X1_hasPlayer : GoodIn wsX8_still (wsV RX8 121 RX1 yX1_hasPlayer wsX1_hasPlayer) := goodIn_app (goodIn_of _ (by decide +kernel)) ggX8_still_X1_hasPlayer
set_option maxRecDepth 20000 in
theorem ggX8_still_X4_isDead : GoodIn wsX8_still wsX4_isDead := goodIn_r _ [14, 15, 94, 95, 96, 97, 98, 99] (by decide +kernel) (by decide +kernel)
set_option maxRecDepth 20000 in
theorem gX8_still_X4_isDead : GoodIn wsX8_still (wsV RX8 139 RX4 yX4_isDead wsX4_isDead) := goodIn_app (goodIn_of _ (by decide +kernel)) ggX8_still_X4_isDead
set_option maxRecDepth 20000 in
theorem ggX8_still_X5_fewestSentHome : GoodIn wsX8_still wsX5_fewestSentHome := goodIn_r _ [20, 21, 22, 23, 24, 7, 25, 26, 27, 28, 29, 30, 31, 32, 33, 34, 35, 36, 13, 37, 38, 39, 40, 41, 42, 43, 44, 45, 46, 47, 48, 49, 50, 51, 52, 53, 54, 55, 56, 57, 58, 59, 60, 61, 62, 63, 64, 65, 66, 67, 68, 69, 70, 71, 72, 73, 74, 75, 76, 100, 101, 102, 86, 87, 88, 89, 90, 91, 92, 93, 94, 95, 96, 97, 98, 99] (by decide +kernel) (by decide +kernel)
set_option maxRecDepth 20000 in
theorem gX8_still_X5_fewestSentHome : GoodIn wsX8_still (wsV RX8 198 RX5 yX5_fewestSentHome wsX5_fewestSentHome) := goodIn_app (goodIn_of _ (by decide +kernel)) ggX8_still_X5_fewestSentHome
theorem dX8_still_0 : decode cX8_still 0 = .ok (.aload_n 0, 1) := by decide +kernel
theorem dX8_still_1 : decode cX8_still 1 = .ok (.getfield 19, 3) := by decide +kernel
theorem dX8_still_4 : decode cX8_still 4 = .ok (.iload_n 1, 1) := by decide +kernel
theorem dX8_still_5 : decode cX8_still 5 = .ok (.invokevirtual 121, 3) := by decide +kernel
theorem dX8_still_8 : decode cX8_still 8 = .ok (.ifCond .ne 5, 3) := by decide +kernel
theorem dX8_still_11 : decode cX8_still 11 = .ok (.iconst (-1), 1) := by decide +kernel
theorem dX8_still_12 : decode cX8_still 12 = .ok (.ireturn, 1) := by decide +kernel
theorem dX8_still_13 : decode cX8_still 13 = .ok (.aload_n 0, 1) := by decide +kernel
theorem dX8_still_14 : decode cX8_still 14 = .ok (.getfield 31, 3) := by decide +kernel
theorem dX8_still_17 : decode cX8_still 17 = .ok (.iload_n 1, 1) := by decide +kernel
theorem dX8_still_18 : decode cX8_still 18 = .ok (.invokevirtual 139, 3) := by decide +kernel
theorem dX8_still_21 : decode cX8_still 21 = .ok (.ifCond .eq 6, 3) := by decide +kernel
theorem dX8_still_24 : decode cX8_still 24 = .ok (.bipush (-3), 2) := by decide +kernel
theorem dX8_still_26 : decode cX8_still 26 = .ok (.ireturn, 1) := by decide +kernel
theorem dX8_still_27 : decode cX8_still 27 = .ok (.aload_n 0, 1) := by decide +kernel
theorem dX8_still_28 : decode cX8_still 28 = .ok (.getfield 45, 3) := by decide +kernel
theorem dX8_still_31 : decode cX8_still 31 = .ok (.aload_n 0, 1) := by decide +kernel
theorem dX8_still_32 : decode cX8_still 32 = .ok (.getfield 31, 3) := by decide +kernel
theorem dX8_still_35 : decode cX8_still 35 = .ok (.iload_n 1, 1) := by decide +kernel
theorem dX8_still_36 : decode cX8_still 36 = .ok (.invokevirtual 198, 3) := by decide +kernel
theorem dX8_still_39 : decode cX8_still 39 = .ok (.ireturn, 1) := by decide +kernel
set_option maxRecDepth 20000 in
theorem ggX8_judge_X5_firstNotSo : GoodIn wsX8_judge wsX5_firstNotSo := goodIn_r _ [8, 9, 10, 11, 12, 13, 14, 15, 16, 17, 18, 19, 20, 21, 22, 23, 24, 25, 26, 27, 7, 28, 29, 30, 31, 32, 33, 34, 35, 36, 37, 38, 39, 40, 41, 42, 43, 44, 45, 46, 47, 48, 49, 50, 51, 52, 53, 54, 55, 56, 57, 58, 59, 60, 61, 62, 63, 64, 65, 66, 67, 68, 69, 70, 71, 72, 73, 74, 75, 76, 77, 78, 79, 80, 81, 82, 83, 84, 85, 86, 87, 88, 89, 90, 91, 92, 93, 94, 95, 96, 97, 98, 99, 100, 101, 102, 103, 104, 105, 106, 107, 108, 109, 110, 111, 112, 113, 114, 115, 116, 117, 118, 119, 120, 121, 122, 123, 124, 125, 126, 127, 128, 129, 130, 131, 132, 133, 134, 144, 145, 146, 147, 148, 149, 150, 151, 152, 153, 154, 155, 156, 157, 158, 159, 160] (by decide +kernel) (by decide +kernel)
set_option maxRecDepth 20000 in
theorem gX8_judge_X5_firstNotSo : GoodIn wsX8_judge (wsV RX8 203 RX5 yX5_firstNotSo wsX5_firstNotSo) := goodIn_app (goodIn_of _ (by decide +kernel)) ggX8_judge_X5_firstNotSo
theorem dX8_judge_0 : decode cX8_judge 0 = .ok (.iload_n 1, 1) := by decide +kernel
theorem dX8_judge_1 : decode cX8_judge 1 = .ok (.iconst 1, 1) := by decide +kernel
theorem dX8_judge_2 : decode cX8_judge 2 = .ok (.if_icmp .lt 8, 3) := by decide +kernel
theorem dX8_judge_5 : decode cX8_judge 5 = .ok (.iload_n 1, 1) := by decide +kernel
theorem dX8_judge_6 : decode cX8_judge 6 = .ok (.iconst 4, 1) := by decide +kernel
theorem dX8_judge_7 : decode cX8_judge 7 = .ok (.if_icmp .le 6, 3) := by decide +kernel
theorem dX8_judge_10 : decode cX8_judge 10 = .ok (.bipush (-2), 2) := by decide +kernel
theorem dX8_judge_12 : decode cX8_judge 12 = .ok (.ireturn, 1) := by decide +kernel
theorem dX8_judge_13 : decode cX8_judge 13 = .ok (.lconst 1, 1) := by decide +kernel
theorem dX8_judge_14 : decode cX8_judge 14 = .ok (.lstore 4, 2) := by decide +kernel
theorem dX8_judge_16 : decode cX8_judge 16 = .ok (.iconst 1, 1) := by decide +kernel
theorem dX8_judge_17 : decode cX8_judge 17 = .ok (.istore 6, 2) := by decide +kernel
theorem dX8_judge_19 : decode cX8_judge 19 = .ok (.iload 6, 2) := by decide +kernel
theorem dX8_judge_21 : decode cX8_judge 21 = .ok (.iload_n 1, 1) := by decide +kernel
theorem dX8_judge_22 : decode cX8_judge 22 = .ok (.if_icmp .ge 17, 3) := by decide +kernel
theorem dX8_judge_25 : decode cX8_judge 25 = .ok (.lload 4, 2) := by decide +kernel
theorem dX8_judge_27 : decode cX8_judge 27 = .ok (.ldc2_w 201, 3) := by decide +kernel
theorem dX8_judge_30 : decode cX8_judge 30 = .ok (.lmul, 1) := by decide +kernel
theorem dX8_judge_31 : decode cX8_judge 31 = .ok (.lstore 4, 2) := by decide +kernel
theorem dX8_judge_33 : decode cX8_judge 33 = .ok (.iinc 6 1, 3) := by decide +kernel
theorem dX8_judge_36 : decode cX8_judge 36 = .ok (.goto (-17), 3) := by decide +kernel
theorem dX8_judge_39 : decode cX8_judge 39 = .ok (.lload_n 2, 1) := by decide +kernel
theorem dX8_judge_40 : decode cX8_judge 40 = .ok (.lconst 0, 1) := by decide +kernel
theorem dX8_judge_41 : decode cX8_judge 41 = .ok (.lcmp, 1) := by decide +kernel
theorem dX8_judge_42 : decode cX8_judge 42 = .ok (.ifCond .lt 14, 3) := by decide +kernel
theorem dX8_judge_45 : decode cX8_judge 45 = .ok (.lload_n 2, 1) := by decide +kernel
theorem dX8_judge_46 : decode cX8_judge 46 = .ok (.ldc2_w 201, 3) := by decide +kernel
theorem dX8_judge_49 : decode cX8_judge 49 = .ok (.ldiv, 1) := by decide +kernel
theorem dX8_judge_50 : decode cX8_judge 50 = .ok (.lload 4, 2) := by decide +kernel
theorem dX8_judge_52 : decode cX8_judge 52 = .ok (.lcmp, 1) := by decide +kernel
theorem dX8_judge_53 : decode cX8_judge 53 = .ok (.ifCond .lt 6, 3) := by decide +kernel
theorem dX8_judge_56 : decode cX8_judge 56 = .ok (.bipush (-2), 2) := by decide +kernel
theorem dX8_judge_58 : decode cX8_judge 58 = .ok (.ireturn, 1) := by decide +kernel
theorem dX8_judge_59 : decode cX8_judge 59 = .ok (.aload_n 0, 1) := by decide +kernel
theorem dX8_judge_60 : decode cX8_judge 60 = .ok (.getfield 45, 3) := by decide +kernel
theorem dX8_judge_63 : decode cX8_judge 63 = .ok (.aload_n 0, 1) := by decide +kernel
theorem dX8_judge_64 : decode cX8_judge 64 = .ok (.getfield 31, 3) := by decide +kernel
theorem dX8_judge_67 : decode cX8_judge 67 = .ok (.iload_n 1, 1) := by decide +kernel
theorem dX8_judge_68 : decode cX8_judge 68 = .ok (.lload 4, 2) := by decide +kernel
theorem dX8_judge_70 : decode cX8_judge 70 = .ok (.lload_n 2, 1) := by decide +kernel
theorem dX8_judge_71 : decode cX8_judge 71 = .ok (.invokevirtual 203, 3) := by decide +kernel
theorem dX8_judge_74 : decode cX8_judge 74 = .ok (.ireturn, 1) := by decide +kernel
set_option maxRecDepth 20000 in
theorem ggX8_share_X1_hasHand : GoodIn wsX8_share wsX1_hasHand := goodIn_r _ [8, 9, 91, 92, 93, 94, 95, 96, 97, 98] (by decide +kernel) (by decide +kernel)
set_option maxRecDepth 20000 in
theorem gX8_share_X1_hasHand : GoodIn wsX8_share (wsV RX8 142 RX1 yX1_hasHand wsX1_hasHand) := goodIn_app (goodIn_of _ (by decide +kernel)) ggX8_share_X1_hasHand
set_option maxRecDepth 20000 in
theorem ggX8_share_X1_hasPlayer : GoodIn wsX8_share wsX1_hasPlayer := goodIn_r _ [13, 14, 91, 92, 93, 94, 95, 96, 97, 98] (by decide +kernel) (by decide +kernel)
set_option maxRecDepth 20000 in
theorem gX8_share_X1_hasPlayer : GoodIn wsX8_share (wsV RX8 121 RX1 yX1_hasPlayer wsX1_hasPlayer) := goodIn_app (goodIn_of _ (by decide +kernel)) ggX8_share_X1_hasPlayer
set_option maxRecDepth 20000 in
theorem ggX8_share_X2_meanLouder : GoodIn wsX8_share wsX2_meanLouder := goodIn_r _ [19, 20, 21, 22, 23, 24, 7, 25, 9, 26, 27, 28, 29, 30, 31, 32, 33, 34, 18, 35, 36, 37, 38, 39, 40, 41, 42, 43, 44, 45, 46, 47, 48, 49, 50, 51, 52, 53, 54, 55, 56, 57, 58, 59, 60, 61, 62, 63, 64, 65, 66, 67, 68, 69, 70, 71, 72, 73, 74, 75, 76, 77, 78, 79, 80, 81, 99, 100, 101, 91, 92, 93, 94, 95, 96, 97, 98, 102, 103, 104, 105, 106, 107] (by decide +kernel) (by decide +kernel)
set_option maxRecDepth 20000 in
theorem gX8_share_X2_meanLouder : GoodIn wsX8_share (wsV RX8 207 RX2 yX2_meanLouder wsX2_meanLouder) := goodIn_app (goodIn_of _ (by decide +kernel)) ggX8_share_X2_meanLouder
theorem dX8_share_0 : decode cX8_share 0 = .ok (.aload_n 0, 1) := by decide +kernel
theorem dX8_share_1 : decode cX8_share 1 = .ok (.getfield 19, 3) := by decide +kernel
theorem dX8_share_4 : decode cX8_share 4 = .ok (.iload_n 1, 1) := by decide +kernel
theorem dX8_share_5 : decode cX8_share 5 = .ok (.invokevirtual 142, 3) := by decide +kernel
theorem dX8_share_8 : decode cX8_share 8 = .ok (.ifCond .eq 14, 3) := by decide +kernel
theorem dX8_share_11 : decode cX8_share 11 = .ok (.aload_n 0, 1) := by decide +kernel
theorem dX8_share_12 : decode cX8_share 12 = .ok (.getfield 19, 3) := by decide +kernel
theorem dX8_share_15 : decode cX8_share 15 = .ok (.iload_n 2, 1) := by decide +kernel
theorem dX8_share_16 : decode cX8_share 16 = .ok (.invokevirtual 121, 3) := by decide +kernel
theorem dX8_share_19 : decode cX8_share 19 = .ok (.ifCond .ne 5, 3) := by decide +kernel
theorem dX8_share_22 : decode cX8_share 22 = .ok (.iconst (-1), 1) := by decide +kernel
theorem dX8_share_23 : decode cX8_share 23 = .ok (.ireturn, 1) := by decide +kernel
theorem dX8_share_24 : decode cX8_share 24 = .ok (.aload_n 0, 1) := by decide +kernel
theorem dX8_share_25 : decode cX8_share 25 = .ok (.getfield 52, 3) := by decide +kernel
theorem dX8_share_28 : decode cX8_share 28 = .ok (.aload_n 0, 1) := by decide +kernel
theorem dX8_share_29 : decode cX8_share 29 = .ok (.getfield 31, 3) := by decide +kernel
theorem dX8_share_32 : decode cX8_share 32 = .ok (.iload_n 1, 1) := by decide +kernel
theorem dX8_share_33 : decode cX8_share 33 = .ok (.iload_n 2, 1) := by decide +kernel
theorem dX8_share_34 : decode cX8_share 34 = .ok (.iload_n 3, 1) := by decide +kernel
theorem dX8_share_35 : decode cX8_share 35 = .ok (.invokevirtual 207, 3) := by decide +kernel
theorem dX8_share_38 : decode cX8_share 38 = .ok (.ireturn, 1) := by decide +kernel
set_option maxRecDepth 20000 in
theorem ggX8_hear_X8_isEitherOr : GoodIn wsX8_hear wsX8_isEitherOr := goodIn_r _ [5] (by decide +kernel) (by decide +kernel)
set_option maxRecDepth 20000 in
theorem gX8_hear_X8_isEitherOr : GoodIn wsX8_hear (va_wsS RX8 187 yX8_isEitherOr wsX8_isEitherOr) := goodIn_app (goodIn_of _ (by decide +kernel)) ggX8_hear_X8_isEitherOr
set_option maxRecDepth 20000 in
theorem ggX8_hear_X3_note : GoodIn wsX8_hear wsX3_note := goodIn_r _ [10, 11, 12, 13, 14, 24, 25, 26, 27] (by decide +kernel) (by decide +kernel)
set_option maxRecDepth 20000 in
theorem gX8_hear_X3_note : GoodIn wsX8_hear (wsV RX8 211 RX3 yX3_note wsX3_note) := goodIn_app (goodIn_of _ (by decide +kernel)) ggX8_hear_X3_note
theorem dX8_hear_0 : decode cX8_hear 0 = .ok (.iload_n 1, 1) := by decide +kernel
theorem dX8_hear_1 : decode cX8_hear 1 = .ok (.ifCond .lt 23, 3) := by decide +kernel
theorem dX8_hear_4 : decode cX8_hear 4 = .ok (.iload_n 1, 1) := by decide +kernel
theorem dX8_hear_5 : decode cX8_hear 5 = .ok (.bipush 9, 2) := by decide +kernel
theorem dX8_hear_7 : decode cX8_hear 7 = .ok (.if_icmp .gt 17, 3) := by decide +kernel
theorem dX8_hear_10 : decode cX8_hear 10 = .ok (.iload_n 2, 1) := by decide +kernel
theorem dX8_hear_11 : decode cX8_hear 11 = .ok (.invokestatic 187, 3) := by decide +kernel
theorem dX8_hear_14 : decode cX8_hear 14 = .ok (.ifCond .eq 10, 3) := by decide +kernel
theorem dX8_hear_17 : decode cX8_hear 17 = .ok (.iload_n 3, 1) := by decide +kernel
theorem dX8_hear_18 : decode cX8_hear 18 = .ok (.invokestatic 187, 3) := by decide +kernel
theorem dX8_hear_21 : decode cX8_hear 21 = .ok (.ifCond .ne 6, 3) := by decide +kernel
theorem dX8_hear_24 : decode cX8_hear 24 = .ok (.bipush (-2), 2) := by decide +kernel
theorem dX8_hear_26 : decode cX8_hear 26 = .ok (.ireturn, 1) := by decide +kernel
theorem dX8_hear_27 : decode cX8_hear 27 = .ok (.aload_n 0, 1) := by decide +kernel
theorem dX8_hear_28 : decode cX8_hear 28 = .ok (.getfield 59, 3) := by decide +kernel
theorem dX8_hear_31 : decode cX8_hear 31 = .ok (.iload_n 1, 1) := by decide +kernel
theorem dX8_hear_32 : decode cX8_hear 32 = .ok (.iload_n 2, 1) := by decide +kernel
theorem dX8_hear_33 : decode cX8_hear 33 = .ok (.iload_n 3, 1) := by decide +kernel
theorem dX8_hear_34 : decode cX8_hear 34 = .ok (.invokevirtual 211, 3) := by decide +kernel
theorem dX8_hear_37 : decode cX8_hear 37 = .ok (.ireturn, 1) := by decide +kernel
set_option maxRecDepth 20000 in
theorem ggX8_unhear_X3_forget : GoodIn wsX8_unhear wsX3_forget := goodIn_r _ [6, 7, 17, 18, 19, 20] (by decide +kernel) (by decide +kernel)
set_option maxRecDepth 20000 in
theorem gX8_unhear_X3_forget : GoodIn wsX8_unhear (wsV RX8 214 RX3 yX3_forget wsX3_forget) := goodIn_app (goodIn_of _ (by decide +kernel)) ggX8_unhear_X3_forget
theorem dX8_unhear_0 : decode cX8_unhear 0 = .ok (.aload_n 0, 1) := by decide +kernel
theorem dX8_unhear_1 : decode cX8_unhear 1 = .ok (.getfield 59, 3) := by decide +kernel
theorem dX8_unhear_4 : decode cX8_unhear 4 = .ok (.invokevirtual 214, 3) := by decide +kernel
theorem dX8_unhear_7 : decode cX8_unhear 7 = .ok (.ireturn, 1) := by decide +kernel
set_option maxRecDepth 20000 in
theorem ggX8_whose_X8_isEitherOr : GoodIn wsX8_whose wsX8_isEitherOr := goodIn_r _ [5] (by decide +kernel) (by decide +kernel)
set_option maxRecDepth 20000 in
theorem gX8_whose_X8_isEitherOr : GoodIn wsX8_whose (va_wsS RX8 187 yX8_isEitherOr wsX8_isEitherOr) := goodIn_app (goodIn_of _ (by decide +kernel)) ggX8_whose_X8_isEitherOr
set_option maxRecDepth 20000 in
theorem ggX8_whose_X3_countFitting : GoodIn wsX8_whose wsX3_countFitting := goodIn_r _ [10, 11, 12, 13, 9, 14, 15, 16, 17, 18, 19, 20, 21, 35, 36, 37, 38] (by decide +kernel) (by decide +kernel)
set_option maxRecDepth 20000 in
theorem gX8_whose_X3_countFitting : GoodIn wsX8_whose (wsV RX8 216 RX3 yX3_countFitting wsX3_countFitting) := goodIn_app (goodIn_of _ (by decide +kernel)) ggX8_whose_X3_countFitting
set_option maxRecDepth 20000 in
theorem ggX8_whose_X3_firstFitting : GoodIn wsX8_whose wsX3_firstFitting := goodIn_r _ [25, 11, 12, 13, 9, 14, 15, 16, 17, 18, 19, 20, 21, 35, 36, 37, 38] (by decide +kernel) (by decide +kernel)
set_option maxRecDepth 20000 in
theorem gX8_whose_X3_firstFitting : GoodIn wsX8_whose (wsV RX8 219 RX3 yX3_firstFitting wsX3_firstFitting) := goodIn_app (goodIn_of _ (by decide +kernel)) ggX8_whose_X3_firstFitting
theorem dX8_whose_0 : decode cX8_whose 0 = .ok (.iload_n 1, 1) := by decide +kernel
theorem dX8_whose_1 : decode cX8_whose 1 = .ok (.invokestatic 187, 3) := by decide +kernel
theorem dX8_whose_4 : decode cX8_whose 4 = .ok (.ifCond .ne 6, 3) := by decide +kernel
theorem dX8_whose_7 : decode cX8_whose 7 = .ok (.bipush (-2), 2) := by decide +kernel
theorem dX8_whose_9 : decode cX8_whose 9 = .ok (.ireturn, 1) := by decide +kernel
theorem dX8_whose_10 : decode cX8_whose 10 = .ok (.iload_n 1, 1) := by decide +kernel
theorem dX8_whose_11 : decode cX8_whose 11 = .ok (.ifCond .ne 13, 3) := by decide +kernel
theorem dX8_whose_14 : decode cX8_whose 14 = .ok (.aload_n 0, 1) := by decide +kernel
theorem dX8_whose_15 : decode cX8_whose 15 = .ok (.getfield 59, 3) := by decide +kernel
theorem dX8_whose_18 : decode cX8_whose 18 = .ok (.invokevirtual 216, 3) := by decide +kernel
theorem dX8_whose_21 : decode cX8_whose 21 = .ok (.goto 10, 3) := by decide +kernel
theorem dX8_whose_24 : decode cX8_whose 24 = .ok (.aload_n 0, 1) := by decide +kernel
theorem dX8_whose_25 : decode cX8_whose 25 = .ok (.getfield 59, 3) := by decide +kernel
theorem dX8_whose_28 : decode cX8_whose 28 = .ok (.invokevirtual 219, 3) := by decide +kernel
theorem dX8_whose_31 : decode cX8_whose 31 = .ok (.ireturn, 1) := by decide +kernel
set_option maxRecDepth 20000 in
theorem ggX8_rests_X1_hasHand : GoodIn wsX8_rests wsX1_hasHand := goodIn_r _ [9, 10, 89, 90, 91, 92, 93, 94, 95, 96] (by decide +kernel) (by decide +kernel)
set_option maxRecDepth 20000 in
theorem gX8_rests_X1_hasHand : GoodIn wsX8_rests (wsV RX8 142 RX1 yX1_hasHand wsX1_hasHand) := goodIn_app (goodIn_of _ (by decide +kernel)) ggX8_rests_X1_hasHand
set_option maxRecDepth 20000 in
theorem ggX8_rests_X8_isEitherOr : GoodIn wsX8_rests wsX8_isEitherOr := goodIn_r _ [14] (by decide +kernel) (by decide +kernel)
set_option maxRecDepth 20000 in
theorem gX8_rests_X8_isEitherOr : GoodIn wsX8_rests (va_wsS RX8 187 yX8_isEitherOr wsX8_isEitherOr) := goodIn_app (goodIn_of _ (by decide +kernel)) ggX8_rests_X8_isEitherOr
set_option maxRecDepth 20000 in
theorem ggX8_rests_X2_countRests : GoodIn wsX8_rests wsX2_countRests := goodIn_r _ [19, 20, 21, 22, 18, 23, 24, 25, 26, 27, 8, 28, 10, 29, 30, 31, 32, 33, 34, 35, 36, 37, 38, 39, 40, 41, 42, 43, 44, 45, 46, 47, 48, 49, 50, 51, 52, 53, 54, 55, 56, 57, 58, 59, 60, 61, 62, 63, 64, 65, 66, 67, 68, 69, 70, 71, 72, 73, 74, 75, 97, 98, 99, 89, 90, 91, 92, 93, 94, 95, 96, 100, 101, 102, 103, 104, 105] (by decide +kernel) (by decide +kernel)
set_option maxRecDepth 20000 in
theorem gX8_rests_X2_countRests : GoodIn wsX8_rests (wsV RX8 222 RX2 yX2_countRests wsX2_countRests) := goodIn_app (goodIn_of _ (by decide +kernel)) ggX8_rests_X2_countRests
set_option maxRecDepth 20000 in
theorem ggX8_rests_X2_firstRest : GoodIn wsX8_rests wsX2_firstRest := goodIn_r _ [79, 20, 21, 22, 18, 23, 24, 25, 26, 27, 8, 28, 10, 29, 30, 31, 32, 33, 34, 35, 36, 37, 38, 39, 40, 41, 42, 43, 44, 45, 46, 47, 48, 49, 50, 51, 52, 53, 54, 55, 56, 57, 58, 59, 60, 61, 62, 63, 64, 65, 66, 67, 68, 69, 70, 71, 72, 73, 74, 75, 97, 98, 99, 89, 90, 91, 92, 93, 94, 95, 96, 100, 101, 102, 103, 104, 105] (by decide +kernel) (by decide +kernel)
set_option maxRecDepth 20000 in
theorem gX8_rests_X2_firstRest : GoodIn wsX8_rests (wsV RX8 225 RX2 yX2_firstRest wsX2_firstRest) := goodIn_app (goodIn_of _ (by decide +kernel)) ggX8_rests_X2_firstRest
theorem dX8_rests_0 : decode cX8_rests 0 = .ok (.aload_n 0, 1) := by decide +kernel
theorem dX8_rests_1 : decode cX8_rests 1 = .ok (.getfield 19, 3) := by decide +kernel
theorem dX8_rests_4 : decode cX8_rests 4 = .ok (.iload_n 1, 1) := by decide +kernel
theorem dX8_rests_5 : decode cX8_rests 5 = .ok (.invokevirtual 142, 3) := by decide +kernel
theorem dX8_rests_8 : decode cX8_rests 8 = .ok (.ifCond .eq 14, 3) := by decide +kernel
theorem dX8_rests_11 : decode cX8_rests 11 = .ok (.aload_n 0, 1) := by decide +kernel
theorem dX8_rests_12 : decode cX8_rests 12 = .ok (.getfield 19, 3) := by decide +kernel
theorem dX8_rests_15 : decode cX8_rests 15 = .ok (.iload_n 2, 1) := by decide +kernel
theorem dX8_rests_16 : decode cX8_rests 16 = .ok (.invokevirtual 142, 3) := by decide +kernel
theorem dX8_rests_19 : decode cX8_rests 19 = .ok (.ifCond .ne 5, 3) := by decide +kernel
theorem dX8_rests_22 : decode cX8_rests 22 = .ok (.iconst (-1), 1) := by decide +kernel
theorem dX8_rests_23 : decode cX8_rests 23 = .ok (.ireturn, 1) := by decide +kernel
theorem dX8_rests_24 : decode cX8_rests 24 = .ok (.iload_n 1, 1) := by decide +kernel
theorem dX8_rests_25 : decode cX8_rests 25 = .ok (.iload_n 2, 1) := by decide +kernel
theorem dX8_rests_26 : decode cX8_rests 26 = .ok (.if_icmp .eq 10, 3) := by decide +kernel
theorem dX8_rests_29 : decode cX8_rests 29 = .ok (.iload_n 3, 1) := by decide +kernel
theorem dX8_rests_30 : decode cX8_rests 30 = .ok (.invokestatic 187, 3) := by decide +kernel
theorem dX8_rests_33 : decode cX8_rests 33 = .ok (.ifCond .ne 6, 3) := by decide +kernel
theorem dX8_rests_36 : decode cX8_rests 36 = .ok (.bipush (-2), 2) := by decide +kernel
theorem dX8_rests_38 : decode cX8_rests 38 = .ok (.ireturn, 1) := by decide +kernel
theorem dX8_rests_39 : decode cX8_rests 39 = .ok (.aload_n 0, 1) := by decide +kernel
theorem dX8_rests_40 : decode cX8_rests 40 = .ok (.getfield 19, 3) := by decide +kernel
theorem dX8_rests_43 : decode cX8_rests 43 = .ok (.getfield 148, 3) := by decide +kernel
theorem dX8_rests_46 : decode cX8_rests 46 = .ok (.iload_n 1, 1) := by decide +kernel
theorem dX8_rests_47 : decode cX8_rests 47 = .ok (.iaload, 1) := by decide +kernel
theorem dX8_rests_48 : decode cX8_rests 48 = .ok (.aload_n 0, 1) := by decide +kernel
theorem dX8_rests_49 : decode cX8_rests 49 = .ok (.getfield 19, 3) := by decide +kernel
theorem dX8_rests_52 : decode cX8_rests 52 = .ok (.getfield 148, 3) := by decide +kernel
theorem dX8_rests_55 : decode cX8_rests 55 = .ok (.iload_n 2, 1) := by decide +kernel
theorem dX8_rests_56 : decode cX8_rests 56 = .ok (.iaload, 1) := by decide +kernel
theorem dX8_rests_57 : decode cX8_rests 57 = .ok (.if_icmp .eq 6, 3) := by decide +kernel
theorem dX8_rests_60 : decode cX8_rests 60 = .ok (.bipush (-3), 2) := by decide +kernel
theorem dX8_rests_62 : decode cX8_rests 62 = .ok (.ireturn, 1) := by decide +kernel
theorem dX8_rests_63 : decode cX8_rests 63 = .ok (.iload_n 3, 1) := by decide +kernel
theorem dX8_rests_64 : decode cX8_rests 64 = .ok (.ifCond .ne 19, 3) := by decide +kernel
theorem dX8_rests_67 : decode cX8_rests 67 = .ok (.aload_n 0, 1) := by decide +kernel
theorem dX8_rests_68 : decode cX8_rests 68 = .ok (.getfield 52, 3) := by decide +kernel
theorem dX8_rests_71 : decode cX8_rests 71 = .ok (.aload_n 0, 1) := by decide +kernel
theorem dX8_rests_72 : decode cX8_rests 72 = .ok (.getfield 31, 3) := by decide +kernel
theorem dX8_rests_75 : decode cX8_rests 75 = .ok (.iload_n 1, 1) := by decide +kernel
theorem dX8_rests_76 : decode cX8_rests 76 = .ok (.iload_n 2, 1) := by decide +kernel
theorem dX8_rests_77 : decode cX8_rests 77 = .ok (.invokevirtual 222, 3) := by decide +kernel
theorem dX8_rests_80 : decode cX8_rests 80 = .ok (.goto 16, 3) := by decide +kernel
theorem dX8_rests_83 : decode cX8_rests 83 = .ok (.aload_n 0, 1) := by decide +kernel
theorem dX8_rests_84 : decode cX8_rests 84 = .ok (.getfield 52, 3) := by decide +kernel
theorem dX8_rests_87 : decode cX8_rests 87 = .ok (.aload_n 0, 1) := by decide +kernel
theorem dX8_rests_88 : decode cX8_rests 88 = .ok (.getfield 31, 3) := by decide +kernel
theorem dX8_rests_91 : decode cX8_rests 91 = .ok (.iload_n 1, 1) := by decide +kernel
theorem dX8_rests_92 : decode cX8_rests 92 = .ok (.iload_n 2, 1) := by decide +kernel
theorem dX8_rests_93 : decode cX8_rests 93 = .ok (.invokevirtual 225, 3) := by decide +kernel
theorem dX8_rests_96 : decode cX8_rests 96 = .ok (.ireturn, 1) := by decide +kernel
set_option maxRecDepth 20000 in
theorem ggX8_away_X1_hasPlayer : GoodIn wsX8_away wsX1_hasPlayer := goodIn_r _ [8, 9, 93, 94, 95, 96, 97, 98, 99, 100] (by decide +kernel) (by decide +kernel)
set_option maxRecDepth 20000 in
theorem gX8_away_X1_hasPlayer : GoodIn wsX8_away (wsV RX8 121 RX1 yX1_hasPlayer wsX1_hasPlayer) := goodIn_app (goodIn_of _ (by decide +kernel)) ggX8_away_X1_hasPlayer
set_option maxRecDepth 20000 in
theorem ggX8_away_X2_enoughStay : GoodIn wsX8_away wsX2_enoughStay := goodIn_r _ [14, 15, 16, 17, 18, 19, 20, 7, 21, 22, 23, 24, 25, 26, 27, 28, 29, 30, 31, 32, 33, 34, 35, 36, 37, 38, 39, 40, 41, 42, 43, 44, 45, 46, 47, 48, 49, 50, 51, 52, 53, 54, 55, 56, 57, 58, 59, 60, 61, 62, 63, 64, 65, 66, 67, 68, 69, 70, 71, 72, 73, 74, 75, 13, 76, 77, 78, 79, 80, 81, 82, 83, 101, 102, 103, 93, 94, 95, 96, 97, 98, 99, 100, 104, 105, 106, 107, 108, 109] (by decide +kernel) (by decide +kernel)
set_option maxRecDepth 20000 in
theorem gX8_away_X2_enoughStay : GoodIn wsX8_away (wsV RX8 228 RX2 yX2_enoughStay wsX2_enoughStay) := goodIn_app (goodIn_of _ (by decide +kernel)) ggX8_away_X2_enoughStay
theorem dX8_away_0 : decode cX8_away 0 = .ok (.aload_n 0, 1) := by decide +kernel
theorem dX8_away_1 : decode cX8_away 1 = .ok (.getfield 19, 3) := by decide +kernel
theorem dX8_away_4 : decode cX8_away 4 = .ok (.iload_n 1, 1) := by decide +kernel
theorem dX8_away_5 : decode cX8_away 5 = .ok (.invokevirtual 121, 3) := by decide +kernel
theorem dX8_away_8 : decode cX8_away 8 = .ok (.ifCond .ne 5, 3) := by decide +kernel
theorem dX8_away_11 : decode cX8_away 11 = .ok (.iconst (-1), 1) := by decide +kernel
theorem dX8_away_12 : decode cX8_away 12 = .ok (.ireturn, 1) := by decide +kernel
theorem dX8_away_13 : decode cX8_away 13 = .ok (.iload_n 2, 1) := by decide +kernel
theorem dX8_away_14 : decode cX8_away 14 = .ok (.ifCond .lt 9, 3) := by decide +kernel
theorem dX8_away_17 : decode cX8_away 17 = .ok (.iload_n 2, 1) := by decide +kernel
theorem dX8_away_18 : decode cX8_away 18 = .ok (.bipush 10, 2) := by decide +kernel
theorem dX8_away_20 : decode cX8_away 20 = .ok (.if_icmp .le 6, 3) := by decide +kernel
theorem dX8_away_23 : decode cX8_away 23 = .ok (.bipush (-2), 2) := by decide +kernel
theorem dX8_away_25 : decode cX8_away 25 = .ok (.ireturn, 1) := by decide +kernel
theorem dX8_away_26 : decode cX8_away 26 = .ok (.aload_n 0, 1) := by decide +kernel
theorem dX8_away_27 : decode cX8_away 27 = .ok (.getfield 52, 3) := by decide +kernel
theorem dX8_away_30 : decode cX8_away 30 = .ok (.aload_n 0, 1) := by decide +kernel
theorem dX8_away_31 : decode cX8_away 31 = .ok (.getfield 31, 3) := by decide +kernel
theorem dX8_away_34 : decode cX8_away 34 = .ok (.iload_n 1, 1) := by decide +kernel
theorem dX8_away_35 : decode cX8_away 35 = .ok (.iload_n 2, 1) := by decide +kernel
theorem dX8_away_36 : decode cX8_away 36 = .ok (.iload_n 3, 1) := by decide +kernel
theorem dX8_away_37 : decode cX8_away 37 = .ok (.invokevirtual 228, 3) := by decide +kernel
theorem dX8_away_40 : decode cX8_away 40 = .ok (.ireturn, 1) := by decide +kernel
theorem dX8_seed_0 : decode cX8_seed 0 = .ok (.aload_n 0, 1) := by decide +kernel
theorem dX8_seed_1 : decode cX8_seed 1 = .ok (.getfield 52, 3) := by decide +kernel
theorem dX8_seed_4 : decode cX8_seed 4 = .ok (.getfield 231, 3) := by decide +kernel
theorem dX8_seed_7 : decode cX8_seed 7 = .ok (.lstore_n 3, 1) := by decide +kernel
theorem dX8_seed_8 : decode cX8_seed 8 = .ok (.aload_n 0, 1) := by decide +kernel
theorem dX8_seed_9 : decode cX8_seed 9 = .ok (.getfield 52, 3) := by decide +kernel
theorem dX8_seed_12 : decode cX8_seed 12 = .ok (.lload_n 1, 1) := by decide +kernel
theorem dX8_seed_13 : decode cX8_seed 13 = .ok (.putfield 231, 3) := by decide +kernel
theorem dX8_seed_16 : decode cX8_seed 16 = .ok (.lload_n 3, 1) := by decide +kernel
theorem dX8_seed_17 : decode cX8_seed 17 = .ok (.lreturn, 1) := by decide +kernel
set_option maxRecDepth 20000 in
theorem ggX8_seasons_X2_playSeasons : GoodIn wsX8_seasons wsX2_playSeasons := goodIn_r _ [7, 8, 9, 10, 11, 12, 13, 14, 15, 16, 17, 18, 19, 20, 21, 22, 23, 24, 25, 26, 27, 28, 29, 6, 30, 31, 32, 33, 34, 35, 36, 37, 38, 39, 40, 41, 42, 43, 44, 45, 46, 47, 48, 49, 50, 51, 52, 53, 54, 55, 56, 57, 58, 59, 60, 61, 62, 63, 64, 65, 66, 67, 68, 69, 70, 71, 72, 73, 74, 75, 76, 77, 78, 79, 80, 81, 82, 83, 84, 85, 86, 87, 88, 89, 90, 91, 92, 93, 94, 95, 96, 97, 98, 99, 100, 101, 102, 103, 104, 105, 106, 107, 108, 109, 110, 111, 112, 113, 114, 115, 116, 117, 118, 119, 120, 130, 131, 132, 133, 134, 135, 136, 137, 138, 139, 140, 141, 142, 143, 144, 145, 146] (by decide +kernel) (by decide +kernel)
set_option maxRecDepth 20000 in
theorem gX8_seasons_X2_playSeasons : GoodIn wsX8_seasons (wsV RX8 235 RX2 yX2_playSeasons wsX2_playSeasons) := goodIn_app (goodIn_of _ (by decide +kernel)) ggX8_seasons_X2_playSeasons
theorem dX8_seasons_0 : decode cX8_seasons 0 = .ok (.iload_n 1, 1) := by decide +kernel
theorem dX8_seasons_1 : decode cX8_seasons 1 = .ok (.iconst 1, 1) := by decide +kernel
theorem dX8_seasons_2 : decode cX8_seasons 2 = .ok (.if_icmp .lt 9, 3) := by decide +kernel
theorem dX8_seasons_5 : decode cX8_seasons 5 = .ok (.iload_n 1, 1) := by decide +kernel
theorem dX8_seasons_6 : decode cX8_seasons 6 = .ok (.bipush 30, 2) := by decide +kernel
theorem dX8_seasons_8 : decode cX8_seasons 8 = .ok (.if_icmp .le 6, 3) := by decide +kernel
theorem dX8_seasons_11 : decode cX8_seasons 11 = .ok (.bipush (-2), 2) := by decide +kernel
theorem dX8_seasons_13 : decode cX8_seasons 13 = .ok (.ireturn, 1) := by decide +kernel
theorem dX8_seasons_14 : decode cX8_seasons 14 = .ok (.aload_n 0, 1) := by decide +kernel
theorem dX8_seasons_15 : decode cX8_seasons 15 = .ok (.getfield 52, 3) := by decide +kernel
theorem dX8_seasons_18 : decode cX8_seasons 18 = .ok (.aload_n 0, 1) := by decide +kernel
theorem dX8_seasons_19 : decode cX8_seasons 19 = .ok (.getfield 31, 3) := by decide +kernel
theorem dX8_seasons_22 : decode cX8_seasons 22 = .ok (.iload_n 1, 1) := by decide +kernel
theorem dX8_seasons_23 : decode cX8_seasons 23 = .ok (.invokevirtual 235, 3) := by decide +kernel
theorem dX8_seasons_26 : decode cX8_seasons 26 = .ok (.ireturn, 1) := by decide +kernel
set_option maxRecDepth 20000 in
theorem ggX8_keep_X8_isSlot : GoodIn wsX8_keep wsX8_isSlot := goodIn_r _ [7] (by decide +kernel) (by decide +kernel)
set_option maxRecDepth 20000 in
theorem gX8_keep_X8_isSlot : GoodIn wsX8_keep (va_wsS RX8 238 yX8_isSlot wsX8_isSlot) := goodIn_app (goodIn_of _ (by decide +kernel)) ggX8_keep_X8_isSlot
set_option maxRecDepth 20000 in
theorem ggX8_keep_X7_put : GoodIn wsX8_keep wsX7_put := goodIn_r _ [12, 13, 14, 15, 16, 17, 18, 19, 20, 21, 22, 23, 24, 25, 26, 27, 28, 44, 45, 38, 39, 40, 41, 42, 43] (by decide +kernel) (by decide +kernel)
set_option maxRecDepth 20000 in
theorem gX8_keep_X7_put : GoodIn wsX8_keep (wsV RX8 241 RX7 yX7_put wsX7_put) := goodIn_app (goodIn_of _ (by decide +kernel)) ggX8_keep_X7_put
theorem dX8_keep_0 : decode cX8_keep 0 = .ok (.iload_n 1, 1) := by decide +kernel
theorem dX8_keep_1 : decode cX8_keep 1 = .ok (.invokestatic 238, 3) := by decide +kernel
theorem dX8_keep_4 : decode cX8_keep 4 = .ok (.ifCond .ne 5, 3) := by decide +kernel
theorem dX8_keep_7 : decode cX8_keep 7 = .ok (.iconst (-1), 1) := by decide +kernel
theorem dX8_keep_8 : decode cX8_keep 8 = .ok (.ireturn, 1) := by decide +kernel
theorem dX8_keep_9 : decode cX8_keep 9 = .ok (.aload_n 0, 1) := by decide +kernel
theorem dX8_keep_10 : decode cX8_keep 10 = .ok (.getfield 66, 3) := by decide +kernel
theorem dX8_keep_13 : decode cX8_keep 13 = .ok (.iload_n 1, 1) := by decide +kernel
theorem dX8_keep_14 : decode cX8_keep 14 = .ok (.aload_n 0, 1) := by decide +kernel
theorem dX8_keep_15 : decode cX8_keep 15 = .ok (.getfield 31, 3) := by decide +kernel
theorem dX8_keep_18 : decode cX8_keep 18 = .ok (.invokevirtual 241, 3) := by decide +kernel
theorem dX8_keep_21 : decode cX8_keep 21 = .ok (.aload_n 0, 1) := by decide +kernel
theorem dX8_keep_22 : decode cX8_keep 22 = .ok (.getfield 31, 3) := by decide +kernel
theorem dX8_keep_25 : decode cX8_keep 25 = .ok (.getfield 96, 3) := by decide +kernel
theorem dX8_keep_28 : decode cX8_keep 28 = .ok (.ireturn, 1) := by decide +kernel
set_option maxRecDepth 20000 in
theorem ggX8_again_X8_isSlot : GoodIn wsX8_again wsX8_isSlot := goodIn_r _ [10] (by decide +kernel) (by decide +kernel)
set_option maxRecDepth 20000 in
theorem gX8_again_X8_isSlot : GoodIn wsX8_again (va_wsS RX8 238 yX8_isSlot wsX8_isSlot) := goodIn_app (goodIn_of _ (by decide +kernel)) ggX8_again_X8_isSlot
set_option maxRecDepth 20000 in
theorem ggX8_again_X4_copyFrom : GoodIn wsX8_again wsX4_copyFrom := goodIn_r _ [15, 16, 17, 18, 19, 20, 21, 22, 23, 24, 43, 44, 45, 46, 47, 48] (by decide +kernel) (by decide +kernel)
set_option maxRecDepth 20000 in
theorem gX8_again_X4_copyFrom : GoodIn wsX8_again (wsV RX8 253 RX4 yX4_copyFrom wsX4_copyFrom) := goodIn_app (goodIn_of _ (by decide +kernel)) ggX8_again_X4_copyFrom
set_option maxRecDepth 20000 in
theorem ggX8_again_X0_forget : GoodIn wsX8_again wsX0_forget := goodIn_r _ [29, 30, 31, 49, 50, 51] (by decide +kernel) (by decide +kernel)
set_option maxRecDepth 20000 in
theorem gX8_again_X0_forget : GoodIn wsX8_again (wsV RX8 85 RX0 yX0_forget wsX0_forget) := goodIn_app (goodIn_of _ (by decide +kernel)) ggX8_again_X0_forget
theorem dX8_again_0 : decode cX8_again 0 = .ok (.iload_n 1, 1) := by decide +kernel
theorem dX8_again_1 : decode cX8_again 1 = .ok (.invokestatic 238, 3) := by decide +kernel
theorem dX8_again_4 : decode cX8_again 4 = .ok (.ifCond .ne 5, 3) := by decide +kernel
theorem dX8_again_7 : decode cX8_again 7 = .ok (.iconst (-1), 1) := by decide +kernel
theorem dX8_again_8 : decode cX8_again 8 = .ok (.ireturn, 1) := by decide +kernel
theorem dX8_again_9 : decode cX8_again 9 = .ok (.aload_n 0, 1) := by decide +kernel
theorem dX8_again_10 : decode cX8_again 10 = .ok (.getfield 66, 3) := by decide +kernel
theorem dX8_again_13 : decode cX8_again 13 = .ok (.getfield 245, 3) := by decide +kernel
theorem dX8_again_16 : decode cX8_again 16 = .ok (.iload_n 1, 1) := by decide +kernel
theorem dX8_again_17 : decode cX8_again 17 = .ok (.baload, 1) := by decide +kernel
theorem dX8_again_18 : decode cX8_again 18 = .ok (.ifCond .ne 6, 3) := by decide +kernel
theorem dX8_again_21 : decode cX8_again 21 = .ok (.bipush (-3), 2) := by decide +kernel
theorem dX8_again_23 : decode cX8_again 23 = .ok (.ireturn, 1) := by decide +kernel
theorem dX8_again_24 : decode cX8_again 24 = .ok (.aload_n 0, 1) := by decide +kernel
theorem dX8_again_25 : decode cX8_again 25 = .ok (.getfield 31, 3) := by decide +kernel
theorem dX8_again_28 : decode cX8_again 28 = .ok (.aload_n 0, 1) := by decide +kernel
theorem dX8_again_29 : decode cX8_again 29 = .ok (.getfield 66, 3) := by decide +kernel
theorem dX8_again_32 : decode cX8_again 32 = .ok (.getfield 249, 3) := by decide +kernel
theorem dX8_again_35 : decode cX8_again 35 = .ok (.iload_n 1, 1) := by decide +kernel
theorem dX8_again_36 : decode cX8_again 36 = .ok (.aaload, 1) := by decide +kernel
theorem dX8_again_37 : decode cX8_again 37 = .ok (.invokevirtual 253, 3) := by decide +kernel
theorem dX8_again_40 : decode cX8_again 40 = .ok (.aload_n 0, 1) := by decide +kernel
theorem dX8_again_41 : decode cX8_again 41 = .ok (.getfield 38, 3) := by decide +kernel
theorem dX8_again_44 : decode cX8_again 44 = .ok (.invokevirtual 85, 3) := by decide +kernel
theorem dX8_again_47 : decode cX8_again 47 = .ok (.aload_n 0, 1) := by decide +kernel
theorem dX8_again_48 : decode cX8_again 48 = .ok (.getfield 31, 3) := by decide +kernel
theorem dX8_again_51 : decode cX8_again 51 = .ok (.getfield 96, 3) := by decide +kernel
theorem dX8_again_54 : decode cX8_again 54 = .ok (.ireturn, 1) := by decide +kernel
theorem dX8_isSeat_0 : decode cX8_isSeat 0 = .ok (.iload_n 0, 1) := by decide +kernel
theorem dX8_isSeat_1 : decode cX8_isSeat 1 = .ok (.ifCond .lt 13, 3) := by decide +kernel
theorem dX8_isSeat_4 : decode cX8_isSeat 4 = .ok (.iload_n 0, 1) := by decide +kernel
theorem dX8_isSeat_5 : decode cX8_isSeat 5 = .ok (.bipush 10, 2) := by decide +kernel
theorem dX8_isSeat_7 : decode cX8_isSeat 7 = .ok (.if_icmp .ge 7, 3) := by decide +kernel
theorem dX8_isSeat_10 : decode cX8_isSeat 10 = .ok (.iconst 1, 1) := by decide +kernel
theorem dX8_isSeat_11 : decode cX8_isSeat 11 = .ok (.goto 4, 3) := by decide +kernel
theorem dX8_isSeat_14 : decode cX8_isSeat 14 = .ok (.iconst 0, 1) := by decide +kernel
theorem dX8_isSeat_15 : decode cX8_isSeat 15 = .ok (.ireturn, 1) := by decide +kernel
theorem dX8_isSlot_0 : decode cX8_isSlot 0 = .ok (.iload_n 0, 1) := by decide +kernel
theorem dX8_isSlot_1 : decode cX8_isSlot 1 = .ok (.ifCond .lt 12, 3) := by decide +kernel
theorem dX8_isSlot_4 : decode cX8_isSlot 4 = .ok (.iload_n 0, 1) := by decide +kernel
theorem dX8_isSlot_5 : decode cX8_isSlot 5 = .ok (.iconst 2, 1) := by decide +kernel
theorem dX8_isSlot_6 : decode cX8_isSlot 6 = .ok (.if_icmp .ge 7, 3) := by decide +kernel
theorem dX8_isSlot_9 : decode cX8_isSlot 9 = .ok (.iconst 1, 1) := by decide +kernel
theorem dX8_isSlot_10 : decode cX8_isSlot 10 = .ok (.goto 4, 3) := by decide +kernel
theorem dX8_isSlot_13 : decode cX8_isSlot 13 = .ok (.iconst 0, 1) := by decide +kernel
theorem dX8_isSlot_14 : decode cX8_isSlot 14 = .ok (.ireturn, 1) := by decide +kernel
theorem dX8_isEitherOr_0 : decode cX8_isEitherOr 0 = .ok (.iload_n 0, 1) := by decide +kernel
theorem dX8_isEitherOr_1 : decode cX8_isEitherOr 1 = .ok (.ifCond .eq 8, 3) := by decide +kernel
theorem dX8_isEitherOr_4 : decode cX8_isEitherOr 4 = .ok (.iload_n 0, 1) := by decide +kernel
theorem dX8_isEitherOr_5 : decode cX8_isEitherOr 5 = .ok (.iconst 1, 1) := by decide +kernel
theorem dX8_isEitherOr_6 : decode cX8_isEitherOr 6 = .ok (.if_icmp .ne 7, 3) := by decide +kernel
theorem dX8_isEitherOr_9 : decode cX8_isEitherOr 9 = .ok (.iconst 1, 1) := by decide +kernel
theorem dX8_isEitherOr_10 : decode cX8_isEitherOr 10 = .ok (.goto 4, 3) := by decide +kernel
theorem dX8_isEitherOr_13 : decode cX8_isEitherOr 13 = .ok (.iconst 0, 1) := by decide +kernel
theorem dX8_isEitherOr_14 : decode cX8_isEitherOr 14 = .ok (.ireturn, 1) := by decide +kernel
