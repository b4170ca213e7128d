theorem dX9_goNight_38 : decode cX9_goNight 38 = .ok (.iastore, 1) := by decide +kernel
theorem dX9_goNight_39 : decode cX9_goNight 39 = .ok (.iinc 2 1, 3) := by decide +kernel
theorem dX9_goNight_42 : decode cX9_goNight 42 = .ok (.goto (-40), 3) := by decide +kernel
theorem dX9_goNight_45 : decode cX9_goNight 45 = .ok (.aload_n 1, 1) := by decide +kernel
theorem dX9_goNight_46 : decode cX9_goNight 46 = .ok (.bipush 18, 2) := by decide +kernel
theorem dX9_goNight_48 : decode cX9_goNight 48 = .ok (.dup2, 1) := by decide +kernel
theorem dX9_goNight_49 : decode cX9_goNight 49 = .ok (.iaload, 1) := by decide +kernel
theorem dX9_goNight_50 : decode cX9_goNight 50 = .ok (.iconst 1, 1) := by decide +kernel
theorem dX9_goNight_51 : decode cX9_goNight 51 = .ok (.iadd, 1) := by decide +kernel
theorem dX9_goNight_52 : decode cX9_goNight 52 = .ok (.iastore, 1) := by decide +kernel
theorem dX9_goNight_53 : decode cX9_goNight 53 = .ok (.return_, 1) := by decide +kernel
set_option maxRecDepth 20000 in
theorem ggX9_night_X9_note : GoodIn wsX9_night wsX9_note := goodIn_r _ [7, 8, 9, 2, 19, 20, 21, 22, 23, 24, 25, 26, 27, 28, 29, 30, 31, 32, 33, 34, 35, 36, 37, 38, 39, 40, 41, 42, 43, 44, 45, 46, 47, 48, 49, 50, 51, 52] (by decide +kernel) (by decide +kernel)
set_option maxRecDepth 20000 in
theorem gX9_night_X9_note : GoodIn wsX9_night (wsV RX9 159 RX9 yX9_note wsX9_note) := goodIn_app (goodIn_of _ (by decide +kernel)) ggX9_night_X9_note
set_option maxRecDepth 20000 in
theorem ggX9_night_X9_goNight : GoodIn wsX9_night wsX9_goNight := goodIn_r _ [13, 14, 15, 19, 20, 21, 22, 23, 24, 25, 26, 27, 28, 29, 30, 31, 32, 33, 34, 35, 36, 37, 38, 39, 40, 41, 42, 43, 44, 45, 46, 47, 48, 49, 50, 51, 52] (by decide +kernel) (by decide +kernel)
set_option maxRecDepth 20000 in
theorem gX9_night_X9_goNight : GoodIn wsX9_night (wsV RX9 173 RX9 yX9_goNight wsX9_goNight) := goodIn_app (goodIn_of _ (by decide +kernel)) ggX9_night_X9_goNight
set_option maxRecDepth 20000 in
theorem ggX9_night_X9_vigours : GoodIn wsX9_night wsX9_vigours := goodIn_r _ [18] (by decide +kernel) (by decide +kernel)
set_option maxRecDepth 20000 in
theorem gX9_night_X9_vigours : GoodIn wsX9_night (va_wsS RX9 142 yX9_vigours wsX9_vigours) := goodIn_app (goodIn_of _ (by decide +kernel)) ggX9_night_X9_vigours
theorem dX9_night_0 : decode cX9_night 0 = .ok (.aload_n 0, 1) := by decide +kernel
theorem dX9_night_1 : decode cX9_night 1 = .ok (.iconst 0, 1) := by decide +kernel
theorem dX9_night_2 : decode cX9_night 2 = .ok (.putfield 62, 3) := by decide +kernel
theorem dX9_night_5 : decode cX9_night 5 = .ok (.aload_n 0, 1) := by decide +kernel
theorem dX9_night_6 : decode cX9_night 6 = .ok (.invokevirtual 159, 3) := by decide +kernel
theorem dX9_night_9 : decode cX9_night 9 = .ok (.aload_n 0, 1) := by decide +kernel
theorem dX9_night_10 : decode cX9_night 10 = .ok (.aload_n 0, 1) := by decide +kernel
theorem dX9_night_11 : decode cX9_night 11 = .ok (.getfield 31, 3) := by decide +kernel
theorem dX9_night_14 : decode cX9_night 14 = .ok (.invokevirtual 173, 3) := by decide +kernel
theorem dX9_night_17 : decode cX9_night 17 = .ok (.aload_n 0, 1) := by decide +kernel
theorem dX9_night_18 : decode cX9_night 18 = .ok (.getfield 31, 3) := by decide +kernel
theorem dX9_night_21 : decode cX9_night 21 = .ok (.invokestatic 142, 3) := by decide +kernel
theorem dX9_night_24 : decode cX9_night 24 = .ok (.ireturn, 1) := by decide +kernel
theorem dX9_undo_0 : decode cX9_undo 0 = .ok (.aload_n 0, 1) := by decide +kernel
theorem dX9_undo_1 : decode cX9_undo 1 = .ok (.iconst 0, 1) := by decide +kernel
theorem dX9_undo_2 : decode cX9_undo 2 = .ok (.putfield 62, 3) := by decide +kernel
theorem dX9_undo_5 : decode cX9_undo 5 = .ok (.aload_n 0, 1) := by decide +kernel
theorem dX9_undo_6 : decode cX9_undo 6 = .ok (.getfield 117, 3) := by decide +kernel
theorem dX9_undo_9 : decode cX9_undo 9 = .ok (.ifCond .ne 6, 3) := by decide +kernel
theorem dX9_undo_12 : decode cX9_undo 12 = .ok (.bipush (-3), 2) := by decide +kernel
theorem dX9_undo_14 : decode cX9_undo 14 = .ok (.ireturn, 1) := by decide +kernel
theorem dX9_undo_15 : decode cX9_undo 15 = .ok (.aload_n 0, 1) := by decide +kernel
theorem dX9_undo_16 : decode cX9_undo 16 = .ok (.dup, 1) := by decide +kernel
theorem dX9_undo_17 : decode cX9_undo 17 = .ok (.getfield 117, 3) := by decide +kernel
theorem dX9_undo_20 : decode cX9_undo 20 = .ok (.iconst 1, 1) := by decide +kernel
theorem dX9_undo_21 : decode cX9_undo 21 = .ok (.isub, 1) := by decide +kernel
theorem dX9_undo_22 : decode cX9_undo 22 = .ok (.putfield 117, 3) := by decide +kernel
theorem dX9_undo_25 : decode cX9_undo 25 = .ok (.iconst 0, 1) := by decide +kernel
theorem dX9_undo_26 : decode cX9_undo 26 = .ok (.istore_n 1, 1) := by decide +kernel
theorem dX9_undo_27 : decode cX9_undo 27 = .ok (.iload_n 1, 1) := by decide +kernel
theorem dX9_undo_28 : decode cX9_undo 28 = .ok (.bipush 19, 2) := by decide +kernel
theorem dX9_undo_30 : decode cX9_undo 30 = .ok (.if_icmp .ge 29, 3) := by decide +kernel
theorem dX9_undo_33 : decode cX9_undo 33 = .ok (.aload_n 0, 1) := by decide +kernel
theorem dX9_undo_34 : decode cX9_undo 34 = .ok (.getfield 31, 3) := by decide +kernel
theorem dX9_undo_37 : decode cX9_undo 37 = .ok (.iload_n 1, 1) := by decide +kernel
theorem dX9_undo_38 : decode cX9_undo 38 = .ok (.aload_n 0, 1) := by decide +kernel
theorem dX9_undo_39 : decode cX9_undo 39 = .ok (.getfield 37, 3) := by decide +kernel
theorem dX9_undo_42 : decode cX9_undo 42 = .ok (.bipush 19, 2) := by decide +kernel
theorem dX9_undo_44 : decode cX9_undo 44 = .ok (.aload_n 0, 1) := by decide +kernel
theorem dX9_undo_45 : decode cX9_undo 45 = .ok (.getfield 117, 3) := by decide +kernel
theorem dX9_undo_48 : decode cX9_undo 48 = .ok (.imul, 1) := by decide +kernel
theorem dX9_undo_49 : decode cX9_undo 49 = .ok (.iload_n 1, 1) := by decide +kernel
theorem dX9_undo_50 : decode cX9_undo 50 = .ok (.iadd, 1) := by decide +kernel
theorem dX9_undo_51 : decode cX9_undo 51 = .ok (.iaload, 1) := by decide +kernel
theorem dX9_undo_52 : decode cX9_undo 52 = .ok (.iastore, 1) := by decide +kernel
theorem dX9_undo_53 : decode cX9_undo 53 = .ok (.iinc 1 1, 3) := by decide +kernel
theorem dX9_undo_56 : decode cX9_undo 56 = .ok (.goto (-29), 3) := by decide +kernel
theorem dX9_undo_59 : decode cX9_undo 59 = .ok (.aload_n 0, 1) := by decide +kernel
theorem dX9_undo_60 : decode cX9_undo 60 = .ok (.getfield 117, 3) := by decide +kernel
theorem dX9_undo_63 : decode cX9_undo 63 = .ok (.ireturn, 1) := by decide +kernel
theorem dX9_begin_0 : decode cX9_begin 0 = .ok (.iconst 0, 1) := by decide +kernel
theorem dX9_begin_1 : decode cX9_begin 1 = .ok (.istore_n 1, 1) := by decide +kernel
theorem dX9_begin_2 : decode cX9_begin 2 = .ok (.iload_n 1, 1) := by decide +kernel
theorem dX9_begin_3 : decode cX9_begin 3 = .ok (.bipush 19, 2) := by decide +kernel
theorem dX9_begin_5 : decode cX9_begin 5 = .ok (.if_icmp .ge 21, 3) := by decide +kernel
theorem dX9_begin_8 : decode cX9_begin 8 = .ok (.aload_n 0, 1) := by decide +kernel
theorem dX9_begin_9 : decode cX9_begin 9 = .ok (.getfield 34, 3) := by decide +kernel
theorem dX9_begin_12 : decode cX9_begin 12 = .ok (.iload_n 1, 1) := by decide +kernel
theorem dX9_begin_13 : decode cX9_begin 13 = .ok (.aload_n 0, 1) := by decide +kernel
theorem dX9_begin_14 : decode cX9_begin 14 = .ok (.getfield 31, 3) := by decide +kernel
theorem dX9_begin_17 : decode cX9_begin 17 = .ok (.iload_n 1, 1) := by decide +kernel
theorem dX9_begin_18 : decode cX9_begin 18 = .ok (.iaload, 1) := by decide +kernel
theorem dX9_begin_19 : decode cX9_begin 19 = .ok (.iastore, 1) := by decide +kernel
theorem dX9_begin_20 : decode cX9_begin 20 = .ok (.iinc 1 1, 3) := by decide +kernel
theorem dX9_begin_23 : decode cX9_begin 23 = .ok (.goto (-21), 3) := by decide +kernel
theorem dX9_begin_26 : decode cX9_begin 26 = .ok (.return_, 1) := by decide +kernel
set_option maxRecDepth 20000 in
theorem ggX9_yetOf_X9_goCall : GoodIn wsX9_yetOf wsX9_goCall := goodIn_r _ [6, 7, 8, 9, 10, 11, 5, 12, 13, 14, 15, 16, 17, 18, 19, 20, 21, 22, 23, 24, 25, 26, 27, 28, 29, 30, 31, 32, 33, 34, 35, 36, 37, 38, 39, 40, 41, 42, 43, 44, 45, 46, 47, 48, 49, 50, 51, 52, 53, 54, 55, 56, 57, 58, 59, 60, 61, 62, 63, 64, 65] (by decide +kernel) (by decide +kernel)
set_option maxRecDepth 20000 in
theorem gX9_yetOf_X9_goCall : GoodIn wsX9_yetOf (wsV RX9 162 RX9 yX9_goCall wsX9_goCall) := goodIn_app (goodIn_of _ (by decide +kernel)) ggX9_yetOf_X9_goCall
theorem dX9_yetOf_0 : decode cX9_yetOf 0 = .ok (.iconst 0, 1) := by decide +kernel
theorem dX9_yetOf_1 : decode cX9_yetOf 1 = .ok (.istore_n 2, 1) := by decide +kernel
theorem dX9_yetOf_2 : decode cX9_yetOf 2 = .ok (.iload_n 2, 1) := by decide +kernel
theorem dX9_yetOf_3 : decode cX9_yetOf 3 = .ok (.bipush 80, 2) := by decide +kernel
theorem dX9_yetOf_5 : decode cX9_yetOf 5 = .ok (.if_icmp .ge 21, 3) := by decide +kernel
theorem dX9_yetOf_8 : decode cX9_yetOf 8 = .ok (.aload_n 0, 1) := by decide +kernel
theorem dX9_yetOf_9 : decode cX9_yetOf 9 = .ok (.aload_n 0, 1) := by decide +kernel
theorem dX9_yetOf_10 : decode cX9_yetOf 10 = .ok (.getfield 34, 3) := by decide +kernel
theorem dX9_yetOf_13 : decode cX9_yetOf 13 = .ok (.iload_n 1, 1) := by decide +kernel
theorem dX9_yetOf_14 : decode cX9_yetOf 14 = .ok (.invokevirtual 162, 3) := by decide +kernel
theorem dX9_yetOf_17 : decode cX9_yetOf 17 = .ok (.ifCond .eq 9, 3) := by decide +kernel
theorem dX9_yetOf_20 : decode cX9_yetOf 20 = .ok (.iinc 2 1, 3) := by decide +kernel
theorem dX9_yetOf_23 : decode cX9_yetOf 23 = .ok (.goto (-21), 3) := by decide +kernel
theorem dX9_yetOf_26 : decode cX9_yetOf 26 = .ok (.iload_n 2, 1) := by decide +kernel
theorem dX9_yetOf_27 : decode cX9_yetOf 27 = .ok (.ireturn, 1) := by decide +kernel
set_option maxRecDepth 20000 in
theorem ggX9_yet_X9_noPlayer : GoodIn wsX9_yet wsX9_noPlayer := goodIn_r _ [7, 8, 9, 10, 6, 11, 50, 51, 52, 53, 54, 55, 56, 57, 58, 59, 60, 61, 62, 63, 64, 65, 66, 67, 68, 69, 70, 71, 72, 73, 74, 75, 76, 77, 78, 79, 80, 81, 82, 83] (by decide +kernel) (by decide +kernel)
set_option maxRecDepth 20000 in
theorem gX9_yet_X9_noPlayer : GoodIn wsX9_yet (wsV RX9 149 RX9 yX9_noPlayer wsX9_noPlayer) := goodIn_app (goodIn_of _ (by decide +kernel)) ggX9_yet_X9_noPlayer
set_option maxRecDepth 20000 in
theorem ggX9_yet_X9_has : GoodIn wsX9_yet wsX9_has := goodIn_r _ [14] (by decide +kernel) (by decide +kernel)
set_option maxRecDepth 20000 in
theorem gX9_yet_X9_has : GoodIn wsX9_yet (va_wsS RX9 96 yX9_has wsX9_has) := goodIn_app (goodIn_of _ (by decide +kernel)) ggX9_yet_X9_has
set_option maxRecDepth 20000 in
theorem ggX9_yet_X9_begin : GoodIn wsX9_yet wsX9_begin := goodIn_r _ [18, 19, 2, 50, 51, 52, 53, 54, 55, 56, 57, 58, 59, 60, 61, 62, 63, 64, 65, 66, 67, 68, 69, 70, 71, 72, 73, 74, 75, 76, 77, 78, 79, 80, 81, 82, 83] (by decide +kernel) (by decide +kernel)
set_option maxRecDepth 20000 in
theorem gX9_yet_X9_begin : GoodIn wsX9_yet (wsV RX9 177 RX9 yX9_begin wsX9_begin) := goodIn_app (goodIn_of _ (by decide +kernel)) ggX9_yet_X9_begin
set_option maxRecDepth 20000 in
theorem ggX9_yet_X9_yetOf : GoodIn wsX9_yet wsX9_yetOf := goodIn_r _ [23, 19, 24, 25, 26, 6, 27, 28, 29, 30, 31, 32, 33, 34, 35, 36, 37, 38, 39, 12, 13, 14, 40, 41, 42, 43, 44, 45, 46, 47, 48, 49, 50, 51, 52, 53, 54, 55, 56, 57, 58, 59, 60, 61, 62, 63, 64, 65, 66, 67, 68, 69, 70, 71, 72, 73, 74, 75, 76, 77, 78, 79, 80, 81, 82, 83] (by decide +kernel) (by decide +kernel)
set_option maxRecDepth 20000 in
theorem gX9_yet_X9_yetOf : GoodIn wsX9_yet (wsV RX9 180 RX9 yX9_yetOf wsX9_yetOf) := goodIn_app (goodIn_of _ (by decide +kernel)) ggX9_yet_X9_yetOf
theorem dX9_yet_0 : decode cX9_yet 0 = .ok (.aload_n 0, 1) := by decide +kernel
theorem dX9_yet_1 : decode cX9_yet 1 = .ok (.iconst 0, 1) := by decide +kernel
theorem dX9_yet_2 : decode cX9_yet 2 = .ok (.putfield 62, 3) := by decide +kernel
theorem dX9_yet_5 : decode cX9_yet 5 = .ok (.aload_n 0, 1) := by decide +kernel
theorem dX9_yet_6 : decode cX9_yet 6 = .ok (.iload_n 1, 1) := by decide +kernel
theorem dX9_yet_7 : decode cX9_yet 7 = .ok (.invokevirtual 149, 3) := by decide +kernel
theorem dX9_yet_10 : decode cX9_yet 10 = .ok (.ifCond .eq 5, 3) := by decide +kernel
theorem dX9_yet_13 : decode cX9_yet 13 = .ok (.iconst (-1), 1) := by decide +kernel
theorem dX9_yet_14 : decode cX9_yet 14 = .ok (.ireturn, 1) := by decide +kernel
theorem dX9_yet_15 : decode cX9_yet 15 = .ok (.aload_n 0, 1) := by decide +kernel
theorem dX9_yet_16 : decode cX9_yet 16 = .ok (.getfield 31, 3) := by decide +kernel
theorem dX9_yet_19 : decode cX9_yet 19 = .ok (.bipush 17, 2) := by decide +kernel
theorem dX9_yet_21 : decode cX9_yet 21 = .ok (.iaload, 1) := by decide +kernel
theorem dX9_yet_22 : decode cX9_yet 22 = .ok (.iload_n 1, 1) := by decide +kernel
theorem dX9_yet_23 : decode cX9_yet 23 = .ok (.invokestatic 96, 3) := by decide +kernel
theorem dX9_yet_26 : decode cX9_yet 26 = .ok (.ifCond .eq 6, 3) := by decide +kernel
theorem dX9_yet_29 : decode cX9_yet 29 = .ok (.bipush (-3), 2) := by decide +kernel
theorem dX9_yet_31 : decode cX9_yet 31 = .ok (.ireturn, 1) := by decide +kernel
theorem dX9_yet_32 : decode cX9_yet 32 = .ok (.aload_n 0, 1) := by decide +kernel
theorem dX9_yet_33 : decode cX9_yet 33 = .ok (.invokevirtual 177, 3) := by decide +kernel
theorem dX9_yet_36 : decode cX9_yet 36 = .ok (.aload_n 0, 1) := by decide +kernel
theorem dX9_yet_37 : decode cX9_yet 37 = .ok (.iload_n 1, 1) := by decide +kernel
theorem dX9_yet_38 : decode cX9_yet 38 = .ok (.invokevirtual 180, 3) := by decide +kernel
theorem dX9_yet_41 : decode cX9_yet 41 = .ok (.ireturn, 1) := by decide +kernel
set_option maxRecDepth 20000 in
theorem ggX9_best_X9_noHand : GoodIn wsX9_best wsX9_noHand := goodIn_r _ [11, 12, 13, 14, 10, 15, 56, 57, 58, 59, 60, 61, 62, 63, 64, 65, 66, 67, 68, 69, 70, 71, 72, 73, 74, 75, 76, 77, 78, 79, 80, 81, 82, 83, 84, 85, 86, 87, 88, 89] (by decide +kernel) (by decide +kernel)
set_option maxRecDepth 20000 in
theorem gX9_best_X9_noHand : GoodIn wsX9_best (wsV RX9 156 RX9 yX9_noHand wsX9_noHand) := goodIn_app (goodIn_of _ (by decide +kernel)) ggX9_best_X9_noHand
set_option maxRecDepth 20000 in
theorem ggX9_best_X9_in : GoodIn wsX9_best wsX9_in := goodIn_r _ [15] (by decide +kernel) (by decide +kernel)
set_option maxRecDepth 20000 in
theorem gX9_best_X9_in : GoodIn wsX9_best (va_wsS RX9 69 yX9_in wsX9_in) := goodIn_app (goodIn_of _ (by decide +kernel)) ggX9_best_X9_in
set_option maxRecDepth 20000 in
theorem ggX9_best_X9_has : GoodIn wsX9_best wsX9_has := goodIn_r _ [18] (by decide +kernel) (by decide +kernel)
set_option maxRecDepth 20000 in
theorem gX9_best_X9_has : GoodIn wsX9_best (va_wsS RX9 96 yX9_has wsX9_has) := goodIn_app (goodIn_of _ (by decide +kernel)) ggX9_best_X9_has
set_option maxRecDepth 20000 in
theorem ggX9_best_X9_isFree : GoodIn wsX9_best wsX9_isFree := goodIn_r _ [22, 23, 12, 13, 14, 10, 15, 56, 57, 58, 59, 60, 61, 62, 63, 64, 65, 66, 67, 68, 69, 70, 71, 72, 73, 74, 75, 76, 77, 78, 79, 80, 81, 82, 83, 84, 85, 86, 87, 88, 89] (by decide +kernel) (by decide +kernel)
set_option maxRecDepth 20000 in
theorem gX9_best_X9_isFree : GoodIn wsX9_best (wsV RX9 170 RX9 yX9_isFree wsX9_isFree) := goodIn_app (goodIn_of _ (by decide +kernel)) ggX9_best_X9_isFree
set_option maxRecDepth 20000 in
theorem ggX9_best_X9_begin : GoodIn wsX9_best wsX9_begin := goodIn_r _ [27, 6, 2, 56, 57, 58, 59, 60, 61, 62, 63, 64, 65, 66, 67, 68, 69, 70, 71, 72, 73, 74, 75, 76, 77, 78, 79, 80, 81, 82, 83, 84, 85, 86, 87, 88, 89] (by decide +kernel) (by decide +kernel)
set_option maxRecDepth 20000 in
theorem gX9_best_X9_begin : GoodIn wsX9_best (wsV RX9 177 RX9 yX9_begin wsX9_begin) := goodIn_app (goodIn_of _ (by decide +kernel)) ggX9_best_X9_begin
set_option maxRecDepth 20000 in
theorem ggX9_best_X9_yetOf : GoodIn wsX9_best wsX9_yetOf := goodIn_r _ [31, 6, 32, 33, 34, 10, 35, 36, 12, 37, 38, 39, 40, 3, 41, 42, 43, 44, 45, 16, 17, 18, 46, 47, 48, 49, 50, 51, 52, 53, 54, 55, 56, 57, 58, 59, 60, 61, 62, 63, 64, 65, 66, 67, 68, 69, 70, 71, 72, 73, 74, 75, 76, 77, 78, 79, 80, 81, 82, 83, 84, 85, 86, 87, 88, 89] (by decide +kernel) (by decide +kernel)
set_option maxRecDepth 20000 in
theorem gX9_best_X9_yetOf : GoodIn wsX9_best (wsV RX9 180 RX9 yX9_yetOf wsX9_yetOf) := goodIn_app (goodIn_of _ (by decide +kernel)) ggX9_best_X9_yetOf
theorem dX9_best_0 : decode cX9_best 0 = .ok (.aload_n 0, 1) := by decide +kernel
theorem dX9_best_1 : decode cX9_best 1 = .ok (.iconst 0, 1) := by decide +kernel
theorem dX9_best_2 : decode cX9_best 2 = .ok (.putfield 62, 3) := by decide +kernel
theorem dX9_best_5 : decode cX9_best 5 = .ok (.aload_n 0, 1) := by decide +kernel
theorem dX9_best_6 : decode cX9_best 6 = .ok (.iload_n 1, 1) := by decide +kernel
theorem dX9_best_7 : decode cX9_best 7 = .ok (.invokevirtual 156, 3) := by decide +kernel
theorem dX9_best_10 : decode cX9_best 10 = .ok (.ifCond .eq 5, 3) := by decide +kernel
theorem dX9_best_13 : decode cX9_best 13 = .ok (.iconst (-1), 1) := by decide +kernel
theorem dX9_best_14 : decode cX9_best 14 = .ok (.ireturn, 1) := by decide +kernel
theorem dX9_best_15 : decode cX9_best 15 = .ok (.iload_n 2, 1) := by decide +kernel
theorem dX9_best_16 : decode cX9_best 16 = .ok (.i2l, 1) := by decide +kernel
theorem dX9_best_17 : decode cX9_best 17 = .ok (.lconst 0, 1) := by decide +kernel
theorem dX9_best_18 : decode cX9_best 18 = .ok (.lconst 1, 1) := by decide +kernel
theorem dX9_best_19 : decode cX9_best 19 = .ok (.invokestatic 69, 3) := by decide +kernel
theorem dX9_best_22 : decode cX9_best 22 = .ok (.ifCond .ne 6, 3) := by decide +kernel
theorem dX9_best_25 : decode cX9_best 25 = .ok (.bipush (-2), 2) := by decide +kernel
theorem dX9_best_27 : decode cX9_best 27 = .ok (.ireturn, 1) := by decide +kernel
theorem dX9_best_28 : decode cX9_best 28 = .ok (.aload_n 0, 1) := by decide +kernel
theorem dX9_best_29 : decode cX9_best 29 = .ok (.getfield 31, 3) := by decide +kernel
theorem dX9_best_32 : decode cX9_best 32 = .ok (.bipush 17, 2) := by decide +kernel
theorem dX9_best_34 : decode cX9_best 34 = .ok (.iaload, 1) := by decide +kernel
theorem dX9_best_35 : decode cX9_best 35 = .ok (.aload_n 0, 1) := by decide +kernel
theorem dX9_best_36 : decode cX9_best 36 = .ok (.getfield 16, 3) := by decide +kernel
theorem dX9_best_39 : decode cX9_best 39 = .ok (.iload_n 1, 1) := by decide +kernel
theorem dX9_best_40 : decode cX9_best 40 = .ok (.iaload, 1) := by decide +kernel
theorem dX9_best_41 : decode cX9_best 41 = .ok (.invokestatic 96, 3) := by decide +kernel
theorem dX9_best_44 : decode cX9_best 44 = .ok (.ifCond .eq 6, 3) := by decide +kernel
theorem dX9_best_47 : decode cX9_best 47 = .ok (.bipush (-3), 2) := by decide +kernel
theorem dX9_best_49 : decode cX9_best 49 = .ok (.ireturn, 1) := by decide +kernel
theorem dX9_best_50 : decode cX9_best 50 = .ok (.aload_n 0, 1) := by decide +kernel
theorem dX9_best_51 : decode cX9_best 51 = .ok (.bipush (-9), 2) := by decide +kernel
theorem dX9_best_53 : decode cX9_best 53 = .ok (.putfield 183, 3) := by decide +kernel
theorem dX9_best_56 : decode cX9_best 56 = .ok (.aload_n 0, 1) := by decide +kernel
theorem dX9_best_57 : decode cX9_best 57 = .ok (.bipush (-9), 2) := by decide +kernel
theorem dX9_best_59 : decode cX9_best 59 = .ok (.putfield 186, 3) := by decide +kernel
theorem dX9_best_62 : decode cX9_best 62 = .ok (.iconst 0, 1) := by decide +kernel
theorem dX9_best_63 : decode cX9_best 63 = .ok (.istore_n 3, 1) := by decide +kernel
theorem dX9_best_64 : decode cX9_best 64 = .ok (.iload_n 3, 1) := by decide +kernel
theorem dX9_best_65 : decode cX9_best 65 = .ok (.bipush 10, 2) := by decide +kernel
theorem dX9_best_67 : decode cX9_best 67 = .ok (.if_icmp .ge 97, 3) := by decide +kernel
theorem dX9_best_70 : decode cX9_best 70 = .ok (.aload_n 0, 1) := by decide +kernel
theorem dX9_best_71 : decode cX9_best 71 = .ok (.getfield 31, 3) := by decide +kernel
theorem dX9_best_74 : decode cX9_best 74 = .ok (.iload_n 1, 1) := by decide +kernel
theorem dX9_best_75 : decode cX9_best 75 = .ok (.iaload, 1) := by decide +kernel
theorem dX9_best_76 : decode cX9_best 76 = .ok (.iload_n 3, 1) := by decide +kernel
theorem dX9_best_77 : decode cX9_best 77 = .ok (.if_icmp .eq 15, 3) := by decide +kernel
theorem dX9_best_80 : decode cX9_best 80 = .ok (.aload_n 0, 1) := by decide +kernel
theorem dX9_best_81 : decode cX9_best 81 = .ok (.aload_n 0, 1) := by decide +kernel
theorem dX9_best_82 : decode cX9_best 82 = .ok (.getfield 31, 3) := by decide +kernel
theorem dX9_best_85 : decode cX9_best 85 = .ok (.iload_n 3, 1) := by decide +kernel
theorem dX9_best_86 : decode cX9_best 86 = .ok (.invokevirtual 170, 3) := by decide +kernel
theorem dX9_best_89 : decode cX9_best 89 = .ok (.ifCond .eq 69, 3) := by decide +kernel
theorem dX9_best_92 : decode cX9_best 92 = .ok (.aload_n 0, 1) := by decide +kernel
theorem dX9_best_93 : decode cX9_best 93 = .ok (.invokevirtual 177, 3) := by decide +kernel
theorem dX9_best_96 : decode cX9_best 96 = .ok (.aload_n 0, 1) := by decide +kernel
theorem dX9_best_97 : decode cX9_best 97 = .ok (.getfield 34, 3) := by decide +kernel
theorem dX9_best_100 : decode cX9_best 100 = .ok (.iload_n 1, 1) := by decide +kernel
theorem dX9_best_101 : decode cX9_best 101 = .ok (.iload_n 3, 1) := by decide +kernel
theorem dX9_best_102 : decode cX9_best 102 = .ok (.iastore, 1) := by decide +kernel
theorem dX9_best_103 : decode cX9_best 103 = .ok (.aload_n 0, 1) := by decide +kernel
theorem dX9_best_104 : decode cX9_best 104 = .ok (.aload_n 0, 1) := by decide +kernel
theorem dX9_best_105 : decode cX9_best 105 = .ok (.getfield 16, 3) := by decide +kernel
theorem dX9_best_108 : decode cX9_best 108 = .ok (.iload_n 1, 1) := by decide +kernel
theorem dX9_best_109 : decode cX9_best 109 = .ok (.iaload, 1) := by decide +kernel
theorem dX9_best_110 : decode cX9_best 110 = .ok (.invokevirtual 180, 3) := by decide +kernel
theorem dX9_best_113 : decode cX9_best 113 = .ok (.istore 4, 2) := by decide +kernel
theorem dX9_best_115 : decode cX9_best 115 = .ok (.aload_n 0, 1) := by decide +kernel
theorem dX9_best_116 : decode cX9_best 116 = .ok (.iload 4, 2) := by decide +kernel
theorem dX9_best_118 : decode cX9_best 118 = .ok (.aload_n 0, 1) := by decide +kernel
theorem dX9_best_119 : decode cX9_best 119 = .ok (.getfield 186, 3) := by decide +kernel
theorem dX9_best_122 : decode cX9_best 122 = .ok (.if_icmp .le 7, 3) := by decide +kernel
theorem dX9_best_125 : decode cX9_best 125 = .ok (.iload_n 3, 1) := by decide +kernel
theorem dX9_best_126 : decode cX9_best 126 = .ok (.goto 7, 3) := by decide +kernel
theorem dX9_best_129 : decode cX9_best 129 = .ok (.aload_n 0, 1) := by decide +kernel
theorem dX9_best_130 : decode cX9_best 130 = .ok (.getfield 183, 3) := by decide +kernel
theorem dX9_best_133 : decode cX9_best 133 = .ok (.putfield 183, 3) := by decide +kernel
theorem dX9_best_136 : decode cX9_best 136 = .ok (.aload_n 0, 1) := by decide +kernel
theorem dX9_best_137 : decode cX9_best 137 = .ok (.iload 4, 2) := by decide +kernel
theorem dX9_best_139 : decode cX9_best 139 = .ok (.aload_n 0, 1) := by decide +kernel
theorem dX9_best_140 : decode cX9_best 140 = .ok (.getfield 186, 3) := by decide +kernel
theorem dX9_best_143 : decode cX9_best 143 = .ok (.if_icmp .le 8, 3) := by decide +kernel
theorem dX9_best_146 : decode cX9_best 146 = .ok (.iload 4, 2) := by decide +kernel
theorem dX9_best_148 : decode cX9_best 148 = .ok (.goto 7, 3) := by decide +kernel
theorem dX9_best_151 : decode cX9_best 151 = .ok (.aload_n 0, 1) := by decide +kernel
theorem dX9_best_152 : decode cX9_best 152 = .ok (.getfield 186, 3) := by decide +kernel
theorem dX9_best_155 : decode cX9_best 155 = .ok (.putfield 186, 3) := by decide +kernel
theorem dX9_best_158 : decode cX9_best 158 = .ok (.iinc 3 1, 3) := by decide +kernel
theorem dX9_best_161 : decode cX9_best 161 = .ok (.goto (-97), 3) := by decide +kernel
theorem dX9_best_164 : decode cX9_best 164 = .ok (.iload_n 2, 1) := by decide +kernel
theorem dX9_best_165 : decode cX9_best 165 = .ok (.ifCond .ne 10, 3) := by decide +kernel
theorem dX9_best_168 : decode cX9_best 168 = .ok (.aload_n 0, 1) := by decide +kernel
theorem dX9_best_169 : decode cX9_best 169 = .ok (.getfield 183, 3) := by decide +kernel
theorem dX9_best_172 : decode cX9_best 172 = .ok (.goto 7, 3) := by decide +kernel
theorem dX9_best_175 : decode cX9_best 175 = .ok (.aload_n 0, 1) := by decide +kernel
theorem dX9_best_176 : decode cX9_best 176 = .ok (.getfield 186, 3) := by decide +kernel
theorem dX9_best_179 : decode cX9_best 179 = .ok (.ireturn, 1) := by decide +kernel
set_option maxRecDepth 20000 in
theorem ggX9_wants_X9_noPlayer : GoodIn wsX9_wants wsX9_noPlayer := goodIn_r _ [9, 10, 11, 12, 8, 13, 55, 56, 57, 58, 59, 60, 61, 62, 63, 64, 65, 66, 67, 68, 69, 70, 71, 72, 73, 74, 75, 76, 77, 78, 79, 80, 81, 82, 83, 84, 85, 86, 87, 88] (by decide +kernel) (by decide +kernel)
set_option maxRecDepth 20000 in
theorem gX9_wants_X9_noPlayer : GoodIn wsX9_wants (wsV RX9 149 RX9 yX9_noPlayer wsX9_noPlayer) := goodIn_app (goodIn_of _ (by decide +kernel)) ggX9_wants_X9_noPlayer
set_option maxRecDepth 20000 in
theorem ggX9_wants_X9_in : GoodIn wsX9_wants wsX9_in := goodIn_r _ [13] (by decide +kernel) (by decide +kernel)
set_option maxRecDepth 20000 in
theorem gX9_wants_X9_in : GoodIn wsX9_wants (va_wsS RX9 69 yX9_in wsX9_in) := goodIn_app (goodIn_of _ (by decide +kernel)) ggX9_wants_X9_in
set_option maxRecDepth 20000 in
theorem ggX9_wants_X9_has : GoodIn wsX9_wants wsX9_has := goodIn_r _ [16] (by decide +kernel) (by decide +kernel)
set_option maxRecDepth 20000 in
theorem gX9_wants_X9_has : GoodIn wsX9_wants (va_wsS RX9 96 yX9_has wsX9_has) := goodIn_app (goodIn_of _ (by decide +kernel)) ggX9_wants_X9_has
set_option maxRecDepth 20000 in
theorem ggX9_wants_X9_begin : GoodIn wsX9_wants wsX9_begin := goodIn_r _ [20, 4, 3, 55, 56, 57, 58, 59, 60, 61, 62, 63, 64, 65, 66, 67, 68, 69, 70, 71, 72, 73, 74, 75, 76, 77, 78, 79, 80, 81, 82, 83, 84, 85, 86, 87, 88] (by decide +kernel) (by decide +kernel)
set_option maxRecDepth 20000 in
theorem gX9_wants_X9_begin : GoodIn wsX9_wants (wsV RX9 177 RX9 yX9_begin wsX9_begin) := goodIn_app (goodIn_of _ (by decide +kernel)) ggX9_wants_X9_begin
set_option maxRecDepth 20000 in
theorem ggX9_wants_X9_goFlowers : GoodIn wsX9_wants wsX9_goFlowers := goodIn_r _ [24, 25, 26, 55, 56, 57, 58, 59, 60, 61, 62, 63, 64, 65, 66, 67, 68, 69, 70, 71, 72, 73, 74, 75, 76, 77, 78, 79, 80, 81, 82, 83, 84, 85, 86, 87, 88] (by decide +kernel) (by decide +kernel)
set_option maxRecDepth 20000 in
theorem gX9_wants_X9_goFlowers : GoodIn wsX9_wants (wsV RX9 166 RX9 yX9_goFlowers wsX9_goFlowers) := goodIn_app (goodIn_of _ (by decide +kernel)) ggX9_wants_X9_goFlowers
set_option maxRecDepth 20000 in
theorem ggX9_wants_X9_yetOf : GoodIn wsX9_wants wsX9_yetOf := goodIn_r _ [30, 4, 31, 32, 33, 8, 34, 35, 25, 36, 37, 38, 39, 26, 40, 41, 42, 43, 44, 14, 15, 16, 45, 46, 47, 48, 49, 50, 51, 52, 53, 54, 55, 56, 57, 58, 59, 60, 61, 62, 63, 64, 65, 66, 67, 68, 69, 70, 71, 72, 73, 74, 75, 76, 77, 78, 79, 80, 81, 82, 83, 84, 85, 86, 87, 88] (by decide +kernel) (by decide +kernel)
set_option maxRecDepth 20000 in
theorem gX9_wants_X9_yetOf : GoodIn wsX9_wants (wsV RX9 180 RX9 yX9_yetOf wsX9_yetOf) := goodIn_app (goodIn_of _ (by decide +kernel)) ggX9_wants_X9_yetOf
theorem dX9_wants_0 : decode cX9_wants 0 = .ok (.aload_n 0, 1) := by decide +kernel
theorem dX9_wants_1 : decode cX9_wants 1 = .ok (.iconst 0, 1) := by decide +kernel
theorem dX9_wants_2 : decode cX9_wants 2 = .ok (.putfield 62, 3) := by decide +kernel
theorem dX9_wants_5 : decode cX9_wants 5 = .ok (.aload_n 0, 1) := by decide +kernel
theorem dX9_wants_6 : decode cX9_wants 6 = .ok (.iload_n 1, 1) := by decide +kernel
theorem dX9_wants_7 : decode cX9_wants 7 = .ok (.invokevirtual 149, 3) := by decide +kernel
theorem dX9_wants_10 : decode cX9_wants 10 = .ok (.ifCond .eq 5, 3) := by decide +kernel
theorem dX9_wants_13 : decode cX9_wants 13 = .ok (.iconst (-1), 1) := by decide +kernel
theorem dX9_wants_14 : decode cX9_wants 14 = .ok (.ireturn, 1) := by decide +kernel
theorem dX9_wants_15 : decode cX9_wants 15 = .ok (.iload_n 2, 1) := by decide +kernel
theorem dX9_wants_16 : decode cX9_wants 16 = .ok (.i2l, 1) := by decide +kernel
theorem dX9_wants_17 : decode cX9_wants 17 = .ok (.lconst 1, 1) := by decide +kernel
theorem dX9_wants_18 : decode cX9_wants 18 = .ok (.ldc2_w 91, 3) := by decide +kernel
theorem dX9_wants_21 : decode cX9_wants 21 = .ok (.invokestatic 69, 3) := by decide +kernel
theorem dX9_wants_24 : decode cX9_wants 24 = .ok (.ifCond .ne 6, 3) := by decide +kernel
theorem dX9_wants_27 : decode cX9_wants 27 = .ok (.bipush (-2), 2) := by decide +kernel
theorem dX9_wants_29 : decode cX9_wants 29 = .ok (.ireturn, 1) := by decide +kernel
theorem dX9_wants_30 : decode cX9_wants 30 = .ok (.aload_n 0, 1) := by decide +kernel
theorem dX9_wants_31 : decode cX9_wants 31 = .ok (.getfield 31, 3) := by decide +kernel
theorem dX9_wants_34 : decode cX9_wants 34 = .ok (.bipush 17, 2) := by decide +kernel
theorem dX9_wants_36 : decode cX9_wants 36 = .ok (.iaload, 1) := by decide +kernel
theorem dX9_wants_37 : decode cX9_wants 37 = .ok (.iload_n 1, 1) := by decide +kernel
theorem dX9_wants_38 : decode cX9_wants 38 = .ok (.invokestatic 96, 3) := by decide +kernel
theorem dX9_wants_41 : decode cX9_wants 41 = .ok (.ifCond .eq 6, 3) := by decide +kernel
theorem dX9_wants_44 : decode cX9_wants 44 = .ok (.bipush (-3), 2) := by decide +kernel
theorem dX9_wants_46 : decode cX9_wants 46 = .ok (.ireturn, 1) := by decide +kernel
theorem dX9_wants_47 : decode cX9_wants 47 = .ok (.iconst 0, 1) := by decide +kernel
theorem dX9_wants_48 : decode cX9_wants 48 = .ok (.istore_n 3, 1) := by decide +kernel
theorem dX9_wants_49 : decode cX9_wants 49 = .ok (.iload_n 3, 1) := by decide +kernel
theorem dX9_wants_50 : decode cX9_wants 50 = .ok (.bipush 9, 2) := by decide +kernel
theorem dX9_wants_52 : decode cX9_wants 52 = .ok (.if_icmp .gt 48, 3) := by decide +kernel
theorem dX9_wants_55 : decode cX9_wants 55 = .ok (.aload_n 0, 1) := by decide +kernel
theorem dX9_wants_56 : decode cX9_wants 56 = .ok (.invokevirtual 177, 3) := by decide +kernel
theorem dX9_wants_59 : decode cX9_wants 59 = .ok (.iconst 0, 1) := by decide +kernel
theorem dX9_wants_60 : decode cX9_wants 60 = .ok (.istore 4, 2) := by decide +kernel
theorem dX9_wants_62 : decode cX9_wants 62 = .ok (.iload 4, 2) := by decide +kernel
theorem dX9_wants_64 : decode cX9_wants 64 = .ok (.iload_n 3, 1) := by decide +kernel
theorem dX9_wants_65 : decode cX9_wants 65 = .ok (.if_icmp .ge 18, 3) := by decide +kernel
theorem dX9_wants_68 : decode cX9_wants 68 = .ok (.aload_n 0, 1) := by decide +kernel
theorem dX9_wants_69 : decode cX9_wants 69 = .ok (.aload_n 0, 1) := by decide +kernel
theorem dX9_wants_70 : decode cX9_wants 70 = .ok (.getfield 34, 3) := by decide +kernel
theorem dX9_wants_73 : decode cX9_wants 73 = .ok (.iload_n 1, 1) := by decide +kernel
theorem dX9_wants_74 : decode cX9_wants 74 = .ok (.invokevirtual 166, 3) := by decide +kernel
theorem dX9_wants_77 : decode cX9_wants 77 = .ok (.iinc 4 1, 3) := by decide +kernel
theorem dX9_wants_80 : decode cX9_wants 80 = .ok (.goto (-18), 3) := by decide +kernel
theorem dX9_wants_83 : decode cX9_wants 83 = .ok (.aload_n 0, 1) := by decide +kernel
theorem dX9_wants_84 : decode cX9_wants 84 = .ok (.iload_n 1, 1) := by decide +kernel
theorem dX9_wants_85 : decode cX9_wants 85 = .ok (.invokevirtual 180, 3) := by decide +kernel
theorem dX9_wants_88 : decode cX9_wants 88 = .ok (.iload_n 2, 1) := by decide +kernel
theorem dX9_wants_89 : decode cX9_wants 89 = .ok (.if_icmp .lt 5, 3) := by decide +kernel
theorem dX9_wants_92 : decode cX9_wants 92 = .ok (.iload_n 3, 1) := by decide +kernel
theorem dX9_wants_93 : decode cX9_wants 93 = .ok (.ireturn, 1) := by decide +kernel
theorem dX9_wants_94 : decode cX9_wants 94 = .ok (.iinc 3 1, 3) := by decide +kernel
theorem dX9_wants_97 : decode cX9_wants 97 = .ok (.goto (-48), 3) := by decide +kernel
theorem dX9_wants_100 : decode cX9_wants 100 = .ok (.bipush (-9), 2) := by decide +kernel
theorem dX9_wants_102 : decode cX9_wants 102 = .ok (.ireturn, 1) := by decide +kernel
set_option maxRecDepth 20000 in
theorem ggX9_still_X9_noPlayer : GoodIn wsX9_still wsX9_noPlayer := goodIn_r _ [9, 10, 11, 12, 8, 13, 41, 42, 43, 44, 45, 46, 47, 48, 49, 50, 51, 52, 53, 54, 55, 56, 57, 58, 59, 60, 61, 62, 63, 64, 65, 66, 67, 68, 69, 70, 71, 72, 73, 74] (by decide +kernel) (by decide +kernel)
set_option maxRecDepth 20000 in
theorem gX9_still_X9_noPlayer : GoodIn wsX9_still (wsV RX9 149 RX9 yX9_noPlayer wsX9_noPlayer) := goodIn_app (goodIn_of _ (by decide +kernel)) ggX9_still_X9_noPlayer
set_option maxRecDepth 20000 in
theorem ggX9_still_X9_has : GoodIn wsX9_still wsX9_has := goodIn_r _ [16] (by decide +kernel) (by decide +kernel)
set_option maxRecDepth 20000 in
theorem gX9_still_X9_has : GoodIn wsX9_still (va_wsS RX9 96 yX9_has wsX9_has) := goodIn_app (goodIn_of _ (by decide +kernel)) ggX9_still_X9_has
set_option maxRecDepth 20000 in
theorem ggX9_still_X9_many : GoodIn wsX9_still wsX9_many := goodIn_r _ [19] (by decide +kernel) (by decide +kernel)
set_option maxRecDepth 20000 in
theorem gX9_still_X9_many : GoodIn wsX9_still (va_wsS RX9 135 yX9_many wsX9_many) := goodIn_app (goodIn_of _ (by decide +kernel)) ggX9_still_X9_many
set_option maxRecDepth 20000 in
theorem ggX9_still_X9_loudOf : GoodIn wsX9_still wsX9_loudOf := goodIn_r _ [23, 24, 25, 26, 8, 27, 3, 28, 29, 30, 31, 32, 33, 14, 15, 16, 34, 35, 36, 37, 38, 39, 40, 17, 18, 19, 41, 42, 43, 44, 45, 46, 47, 48, 49, 50, 51, 52, 53, 54, 55, 56, 57, 58, 59, 60, 61, 62, 63, 64, 65, 66, 67, 68, 69, 70, 71, 72, 73, 74] (by decide +kernel) (by decide +kernel)
set_option maxRecDepth 20000 in
theorem gX9_still_X9_loudOf : GoodIn wsX9_still (wsV RX9 153 RX9 yX9_loudOf wsX9_loudOf) := goodIn_app (goodIn_of _ (by decide +kernel)) ggX9_still_X9_loudOf
theorem dX9_still_0 : decode cX9_still 0 = .ok (.aload_n 0, 1) := by decide +kernel
theorem dX9_still_1 : decode cX9_still 1 = .ok (.iconst 0, 1) := by decide +kernel
theorem dX9_still_2 : decode cX9_still 2 = .ok (.putfield 62, 3) := by decide +kernel
theorem dX9_still_5 : decode cX9_still 5 = .ok (.aload_n 0, 1) := by decide +kernel
theorem dX9_still_6 : decode cX9_still 6 = .ok (.iload_n 1, 1) := by decide +kernel
theorem dX9_still_7 : decode cX9_still 7 = .ok (.invokevirtual 149, 3) := by decide +kernel
theorem dX9_still_10 : decode cX9_still 10 = .ok (.ifCond .eq 5, 3) := by decide +kernel
theorem dX9_still_13 : decode cX9_still 13 = .ok (.iconst (-1), 1) := by decide +kernel
theorem dX9_still_14 : decode cX9_still 14 = .ok (.ireturn, 1) := by decide +kernel
theorem dX9_still_15 : decode cX9_still 15 = .ok (.aload_n 0, 1) := by decide +kernel
theorem dX9_still_16 : decode cX9_still 16 = .ok (.getfield 31, 3) := by decide +kernel
theorem dX9_still_19 : decode cX9_still 19 = .ok (.bipush 17, 2) := by decide +kernel
theorem dX9_still_21 : decode cX9_still 21 = .ok (.iaload, 1) := by decide +kernel
theorem dX9_still_22 : decode cX9_still 22 = .ok (.iload_n 1, 1) := by decide +kernel
theorem dX9_still_23 : decode cX9_still 23 = .ok (.invokestatic 96, 3) := by decide +kernel
theorem dX9_still_26 : decode cX9_still 26 = .ok (.ifCond .eq 6, 3) := by decide +kernel
theorem dX9_still_29 : decode cX9_still 29 = .ok (.bipush (-3), 2) := by decide +kernel
theorem dX9_still_31 : decode cX9_still 31 = .ok (.ireturn, 1) := by decide +kernel
theorem dX9_still_32 : decode cX9_still 32 = .ok (.bipush (-9), 2) := by decide +kernel
theorem dX9_still_34 : decode cX9_still 34 = .ok (.istore_n 2, 1) := by decide +kernel
theorem dX9_still_35 : decode cX9_still 35 = .ok (.iconst 0, 1) := by decide +kernel
theorem dX9_still_36 : decode cX9_still 36 = .ok (.istore_n 3, 1) := by decide +kernel
theorem dX9_still_37 : decode cX9_still 37 = .ok (.iload_n 3, 1) := by decide +kernel
theorem dX9_still_38 : decode cX9_still 38 = .ok (.iconst 1, 1) := by decide +kernel
theorem dX9_still_39 : decode cX9_still 39 = .ok (.aload_n 0, 1) := by decide +kernel
theorem dX9_still_40 : decode cX9_still 40 = .ok (.getfield 73, 3) := by decide +kernel
theorem dX9_still_43 : decode cX9_still 43 = .ok (.ishl, 1) := by decide +kernel
theorem dX9_still_44 : decode cX9_still 44 = .ok (.if_icmp .ge 68, 3) := by decide +kernel
theorem dX9_still_47 : decode cX9_still 47 = .ok (.iload_n 2, 1) := by decide +kernel
theorem dX9_still_48 : decode cX9_still 48 = .ok (.bipush (-9), 2) := by decide +kernel
theorem dX9_still_50 : decode cX9_still 50 = .ok (.if_icmp .eq 14, 3) := by decide +kernel
theorem dX9_still_53 : decode cX9_still 53 = .ok (.iload_n 3, 1) := by decide +kernel
theorem dX9_still_54 : decode cX9_still 54 = .ok (.invokestatic 135, 3) := by decide +kernel
theorem dX9_still_57 : decode cX9_still 57 = .ok (.iload_n 2, 1) := by decide +kernel
theorem dX9_still_58 : decode cX9_still 58 = .ok (.invokestatic 135, 3) := by decide +kernel
theorem dX9_still_61 : decode cX9_still 61 = .ok (.if_icmp .ge 7, 3) := by decide +kernel
theorem dX9_still_64 : decode cX9_still 64 = .ok (.iconst 1, 1) := by decide +kernel
theorem dX9_still_65 : decode cX9_still 65 = .ok (.goto 4, 3) := by decide +kernel
theorem dX9_still_68 : decode cX9_still 68 = .ok (.iconst 0, 1) := by decide +kernel
theorem dX9_still_69 : decode cX9_still 69 = .ok (.istore 4, 2) := by decide +kernel
theorem dX9_still_71 : decode cX9_still 71 = .ok (.iload 4, 2) := by decide +kernel
theorem dX9_still_73 : decode cX9_still 73 = .ok (.ifCond .eq 31, 3) := by decide +kernel
theorem dX9_still_76 : decode cX9_still 76 = .ok (.aload_n 0, 1) := by decide +kernel
theorem dX9_still_77 : decode cX9_still 77 = .ok (.aload_n 0, 1) := by decide +kernel
theorem dX9_still_78 : decode cX9_still 78 = .ok (.getfield 31, 3) := by decide +kernel
theorem dX9_still_81 : decode cX9_still 81 = .ok (.iload_n 1, 1) := by decide +kernel
theorem dX9_still_82 : decode cX9_still 82 = .ok (.bipush 127, 2) := by decide +kernel
theorem dX9_still_84 : decode cX9_still 84 = .ok (.iload_n 3, 1) := by decide +kernel
theorem dX9_still_85 : decode cX9_still 85 = .ok (.iconst (-1), 1) := by decide +kernel
theorem dX9_still_86 : decode cX9_still 86 = .ok (.ixor, 1) := by decide +kernel
theorem dX9_still_87 : decode cX9_still 87 = .ok (.iand, 1) := by decide +kernel
theorem dX9_still_88 : decode cX9_still 88 = .ok (.invokevirtual 153, 3) := by decide +kernel
theorem dX9_still_91 : decode cX9_still 91 = .ok (.aload_n 0, 1) := by decide +kernel
theorem dX9_still_92 : decode cX9_still 92 = .ok (.getfield 13, 3) := by decide +kernel
theorem dX9_still_95 : decode cX9_still 95 = .ok (.iload_n 1, 1) := by decide +kernel
theorem dX9_still_96 : decode cX9_still 96 = .ok (.iaload, 1) := by decide +kernel
theorem dX9_still_97 : decode cX9_still 97 = .ok (.if_icmp .ge 7, 3) := by decide +kernel
theorem dX9_still_100 : decode cX9_still 100 = .ok (.iload_n 3, 1) := by decide +kernel
theorem dX9_still_101 : decode cX9_still 101 = .ok (.goto 4, 3) := by decide +kernel
theorem dX9_still_104 : decode cX9_still 104 = .ok (.iload_n 2, 1) := by decide +kernel
theorem dX9_still_105 : decode cX9_still 105 = .ok (.istore_n 2, 1) := by decide +kernel
theorem dX9_still_106 : decode cX9_still 106 = .ok (.iinc 3 1, 3) := by decide +kernel
theorem dX9_still_109 : decode cX9_still 109 = .ok (.goto (-72), 3) := by decide +kernel
theorem dX9_still_112 : decode cX9_still 112 = .ok (.iload_n 2, 1) := by decide +kernel
theorem dX9_still_113 : decode cX9_still 113 = .ok (.ireturn, 1) := by decide +kernel
theorem dX9_longPower_0 : decode cX9_longPower 0 = .ok (.lconst 1, 1) := by decide +kernel
theorem dX9_longPower_1 : decode cX9_longPower 1 = .ok (.lstore_n 3, 1) := by decide +kernel
theorem dX9_longPower_2 : decode cX9_longPower 2 = .ok (.iconst 0, 1) := by decide +kernel
theorem dX9_longPower_3 : decode cX9_longPower 3 = .ok (.istore 5, 2) := by decide +kernel
theorem dX9_longPower_5 : decode cX9_longPower 5 = .ok (.iload 5, 2) := by decide +kernel
theorem dX9_longPower_7 : decode cX9_longPower 7 = .ok (.iload_n 2, 1) := by decide +kernel
theorem dX9_longPower_8 : decode cX9_longPower 8 = .ok (.if_icmp .ge 13, 3) := by decide +kernel
theorem dX9_longPower_11 : decode cX9_longPower 11 = .ok (.lload_n 3, 1) := by decide +kernel
theorem dX9_longPower_12 : decode cX9_longPower 12 = .ok (.lload_n 0, 1) := by decide +kernel
theorem dX9_longPower_13 : decode cX9_longPower 13 = .ok (.lmul, 1) := by decide +kernel
theorem dX9_longPower_14 : decode cX9_longPower 14 = .ok (.lstore_n 3, 1) := by decide +kernel
theorem dX9_longPower_15 : decode cX9_longPower 15 = .ok (.iinc 5 1, 3) := by decide +kernel
theorem dX9_longPower_18 : decode cX9_longPower 18 = .ok (.goto (-13), 3) := by decide +kernel
theorem dX9_longPower_21 : decode cX9_longPower 21 = .ok (.lload_n 3, 1) := by decide +kernel
theorem dX9_longPower_22 : decode cX9_longPower 22 = .ok (.lreturn, 1) := by decide +kernel
set_option maxRecDepth 20000 in
theorem ggX9_doesTo_X9_noPlayer : GoodIn wsX9_doesTo wsX9_noPlayer := goodIn_r _ [6, 7, 8, 9, 5, 10, 44, 45, 46, 47, 48, 49, 50, 51, 52, 53, 54, 55, 56, 57, 58, 59, 60, 61, 62, 63, 64, 65, 66, 67, 68, 69, 70, 71, 72, 73, 74, 75, 76, 77] (by decide +kernel) (by decide +kernel)
set_option maxRecDepth 20000 in
theorem gX9_doesTo_X9_noPlayer : GoodIn wsX9_doesTo (wsV RX9 149 RX9 yX9_noPlayer wsX9_noPlayer) := goodIn_app (goodIn_of _ (by decide +kernel)) ggX9_doesTo_X9_noPlayer
set_option maxRecDepth 20000 in
theorem ggX9_doesTo_X9_has : GoodIn wsX9_doesTo wsX9_has := goodIn_r _ [13] (by decide +kernel) (by decide +kernel)
set_option maxRecDepth 20000 in
theorem gX9_doesTo_X9_has : GoodIn wsX9_doesTo (va_wsS RX9 96 yX9_has wsX9_has) := goodIn_app (goodIn_of _ (by decide +kernel)) ggX9_doesTo_X9_has
set_option maxRecDepth 20000 in
theorem ggX9_doesTo_X9_goCall : GoodIn wsX9_doesTo wsX9_goCall := goodIn_r _ [17, 18, 19, 20, 21, 22, 5, 23, 24, 25, 26, 27, 28, 29, 11, 12, 13, 30, 31, 32, 33, 34, 35, 36, 37, 38, 39, 44, 45, 46, 47, 48, 49, 50, 51, 52, 53, 54, 55, 56, 57, 58, 59, 60, 61, 62, 63, 64, 65, 66, 67, 68, 69, 70, 71, 72, 73, 74, 75, 76, 77] (by decide +kernel) (by decide +kernel)
set_option maxRecDepth 20000 in
theorem gX9_doesTo_X9_goCall : GoodIn wsX9_doesTo (wsV RX9 162 RX9 yX9_goCall wsX9_goCall) := goodIn_app (goodIn_of _ (by decide +kernel)) ggX9_doesTo_X9_goCall
set_option maxRecDepth 20000 in
theorem ggX9_doesTo_X9_goFlowers : GoodIn wsX9_doesTo wsX9_goFlowers := goodIn_r _ [43, 19, 24, 44, 45, 46, 47, 48, 49, 50, 51, 52, 53, 54, 55, 56, 57, 58, 59, 60, 61, 62, 63, 64, 65, 66, 67, 68, 69, 70, 71, 72, 73, 74, 75, 76, 77] (by decide +kernel) (by decide +kernel)
set_option maxRecDepth 20000 in
theorem gX9_doesTo_X9_goFlowers : GoodIn wsX9_doesTo (wsV RX9 166 RX9 yX9_goFlowers wsX9_goFlowers) := goodIn_app (goodIn_of _ (by decide +kernel)) ggX9_doesTo_X9_goFlowers
theorem dX9_doesTo_0 : decode cX9_doesTo 0 = .ok (.aload_n 0, 1) := by decide +kernel
theorem dX9_doesTo_1 : decode cX9_doesTo 1 = .ok (.iload_n 2, 1) := by decide +kernel
theorem dX9_doesTo_2 : decode cX9_doesTo 2 = .ok (.invokevirtual 149, 3) := by decide +kernel
theorem dX9_doesTo_5 : decode cX9_doesTo 5 = .ok (.ifCond .eq 5, 3) := by decide +kernel
theorem dX9_doesTo_8 : decode cX9_doesTo 8 = .ok (.iconst 0, 1) := by decide +kernel
theorem dX9_doesTo_9 : decode cX9_doesTo 9 = .ok (.ireturn, 1) := by decide +kernel
theorem dX9_doesTo_10 : decode cX9_doesTo 10 = .ok (.iload_n 1, 1) := by decide +kernel
theorem dX9_doesTo_11 : decode cX9_doesTo 11 = .ok (.iconst 1, 1) := by decide +kernel
theorem dX9_doesTo_12 : decode cX9_doesTo 12 = .ok (.if_icmp .ne 35, 3) := by decide +kernel
theorem dX9_doesTo_15 : decode cX9_doesTo 15 = .ok (.aload_n 0, 1) := by decide +kernel
theorem dX9_doesTo_16 : decode cX9_doesTo 16 = .ok (.getfield 34, 3) := by decide +kernel
theorem dX9_doesTo_19 : decode cX9_doesTo 19 = .ok (.bipush 17, 2) := by decide +kernel
theorem dX9_doesTo_21 : decode cX9_doesTo 21 = .ok (.iaload, 1) := by decide +kernel
theorem dX9_doesTo_22 : decode cX9_doesTo 22 = .ok (.iload_n 2, 1) := by decide +kernel
theorem dX9_doesTo_23 : decode cX9_doesTo 23 = .ok (.invokestatic 96, 3) := by decide +kernel
theorem dX9_doesTo_26 : decode cX9_doesTo 26 = .ok (.ifCond .ne 19, 3) := by decide +kernel
theorem dX9_doesTo_29 : decode cX9_doesTo 29 = .ok (.aload_n 0, 1) := by decide +kernel
theorem dX9_doesTo_30 : decode cX9_doesTo 30 = .ok (.aload_n 0, 1) := by decide +kernel
theorem dX9_doesTo_31 : decode cX9_doesTo 31 = .ok (.getfield 34, 3) := by decide +kernel
theorem dX9_doesTo_34 : decode cX9_doesTo 34 = .ok (.iload_n 2, 1) := by decide +kernel
theorem dX9_doesTo_35 : decode cX9_doesTo 35 = .ok (.invokevirtual 162, 3) := by decide +kernel
theorem dX9_doesTo_38 : decode cX9_doesTo 38 = .ok (.ifCond .eq 7, 3) := by decide +kernel
theorem dX9_doesTo_41 : decode cX9_doesTo 41 = .ok (.iconst 1, 1) := by decide +kernel
theorem dX9_doesTo_42 : decode cX9_doesTo 42 = .ok (.goto 4, 3) := by decide +kernel
theorem dX9_doesTo_45 : decode cX9_doesTo 45 = .ok (.iconst 0, 1) := by decide +kernel
theorem dX9_doesTo_46 : decode cX9_doesTo 46 = .ok (.ireturn, 1) := by decide +kernel
theorem dX9_doesTo_47 : decode cX9_doesTo 47 = .ok (.iload_n 1, 1) := by decide +kernel
theorem dX9_doesTo_48 : decode cX9_doesTo 48 = .ok (.iconst 2, 1) := by decide +kernel
theorem dX9_doesTo_49 : decode cX9_doesTo 49 = .ok (.if_icmp .ne 14, 3) := by decide +kernel
theorem dX9_doesTo_52 : decode cX9_doesTo 52 = .ok (.aload_n 0, 1) := by decide +kernel
theorem dX9_doesTo_53 : decode cX9_doesTo 53 = .ok (.aload_n 0, 1) := by decide +kernel
theorem dX9_doesTo_54 : decode cX9_doesTo 54 = .ok (.getfield 34, 3) := by decide +kernel
theorem dX9_doesTo_57 : decode cX9_doesTo 57 = .ok (.iload_n 2, 1) := by decide +kernel
theorem dX9_doesTo_58 : decode cX9_doesTo 58 = .ok (.invokevirtual 166, 3) := by decide +kernel
theorem dX9_doesTo_61 : decode cX9_doesTo 61 = .ok (.iconst 1, 1) := by decide +kernel
theorem dX9_doesTo_62 : decode cX9_doesTo 62 = .ok (.ireturn, 1) := by decide +kernel
theorem dX9_doesTo_63 : decode cX9_doesTo 63 = .ok (.iload_n 1, 1) := by decide +kernel
theorem dX9_doesTo_64 : decode cX9_doesTo 64 = .ok (.iconst 5, 1) := by decide +kernel
theorem dX9_doesTo_65 : decode cX9_doesTo 65 = .ok (.if_icmp .ne 21, 3) := by decide +kernel
theorem dX9_doesTo_68 : decode cX9_doesTo 68 = .ok (.aload_n 0, 1) := by decide +kernel
theorem dX9_doesTo_69 : decode cX9_doesTo 69 = .ok (.getfield 34, 3) := by decide +kernel
theorem dX9_doesTo_72 : decode cX9_doesTo 72 = .ok (.bipush 17, 2) := by decide +kernel
theorem dX9_doesTo_74 : decode cX9_doesTo 74 = .ok (.iaload, 1) := by decide +kernel
theorem dX9_doesTo_75 : decode cX9_doesTo 75 = .ok (.iload_n 2, 1) := by decide +kernel
theorem dX9_doesTo_76 : decode cX9_doesTo 76 = .ok (.invokestatic 96, 3) := by decide +kernel
theorem dX9_doesTo_79 : decode cX9_doesTo 79 = .ok (.ifCond .ne 7, 3) := by decide +kernel
theorem dX9_doesTo_82 : decode cX9_doesTo 82 = .ok (.iconst 1, 1) := by decide +kernel
theorem dX9_doesTo_83 : decode cX9_doesTo 83 = .ok (.goto 4, 3) := by decide +kernel
theorem dX9_doesTo_86 : decode cX9_doesTo 86 = .ok (.iconst 0, 1) := by decide +kernel
theorem dX9_doesTo_87 : decode cX9_doesTo 87 = .ok (.ireturn, 1) := by decide +kernel
set_option maxRecDepth 20000 in
theorem ggX9_does_X9_goNight : GoodIn wsX9_does wsX9_goNight := goodIn_r _ [6, 7, 8, 66, 67, 68, 69, 70, 71, 72, 73, 74, 75, 76, 77, 78, 79, 80, 81, 82, 83, 84, 85, 86, 87, 88, 89, 90, 91, 92, 93, 94, 95, 96, 97, 98, 99] (by decide +kernel) (by decide +kernel)
set_option maxRecDepth 20000 in
theorem gX9_does_X9_goNight : GoodIn wsX9_does (wsV RX9 173 RX9 yX9_goNight wsX9_goNight) := goodIn_app (goodIn_of _ (by decide +kernel)) ggX9_does_X9_goNight
set_option maxRecDepth 20000 in
theorem ggX9_does_X9_noHand : GoodIn wsX9_does wsX9_noHand := goodIn_r _ [12, 7, 13, 14, 5, 15, 66, 67, 68, 69, 70, 71, 72, 73, 74, 75, 76, 77, 78, 79, 80, 81, 82, 83, 84, 85, 86, 87, 88, 89, 90, 91, 92, 93, 94, 95, 96, 97, 98, 99] (by decide +kernel) (by decide +kernel)
set_option maxRecDepth 20000 in
theorem gX9_does_X9_noHand : GoodIn wsX9_does (wsV RX9 156 RX9 yX9_noHand wsX9_noHand) := goodIn_app (goodIn_of _ (by decide +kernel)) ggX9_does_X9_noHand
set_option maxRecDepth 20000 in
theorem ggX9_does_X9_isFree : GoodIn wsX9_does wsX9_isFree := goodIn_r _ [19, 20, 7, 13, 14, 5, 15, 66, 67, 68, 69, 70, 71, 72, 73, 74, 75, 76, 77, 78, 79, 80, 81, 82, 83, 84, 85, 86, 87, 88, 89, 90, 91, 92, 93, 94, 95, 96, 97, 98, 99] (by decide +kernel) (by decide +kernel)
set_option maxRecDepth 20000 in
theorem gX9_does_X9_isFree : GoodIn wsX9_does (wsV RX9 170 RX9 yX9_isFree wsX9_isFree) := goodIn_app (goodIn_of _ (by decide +kernel)) ggX9_does_X9_isFree
set_option maxRecDepth 20000 in
theorem ggX9_does_X9_noPlayer : GoodIn wsX9_does wsX9_noPlayer := goodIn_r _ [24, 25, 13, 14, 5, 15, 66, 67, 68, 69, 70, 71, 72, 73, 74, 75, 76, 77, 78, 79, 80, 81, 82, 83, 84, 85, 86, 87, 88, 89, 90, 91, 92, 93, 94, 95, 96, 97, 98, 99] (by decide +kernel) (by decide +kernel)
set_option maxRecDepth 20000 in
theorem gX9_does_X9_noPlayer : GoodIn wsX9_does (wsV RX9 149 RX9 yX9_noPlayer wsX9_noPlayer) := goodIn_app (goodIn_of _ (by decide +kernel)) ggX9_does_X9_noPlayer
set_option maxRecDepth 20000 in
theorem ggX9_does_X9_loudOf : GoodIn wsX9_does wsX9_loudOf := goodIn_r _ [29, 30, 31, 32, 5, 33, 7, 34, 35, 36, 37, 38, 39, 40, 41, 42, 43, 44, 45, 46, 47, 48, 49, 50, 51, 52, 66, 67, 68, 69, 70, 71, 72, 73, 74, 75, 76, 77, 78, 79, 80, 81, 82, 83, 84, 85, 86, 87, 88, 89, 90, 91, 92, 93, 94, 95, 96, 97, 98, 99] (by decide +kernel) (by decide +kernel)
set_option maxRecDepth 20000 in
theorem gX9_does_X9_loudOf : GoodIn wsX9_does (wsV RX9 153 RX9 yX9_loudOf wsX9_loudOf) := goodIn_app (goodIn_of _ (by decide +kernel)) ggX9_does_X9_loudOf
set_option maxRecDepth 20000 in
theorem ggX9_does_X9_doesTo : GoodIn wsX9_does wsX9_doesTo := goodIn_r _ [56, 1, 21, 22, 23, 5, 24, 25, 13, 14, 15, 40, 41, 42, 57, 58, 59, 60, 61, 7, 30, 31, 32, 33, 34, 35, 36, 37, 38, 39, 43, 44, 45, 46, 47, 48, 49, 50, 51, 52, 62, 63, 64, 65, 66, 67, 68, 69, 70, 71, 72, 73, 74, 75, 76, 77, 78, 79, 80, 81, 82, 83, 84, 85, 86, 87, 88, 89, 90, 91, 92, 93, 94, 95, 96, 97, 98, 99] (by decide +kernel) (by decide +kernel)
set_option maxRecDepth 20000 in
theorem gX9_does_X9_doesTo : GoodIn wsX9_does (wsV RX9 189 RX9 yX9_doesTo wsX9_doesTo) := goodIn_app (goodIn_of _ (by decide +kernel)) ggX9_does_X9_doesTo
theorem dX9_does_0 : decode cX9_does 0 = .ok (.iload_n 1, 1) := by decide +kernel
theorem dX9_does_1 : decode cX9_does 1 = .ok (.bipush 100, 2) := by decide +kernel
theorem dX9_does_3 : decode cX9_does 3 = .ok (.idiv, 1) := by decide +kernel
theorem dX9_does_4 : decode cX9_does 4 = .ok (.istore_n 2, 1) := by decide +kernel
theorem dX9_does_5 : decode cX9_does 5 = .ok (.iload_n 1, 1) := by decide +kernel
theorem dX9_does_6 : decode cX9_does 6 = .ok (.bipush 10, 2) := by decide +kernel
theorem dX9_does_8 : decode cX9_does 8 = .ok (.idiv, 1) := by decide +kernel
theorem dX9_does_9 : decode cX9_does 9 = .ok (.bipush 10, 2) := by decide +kernel
theorem dX9_does_11 : decode cX9_does 11 = .ok (.irem, 1) := by decide +kernel
theorem dX9_does_12 : decode cX9_does 12 = .ok (.istore_n 3, 1) := by decide +kernel
theorem dX9_does_13 : decode cX9_does 13 = .ok (.iload_n 1, 1) := by decide +kernel
theorem dX9_does_14 : decode cX9_does 14 = .ok (.bipush 10, 2) := by decide +kernel
theorem dX9_does_16 : decode cX9_does 16 = .ok (.irem, 1) := by decide +kernel
theorem dX9_does_17 : decode cX9_does 17 = .ok (.istore 4, 2) := by decide +kernel
theorem dX9_does_19 : decode cX9_does 19 = .ok (.iload_n 1, 1) := by decide +kernel
theorem dX9_does_20 : decode cX9_does 20 = .ok (.sipush 400, 3) := by decide +kernel
theorem dX9_does_23 : decode cX9_does 23 = .ok (.if_icmp .ne 13, 3) := by decide +kernel
theorem dX9_does_26 : decode cX9_does 26 = .ok (.aload_n 0, 1) := by decide +kernel
theorem dX9_does_27 : decode cX9_does 27 = .ok (.aload_n 0, 1) := by decide +kernel
theorem dX9_does_28 : decode cX9_does 28 = .ok (.getfield 34, 3) := by decide +kernel
theorem dX9_does_31 : decode cX9_does 31 = .ok (.invokevirtual 173, 3) := by decide +kernel
theorem dX9_does_34 : decode cX9_does 34 = .ok (.iconst 1, 1) := by decide +kernel
theorem dX9_does_35 : decode cX9_does 35 = .ok (.ireturn, 1) := by decide +kernel
theorem dX9_does_36 : decode cX9_does 36 = .ok (.iload_n 2, 1) := by decide +kernel
theorem dX9_does_37 : decode cX9_does 37 = .ok (.iconst 3, 1) := by decide +kernel
theorem dX9_does_38 : decode cX9_does 38 = .ok (.if_icmp .ne 47, 3) := by decide +kernel
theorem dX9_does_41 : decode cX9_does 41 = .ok (.aload_n 0, 1) := by decide +kernel
theorem dX9_does_42 : decode cX9_does 42 = .ok (.iload_n 3, 1) := by decide +kernel
theorem dX9_does_43 : decode cX9_does 43 = .ok (.invokevirtual 156, 3) := by decide +kernel
theorem dX9_does_46 : decode cX9_does 46 = .ok (.ifCond .ne 20, 3) := by decide +kernel
theorem dX9_does_49 : decode cX9_does 49 = .ok (.aload_n 0, 1) := by decide +kernel
theorem dX9_does_50 : decode cX9_does 50 = .ok (.aload_n 0, 1) := by decide +kernel
theorem dX9_does_51 : decode cX9_does 51 = .ok (.getfield 34, 3) := by decide +kernel
theorem dX9_does_54 : decode cX9_does 54 = .ok (.iload 4, 2) := by decide +kernel
theorem dX9_does_56 : decode cX9_does 56 = .ok (.invokevirtual 170, 3) := by decide +kernel
theorem dX9_does_59 : decode cX9_does 59 = .ok (.ifCond .eq 7, 3) := by decide +kernel
theorem dX9_does_62 : decode cX9_does 62 = .ok (.iconst 1, 1) := by decide +kernel
theorem dX9_does_63 : decode cX9_does 63 = .ok (.goto 4, 3) := by decide +kernel
theorem dX9_does_66 : decode cX9_does 66 = .ok (.iconst 0, 1) := by decide +kernel
theorem dX9_does_67 : decode cX9_does 67 = .ok (.istore 5, 2) := by decide +kernel
theorem dX9_does_69 : decode cX9_does 69 = .ok (.iload 5, 2) := by decide +kernel
theorem dX9_does_71 : decode cX9_does 71 = .ok (.ifCond .eq 11, 3) := by decide +kernel
theorem dX9_does_74 : decode cX9_does 74 = .ok (.aload_n 0, 1) := by decide +kernel
theorem dX9_does_75 : decode cX9_does 75 = .ok (.getfield 34, 3) := by decide +kernel
theorem dX9_does_78 : decode cX9_does 78 = .ok (.iload_n 3, 1) := by decide +kernel
theorem dX9_does_79 : decode cX9_does 79 = .ok (.iload 4, 2) := by decide +kernel
theorem dX9_does_81 : decode cX9_does 81 = .ok (.iastore, 1) := by decide +kernel
theorem dX9_does_82 : decode cX9_does 82 = .ok (.iload 5, 2) := by decide +kernel
theorem dX9_does_84 : decode cX9_does 84 = .ok (.ireturn, 1) := by decide +kernel
theorem dX9_does_85 : decode cX9_does 85 = .ok (.iload_n 2, 1) := by decide +kernel
theorem dX9_does_86 : decode cX9_does 86 = .ok (.bipush 6, 2) := by decide +kernel
theorem dX9_does_88 : decode cX9_does 88 = .ok (.if_icmp .ne 33, 3) := by decide +kernel
theorem dX9_does_91 : decode cX9_does 91 = .ok (.aload_n 0, 1) := by decide +kernel
theorem dX9_does_92 : decode cX9_does 92 = .ok (.iload_n 3, 1) := by decide +kernel
theorem dX9_does_93 : decode cX9_does 93 = .ok (.invokevirtual 149, 3) := by decide +kernel
theorem dX9_does_96 : decode cX9_does 96 = .ok (.ifCond .ne 23, 3) := by decide +kernel
theorem dX9_does_99 : decode cX9_does 99 = .ok (.aload_n 0, 1) := by decide +kernel
theorem dX9_does_100 : decode cX9_does 100 = .ok (.aload_n 0, 1) := by decide +kernel
theorem dX9_does_101 : decode cX9_does 101 = .ok (.getfield 34, 3) := by decide +kernel
theorem dX9_does_104 : decode cX9_does 104 = .ok (.iload_n 3, 1) := by decide +kernel
theorem dX9_does_105 : decode cX9_does 105 = .ok (.bipush 127, 2) := by decide +kernel
theorem dX9_does_107 : decode cX9_does 107 = .ok (.invokevirtual 153, 3) := by decide +kernel
theorem dX9_does_110 : decode cX9_does 110 = .ok (.iload 4, 2) := by decide +kernel
theorem dX9_does_112 : decode cX9_does 112 = .ok (.if_icmp .lt 7, 3) := by decide +kernel
theorem dX9_does_115 : decode cX9_does 115 = .ok (.iconst 1, 1) := by decide +kernel
theorem dX9_does_116 : decode cX9_does 116 = .ok (.goto 4, 3) := by decide +kernel
theorem dX9_does_119 : decode cX9_does 119 = .ok (.iconst 0, 1) := by decide +kernel
theorem dX9_does_120 : decode cX9_does 120 = .ok (.ireturn, 1) := by decide +kernel
theorem dX9_does_121 : decode cX9_does 121 = .ok (.iload_n 3, 1) := by decide +kernel
theorem dX9_does_122 : decode cX9_does 122 = .ok (.ifCond .ne 17, 3) := by decide +kernel
theorem dX9_does_125 : decode cX9_does 125 = .ok (.aload_n 0, 1) := by decide +kernel
theorem dX9_does_126 : decode cX9_does 126 = .ok (.iload_n 2, 1) := by decide +kernel
theorem dX9_does_127 : decode cX9_does 127 = .ok (.iload 4, 2) := by decide +kernel
theorem dX9_does_129 : decode cX9_does 129 = .ok (.invokevirtual 189, 3) := by decide +kernel
theorem dX9_does_132 : decode cX9_does 132 = .ok (.ifCond .eq 7, 3) := by decide +kernel
theorem dX9_does_135 : decode cX9_does 135 = .ok (.iconst 1, 1) := by decide +kernel
theorem dX9_does_136 : decode cX9_does 136 = .ok (.goto 4, 3) := by decide +kernel
theorem dX9_does_139 : decode cX9_does 139 = .ok (.iconst 0, 1) := by decide +kernel
theorem dX9_does_140 : decode cX9_does 140 = .ok (.ireturn, 1) := by decide +kernel
set_option maxRecDepth 20000 in
theorem ggX9_judge_X9_in : GoodIn wsX9_judge wsX9_in := goodIn_r _ [7] (by decide +kernel) (by decide +kernel)
set_option maxRecDepth 20000 in
theorem gX9_judge_X9_in : GoodIn wsX9_judge (va_wsS RX9 69 yX9_in wsX9_in) := goodIn_app (goodIn_of _ (by decide +kernel)) ggX9_judge_X9_in
set_option maxRecDepth 20000 in
theorem ggX9_judge_X9_longPower : GoodIn wsX9_judge wsX9_longPower := goodIn_r _ [10] (by decide +kernel) (by decide +kernel)
set_option maxRecDepth 20000 in
theorem gX9_judge_X9_longPower : GoodIn wsX9_judge (va_wsS RX9 196 yX9_longPower wsX9_longPower) := goodIn_app (goodIn_of _ (by decide +kernel)) ggX9_judge_X9_longPower
set_option maxRecDepth 20000 in
theorem ggX9_judge_X9_begin : GoodIn wsX9_judge wsX9_begin := goodIn_r _ [14, 15, 16, 81, 82, 83, 84, 85, 86, 87, 88, 89, 90, 91, 92, 93, 94, 95, 96, 97, 98, 99, 100, 101, 102, 103, 104, 105, 106, 107, 108, 109, 110, 111, 112, 113, 114] (by decide +kernel) (by decide +kernel)
set_option maxRecDepth 20000 in
theorem gX9_judge_X9_begin : GoodIn wsX9_judge (wsV RX9 177 RX9 yX9_begin wsX9_begin) := goodIn_app (goodIn_of _ (by decide +kernel)) ggX9_judge_X9_begin
set_option maxRecDepth 20000 in
theorem ggX9_judge_X9_does : GoodIn wsX9_judge wsX9_does := goodIn_r _ [20, 15, 21, 22, 23, 6, 24, 25, 26, 27, 28, 29, 30, 4, 5, 7, 31, 32, 33, 34, 35, 36, 37, 38, 39, 40, 41, 42, 43, 44, 45, 46, 47, 48, 49, 50, 51, 52, 53, 54, 55, 56, 57, 58, 59, 60, 61, 62, 63, 64, 65, 66, 67, 68, 69, 70, 71, 72, 73, 74, 75, 76, 77, 78, 79, 80, 81, 82, 83, 84, 85, 86, 87, 88, 89, 90, 91, 92, 93, 94, 95, 96, 97, 98, 99, 100, 101, 102, 103, 104, 105, 106, 107, 108, 109, 110, 111, 112, 113, 114] (by decide +kernel) (by decide +kernel)
set_option maxRecDepth 20000 in
theorem gX9_judge_X9_does : GoodIn wsX9_judge (wsV RX9 200 RX9 yX9_does wsX9_does) := goodIn_app (goodIn_of _ (by decide +kernel)) ggX9_judge_X9_does
theorem dX9_judge_0 : decode cX9_judge 0 = .ok (.aload_n 0, 1) := by decide +kernel
theorem dX9_judge_1 : decode cX9_judge 1 = .ok (.iconst 0, 1) := by decide +kernel
theorem dX9_judge_2 : decode cX9_judge 2 = .ok (.putfield 62, 3) := by decide +kernel
theorem dX9_judge_5 : decode cX9_judge 5 = .ok (.iload_n 1, 1) := by decide +kernel
theorem dX9_judge_6 : decode cX9_judge 6 = .ok (.i2l, 1) := by decide +kernel
theorem dX9_judge_7 : decode cX9_judge 7 = .ok (.lconst 1, 1) := by decide +kernel
theorem dX9_judge_8 : decode cX9_judge 8 = .ok (.ldc2_w 192, 3) := by decide +kernel
theorem dX9_judge_11 : decode cX9_judge 11 = .ok (.invokestatic 69, 3) := by decide +kernel
theorem dX9_judge_14 : decode cX9_judge 14 = .ok (.ifCond .eq 20, 3) := by decide +kernel
theorem dX9_judge_17 : decode cX9_judge 17 = .ok (.lload_n 2, 1) := by decide +kernel
theorem dX9_judge_18 : decode cX9_judge 18 = .ok (.lconst 0, 1) := by decide +kernel
theorem dX9_judge_19 : decode cX9_judge 19 = .ok (.ldc2_w 194, 3) := by decide +kernel
theorem dX9_judge_22 : decode cX9_judge 22 = .ok (.iload_n 1, 1) := by decide +kernel
theorem dX9_judge_23 : decode cX9_judge 23 = .ok (.invokestatic 196, 3) := by decide +kernel
theorem dX9_judge_26 : decode cX9_judge 26 = .ok (.lconst 1, 1) := by decide +kernel
theorem dX9_judge_27 : decode cX9_judge 27 = .ok (.lsub, 1) := by decide +kernel
theorem dX9_judge_28 : decode cX9_judge 28 = .ok (.invokestatic 69, 3) := by decide +kernel
theorem dX9_judge_31 : decode cX9_judge 31 = .ok (.ifCond .ne 6, 3) := by decide +kernel
theorem dX9_judge_34 : decode cX9_judge 34 = .ok (.bipush (-2), 2) := by decide +kernel
theorem dX9_judge_36 : decode cX9_judge 36 = .ok (.ireturn, 1) := by decide +kernel
theorem dX9_judge_37 : decode cX9_judge 37 = .ok (.aload_n 0, 1) := by decide +kernel
theorem dX9_judge_38 : decode cX9_judge 38 = .ok (.invokevirtual 177, 3) := by decide +kernel
theorem dX9_judge_41 : decode cX9_judge 41 = .ok (.iconst 0, 1) := by decide +kernel
theorem dX9_judge_42 : decode cX9_judge 42 = .ok (.istore 4, 2) := by decide +kernel
theorem dX9_judge_44 : decode cX9_judge 44 = .ok (.iload 4, 2) := by decide +kernel
theorem dX9_judge_46 : decode cX9_judge 46 = .ok (.iload_n 1, 1) := by decide +kernel
theorem dX9_judge_47 : decode cX9_judge 47 = .ok (.if_icmp .ge 38, 3) := by decide +kernel
theorem dX9_judge_50 : decode cX9_judge 50 = .ok (.aload_n 0, 1) := by decide +kernel
theorem dX9_judge_51 : decode cX9_judge 51 = .ok (.lload_n 2, 1) := by decide +kernel
theorem dX9_judge_52 : decode cX9_judge 52 = .ok (.ldc2_w 194, 3) := by decide +kernel
theorem dX9_judge_55 : decode cX9_judge 55 = .ok (.iload_n 1, 1) := by decide +kernel
theorem dX9_judge_56 : decode cX9_judge 56 = .ok (.iconst 1, 1) := by decide +kernel
theorem dX9_judge_57 : decode cX9_judge 57 = .ok (.isub, 1) := by decide +kernel
theorem dX9_judge_58 : decode cX9_judge 58 = .ok (.iload 4, 2) := by decide +kernel
theorem dX9_judge_60 : decode cX9_judge 60 = .ok (.isub, 1) := by decide +kernel
theorem dX9_judge_61 : decode cX9_judge 61 = .ok (.invokestatic 196, 3) := by decide +kernel
theorem dX9_judge_64 : decode cX9_judge 64 = .ok (.ldiv, 1) := by decide +kernel
theorem dX9_judge_65 : decode cX9_judge 65 = .ok (.ldc2_w 194, 3) := by decide +kernel
theorem dX9_judge_68 : decode cX9_judge 68 = .ok (.lrem, 1) := by decide +kernel
theorem dX9_judge_69 : decode cX9_judge 69 = .ok (.l2i, 1) := by decide +kernel
theorem dX9_judge_70 : decode cX9_judge 70 = .ok (.invokevirtual 200, 3) := by decide +kernel
theorem dX9_judge_73 : decode cX9_judge 73 = .ok (.ifCond .ne 6, 3) := by decide +kernel
theorem dX9_judge_76 : decode cX9_judge 76 = .ok (.iload 4, 2) := by decide +kernel
theorem dX9_judge_78 : decode cX9_judge 78 = .ok (.ireturn, 1) := by decide +kernel
theorem dX9_judge_79 : decode cX9_judge 79 = .ok (.iinc 4 1, 3) := by decide +kernel
theorem dX9_judge_82 : decode cX9_judge 82 = .ok (.goto (-38), 3) := by decide +kernel
theorem dX9_judge_85 : decode cX9_judge 85 = .ok (.bipush (-9), 2) := by decide +kernel
theorem dX9_judge_87 : decode cX9_judge 87 = .ok (.ireturn, 1) := by decide +kernel
theorem dX9_ways_0 : decode cX9_ways 0 = .ok (.iconst 1, 1) := by decide +kernel
theorem dX9_ways_1 : decode cX9_ways 1 = .ok (.istore_n 1, 1) := by decide +kernel
theorem dX9_ways_2 : decode cX9_ways 2 = .ok (.iconst 2, 1) := by decide +kernel
theorem dX9_ways_3 : decode cX9_ways 3 = .ok (.istore_n 2, 1) := by decide +kernel
theorem dX9_ways_4 : decode cX9_ways 4 = .ok (.iload_n 2, 1) := by decide +kernel
theorem dX9_ways_5 : decode cX9_ways 5 = .ok (.iload_n 0, 1) := by decide +kernel
theorem dX9_ways_6 : decode cX9_ways 6 = .ok (.if_icmp .gt 13, 3) := by decide +kernel
theorem dX9_ways_9 : decode cX9_ways 9 = .ok (.iload_n 1, 1) := by decide +kernel
theorem dX9_ways_10 : decode cX9_ways 10 = .ok (.iload_n 2, 1) := by decide +kernel
theorem dX9_ways_11 : decode cX9_ways 11 = .ok (.imul, 1) := by decide +kernel
theorem dX9_ways_12 : decode cX9_ways 12 = .ok (.istore_n 1, 1) := by decide +kernel
theorem dX9_ways_13 : decode cX9_ways 13 = .ok (.iinc 2 1, 3) := by decide +kernel
theorem dX9_ways_16 : decode cX9_ways 16 = .ok (.goto (-12), 3) := by decide +kernel
theorem dX9_ways_19 : decode cX9_ways 19 = .ok (.iload_n 1, 1) := by decide +kernel
theorem dX9_ways_20 : decode cX9_ways 20 = .ok (.ireturn, 1) := by decide +kernel
theorem dX9_divisor_0 : decode cX9_divisor 0 = .ok (.iload_n 0, 1) := by decide +kernel
theorem dX9_divisor_1 : decode cX9_divisor 1 = .ok (.ifCond .ge 8, 3) := by decide +kernel
theorem dX9_divisor_4 : decode cX9_divisor 4 = .ok (.iload_n 0, 1) := by decide +kernel
theorem dX9_divisor_5 : decode cX9_divisor 5 = .ok (.ineg, 1) := by decide +kernel
theorem dX9_divisor_6 : decode cX9_divisor 6 = .ok (.goto 4, 3) := by decide +kernel
theorem dX9_divisor_9 : decode cX9_divisor 9 = .ok (.iload_n 0, 1) := by decide +kernel
theorem dX9_divisor_10 : decode cX9_divisor 10 = .ok (.istore_n 2, 1) := by decide +kernel
theorem dX9_divisor_11 : decode cX9_divisor 11 = .ok (.iload_n 1, 1) := by decide +kernel
theorem dX9_divisor_12 : decode cX9_divisor 12 = .ok (.istore_n 3, 1) := by decide +kernel
theorem dX9_divisor_13 : decode cX9_divisor 13 = .ok (.iload_n 3, 1) := by decide +kernel
theorem dX9_divisor_14 : decode cX9_divisor 14 = .ok (.ifCond .eq 16, 3) := by decide +kernel
theorem dX9_divisor_17 : decode cX9_divisor 17 = .ok (.iload_n 2, 1) := by decide +kernel
theorem dX9_divisor_18 : decode cX9_divisor 18 = .ok (.iload_n 3, 1) := by decide +kernel
theorem dX9_divisor_19 : decode cX9_divisor 19 = .ok (.irem, 1) := by decide +kernel
theorem dX9_divisor_20 : decode cX9_divisor 20 = .ok (.istore 4, 2) := by decide +kernel
theorem dX9_divisor_22 : decode cX9_divisor 22 = .ok (.iload_n 3, 1) := by decide +kernel
theorem dX9_divisor_23 : decode cX9_divisor 23 = .ok (.istore_n 2, 1) := by decide +kernel
theorem dX9_divisor_24 : decode cX9_divisor 24 = .ok (.iload 4, 2) := by decide +kernel
theorem dX9_divisor_26 : decode cX9_divisor 26 = .ok (.istore_n 3, 1) := by decide +kernel
theorem dX9_divisor_27 : decode cX9_divisor 27 = .ok (.goto (-14), 3) := by decide +kernel
theorem dX9_divisor_30 : decode cX9_divisor 30 = .ok (.iload_n 2, 1) := by decide +kernel
theorem dX9_divisor_31 : decode cX9_divisor 31 = .ok (.ireturn, 1) := by decide +kernel
set_option maxRecDepth 20000 in
theorem ggX9_fraction_X9_divisor : GoodIn wsX9_fraction wsX9_divisor := goodIn_r _ [4] (by decide +kernel) (by decide +kernel)
set_option maxRecDepth 20000 in
theorem gX9_fraction_X9_divisor : GoodIn wsX9_fraction (va_wsS RX9 203 yX9_divisor wsX9_divisor) := goodIn_app (goodIn_of _ (by decide +kernel)) ggX9_fraction_X9_divisor
theorem dX9_fraction_0 : decode cX9_fraction 0 = .ok (.iload_n 0, 1) := by decide +kernel
theorem dX9_fraction_1 : decode cX9_fraction 1 = .ok (.iload_n 1, 1) := by decide +kernel
theorem dX9_fraction_2 : decode cX9_fraction 2 = .ok (.invokestatic 203, 3) := by decide +kernel
theorem dX9_fraction_5 : decode cX9_fraction 5 = .ok (.istore_n 3, 1) := by decide +kernel
theorem dX9_fraction_6 : decode cX9_fraction 6 = .ok (.iload_n 2, 1) := by decide +kernel
theorem dX9_fraction_7 : decode cX9_fraction 7 = .ok (.ifCond .eq 9, 3) := by decide +kernel
theorem dX9_fraction_10 : decode cX9_fraction 10 = .ok (.iload_n 0, 1) := by decide +kernel
theorem dX9_fraction_11 : decode cX9_fraction 11 = .ok (.iload_n 3, 1) := by decide +kernel
theorem dX9_fraction_12 : decode cX9_fraction 12 = .ok (.idiv, 1) := by decide +kernel
theorem dX9_fraction_13 : decode cX9_fraction 13 = .ok (.goto 6, 3) := by decide +kernel
theorem dX9_fraction_16 : decode cX9_fraction 16 = .ok (.iload_n 1, 1) := by decide +kernel
theorem dX9_fraction_17 : decode cX9_fraction 17 = .ok (.iload_n 3, 1) := by decide +kernel
theorem dX9_fraction_18 : decode cX9_fraction 18 = .ok (.idiv, 1) := by decide +kernel
theorem dX9_fraction_19 : decode cX9_fraction 19 = .ok (.ireturn, 1) := by decide +kernel
set_option maxRecDepth 20000 in
theorem ggX9_share_X9_noHand : GoodIn wsX9_share wsX9_noHand := goodIn_r _ [9, 2, 10, 11, 8, 12, 54, 55, 56, 57, 58, 59, 60, 61, 62, 63, 64, 65, 66, 67, 68, 69, 70, 71, 72, 73, 74, 75, 76, 77, 78, 79, 80, 81, 82, 83, 84, 85, 86, 87] (by decide +kernel) (by decide +kernel)
set_option maxRecDepth 20000 in
theorem gX9_share_X9_noHand : GoodIn wsX9_share (wsV RX9 156 RX9 yX9_noHand wsX9_noHand) := goodIn_app (goodIn_of _ (by decide +kernel)) ggX9_share_X9_noHand
set_option maxRecDepth 20000 in
theorem ggX9_share_X9_noPlayer : GoodIn wsX9_share wsX9_noPlayer := goodIn_r _ [16, 17, 10, 11, 8, 12, 54, 55, 56, 57, 58, 59, 60, 61, 62, 63, 64, 65, 66, 67, 68, 69, 70, 71, 72, 73, 74, 75, 76, 77, 78, 79, 80, 81, 82, 83, 84, 85, 86, 87] (by decide +kernel) (by decide +kernel)
set_option maxRecDepth 20000 in
theorem gX9_share_X9_noPlayer : GoodIn wsX9_share (wsV RX9 149 RX9 yX9_noPlayer wsX9_noPlayer) := goodIn_app (goodIn_of _ (by decide +kernel)) ggX9_share_X9_noPlayer
set_option maxRecDepth 20000 in
theorem ggX9_share_X9_loudOf : GoodIn wsX9_share wsX9_loudOf := goodIn_r _ [21, 22, 23, 24, 8, 25, 2, 26, 27, 28, 29, 30, 31, 32, 33, 34, 35, 36, 37, 38, 39, 40, 41, 42, 43, 44, 54, 55, 56, 57, 58, 59, 60, 61, 62, 63, 64, 65, 66, 67, 68, 69, 70, 71, 72, 73, 74, 75, 76, 77, 78, 79, 80, 81, 82, 83, 84, 85, 86, 87] (by decide +kernel) (by decide +kernel)
set_option maxRecDepth 20000 in
theorem gX9_share_X9_loudOf : GoodIn wsX9_share (wsV RX9 153 RX9 yX9_loudOf wsX9_loudOf) := goodIn_app (goodIn_of _ (by decide +kernel)) ggX9_share_X9_loudOf
set_option maxRecDepth 20000 in
theorem ggX9_share_X9_has : GoodIn wsX9_share wsX9_has := goodIn_r _ [34] (by decide +kernel) (by decide +kernel)
set_option maxRecDepth 20000 in
theorem gX9_share_X9_has : GoodIn wsX9_share (va_wsS RX9 96 yX9_has wsX9_has) := goodIn_app (goodIn_of _ (by decide +kernel)) ggX9_share_X9_has
set_option maxRecDepth 20000 in
theorem ggX9_share_X9_many : GoodIn wsX9_share wsX9_many := goodIn_r _ [44] (by decide +kernel) (by decide +kernel)
set_option maxRecDepth 20000 in
theorem gX9_share_X9_many : GoodIn wsX9_share (va_wsS RX9 135 yX9_many wsX9_many) := goodIn_app (goodIn_of _ (by decide +kernel)) ggX9_share_X9_many
set_option maxRecDepth 20000 in
theorem ggX9_share_X9_ways : GoodIn wsX9_share wsX9_ways := goodIn_r _ [47] (by decide +kernel) (by decide +kernel)
set_option maxRecDepth 20000 in
theorem gX9_share_X9_ways : GoodIn wsX9_share (va_wsS RX9 206 yX9_ways wsX9_ways) := goodIn_app (goodIn_of _ (by decide +kernel)) ggX9_share_X9_ways
set_option maxRecDepth 20000 in
theorem ggX9_share_X9_fraction : GoodIn wsX9_share wsX9_fraction := goodIn_r _ [50, 51, 52, 8, 53] (by decide +kernel) (by decide +kernel)
set_option maxRecDepth 20000 in
theorem gX9_share_X9_fraction : GoodIn wsX9_share (va_wsS RX9 209 yX9_fraction wsX9_fraction) := goodIn_app (goodIn_of _ (by decide +kernel)) ggX9_share_X9_fraction
theorem dX9_share_0 : decode cX9_share 0 = .ok (.aload_n 0, 1) := by decide +kernel
theorem dX9_share_1 : decode cX9_share 1 = .ok (.iconst 0, 1) := by decide +kernel
theorem dX9_share_2 : decode cX9_share 2 = .ok (.putfield 62, 3) := by decide +kernel
theorem dX9_share_5 : decode cX9_share 5 = .ok (.aload_n 0, 1) := by decide +kernel
theorem dX9_share_6 : decode cX9_share 6 = .ok (.iload_n 1, 1) := by decide +kernel
theorem dX9_share_7 : decode cX9_share 7 = .ok (.invokevirtual 156, 3) := by decide +kernel
theorem dX9_share_10 : decode cX9_share 10 = .ok (.ifCond .ne 11, 3) := by decide +kernel
theorem dX9_share_13 : decode cX9_share 13 = .ok (.aload_n 0, 1) := by decide +kernel
theorem dX9_share_14 : decode cX9_share 14 = .ok (.iload_n 2, 1) := by decide +kernel
theorem dX9_share_15 : decode cX9_share 15 = .ok (.invokevirtual 149, 3) := by decide +kernel
theorem dX9_share_18 : decode cX9_share 18 = .ok (.ifCond .eq 5, 3) := by decide +kernel
theorem dX9_share_21 : decode cX9_share 21 = .ok (.iconst (-1), 1) := by decide +kernel
theorem dX9_share_22 : decode cX9_share 22 = .ok (.ireturn, 1) := by decide +kernel
theorem dX9_share_23 : decode cX9_share 23 = .ok (.iconst 0, 1) := by decide +kernel
theorem dX9_share_24 : decode cX9_share 24 = .ok (.istore 4, 2) := by decide +kernel
theorem dX9_share_26 : decode cX9_share 26 = .ok (.iload 4, 2) := by decide +kernel
theorem dX9_share_28 : decode cX9_share 28 = .ok (.iconst 1, 1) := by decide +kernel
theorem dX9_share_29 : decode cX9_share 29 = .ok (.aload_n 0, 1) := by decide +kernel
theorem dX9_share_30 : decode cX9_share 30 = .ok (.getfield 73, 3) := by decide +kernel
theorem dX9_share_33 : decode cX9_share 33 = .ok (.ishl, 1) := by decide +kernel
theorem dX9_share_34 : decode cX9_share 34 = .ok (.if_icmp .ge 27, 3) := by decide +kernel
theorem dX9_share_37 : decode cX9_share 37 = .ok (.aload_n 0, 1) := by decide +kernel
theorem dX9_share_38 : decode cX9_share 38 = .ok (.getfield 59, 3) := by decide +kernel
theorem dX9_share_41 : decode cX9_share 41 = .ok (.iload 4, 2) := by decide +kernel
theorem dX9_share_43 : decode cX9_share 43 = .ok (.aload_n 0, 1) := by decide +kernel
theorem dX9_share_44 : decode cX9_share 44 = .ok (.aload_n 0, 1) := by decide +kernel
theorem dX9_share_45 : decode cX9_share 45 = .ok (.getfield 31, 3) := by decide +kernel
theorem dX9_share_48 : decode cX9_share 48 = .ok (.iload_n 2, 1) := by decide +kernel
theorem dX9_share_49 : decode cX9_share 49 = .ok (.iload 4, 2) := by decide +kernel
theorem dX9_share_51 : decode cX9_share 51 = .ok (.invokevirtual 153, 3) := by decide +kernel
theorem dX9_share_54 : decode cX9_share 54 = .ok (.iastore, 1) := by decide +kernel
theorem dX9_share_55 : decode cX9_share 55 = .ok (.iinc 4 1, 3) := by decide +kernel
theorem dX9_share_58 : decode cX9_share 58 = .ok (.goto (-32), 3) := by decide +kernel
theorem dX9_share_61 : decode cX9_share 61 = .ok (.iconst 0, 1) := by decide +kernel
theorem dX9_share_62 : decode cX9_share 62 = .ok (.istore 4, 2) := by decide +kernel
theorem dX9_share_64 : decode cX9_share 64 = .ok (.iconst 0, 1) := by decide +kernel
theorem dX9_share_65 : decode cX9_share 65 = .ok (.istore 5, 2) := by decide +kernel
theorem dX9_share_67 : decode cX9_share 67 = .ok (.iload 5, 2) := by decide +kernel
theorem dX9_share_69 : decode cX9_share 69 = .ok (.iconst 1, 1) := by decide +kernel
theorem dX9_share_70 : decode cX9_share 70 = .ok (.aload_n 0, 1) := by decide +kernel
theorem dX9_share_71 : decode cX9_share 71 = .ok (.getfield 73, 3) := by decide +kernel
theorem dX9_share_74 : decode cX9_share 74 = .ok (.ishl, 1) := by decide +kernel
theorem dX9_share_75 : decode cX9_share 75 = .ok (.if_icmp .ge 68, 3) := by decide +kernel
theorem dX9_share_78 : decode cX9_share 78 = .ok (.iload 5, 2) := by decide +kernel
theorem dX9_share_80 : decode cX9_share 80 = .ok (.iload_n 1, 1) := by decide +kernel
theorem dX9_share_81 : decode cX9_share 81 = .ok (.invokestatic 96, 3) := by decide +kernel
theorem dX9_share_84 : decode cX9_share 84 = .ok (.ifCond .ne 53, 3) := by decide +kernel
theorem dX9_share_87 : decode cX9_share 87 = .ok (.iload 5, 2) := by decide +kernel
theorem dX9_share_89 : decode cX9_share 89 = .ok (.invokestatic 135, 3) := by decide +kernel
theorem dX9_share_92 : decode cX9_share 92 = .ok (.istore 6, 2) := by decide +kernel
theorem dX9_share_94 : decode cX9_share 94 = .ok (.iload 4, 2) := by decide +kernel
theorem dX9_share_96 : decode cX9_share 96 = .ok (.iload 6, 2) := by decide +kernel
theorem dX9_share_98 : decode cX9_share 98 = .ok (.invokestatic 206, 3) := by decide +kernel
theorem dX9_share_101 : decode cX9_share 101 = .ok (.aload_n 0, 1) := by decide +kernel
theorem dX9_share_102 : decode cX9_share 102 = .ok (.getfield 73, 3) := by decide +kernel
theorem dX9_share_105 : decode cX9_share 105 = .ok (.iconst 1, 1) := by decide +kernel
theorem dX9_share_106 : decode cX9_share 106 = .ok (.isub, 1) := by decide +kernel
theorem dX9_share_107 : decode cX9_share 107 = .ok (.iload 6, 2) := by decide +kernel
theorem dX9_share_109 : decode cX9_share 109 = .ok (.isub, 1) := by decide +kernel
theorem dX9_share_110 : decode cX9_share 110 = .ok (.invokestatic 206, 3) := by decide +kernel
theorem dX9_share_113 : decode cX9_share 113 = .ok (.imul, 1) := by decide +kernel
theorem dX9_share_114 : decode cX9_share 114 = .ok (.aload_n 0, 1) := by decide +kernel
theorem dX9_share_115 : decode cX9_share 115 = .ok (.getfield 59, 3) := by decide +kernel
theorem dX9_share_118 : decode cX9_share 118 = .ok (.iload 5, 2) := by decide +kernel
theorem dX9_share_120 : decode cX9_share 120 = .ok (.iconst 1, 1) := by decide +kernel
theorem dX9_share_121 : decode cX9_share 121 = .ok (.iload_n 1, 1) := by decide +kernel
theorem dX9_share_122 : decode cX9_share 122 = .ok (.ishl, 1) := by decide +kernel
theorem dX9_share_123 : decode cX9_share 123 = .ok (.ior, 1) := by decide +kernel
theorem dX9_share_124 : decode cX9_share 124 = .ok (.iaload, 1) := by decide +kernel
theorem dX9_share_125 : decode cX9_share 125 = .ok (.aload_n 0, 1) := by decide +kernel
theorem dX9_share_126 : decode cX9_share 126 = .ok (.getfield 59, 3) := by decide +kernel
theorem dX9_share_129 : decode cX9_share 129 = .ok (.iload 5, 2) := by decide +kernel
theorem dX9_share_131 : decode cX9_share 131 = .ok (.iaload, 1) := by decide +kernel
theorem dX9_share_132 : decode cX9_share 132 = .ok (.isub, 1) := by decide +kernel
theorem dX9_share_133 : decode cX9_share 133 = .ok (.imul, 1) := by decide +kernel
theorem dX9_share_134 : decode cX9_share 134 = .ok (.iadd, 1) := by decide +kernel
theorem dX9_share_135 : decode cX9_share 135 = .ok (.istore 4, 2) := by decide +kernel
theorem dX9_share_137 : decode cX9_share 137 = .ok (.iinc 5 1, 3) := by decide +kernel
theorem dX9_share_140 : decode cX9_share 140 = .ok (.goto (-73), 3) := by decide +kernel
theorem dX9_share_143 : decode cX9_share 143 = .ok (.iload 4, 2) := by decide +kernel
theorem dX9_share_145 : decode cX9_share 145 = .ok (.aload_n 0, 1) := by decide +kernel
theorem dX9_share_146 : decode cX9_share 146 = .ok (.getfield 73, 3) := by decide +kernel
theorem dX9_share_149 : decode cX9_share 149 = .ok (.invokestatic 206, 3) := by decide +kernel
theorem dX9_share_152 : decode cX9_share 152 = .ok (.iload_n 3, 1) := by decide +kernel
theorem dX9_share_153 : decode cX9_share 153 = .ok (.invokestatic 209, 3) := by decide +kernel
theorem dX9_share_156 : decode cX9_share 156 = .ok (.ireturn, 1) := by decide +kernel
set_option maxRecDepth 20000 in
theorem ggX9_hear_X9_in : GoodIn wsX9_hear wsX9_in := goodIn_r _ [10] (by decide +kernel) (by decide +kernel)
set_option maxRecDepth 20000 in
theorem gX9_hear_X9_in : GoodIn wsX9_hear (va_wsS RX9 69 yX9_in wsX9_in) := goodIn_app (goodIn_of _ (by decide +kernel)) ggX9_hear_X9_in
theorem dX9_hear_0 : decode cX9_hear 0 = .ok (.aload_n 0, 1) := by decide +kernel
theorem dX9_hear_1 : decode cX9_hear 1 = .ok (.iconst 0, 1) := by decide +kernel
theorem dX9_hear_2 : decode cX9_hear 2 = .ok (.putfield 62, 3) := by decide +kernel
theorem dX9_hear_5 : decode cX9_hear 5 = .ok (.iload_n 1, 1) := by decide +kernel
theorem dX9_hear_6 : decode cX9_hear 6 = .ok (.i2l, 1) := by decide +kernel
theorem dX9_hear_7 : decode cX9_hear 7 = .ok (.lconst 0, 1) := by decide +kernel
theorem dX9_hear_8 : decode cX9_hear 8 = .ok (.ldc2_w 91, 3) := by decide +kernel
theorem dX9_hear_11 : decode cX9_hear 11 = .ok (.invokestatic 69, 3) := by decide +kernel
theorem dX9_hear_14 : decode cX9_hear 14 = .ok (.ifCond .eq 23, 3) := by decide +kernel
theorem dX9_hear_17 : decode cX9_hear 17 = .ok (.iload_n 2, 1) := by decide +kernel
theorem dX9_hear_18 : decode cX9_hear 18 = .ok (.i2l, 1) := by decide +kernel
theorem dX9_hear_19 : decode cX9_hear 19 = .ok (.lconst 0, 1) := by decide +kernel
theorem dX9_hear_20 : decode cX9_hear 20 = .ok (.lconst 1, 1) := by decide +kernel
theorem dX9_hear_21 : decode cX9_hear 21 = .ok (.invokestatic 69, 3) := by decide +kernel
theorem dX9_hear_24 : decode cX9_hear 24 = .ok (.ifCond .eq 13, 3) := by decide +kernel
theorem dX9_hear_27 : decode cX9_hear 27 = .ok (.iload_n 3, 1) := by decide +kernel
theorem dX9_hear_28 : decode cX9_hear 28 = .ok (.i2l, 1) := by decide +kernel
theorem dX9_hear_29 : decode cX9_hear 29 = .ok (.lconst 0, 1) := by decide +kernel
theorem dX9_hear_30 : decode cX9_hear 30 = .ok (.lconst 1, 1) := by decide +kernel
theorem dX9_hear_31 : decode cX9_hear 31 = .ok (.invokestatic 69, 3) := by decide +kernel
theorem dX9_hear_34 : decode cX9_hear 34 = .ok (.ifCond .ne 6, 3) := by decide +kernel
theorem dX9_hear_37 : decode cX9_hear 37 = .ok (.bipush (-2), 2) := by decide +kernel
theorem dX9_hear_39 : decode cX9_hear 39 = .ok (.ireturn, 1) := by decide +kernel
theorem dX9_hear_40 : decode cX9_hear 40 = .ok (.aload_n 0, 1) := by decide +kernel
theorem dX9_hear_41 : decode cX9_hear 41 = .ok (.getfield 146, 3) := by decide +kernel
theorem dX9_hear_44 : decode cX9_hear 44 = .ok (.bipush 6, 2) := by decide +kernel
theorem dX9_hear_46 : decode cX9_hear 46 = .ok (.if_icmp .ne 6, 3) := by decide +kernel
theorem dX9_hear_49 : decode cX9_hear 49 = .ok (.bipush (-4), 2) := by decide +kernel
theorem dX9_hear_51 : decode cX9_hear 51 = .ok (.ireturn, 1) := by decide +kernel
theorem dX9_hear_52 : decode cX9_hear 52 = .ok (.aload_n 0, 1) := by decide +kernel
theorem dX9_hear_53 : decode cX9_hear 53 = .ok (.getfield 47, 3) := by decide +kernel
theorem dX9_hear_56 : decode cX9_hear 56 = .ok (.aload_n 0, 1) := by decide +kernel
theorem dX9_hear_57 : decode cX9_hear 57 = .ok (.getfield 146, 3) := by decide +kernel
theorem dX9_hear_60 : decode cX9_hear 60 = .ok (.iload_n 1, 1) := by decide +kernel
theorem dX9_hear_61 : decode cX9_hear 61 = .ok (.iastore, 1) := by decide +kernel
theorem dX9_hear_62 : decode cX9_hear 62 = .ok (.aload_n 0, 1) := by decide +kernel
theorem dX9_hear_63 : decode cX9_hear 63 = .ok (.getfield 50, 3) := by decide +kernel
theorem dX9_hear_66 : decode cX9_hear 66 = .ok (.aload_n 0, 1) := by decide +kernel
theorem dX9_hear_67 : decode cX9_hear 67 = .ok (.getfield 146, 3) := by decide +kernel
theorem dX9_hear_70 : decode cX9_hear 70 = .ok (.iload_n 2, 1) := by decide +kernel
theorem dX9_hear_71 : decode cX9_hear 71 = .ok (.iastore, 1) := by decide +kernel
theorem dX9_hear_72 : decode cX9_hear 72 = .ok (.aload_n 0, 1) := by decide +kernel
theorem dX9_hear_73 : decode cX9_hear 73 = .ok (.getfield 53, 3) := by decide +kernel
theorem dX9_hear_76 : decode cX9_hear 76 = .ok (.aload_n 0, 1) := by decide +kernel
theorem dX9_hear_77 : decode cX9_hear 77 = .ok (.getfield 146, 3) := by decide +kernel
theorem dX9_hear_80 : decode cX9_hear 80 = .ok (.iload_n 3, 1) := by decide +kernel
theorem dX9_hear_81 : decode cX9_hear 81 = .ok (.iastore, 1) := by decide +kernel
theorem dX9_hear_82 : decode cX9_hear 82 = .ok (.aload_n 0, 1) := by decide +kernel
theorem dX9_hear_83 : decode cX9_hear 83 = .ok (.dup, 1) := by decide +kernel
theorem dX9_hear_84 : decode cX9_hear 84 = .ok (.getfield 146, 3) := by decide +kernel
theorem dX9_hear_87 : decode cX9_hear 87 = .ok (.iconst 1, 1) := by decide +kernel
theorem dX9_hear_88 : decode cX9_hear 88 = .ok (.iadd, 1) := by decide +kernel
theorem dX9_hear_89 : decode cX9_hear 89 = .ok (.putfield 146, 3) := by decide +kernel
theorem dX9_hear_92 : decode cX9_hear 92 = .ok (.aload_n 0, 1) := by decide +kernel
theorem dX9_hear_93 : decode cX9_hear 93 = .ok (.getfield 146, 3) := by decide +kernel
theorem dX9_hear_96 : decode cX9_hear 96 = .ok (.ireturn, 1) := by decide +kernel
theorem dX9_unhear_0 : decode cX9_unhear 0 = .ok (.aload_n 0, 1) := by decide +kernel
theorem dX9_unhear_1 : decode cX9_unhear 1 = .ok (.iconst 0, 1) := by decide +kernel
theorem dX9_unhear_2 : decode cX9_unhear 2 = .ok (.putfield 62, 3) := by decide +kernel
theorem dX9_unhear_5 : decode cX9_unhear 5 = .ok (.aload_n 0, 1) := by decide +kernel
theorem dX9_unhear_6 : decode cX9_unhear 6 = .ok (.getfield 146, 3) := by decide +kernel
theorem dX9_unhear_9 : decode cX9_unhear 9 = .ok (.istore_n 1, 1) := by decide +kernel
theorem dX9_unhear_10 : decode cX9_unhear 10 = .ok (.aload_n 0, 1) := by decide +kernel
theorem dX9_unhear_11 : decode cX9_unhear 11 = .ok (.iconst 0, 1) := by decide +kernel
theorem dX9_unhear_12 : decode cX9_unhear 12 = .ok (.putfield 146, 3) := by decide +kernel
theorem dX9_unhear_15 : decode cX9_unhear 15 = .ok (.iload_n 1, 1) := by decide +kernel
theorem dX9_unhear_16 : decode cX9_unhear 16 = .ok (.ireturn, 1) := by decide +kernel
theorem dX9_clapsAlone_0 : decode cX9_clapsAlone 0 = .ok (.iload_n 1, 1) := by decide +kernel
theorem dX9_clapsAlone_1 : decode cX9_clapsAlone 1 = .ok (.iload_n 2, 1) := by decide +kernel
theorem dX9_clapsAlone_2 : decode cX9_clapsAlone 2 = .ok (.isub, 1) := by decide +kernel
theorem dX9_clapsAlone_3 : decode cX9_clapsAlone 3 = .ok (.istore 4, 2) := by decide +kernel
theorem dX9_clapsAlone_5 : decode cX9_clapsAlone 5 = .ok (.iload_n 0, 1) := by decide +kernel
theorem dX9_clapsAlone_6 : decode cX9_clapsAlone 6 = .ok (.ifCond .ne 17, 3) := by decide +kernel
theorem dX9_clapsAlone_9 : decode cX9_clapsAlone 9 = .ok (.iload 4, 2) := by decide +kernel
theorem dX9_clapsAlone_11 : decode cX9_clapsAlone 11 = .ok (.iconst 3, 1) := by decide +kernel
theorem dX9_clapsAlone_12 : decode cX9_clapsAlone 12 = .ok (.if_icmp .lt 7, 3) := by decide +kernel
theorem dX9_clapsAlone_15 : decode cX9_clapsAlone 15 = .ok (.iconst 1, 1) := by decide +kernel
theorem dX9_clapsAlone_16 : decode cX9_clapsAlone 16 = .ok (.goto 27, 3) := by decide +kernel
theorem dX9_clapsAlone_19 : decode cX9_clapsAlone 19 = .ok (.iconst 0, 1) := by decide +kernel
theorem dX9_clapsAlone_20 : decode cX9_clapsAlone 20 = .ok (.goto 23, 3) := by decide +kernel
theorem dX9_clapsAlone_23 : decode cX9_clapsAlone 23 = .ok (.iload_n 0, 1) := by decide +kernel
theorem dX9_clapsAlone_24 : decode cX9_clapsAlone 24 = .ok (.iconst 2, 1) := by decide +kernel
theorem dX9_clapsAlone_25 : decode cX9_clapsAlone 25 = .ok (.if_icmp .ne 17, 3) := by decide +kernel
theorem dX9_clapsAlone_28 : decode cX9_clapsAlone 28 = .ok (.iload_n 3, 1) := by decide +kernel
theorem dX9_clapsAlone_29 : decode cX9_clapsAlone 29 = .ok (.ifCond .ne 13, 3) := by decide +kernel
theorem dX9_clapsAlone_32 : decode cX9_clapsAlone 32 = .ok (.iload 4, 2) := by decide +kernel
theorem dX9_clapsAlone_34 : decode cX9_clapsAlone 34 = .ok (.iconst 1, 1) := by decide +kernel
theorem dX9_clapsAlone_35 : decode cX9_clapsAlone 35 = .ok (.if_icmp .lt 7, 3) := by decide +kernel
theorem dX9_clapsAlone_38 : decode cX9_clapsAlone 38 = .ok (.iconst 1, 1) := by decide +kernel
theorem dX9_clapsAlone_39 : decode cX9_clapsAlone 39 = .ok (.goto 4, 3) := by decide +kernel
theorem dX9_clapsAlone_42 : decode cX9_clapsAlone 42 = .ok (.iconst 0, 1) := by decide +kernel
theorem dX9_clapsAlone_43 : decode cX9_clapsAlone 43 = .ok (.ireturn, 1) := by decide +kernel
set_option maxRecDepth 20000 in
theorem ggX9_whose_X9_in : GoodIn wsX9_whose wsX9_in := goodIn_r _ [11] (by decide +kernel) (by decide +kernel)
set_option maxRecDepth 20000 in
theorem gX9_whose_X9_in : GoodIn wsX9_whose (va_wsS RX9 69 yX9_in wsX9_in) := goodIn_app (goodIn_of _ (by decide +kernel)) ggX9_whose_X9_in
set_option maxRecDepth 20000 in
theorem ggX9_whose_X9_clapsAlone : GoodIn wsX9_whose wsX9_clapsAlone := goodIn_r _ [14] (by decide +kernel) (by decide +kernel)
set_option maxRecDepth 20000 in
theorem gX9_whose_X9_clapsAlone : GoodIn wsX9_whose (va_wsS RX9 219 yX9_clapsAlone wsX9_clapsAlone) := goodIn_app (goodIn_of _ (by decide +kernel)) ggX9_whose_X9_clapsAlone
theorem dX9_whose_0 : decode cX9_whose 0 = .ok (.aload_n 0, 1) := by decide +kernel
theorem dX9_whose_1 : decode cX9_whose 1 = .ok (.iconst 0, 1) := by decide +kernel
theorem dX9_whose_2 : decode cX9_whose 2 = .ok (.putfield 62, 3) := by decide +kernel
theorem dX9_whose_5 : decode cX9_whose 5 = .ok (.iload_n 1, 1) := by decide +kernel
theorem dX9_whose_6 : decode cX9_whose 6 = .ok (.i2l, 1) := by decide +kernel
theorem dX9_whose_7 : decode cX9_whose 7 = .ok (.lconst 0, 1) := by decide +kernel
theorem dX9_whose_8 : decode cX9_whose 8 = .ok (.lconst 1, 1) := by decide +kernel
theorem dX9_whose_9 : decode cX9_whose 9 = .ok (.invokestatic 69, 3) := by decide +kernel
theorem dX9_whose_12 : decode cX9_whose 12 = .ok (.ifCond .ne 6, 3) := by decide +kernel
theorem dX9_whose_15 : decode cX9_whose 15 = .ok (.bipush (-2), 2) := by decide +kernel
theorem dX9_whose_17 : decode cX9_whose 17 = .ok (.ireturn, 1) := by decide +kernel
theorem dX9_whose_18 : decode cX9_whose 18 = .ok (.aload_n 0, 1) := by decide +kernel
theorem dX9_whose_19 : decode cX9_whose 19 = .ok (.iconst 0, 1) := by decide +kernel
theorem dX9_whose_20 : decode cX9_whose 20 = .ok (.putfield 213, 3) := by decide +kernel
theorem dX9_whose_23 : decode cX9_whose 23 = .ok (.aload_n 0, 1) := by decide +kernel
theorem dX9_whose_24 : decode cX9_whose 24 = .ok (.bipush (-9), 2) := by decide +kernel
theorem dX9_whose_26 : decode cX9_whose 26 = .ok (.putfield 216, 3) := by decide +kernel
theorem dX9_whose_29 : decode cX9_whose 29 = .ok (.iconst 0, 1) := by decide +kernel
theorem dX9_whose_30 : decode cX9_whose 30 = .ok (.istore_n 2, 1) := by decide +kernel
theorem dX9_whose_31 : decode cX9_whose 31 = .ok (.iload_n 2, 1) := by decide +kernel
theorem dX9_whose_32 : decode cX9_whose 32 = .ok (.iconst 4, 1) := by decide +kernel
theorem dX9_whose_33 : decode cX9_whose 33 = .ok (.if_icmp .ge 142, 3) := by decide +kernel
theorem dX9_whose_36 : decode cX9_whose 36 = .ok (.iconst 1, 1) := by decide +kernel
theorem dX9_whose_37 : decode cX9_whose 37 = .ok (.istore_n 3, 1) := by decide +kernel
theorem dX9_whose_38 : decode cX9_whose 38 = .ok (.iload_n 3, 1) := by decide +kernel
theorem dX9_whose_39 : decode cX9_whose 39 = .ok (.bipush 9, 2) := by decide +kernel
theorem dX9_whose_41 : decode cX9_whose 41 = .ok (.if_icmp .gt 128, 3) := by decide +kernel
theorem dX9_whose_44 : decode cX9_whose 44 = .ok (.iconst 1, 1) := by decide +kernel
theorem dX9_whose_45 : decode cX9_whose 45 = .ok (.istore 4, 2) := by decide +kernel
theorem dX9_whose_47 : decode cX9_whose 47 = .ok (.iconst 0, 1) := by decide +kernel
theorem dX9_whose_48 : decode cX9_whose 48 = .ok (.istore 5, 2) := by decide +kernel
theorem dX9_whose_50 : decode cX9_whose 50 = .ok (.iload 5, 2) := by decide +kernel
theorem dX9_whose_52 : decode cX9_whose 52 = .ok (.aload_n 0, 1) := by decide +kernel
theorem dX9_whose_53 : decode cX9_whose 53 = .ok (.getfield 146, 3) := by decide +kernel
theorem dX9_whose_56 : decode cX9_whose 56 = .ok (.if_icmp .ge 59, 3) := by decide +kernel
theorem dX9_whose_59 : decode cX9_whose 59 = .ok (.iload 4, 2) := by decide +kernel
theorem dX9_whose_61 : decode cX9_whose 61 = .ok (.ifCond .eq 45, 3) := by decide +kernel
theorem dX9_whose_64 : decode cX9_whose 64 = .ok (.iload_n 2, 1) := by decide +kernel
theorem dX9_whose_65 : decode cX9_whose 65 = .ok (.iload_n 3, 1) := by decide +kernel
theorem dX9_whose_66 : decode cX9_whose 66 = .ok (.aload_n 0, 1) := by decide +kernel
theorem dX9_whose_67 : decode cX9_whose 67 = .ok (.getfield 47, 3) := by decide +kernel
theorem dX9_whose_70 : decode cX9_whose 70 = .ok (.iload 5, 2) := by decide +kernel
theorem dX9_whose_72 : decode cX9_whose 72 = .ok (.iaload, 1) := by decide +kernel
theorem dX9_whose_73 : decode cX9_whose 73 = .ok (.aload_n 0, 1) := by decide +kernel
theorem dX9_whose_74 : decode cX9_whose 74 = .ok (.getfield 50, 3) := by decide +kernel
theorem dX9_whose_77 : decode cX9_whose 77 = .ok (.iload 5, 2) := by decide +kernel
theorem dX9_whose_79 : decode cX9_whose 79 = .ok (.iaload, 1) := by decide +kernel
theorem dX9_whose_80 : decode cX9_whose 80 = .ok (.invokestatic 219, 3) := by decide +kernel
theorem dX9_whose_83 : decode cX9_whose 83 = .ok (.aload_n 0, 1) := by decide +kernel
theorem dX9_whose_84 : decode cX9_whose 84 = .ok (.getfield 53, 3) := by decide +kernel
theorem dX9_whose_87 : decode cX9_whose 87 = .ok (.iload 5, 2) := by decide +kernel
theorem dX9_whose_89 : decode cX9_whose 89 = .ok (.iaload, 1) := by decide +kernel
theorem dX9_whose_90 : decode cX9_whose 90 = .ok (.iconst 1, 1) := by decide +kernel
theorem dX9_whose_91 : decode cX9_whose 91 = .ok (.if_icmp .ne 7, 3) := by decide +kernel
theorem dX9_whose_94 : decode cX9_whose 94 = .ok (.iconst 1, 1) := by decide +kernel
theorem dX9_whose_95 : decode cX9_whose 95 = .ok (.goto 4, 3) := by decide +kernel
theorem dX9_whose_98 : decode cX9_whose 98 = .ok (.iconst 0, 1) := by decide +kernel
theorem dX9_whose_99 : decode cX9_whose 99 = .ok (.if_icmp .ne 7, 3) := by decide +kernel
theorem dX9_whose_102 : decode cX9_whose 102 = .ok (.iconst 1, 1) := by decide +kernel
theorem dX9_whose_103 : decode cX9_whose 103 = .ok (.goto 4, 3) := by decide +kernel
theorem dX9_whose_106 : decode cX9_whose 106 = .ok (.iconst 0, 1) := by decide +kernel
theorem dX9_whose_107 : decode cX9_whose 107 = .ok (.istore 4, 2) := by decide +kernel
theorem dX9_whose_109 : decode cX9_whose 109 = .ok (.iinc 5 1, 3) := by decide +kernel
theorem dX9_whose_112 : decode cX9_whose 112 = .ok (.goto (-62), 3) := by decide +kernel
theorem dX9_whose_115 : decode cX9_whose 115 = .ok (.aload_n 0, 1) := by decide +kernel
theorem dX9_whose_116 : decode cX9_whose 116 = .ok (.iload 4, 2) := by decide +kernel
theorem dX9_whose_118 : decode cX9_whose 118 = .ok (.ifCond .eq 19, 3) := by decide +kernel
theorem dX9_whose_121 : decode cX9_whose 121 = .ok (.aload_n 0, 1) := by decide +kernel
theorem dX9_whose_122 : decode cX9_whose 122 = .ok (.getfield 213, 3) := by decide +kernel
theorem dX9_whose_125 : decode cX9_whose 125 = .ok (.ifCond .ne 12, 3) := by decide +kernel
theorem dX9_whose_128 : decode cX9_whose 128 = .ok (.bipush 10, 2) := by decide +kernel
theorem dX9_whose_130 : decode cX9_whose 130 = .ok (.iload_n 2, 1) := by decide +kernel
theorem dX9_whose_131 : decode cX9_whose 131 = .ok (.imul, 1) := by decide +kernel
theorem dX9_whose_132 : decode cX9_whose 132 = .ok (.iload_n 3, 1) := by decide +kernel
theorem dX9_whose_133 : decode cX9_whose 133 = .ok (.iadd, 1) := by decide +kernel
theorem dX9_whose_134 : decode cX9_whose 134 = .ok (.goto 7, 3) := by decide +kernel
theorem dX9_whose_137 : decode cX9_whose 137 = .ok (.aload_n 0, 1) := by decide +kernel
theorem dX9_whose_138 : decode cX9_whose 138 = .ok (.getfield 216, 3) := by decide +kernel
theorem dX9_whose_141 : decode cX9_whose 141 = .ok (.putfield 216, 3) := by decide +kernel
theorem dX9_whose_144 : decode cX9_whose 144 = .ok (.aload_n 0, 1) := by decide +kernel
theorem dX9_whose_145 : decode cX9_whose 145 = .ok (.dup, 1) := by decide +kernel
theorem dX9_whose_146 : decode cX9_whose 146 = .ok (.getfield 213, 3) := by decide +kernel
theorem dX9_whose_149 : decode cX9_whose 149 = .ok (.iload 4, 2) := by decide +kernel
theorem dX9_whose_151 : decode cX9_whose 151 = .ok (.ifCond .eq 7, 3) := by decide +kernel
theorem dX9_whose_154 : decode cX9_whose 154 = .ok (.iconst 1, 1) := by decide +kernel
theorem dX9_whose_155 : decode cX9_whose 155 = .ok (.goto 4, 3) := by decide +kernel
theorem dX9_whose_158 : decode cX9_whose 158 = .ok (.iconst 0, 1) := by decide +kernel
theorem dX9_whose_159 : decode cX9_whose 159 = .ok (.iadd, 1) := by decide +kernel
theorem dX9_whose_160 : decode cX9_whose 160 = .ok (.putfield 213, 3) := by decide +kernel
theorem dX9_whose_163 : decode cX9_whose 163 = .ok (.iinc 3 1, 3) := by decide +kernel
theorem dX9_whose_166 : decode cX9_whose 166 = .ok (.goto (-128), 3) := by decide +kernel
theorem dX9_whose_169 : decode cX9_whose 169 = .ok (.iinc 2 1, 3) := by decide +kernel
theorem dX9_whose_172 : decode cX9_whose 172 = .ok (.goto (-141), 3) := by decide +kernel
theorem dX9_whose_175 : decode cX9_whose 175 = .ok (.iload_n 1, 1) := by decide +kernel
theorem dX9_whose_176 : decode cX9_whose 176 = .ok (.ifCond .ne 10, 3) := by decide +kernel
theorem dX9_whose_179 : decode cX9_whose 179 = .ok (.aload_n 0, 1) := by decide +kernel
theorem dX9_whose_180 : decode cX9_whose 180 = .ok (.getfield 213, 3) := by decide +kernel
theorem dX9_whose_183 : decode cX9_whose 183 = .ok (.goto 7, 3) := by decide +kernel
theorem dX9_whose_186 : decode cX9_whose 186 = .ok (.aload_n 0, 1) := by decide +kernel
theorem dX9_whose_187 : decode cX9_whose 187 = .ok (.getfield 216, 3) := by decide +kernel
theorem dX9_whose_190 : decode cX9_whose 190 = .ok (.ireturn, 1) := by decide +kernel
set_option maxRecDepth 20000 in
theorem ggX9_rests_X9_noHand : GoodIn wsX9_rests wsX9_noHand := goodIn_r _ [12, 13, 14, 15, 11, 16, 39, 40, 41, 42, 43, 44, 45, 46, 47, 48, 49, 50, 51, 52, 53, 54, 55, 56, 57, 58, 59, 60, 61, 62, 63, 64, 65, 66, 67, 68, 69, 70, 71, 72] (by decide +kernel) (by decide +kernel)
set_option maxRecDepth 20000 in
theorem gX9_rests_X9_noHand : GoodIn wsX9_rests (wsV RX9 156 RX9 yX9_noHand wsX9_noHand) := goodIn_app (goodIn_of _ (by decide +kernel)) ggX9_rests_X9_noHand
set_option maxRecDepth 20000 in
theorem ggX9_rests_X9_in : GoodIn wsX9_rests wsX9_in := goodIn_r _ [16] (by decide +kernel) (by decide +kernel)
set_option maxRecDepth 20000 in
theorem gX9_rests_X9_in : GoodIn wsX9_rests (va_wsS RX9 69 yX9_in wsX9_in) := goodIn_app (goodIn_of _ (by decide +kernel)) ggX9_rests_X9_in
set_option maxRecDepth 20000 in
theorem ggX9_rests_X9_clapsOf : GoodIn wsX9_rests wsX9_clapsOf := goodIn_r _ [20, 13, 2, 21, 22, 23, 24, 11, 25, 26, 27, 28, 29, 30, 31, 32, 33, 34, 35, 39, 40, 41, 42, 43, 44, 45, 46, 47, 48, 49, 50, 51, 52, 53, 54, 55, 56, 57, 58, 59, 60, 61, 62, 63, 64, 65, 66, 67, 68, 69, 70, 71, 72] (by decide +kernel) (by decide +kernel)
set_option maxRecDepth 20000 in
theorem gX9_rests_X9_clapsOf : GoodIn wsX9_rests (wsV RX9 131 RX9 yX9_clapsOf wsX9_clapsOf) := goodIn_app (goodIn_of _ (by decide +kernel)) ggX9_rests_X9_clapsOf
set_option maxRecDepth 20000 in
theorem ggX9_rests_X9_many : GoodIn wsX9_rests wsX9_many := goodIn_r _ [38] (by decide +kernel) (by decide +kernel)
set_option maxRecDepth 20000 in
theorem gX9_rests_X9_many : GoodIn wsX9_rests (va_wsS RX9 135 yX9_many wsX9_many) := goodIn_app (goodIn_of _ (by decide +kernel)) ggX9_rests_X9_many
theorem dX9_rests_0 : decode cX9_rests 0 = .ok (.aload_n 0, 1) := by decide +kernel
theorem dX9_rests_1 : decode cX9_rests 1 = .ok (.iconst 0, 1) := by decide +kernel
theorem dX9_rests_2 : decode cX9_rests 2 = .ok (.putfield 62, 3) := by decide +kernel
theorem dX9_rests_5 : decode cX9_rests 5 = .ok (.aload_n 0, 1) := by decide +kernel
theorem dX9_rests_6 : decode cX9_rests 6 = .ok (.iload_n 1, 1) := by decide +kernel
theorem dX9_rests_7 : decode cX9_rests 7 = .ok (.invokevirtual 156, 3) := by decide +kernel
theorem dX9_rests_10 : decode cX9_rests 10 = .ok (.ifCond .ne 11, 3) := by decide +kernel
theorem dX9_rests_13 : decode cX9_rests 13 = .ok (.aload_n 0, 1) := by decide +kernel
theorem dX9_rests_14 : decode cX9_rests 14 = .ok (.iload_n 2, 1) := by decide +kernel
theorem dX9_rests_15 : decode cX9_rests 15 = .ok (.invokevirtual 156, 3) := by decide +kernel
theorem dX9_rests_18 : decode cX9_rests 18 = .ok (.ifCond .eq 5, 3) := by decide +kernel
theorem dX9_rests_21 : decode cX9_rests 21 = .ok (.iconst (-1), 1) := by decide +kernel
theorem dX9_rests_22 : decode cX9_rests 22 = .ok (.ireturn, 1) := by decide +kernel
theorem dX9_rests_23 : decode cX9_rests 23 = .ok (.iload_n 1, 1) := by decide +kernel
theorem dX9_rests_24 : decode cX9_rests 24 = .ok (.iload_n 2, 1) := by decide +kernel
theorem dX9_rests_25 : decode cX9_rests 25 = .ok (.if_icmp .eq 13, 3) := by decide +kernel
theorem dX9_rests_28 : decode cX9_rests 28 = .ok (.iload_n 3, 1) := by decide +kernel
theorem dX9_rests_29 : decode cX9_rests 29 = .ok (.i2l, 1) := by decide +kernel
theorem dX9_rests_30 : decode cX9_rests 30 = .ok (.lconst 0, 1) := by decide +kernel
theorem dX9_rests_31 : decode cX9_rests 31 = .ok (.lconst 1, 1) := by decide +kernel
theorem dX9_rests_32 : decode cX9_rests 32 = .ok (.invokestatic 69, 3) := by decide +kernel
theorem dX9_rests_35 : decode cX9_rests 35 = .ok (.ifCond .ne 6, 3) := by decide +kernel
theorem dX9_rests_38 : decode cX9_rests 38 = .ok (.bipush (-2), 2) := by decide +kernel
theorem dX9_rests_40 : decode cX9_rests 40 = .ok (.ireturn, 1) := by decide +kernel
theorem dX9_rests_41 : decode cX9_rests 41 = .ok (.aload_n 0, 1) := by decide +kernel
theorem dX9_rests_42 : decode cX9_rests 42 = .ok (.getfield 16, 3) := by decide +kernel
theorem dX9_rests_45 : decode cX9_rests 45 = .ok (.iload_n 1, 1) := by decide +kernel
theorem dX9_rests_46 : decode cX9_rests 46 = .ok (.iaload, 1) := by decide +kernel
theorem dX9_rests_47 : decode cX9_rests 47 = .ok (.aload_n 0, 1) := by decide +kernel
theorem dX9_rests_48 : decode cX9_rests 48 = .ok (.getfield 16, 3) := by decide +kernel
theorem dX9_rests_51 : decode cX9_rests 51 = .ok (.iload_n 2, 1) := by decide +kernel
theorem dX9_rests_52 : decode cX9_rests 52 = .ok (.iaload, 1) := by decide +kernel
theorem dX9_rests_53 : decode cX9_rests 53 = .ok (.if_icmp .eq 6, 3) := by decide +kernel
theorem dX9_rests_56 : decode cX9_rests 56 = .ok (.bipush (-3), 2) := by decide +kernel
theorem dX9_rests_58 : decode cX9_rests 58 = .ok (.ireturn, 1) := by decide +kernel
theorem dX9_rests_59 : decode cX9_rests 59 = .ok (.iconst 0, 1) := by decide +kernel
theorem dX9_rests_60 : decode cX9_rests 60 = .ok (.istore 4, 2) := by decide +kernel
theorem dX9_rests_62 : decode cX9_rests 62 = .ok (.iload 4, 2) := by decide +kernel
theorem dX9_rests_64 : decode cX9_rests 64 = .ok (.iconst 4, 1) := by decide +kernel
theorem dX9_rests_65 : decode cX9_rests 65 = .ok (.if_icmp .ge 119, 3) := by decide +kernel
theorem dX9_rests_68 : decode cX9_rests 68 = .ok (.bipush 127, 2) := by decide +kernel
theorem dX9_rests_70 : decode cX9_rests 70 = .ok (.iconst 1, 1) := by decide +kernel
theorem dX9_rests_71 : decode cX9_rests 71 = .ok (.iload_n 1, 1) := by decide +kernel
theorem dX9_rests_72 : decode cX9_rests 72 = .ok (.ishl, 1) := by decide +kernel
theorem dX9_rests_73 : decode cX9_rests 73 = .ok (.iconst 1, 1) := by decide +kernel
theorem dX9_rests_74 : decode cX9_rests 74 = .ok (.iload_n 2, 1) := by decide +kernel
theorem dX9_rests_75 : decode cX9_rests 75 = .ok (.ishl, 1) := by decide +kernel
theorem dX9_rests_76 : decode cX9_rests 76 = .ok (.ior, 1) := by decide +kernel
theorem dX9_rests_77 : decode cX9_rests 77 = .ok (.iconst (-1), 1) := by decide +kernel
theorem dX9_rests_78 : decode cX9_rests 78 = .ok (.ixor, 1) := by decide +kernel
theorem dX9_rests_79 : decode cX9_rests 79 = .ok (.iand, 1) := by decide +kernel
theorem dX9_rests_80 : decode cX9_rests 80 = .ok (.iload 4, 2) := by decide +kernel
theorem dX9_rests_82 : decode cX9_rests 82 = .ok (.iconst 2, 1) := by decide +kernel
theorem dX9_rests_83 : decode cX9_rests 83 = .ok (.idiv, 1) := by decide +kernel
theorem dX9_rests_84 : decode cX9_rests 84 = .ok (.iload_n 1, 1) := by decide +kernel
theorem dX9_rests_85 : decode cX9_rests 85 = .ok (.ishl, 1) := by decide +kernel
theorem dX9_rests_86 : decode cX9_rests 86 = .ok (.ior, 1) := by decide +kernel
theorem dX9_rests_87 : decode cX9_rests 87 = .ok (.iload 4, 2) := by decide +kernel
theorem dX9_rests_89 : decode cX9_rests 89 = .ok (.iconst 2, 1) := by decide +kernel
theorem dX9_rests_90 : decode cX9_rests 90 = .ok (.irem, 1) := by decide +kernel
theorem dX9_rests_91 : decode cX9_rests 91 = .ok (.iload_n 2, 1) := by decide +kernel
theorem dX9_rests_92 : decode cX9_rests 92 = .ok (.ishl, 1) := by decide +kernel
theorem dX9_rests_93 : decode cX9_rests 93 = .ok (.ior, 1) := by decide +kernel
theorem dX9_rests_94 : decode cX9_rests 94 = .ok (.istore 5, 2) := by decide +kernel
theorem dX9_rests_96 : decode cX9_rests 96 = .ok (.aload_n 0, 1) := by decide +kernel
theorem dX9_rests_97 : decode cX9_rests 97 = .ok (.aload_n 0, 1) := by decide +kernel
theorem dX9_rests_98 : decode cX9_rests 98 = .ok (.getfield 31, 3) := by decide +kernel
theorem dX9_rests_101 : decode cX9_rests 101 = .ok (.aload_n 0, 1) := by decide +kernel
theorem dX9_rests_102 : decode cX9_rests 102 = .ok (.getfield 16, 3) := by decide +kernel
theorem dX9_rests_105 : decode cX9_rests 105 = .ok (.iload_n 1, 1) := by decide +kernel
theorem dX9_rests_106 : decode cX9_rests 106 = .ok (.iaload, 1) := by decide +kernel
theorem dX9_rests_107 : decode cX9_rests 107 = .ok (.iload 5, 2) := by decide +kernel
theorem dX9_rests_109 : decode cX9_rests 109 = .ok (.invokevirtual 131, 3) := by decide +kernel
theorem dX9_rests_112 : decode cX9_rests 112 = .ok (.istore 6, 2) := by decide +kernel
theorem dX9_rests_114 : decode cX9_rests 114 = .ok (.iload 6, 2) := by decide +kernel
theorem dX9_rests_116 : decode cX9_rests 116 = .ok (.invokestatic 135, 3) := by decide +kernel
theorem dX9_rests_119 : decode cX9_rests 119 = .ok (.aload_n 0, 1) := by decide +kernel
theorem dX9_rests_120 : decode cX9_rests 120 = .ok (.getfield 13, 3) := by decide +kernel
theorem dX9_rests_123 : decode cX9_rests 123 = .ok (.aload_n 0, 1) := by decide +kernel
theorem dX9_rests_124 : decode cX9_rests 124 = .ok (.getfield 16, 3) := by decide +kernel
theorem dX9_rests_127 : decode cX9_rests 127 = .ok (.iload_n 1, 1) := by decide +kernel
theorem dX9_rests_128 : decode cX9_rests 128 = .ok (.iaload, 1) := by decide +kernel
theorem dX9_rests_129 : decode cX9_rests 129 = .ok (.iaload, 1) := by decide +kernel
theorem dX9_rests_130 : decode cX9_rests 130 = .ok (.if_icmp .lt 7, 3) := by decide +kernel
theorem dX9_rests_133 : decode cX9_rests 133 = .ok (.iconst 3, 1) := by decide +kernel
theorem dX9_rests_134 : decode cX9_rests 134 = .ok (.goto 4, 3) := by decide +kernel
theorem dX9_rests_137 : decode cX9_rests 137 = .ok (.iconst 0, 1) := by decide +kernel
theorem dX9_rests_138 : decode cX9_rests 138 = .ok (.istore 7, 2) := by decide +kernel
theorem dX9_rests_140 : decode cX9_rests 140 = .ok (.aload_n 0, 1) := by decide +kernel
theorem dX9_rests_141 : decode cX9_rests 141 = .ok (.getfield 56, 3) := by decide +kernel
theorem dX9_rests_144 : decode cX9_rests 144 = .ok (.iconst 2, 1) := by decide +kernel
theorem dX9_rests_145 : decode cX9_rests 145 = .ok (.iload 4, 2) := by decide +kernel
theorem dX9_rests_147 : decode cX9_rests 147 = .ok (.imul, 1) := by decide +kernel
theorem dX9_rests_148 : decode cX9_rests 148 = .ok (.iload 7, 2) := by decide +kernel
theorem dX9_rests_150 : decode cX9_rests 150 = .ok (.iload 6, 2) := by decide +kernel
theorem dX9_rests_152 : decode cX9_rests 152 = .ok (.iload_n 1, 1) := by decide +kernel
theorem dX9_rests_153 : decode cX9_rests 153 = .ok (.ishr, 1) := by decide +kernel
theorem dX9_rests_154 : decode cX9_rests 154 = .ok (.iconst 1, 1) := by decide +kernel
theorem dX9_rests_155 : decode cX9_rests 155 = .ok (.iand, 1) := by decide +kernel
theorem dX9_rests_156 : decode cX9_rests 156 = .ok (.isub, 1) := by decide +kernel
theorem dX9_rests_157 : decode cX9_rests 157 = .ok (.iastore, 1) := by decide +kernel
theorem dX9_rests_158 : decode cX9_rests 158 = .ok (.aload_n 0, 1) := by decide +kernel
theorem dX9_rests_159 : decode cX9_rests 159 = .ok (.getfield 56, 3) := by decide +kernel
theorem dX9_rests_162 : decode cX9_rests 162 = .ok (.iconst 2, 1) := by decide +kernel
theorem dX9_rests_163 : decode cX9_rests 163 = .ok (.iload 4, 2) := by decide +kernel
theorem dX9_rests_165 : decode cX9_rests 165 = .ok (.imul, 1) := by decide +kernel
theorem dX9_rests_166 : decode cX9_rests 166 = .ok (.iconst 1, 1) := by decide +kernel
theorem dX9_rests_167 : decode cX9_rests 167 = .ok (.iadd, 1) := by decide +kernel
theorem dX9_rests_168 : decode cX9_rests 168 = .ok (.iload 7, 2) := by decide +kernel
theorem dX9_rests_170 : decode cX9_rests 170 = .ok (.iload 6, 2) := by decide +kernel
theorem dX9_rests_172 : decode cX9_rests 172 = .ok (.iload_n 2, 1) := by decide +kernel
theorem dX9_rests_173 : decode cX9_rests 173 = .ok (.ishr, 1) := by decide +kernel
theorem dX9_rests_174 : decode cX9_rests 174 = .ok (.iconst 1, 1) := by decide +kernel
theorem dX9_rests_175 : decode cX9_rests 175 = .ok (.iand, 1) := by decide +kernel
theorem dX9_rests_176 : decode cX9_rests 176 = .ok (.isub, 1) := by decide +kernel
theorem dX9_rests_177 : decode cX9_rests 177 = .ok (.iastore, 1) := by decide +kernel
theorem dX9_rests_178 : decode cX9_rests 178 = .ok (.iinc 4 1, 3) := by decide +kernel
theorem dX9_rests_181 : decode cX9_rests 181 = .ok (.goto (-119), 3) := by decide +kernel
theorem dX9_rests_184 : decode cX9_rests 184 = .ok (.aload_n 0, 1) := by decide +kernel
theorem dX9_rests_185 : decode cX9_rests 185 = .ok (.iconst 0, 1) := by decide +kernel
theorem dX9_rests_186 : decode cX9_rests 186 = .ok (.putfield 223, 3) := by decide +kernel
theorem dX9_rests_189 : decode cX9_rests 189 = .ok (.aload_n 0, 1) := by decide +kernel
theorem dX9_rests_190 : decode cX9_rests 190 = .ok (.bipush (-9), 2) := by decide +kernel
theorem dX9_rests_192 : decode cX9_rests 192 = .ok (.putfield 226, 3) := by decide +kernel
theorem dX9_rests_195 : decode cX9_rests 195 = .ok (.iconst 0, 1) := by decide +kernel
theorem dX9_rests_196 : decode cX9_rests 196 = .ok (.istore 4, 2) := by decide +kernel
theorem dX9_rests_198 : decode cX9_rests 198 = .ok (.iload 4, 2) := by decide +kernel
theorem dX9_rests_200 : decode cX9_rests 200 = .ok (.iconst 4, 1) := by decide +kernel
theorem dX9_rests_201 : decode cX9_rests 201 = .ok (.if_icmp .ge 120, 3) := by decide +kernel
theorem dX9_rests_204 : decode cX9_rests 204 = .ok (.aload_n 0, 1) := by decide +kernel
theorem dX9_rests_205 : decode cX9_rests 205 = .ok (.getfield 56, 3) := by decide +kernel
theorem dX9_rests_208 : decode cX9_rests 208 = .ok (.iconst 2, 1) := by decide +kernel
theorem dX9_rests_209 : decode cX9_rests 209 = .ok (.iload 4, 2) := by decide +kernel
theorem dX9_rests_211 : decode cX9_rests 211 = .ok (.iconst 2, 1) := by decide +kernel
theorem dX9_rests_212 : decode cX9_rests 212 = .ok (.ixor, 1) := by decide +kernel
theorem dX9_rests_213 : decode cX9_rests 213 = .ok (.imul, 1) := by decide +kernel
theorem dX9_rests_214 : decode cX9_rests 214 = .ok (.iaload, 1) := by decide +kernel
theorem dX9_rests_215 : decode cX9_rests 215 = .ok (.aload_n 0, 1) := by decide +kernel
theorem dX9_rests_216 : decode cX9_rests 216 = .ok (.getfield 56, 3) := by decide +kernel
theorem dX9_rests_219 : decode cX9_rests 219 = .ok (.iconst 2, 1) := by decide +kernel
theorem dX9_rests_220 : decode cX9_rests 220 = .ok (.iload 4, 2) := by decide +kernel
theorem dX9_rests_222 : decode cX9_rests 222 = .ok (.imul, 1) := by decide +kernel
theorem dX9_rests_223 : decode cX9_rests 223 = .ok (.iaload, 1) := by decide +kernel
theorem dX9_rests_224 : decode cX9_rests 224 = .ok (.if_icmp .gt 34, 3) := by decide +kernel
theorem dX9_rests_227 : decode cX9_rests 227 = .ok (.aload_n 0, 1) := by decide +kernel
theorem dX9_rests_228 : decode cX9_rests 228 = .ok (.getfield 56, 3) := by decide +kernel
theorem dX9_rests_231 : decode cX9_rests 231 = .ok (.iconst 2, 1) := by decide +kernel
theorem dX9_rests_232 : decode cX9_rests 232 = .ok (.iload 4, 2) := by decide +kernel
theorem dX9_rests_234 : decode cX9_rests 234 = .ok (.iconst 1, 1) := by decide +kernel
theorem dX9_rests_235 : decode cX9_rests 235 = .ok (.ixor, 1) := by decide +kernel
theorem dX9_rests_236 : decode cX9_rests 236 = .ok (.imul, 1) := by decide +kernel
theorem dX9_rests_237 : decode cX9_rests 237 = .ok (.iconst 1, 1) := by decide +kernel
theorem dX9_rests_238 : decode cX9_rests 238 = .ok (.iadd, 1) := by decide +kernel
theorem dX9_rests_239 : decode cX9_rests 239 = .ok (.iaload, 1) := by decide +kernel
theorem dX9_rests_240 : decode cX9_rests 240 = .ok (.aload_n 0, 1) := by decide +kernel
theorem dX9_rests_241 : decode cX9_rests 241 = .ok (.getfield 56, 3) := by decide +kernel
theorem dX9_rests_244 : decode cX9_rests 244 = .ok (.iconst 2, 1) := by decide +kernel
theorem dX9_rests_245 : decode cX9_rests 245 = .ok (.iload 4, 2) := by decide +kernel
theorem dX9_rests_247 : decode cX9_rests 247 = .ok (.imul, 1) := by decide +kernel
theorem dX9_rests_248 : decode cX9_rests 248 = .ok (.iconst 1, 1) := by decide +kernel
theorem dX9_rests_249 : decode cX9_rests 249 = .ok (.iadd, 1) := by decide +kernel
theorem dX9_rests_250 : decode cX9_rests 250 = .ok (.iaload, 1) := by decide +kernel
theorem dX9_rests_251 : decode cX9_rests 251 = .ok (.if_icmp .gt 7, 3) := by decide +kernel
theorem dX9_rests_254 : decode cX9_rests 254 = .ok (.iconst 1, 1) := by decide +kernel
theorem dX9_rests_255 : decode cX9_rests 255 = .ok (.goto 4, 3) := by decide +kernel
theorem dX9_rests_258 : decode cX9_rests 258 = .ok (.iconst 0, 1) := by decide +kernel
theorem dX9_rests_259 : decode cX9_rests 259 = .ok (.istore 5, 2) := by decide +kernel
theorem dX9_rests_261 : decode cX9_rests 261 = .ok (.aload_n 0, 1) := by decide +kernel
theorem dX9_rests_262 : decode cX9_rests 262 = .ok (.iload 5, 2) := by decide +kernel
theorem dX9_rests_264 : decode cX9_rests 264 = .ok (.ifCond .eq 25, 3) := by decide +kernel
theorem dX9_rests_267 : decode cX9_rests 267 = .ok (.aload_n 0, 1) := by decide +kernel
theorem dX9_rests_268 : decode cX9_rests 268 = .ok (.getfield 223, 3) := by decide +kernel
theorem dX9_rests_271 : decode cX9_rests 271 = .ok (.ifCond .ne 18, 3) := by decide +kernel
theorem dX9_rests_274 : decode cX9_rests 274 = .ok (.bipush 10, 2) := by decide +kernel
theorem dX9_rests_276 : decode cX9_rests 276 = .ok (.iload 4, 2) := by decide +kernel
theorem dX9_rests_278 : decode cX9_rests 278 = .ok (.iconst 2, 1) := by decide +kernel
theorem dX9_rests_279 : decode cX9_rests 279 = .ok (.idiv, 1) := by decide +kernel
theorem dX9_rests_280 : decode cX9_rests 280 = .ok (.imul, 1) := by decide +kernel
theorem dX9_rests_281 : decode cX9_rests 281 = .ok (.iload 4, 2) := by decide +kernel
theorem dX9_rests_283 : decode cX9_rests 283 = .ok (.iconst 2, 1) := by decide +kernel
theorem dX9_rests_284 : decode cX9_rests 284 = .ok (.irem, 1) := by decide +kernel
theorem dX9_rests_285 : decode cX9_rests 285 = .ok (.iadd, 1) := by decide +kernel
theorem dX9_rests_286 : decode cX9_rests 286 = .ok (.goto 7, 3) := by decide +kernel
theorem dX9_rests_289 : decode cX9_rests 289 = .ok (.aload_n 0, 1) := by decide +kernel
theorem dX9_rests_290 : decode cX9_rests 290 = .ok (.getfield 226, 3) := by decide +kernel
theorem dX9_rests_293 : decode cX9_rests 293 = .ok (.putfield 226, 3) := by decide +kernel
theorem dX9_rests_296 : decode cX9_rests 296 = .ok (.aload_n 0, 1) := by decide +kernel
theorem dX9_rests_297 : decode cX9_rests 297 = .ok (.dup, 1) := by decide +kernel
theorem dX9_rests_298 : decode cX9_rests 298 = .ok (.getfield 223, 3) := by decide +kernel
theorem dX9_rests_301 : decode cX9_rests 301 = .ok (.iload 5, 2) := by decide +kernel
theorem dX9_rests_303 : decode cX9_rests 303 = .ok (.ifCond .eq 7, 3) := by decide +kernel
theorem dX9_rests_306 : decode cX9_rests 306 = .ok (.iconst 1, 1) := by decide +kernel
theorem dX9_rests_307 : decode cX9_rests 307 = .ok (.goto 4, 3) := by decide +kernel
theorem dX9_rests_310 : decode cX9_rests 310 = .ok (.iconst 0, 1) := by decide +kernel
theorem dX9_rests_311 : decode cX9_rests 311 = .ok (.iadd, 1) := by decide +kernel
theorem dX9_rests_312 : decode cX9_rests 312 = .ok (.putfield 223, 3) := by decide +kernel
theorem dX9_rests_315 : decode cX9_rests 315 = .ok (.iinc 4 1, 3) := by decide +kernel
theorem dX9_rests_318 : decode cX9_rests 318 = .ok (.goto (-120), 3) := by decide +kernel
theorem dX9_rests_321 : decode cX9_rests 321 = .ok (.iload_n 3, 1) := by decide +kernel
theorem dX9_rests_322 : decode cX9_rests 322 = .ok (.ifCond .ne 10, 3) := by decide +kernel
theorem dX9_rests_325 : decode cX9_rests 325 = .ok (.aload_n 0, 1) := by decide +kernel
theorem dX9_rests_326 : decode cX9_rests 326 = .ok (.getfield 223, 3) := by decide +kernel
theorem dX9_rests_329 : decode cX9_rests 329 = .ok (.goto 7, 3) := by decide +kernel
theorem dX9_rests_332 : decode cX9_rests 332 = .ok (.aload_n 0, 1) := by decide +kernel
theorem dX9_rests_333 : decode cX9_rests 333 = .ok (.getfield 226, 3) := by decide +kernel
theorem dX9_rests_336 : decode cX9_rests 336 = .ok (.ireturn, 1) := by decide +kernel
set_option maxRecDepth 20000 in
theorem ggX9_away_X9_noPlayer : GoodIn wsX9_away wsX9_noPlayer := goodIn_r _ [10, 11, 12, 13, 9, 14, 51, 52, 53, 54, 55, 56, 57, 58, 59, 60, 61, 62, 63, 64, 65, 66, 67, 68, 69, 70, 71, 72, 73, 74, 75, 76, 77, 78, 79, 80, 81, 82, 83, 84] (by decide +kernel) (by decide +kernel)
set_option maxRecDepth 20000 in
theorem gX9_away_X9_noPlayer : GoodIn wsX9_away (wsV RX9 149 RX9 yX9_noPlayer wsX9_noPlayer) := goodIn_app (goodIn_of _ (by decide +kernel)) ggX9_away_X9_noPlayer
set_option maxRecDepth 20000 in
theorem ggX9_away_X9_in : GoodIn wsX9_away wsX9_in := goodIn_r _ [14] (by decide +kernel) (by decide +kernel)
set_option maxRecDepth 20000 in
theorem gX9_away_X9_in : GoodIn wsX9_away (va_wsS RX9 69 yX9_in wsX9_in) := goodIn_app (goodIn_of _ (by decide +kernel)) ggX9_away_X9_in
set_option maxRecDepth 20000 in
theorem ggX9_away_X9_many : GoodIn wsX9_away wsX9_many := goodIn_r _ [17] (by decide +kernel) (by decide +kernel)
set_option maxRecDepth 20000 in
theorem gX9_away_X9_many : GoodIn wsX9_away (va_wsS RX9 135 yX9_many wsX9_many) := goodIn_app (goodIn_of _ (by decide +kernel)) ggX9_away_X9_many
set_option maxRecDepth 20000 in
theorem ggX9_away_X9_loudOf : GoodIn wsX9_away wsX9_loudOf := goodIn_r _ [21, 22, 23, 24, 9, 25, 3, 26, 27, 28, 29, 30, 31, 32, 33, 34, 35, 36, 37, 38, 39, 40, 41, 15, 16, 17, 51, 52, 53, 54, 55, 56, 57, 58, 59, 60, 61, 62, 63, 64, 65, 66, 67, 68, 69, 70, 71, 72, 73, 74, 75, 76, 77, 78, 79, 80, 81, 82, 83, 84] (by decide +kernel) (by decide +kernel)
set_option maxRecDepth 20000 in
theorem gX9_away_X9_loudOf : GoodIn wsX9_away (wsV RX9 153 RX9 yX9_loudOf wsX9_loudOf) := goodIn_app (goodIn_of _ (by decide +kernel)) ggX9_away_X9_loudOf
set_option maxRecDepth 20000 in
theorem ggX9_away_X9_power : GoodIn wsX9_away wsX9_power := goodIn_r _ [44] (by decide +kernel) (by decide +kernel)
set_option maxRecDepth 20000 in
theorem gX9_away_X9_power : GoodIn wsX9_away (va_wsS RX9 231 yX9_power wsX9_power) := goodIn_app (goodIn_of _ (by decide +kernel)) ggX9_away_X9_power
set_option maxRecDepth 20000 in
theorem ggX9_away_X9_fraction : GoodIn wsX9_away wsX9_fraction := goodIn_r _ [47, 48, 49, 9, 50] (by decide +kernel) (by decide +kernel)
set_option maxRecDepth 20000 in
theorem gX9_away_X9_fraction : GoodIn wsX9_away (va_wsS RX9 209 yX9_fraction wsX9_fraction) := goodIn_app (goodIn_of _ (by decide +kernel)) ggX9_away_X9_fraction
theorem dX9_away_0 : decode cX9_away 0 = .ok (.aload_n 0, 1) := by decide +kernel
theorem dX9_away_1 : decode cX9_away 1 = .ok (.iconst 0, 1) := by decide +kernel
theorem dX9_away_2 : decode cX9_away 2 = .ok (.putfield 62, 3) := by decide +kernel
theorem dX9_away_5 : decode cX9_away 5 = .ok (.aload_n 0, 1) := by decide +kernel
theorem dX9_away_6 : decode cX9_away 6 = .ok (.iload_n 1, 1) := by decide +kernel
theorem dX9_away_7 : decode cX9_away 7 = .ok (.invokevirtual 149, 3) := by decide +kernel
theorem dX9_away_10 : decode cX9_away 10 = .ok (.ifCond .eq 5, 3) := by decide +kernel
theorem dX9_away_13 : decode cX9_away 13 = .ok (.iconst (-1), 1) := by decide +kernel
theorem dX9_away_14 : decode cX9_away 14 = .ok (.ireturn, 1) := by decide +kernel
theorem dX9_away_15 : decode cX9_away 15 = .ok (.iload_n 2, 1) := by decide +kernel
theorem dX9_away_16 : decode cX9_away 16 = .ok (.i2l, 1) := by decide +kernel
theorem dX9_away_17 : decode cX9_away 17 = .ok (.lconst 0, 1) := by decide +kernel
theorem dX9_away_18 : decode cX9_away 18 = .ok (.ldc2_w 229, 3) := by decide +kernel
theorem dX9_away_21 : decode cX9_away 21 = .ok (.invokestatic 69, 3) := by decide +kernel
theorem dX9_away_24 : decode cX9_away 24 = .ok (.ifCond .ne 6, 3) := by decide +kernel
theorem dX9_away_27 : decode cX9_away 27 = .ok (.bipush (-2), 2) := by decide +kernel
theorem dX9_away_29 : decode cX9_away 29 = .ok (.ireturn, 1) := by decide +kernel
theorem dX9_away_30 : decode cX9_away 30 = .ok (.iconst 0, 1) := by decide +kernel
theorem dX9_away_31 : decode cX9_away 31 = .ok (.istore 4, 2) := by decide +kernel
theorem dX9_away_33 : decode cX9_away 33 = .ok (.iconst 0, 1) := by decide +kernel
theorem dX9_away_34 : decode cX9_away 34 = .ok (.istore 5, 2) := by decide +kernel
theorem dX9_away_36 : decode cX9_away 36 = .ok (.iload 5, 2) := by decide +kernel
theorem dX9_away_38 : decode cX9_away 38 = .ok (.iconst 1, 1) := by decide +kernel
theorem dX9_away_39 : decode cX9_away 39 = .ok (.aload_n 0, 1) := by decide +kernel
theorem dX9_away_40 : decode cX9_away 40 = .ok (.getfield 73, 3) := by decide +kernel
theorem dX9_away_43 : decode cX9_away 43 = .ok (.ishl, 1) := by decide +kernel
theorem dX9_away_44 : decode cX9_away 44 = .ok (.if_icmp .ge 71, 3) := by decide +kernel
theorem dX9_away_47 : decode cX9_away 47 = .ok (.iload 5, 2) := by decide +kernel
theorem dX9_away_49 : decode cX9_away 49 = .ok (.invokestatic 135, 3) := by decide +kernel
theorem dX9_away_52 : decode cX9_away 52 = .ok (.istore 6, 2) := by decide +kernel
theorem dX9_away_54 : decode cX9_away 54 = .ok (.iload 4, 2) := by decide +kernel
theorem dX9_away_56 : decode cX9_away 56 = .ok (.aload_n 0, 1) := by decide +kernel
theorem dX9_away_57 : decode cX9_away 57 = .ok (.aload_n 0, 1) := by decide +kernel
theorem dX9_away_58 : decode cX9_away 58 = .ok (.getfield 31, 3) := by decide +kernel
theorem dX9_away_61 : decode cX9_away 61 = .ok (.iload_n 1, 1) := by decide +kernel
theorem dX9_away_62 : decode cX9_away 62 = .ok (.bipush 127, 2) := by decide +kernel
theorem dX9_away_64 : decode cX9_away 64 = .ok (.iload 5, 2) := by decide +kernel
theorem dX9_away_66 : decode cX9_away 66 = .ok (.iconst (-1), 1) := by decide +kernel
theorem dX9_away_67 : decode cX9_away 67 = .ok (.ixor, 1) := by decide +kernel
theorem dX9_away_68 : decode cX9_away 68 = .ok (.iand, 1) := by decide +kernel
theorem dX9_away_69 : decode cX9_away 69 = .ok (.invokevirtual 153, 3) := by decide +kernel
theorem dX9_away_72 : decode cX9_away 72 = .ok (.aload_n 0, 1) := by decide +kernel
theorem dX9_away_73 : decode cX9_away 73 = .ok (.getfield 13, 3) := by decide +kernel
theorem dX9_away_76 : decode cX9_away 76 = .ok (.iload_n 1, 1) := by decide +kernel
theorem dX9_away_77 : decode cX9_away 77 = .ok (.iaload, 1) := by decide +kernel
theorem dX9_away_78 : decode cX9_away 78 = .ok (.if_icmp .lt 27, 3) := by decide +kernel
theorem dX9_away_81 : decode cX9_away 81 = .ok (.iload_n 2, 1) := by decide +kernel
theorem dX9_away_82 : decode cX9_away 82 = .ok (.iload 6, 2) := by decide +kernel
theorem dX9_away_84 : decode cX9_away 84 = .ok (.invokestatic 231, 3) := by decide +kernel
theorem dX9_away_87 : decode cX9_away 87 = .ok (.bipush 10, 2) := by decide +kernel
theorem dX9_away_89 : decode cX9_away 89 = .ok (.iload_n 2, 1) := by decide +kernel
theorem dX9_away_90 : decode cX9_away 90 = .ok (.isub, 1) := by decide +kernel
theorem dX9_away_91 : decode cX9_away 91 = .ok (.aload_n 0, 1) := by decide +kernel
theorem dX9_away_92 : decode cX9_away 92 = .ok (.getfield 73, 3) := by decide +kernel
theorem dX9_away_95 : decode cX9_away 95 = .ok (.iload 6, 2) := by decide +kernel
theorem dX9_away_97 : decode cX9_away 97 = .ok (.isub, 1) := by decide +kernel
theorem dX9_away_98 : decode cX9_away 98 = .ok (.invokestatic 231, 3) := by decide +kernel
theorem dX9_away_101 : decode cX9_away 101 = .ok (.imul, 1) := by decide +kernel
theorem dX9_away_102 : decode cX9_away 102 = .ok (.goto 4, 3) := by decide +kernel
theorem dX9_away_105 : decode cX9_away 105 = .ok (.iconst 0, 1) := by decide +kernel
theorem dX9_away_106 : decode cX9_away 106 = .ok (.iadd, 1) := by decide +kernel
theorem dX9_away_107 : decode cX9_away 107 = .ok (.istore 4, 2) := by decide +kernel
theorem dX9_away_109 : decode cX9_away 109 = .ok (.iinc 5 1, 3) := by decide +kernel
theorem dX9_away_112 : decode cX9_away 112 = .ok (.goto (-76), 3) := by decide +kernel
theorem dX9_away_115 : decode cX9_away 115 = .ok (.iload 4, 2) := by decide +kernel
theorem dX9_away_117 : decode cX9_away 117 = .ok (.bipush 10, 2) := by decide +kernel
theorem dX9_away_119 : decode cX9_away 119 = .ok (.aload_n 0, 1) := by decide +kernel
theorem dX9_away_120 : decode cX9_away 120 = .ok (.getfield 73, 3) := by decide +kernel
theorem dX9_away_123 : decode cX9_away 123 = .ok (.invokestatic 231, 3) := by decide +kernel
theorem dX9_away_126 : decode cX9_away 126 = .ok (.iload_n 3, 1) := by decide +kernel
theorem dX9_away_127 : decode cX9_away 127 = .ok (.invokestatic 209, 3) := by decide +kernel
theorem dX9_away_130 : decode cX9_away 130 = .ok (.ireturn, 1) := by decide +kernel
theorem dX9_seed_0 : decode cX9_seed 0 = .ok (.aload_n 0, 1) := by decide +kernel
theorem dX9_seed_1 : decode cX9_seed 1 = .ok (.iconst 0, 1) := by decide +kernel
theorem dX9_seed_2 : decode cX9_seed 2 = .ok (.putfield 62, 3) := by decide +kernel
theorem dX9_seed_5 : decode cX9_seed 5 = .ok (.aload_n 0, 1) := by decide +kernel
theorem dX9_seed_6 : decode cX9_seed 6 = .ok (.getfield 234, 3) := by decide +kernel
theorem dX9_seed_9 : decode cX9_seed 9 = .ok (.lstore_n 3, 1) := by decide +kernel
theorem dX9_seed_10 : decode cX9_seed 10 = .ok (.aload_n 0, 1) := by decide +kernel
theorem dX9_seed_11 : decode cX9_seed 11 = .ok (.lload_n 1, 1) := by decide +kernel
theorem dX9_seed_12 : decode cX9_seed 12 = .ok (.putfield 234, 3) := by decide +kernel
theorem dX9_seed_15 : decode cX9_seed 15 = .ok (.lload_n 3, 1) := by decide +kernel
theorem dX9_seed_16 : decode cX9_seed 16 = .ok (.lreturn, 1) := by decide +kernel
set_option maxRecDepth 20000 in
theorem ggX9_season_X9_goNight : GoodIn wsX9_season wsX9_goNight := goodIn_r _ [6, 7, 8, 70, 71, 72, 73, 74, 75, 76, 77, 78, 79, 80, 81, 82, 83, 84, 85, 86, 87, 88, 89, 90, 91, 92, 93, 94, 95, 96, 97, 98, 99, 100, 101, 102, 103] (by decide +kernel) (by decide +kernel)
set_option maxRecDepth 20000 in
theorem gX9_season_X9_goNight : GoodIn wsX9_season (wsV RX9 173 RX9 yX9_goNight wsX9_goNight) := goodIn_app (goodIn_of _ (by decide +kernel)) ggX9_season_X9_goNight
set_option maxRecDepth 20000 in
theorem ggX9_season_X9_does : GoodIn wsX9_season wsX9_does := goodIn_r _ [12, 1, 2, 3, 4, 5, 6, 7, 8, 13, 14, 15, 16, 17, 18, 19, 20, 21, 22, 23, 24, 25, 26, 27, 28, 29, 30, 31, 32, 33, 34, 35, 36, 37, 38, 39, 40, 41, 42, 43, 44, 45, 46, 47, 48, 49, 50, 51, 52, 53, 54, 55, 56, 57, 58, 59, 60, 61, 62, 63, 64, 65, 66, 67, 68, 69, 70, 71, 72, 73, 74, 75, 76, 77, 78, 79, 80, 81, 82, 83, 84, 85, 86, 87, 88, 89, 90, 91, 92, 93, 94, 95, 96, 97, 98, 99, 100, 101, 102, 103] (by decide +kernel) (by decide +kernel)
set_option maxRecDepth 20000 in
theorem gX9_season_X9_does : GoodIn wsX9_season (wsV RX9 200 RX9 yX9_does wsX9_does) := goodIn_app (goodIn_of _ (by decide +kernel)) ggX9_season_X9_does
set_option maxRecDepth 20000 in
theorem ggX9_season_X9_doesTo : GoodIn wsX9_season wsX9_doesTo := goodIn_r _ [60, 1, 25, 26, 27, 5, 28, 29, 17, 18, 19, 44, 45, 46, 61, 62, 63, 64, 65, 7, 34, 35, 36, 37, 38, 39, 40, 41, 42, 43, 47, 48, 49, 50, 51, 52, 53, 54, 55, 56, 66, 67, 68, 69, 70, 71, 72, 73, 74, 75, 76, 77, 78, 79, 80, 81, 82, 83, 84, 85, 86, 87, 88, 89, 90, 91, 92, 93, 94, 95, 96, 97, 98, 99, 100, 101, 102, 103] (by decide +kernel) (by decide +kernel)
set_option maxRecDepth 20000 in
theorem gX9_season_X9_doesTo : GoodIn wsX9_season (wsV RX9 189 RX9 yX9_doesTo wsX9_doesTo) := goodIn_app (goodIn_of _ (by decide +kernel)) ggX9_season_X9_doesTo
theorem dX9_season_0 : decode cX9_season 0 = .ok (.iload_n 1, 1) := by decide +kernel
theorem dX9_season_1 : decode cX9_season 1 = .ok (.bipush 19, 2) := by decide +kernel
theorem dX9_season_3 : decode cX9_season 3 = .ok (.if_icmp .lt 14, 3) := by decide +kernel
theorem dX9_season_6 : decode cX9_season 6 = .ok (.aload_n 0, 1) := by decide +kernel
theorem dX9_season_7 : decode cX9_season 7 = .ok (.aload_n 0, 1) := by decide +kernel
theorem dX9_season_8 : decode cX9_season 8 = .ok (.getfield 34, 3) := by decide +kernel
theorem dX9_season_11 : decode cX9_season 11 = .ok (.invokevirtual 173, 3) := by decide +kernel
theorem dX9_season_14 : decode cX9_season 14 = .ok (.goto 41, 3) := by decide +kernel
theorem dX9_season_17 : decode cX9_season 17 = .ok (.iload_n 1, 1) := by decide +kernel
theorem dX9_season_18 : decode cX9_season 18 = .ok (.bipush 9, 2) := by decide +kernel
theorem dX9_season_20 : decode cX9_season 20 = .ok (.if_icmp .lt 16, 3) := by decide +kernel
theorem dX9_season_23 : decode cX9_season 23 = .ok (.aload_n 0, 1) := by decide +kernel
theorem dX9_season_24 : decode cX9_season 24 = .ok (.sipush 291, 3) := by decide +kernel
theorem dX9_season_27 : decode cX9_season 27 = .ok (.iload_n 1, 1) := by decide +kernel
theorem dX9_season_28 : decode cX9_season 28 = .ok (.iadd, 1) := by decide +kernel
theorem dX9_season_29 : decode cX9_season 29 = .ok (.invokevirtual 200, 3) := by decide +kernel
theorem dX9_season_32 : decode cX9_season 32 = .ok (.pop, 1) := by decide +kernel
theorem dX9_season_33 : decode cX9_season 33 = .ok (.goto 22, 3) := by decide +kernel
theorem dX9_season_36 : decode cX9_season 36 = .ok (.aload_n 0, 1) := by decide +kernel
theorem dX9_season_37 : decode cX9_season 37 = .ok (.iload_n 1, 1) := by decide +kernel
theorem dX9_season_38 : decode cX9_season 38 = .ok (.bipush 6, 2) := by decide +kernel
theorem dX9_season_40 : decode cX9_season 40 = .ok (.if_icmp .ge 7, 3) := by decide +kernel
theorem dX9_season_43 : decode cX9_season 43 = .ok (.iconst 1, 1) := by decide +kernel
theorem dX9_season_44 : decode cX9_season 44 = .ok (.goto 4, 3) := by decide +kernel
theorem dX9_season_47 : decode cX9_season 47 = .ok (.iconst 2, 1) := by decide +kernel
theorem dX9_season_48 : decode cX9_season 48 = .ok (.iload_n 1, 1) := by decide +kernel
theorem dX9_season_49 : decode cX9_season 49 = .ok (.iconst 3, 1) := by decide +kernel
theorem dX9_season_50 : decode cX9_season 50 = .ok (.irem, 1) := by decide +kernel
theorem dX9_season_51 : decode cX9_season 51 = .ok (.invokevirtual 189, 3) := by decide +kernel
theorem dX9_season_54 : decode cX9_season 54 = .ok (.pop, 1) := by decide +kernel
theorem dX9_season_55 : decode cX9_season 55 = .ok (.return_, 1) := by decide +kernel
set_option maxRecDepth 20000 in
theorem ggX9_seasons_X9_in : GoodIn wsX9_seasons wsX9_in := goodIn_r _ [11] (by decide +kernel) (by decide +kernel)
set_option maxRecDepth 20000 in
theorem gX9_seasons_X9_in : GoodIn wsX9_seasons (va_wsS RX9 69 yX9_in wsX9_in) := goodIn_app (goodIn_of _ (by decide +kernel)) ggX9_seasons_X9_in
set_option maxRecDepth 20000 in
theorem ggX9_seasons_X9_begin : GoodIn wsX9_seasons wsX9_begin := goodIn_r _ [15, 7, 16, 85, 86, 87, 88, 89, 90, 91, 92, 93, 94, 95, 96, 97, 98, 99, 100, 101, 102, 103, 104, 105, 106, 107, 108, 109, 110, 111, 112, 113, 114, 115, 116, 117, 118] (by decide +kernel) (by decide +kernel)
set_option maxRecDepth 20000 in
theorem gX9_seasons_X9_begin : GoodIn wsX9_seasons (wsV RX9 177 RX9 yX9_begin wsX9_begin) := goodIn_app (goodIn_of _ (by decide +kernel)) ggX9_seasons_X9_begin
set_option maxRecDepth 20000 in
theorem ggX9_seasons_X9_season : GoodIn wsX9_seasons wsX9_season := goodIn_r _ [20, 7, 21, 22, 23, 10, 24, 25, 26, 27, 28, 29, 30, 31, 32, 33, 34, 8, 9, 11, 35, 36, 37, 38, 39, 40, 41, 42, 43, 44, 45, 46, 47, 48, 49, 50, 51, 52, 53, 54, 55, 56, 57, 58, 59, 60, 61, 62, 63, 64, 65, 66, 67, 68, 69, 70, 71, 72, 73, 74, 75, 76, 77, 78, 79, 80, 81, 82, 83, 84, 85, 86, 87, 88, 89, 90, 91, 92, 93, 94, 95, 96, 97, 98, 99, 100, 101, 102, 103, 104, 105, 106, 107, 108, 109, 110, 111, 112, 113, 114, 115, 116, 117, 118] (by decide +kernel) (by decide +kernel)
set_option maxRecDepth 20000 in
theorem gX9_seasons_X9_season : GoodIn wsX9_seasons (wsV RX9 246 RX9 yX9_season wsX9_season) := goodIn_app (goodIn_of _ (by decide +kernel)) ggX9_seasons_X9_season
theorem dX9_seasons_0 : decode cX9_seasons 0 = .ok (.aload_n 0, 1) := by decide +kernel
theorem dX9_seasons_1 : decode cX9_seasons 1 = .ok (.iconst 0, 1) := by decide +kernel
theorem dX9_seasons_2 : decode cX9_seasons 2 = .ok (.putfield 62, 3) := by decide +kernel
theorem dX9_seasons_5 : decode cX9_seasons 5 = .ok (.iload_n 1, 1) := by decide +kernel
theorem dX9_seasons_6 : decode cX9_seasons 6 = .ok (.i2l, 1) := by decide +kernel
theorem dX9_seasons_7 : decode cX9_seasons 7 = .ok (.lconst 1, 1) := by decide +kernel
theorem dX9_seasons_8 : decode cX9_seasons 8 = .ok (.ldc2_w 238, 3) := by decide +kernel
theorem dX9_seasons_11 : decode cX9_seasons 11 = .ok (.invokestatic 69, 3) := by decide +kernel
theorem dX9_seasons_14 : decode cX9_seasons 14 = .ok (.ifCond .ne 6, 3) := by decide +kernel
theorem dX9_seasons_17 : decode cX9_seasons 17 = .ok (.bipush (-2), 2) := by decide +kernel
theorem dX9_seasons_19 : decode cX9_seasons 19 = .ok (.ireturn, 1) := by decide +kernel
theorem dX9_seasons_20 : decode cX9_seasons 20 = .ok (.aload_n 0, 1) := by decide +kernel
theorem dX9_seasons_21 : decode cX9_seasons 21 = .ok (.invokevirtual 177, 3) := by decide +kernel
theorem dX9_seasons_24 : decode cX9_seasons 24 = .ok (.iconst 0, 1) := by decide +kernel
theorem dX9_seasons_25 : decode cX9_seasons 25 = .ok (.istore_n 2, 1) := by decide +kernel
theorem dX9_seasons_26 : decode cX9_seasons 26 = .ok (.iconst 0, 1) := by decide +kernel
theorem dX9_seasons_27 : decode cX9_seasons 27 = .ok (.istore_n 3, 1) := by decide +kernel
theorem dX9_seasons_28 : decode cX9_seasons 28 = .ok (.iload_n 3, 1) := by decide +kernel
theorem dX9_seasons_29 : decode cX9_seasons 29 = .ok (.iload_n 1, 1) := by decide +kernel
theorem dX9_seasons_30 : decode cX9_seasons 30 = .ok (.if_icmp .ge 67, 3) := by decide +kernel
theorem dX9_seasons_33 : decode cX9_seasons 33 = .ok (.aload_n 0, 1) := by decide +kernel
theorem dX9_seasons_34 : decode cX9_seasons 34 = .ok (.aload_n 0, 1) := by decide +kernel
theorem dX9_seasons_35 : decode cX9_seasons 35 = .ok (.getfield 234, 3) := by decide +kernel
theorem dX9_seasons_38 : decode cX9_seasons 38 = .ok (.ldc2_w 240, 3) := by decide +kernel
theorem dX9_seasons_41 : decode cX9_seasons 41 = .ok (.lmul, 1) := by decide +kernel
theorem dX9_seasons_42 : decode cX9_seasons 42 = .ok (.ldc2_w 242, 3) := by decide +kernel
theorem dX9_seasons_45 : decode cX9_seasons 45 = .ok (.ladd, 1) := by decide +kernel
theorem dX9_seasons_46 : decode cX9_seasons 46 = .ok (.putfield 234, 3) := by decide +kernel
theorem dX9_seasons_49 : decode cX9_seasons 49 = .ok (.aload_n 0, 1) := by decide +kernel
theorem dX9_seasons_50 : decode cX9_seasons 50 = .ok (.aload_n 0, 1) := by decide +kernel
theorem dX9_seasons_51 : decode cX9_seasons 51 = .ok (.getfield 234, 3) := by decide +kernel
theorem dX9_seasons_54 : decode cX9_seasons 54 = .ok (.bipush 33, 2) := by decide +kernel
theorem dX9_seasons_56 : decode cX9_seasons 56 = .ok (.lushr, 1) := by decide +kernel
theorem dX9_seasons_57 : decode cX9_seasons 57 = .ok (.ldc2_w 244, 3) := by decide +kernel
theorem dX9_seasons_60 : decode cX9_seasons 60 = .ok (.lrem, 1) := by decide +kernel
theorem dX9_seasons_61 : decode cX9_seasons 61 = .ok (.l2i, 1) := by decide +kernel
theorem dX9_seasons_62 : decode cX9_seasons 62 = .ok (.invokevirtual 246, 3) := by decide +kernel
theorem dX9_seasons_65 : decode cX9_seasons 65 = .ok (.iload_n 2, 1) := by decide +kernel
theorem dX9_seasons_66 : decode cX9_seasons 66 = .ok (.aload_n 0, 1) := by decide +kernel
theorem dX9_seasons_67 : decode cX9_seasons 67 = .ok (.getfield 34, 3) := by decide +kernel
theorem dX9_seasons_70 : decode cX9_seasons 70 = .ok (.bipush 14, 2) := by decide +kernel
theorem dX9_seasons_72 : decode cX9_seasons 72 = .ok (.iaload, 1) := by decide +kernel
theorem dX9_seasons_73 : decode cX9_seasons 73 = .ok (.aload_n 0, 1) := by decide +kernel
theorem dX9_seasons_74 : decode cX9_seasons 74 = .ok (.getfield 34, 3) := by decide +kernel
theorem dX9_seasons_77 : decode cX9_seasons 77 = .ok (.bipush 15, 2) := by decide +kernel
theorem dX9_seasons_79 : decode cX9_seasons 79 = .ok (.iaload, 1) := by decide +kernel
theorem dX9_seasons_80 : decode cX9_seasons 80 = .ok (.iadd, 1) := by decide +kernel
theorem dX9_seasons_81 : decode cX9_seasons 81 = .ok (.aload_n 0, 1) := by decide +kernel
theorem dX9_seasons_82 : decode cX9_seasons 82 = .ok (.getfield 34, 3) := by decide +kernel
theorem dX9_seasons_85 : decode cX9_seasons 85 = .ok (.bipush 16, 2) := by decide +kernel
theorem dX9_seasons_87 : decode cX9_seasons 87 = .ok (.iaload, 1) := by decide +kernel
theorem dX9_seasons_88 : decode cX9_seasons 88 = .ok (.iadd, 1) := by decide +kernel
theorem dX9_seasons_89 : decode cX9_seasons 89 = .ok (.iadd, 1) := by decide +kernel
theorem dX9_seasons_90 : decode cX9_seasons 90 = .ok (.istore_n 2, 1) := by decide +kernel
theorem dX9_seasons_91 : decode cX9_seasons 91 = .ok (.iinc 3 1, 3) := by decide +kernel
theorem dX9_seasons_94 : decode cX9_seasons 94 = .ok (.goto (-66), 3) := by decide +kernel
theorem dX9_seasons_97 : decode cX9_seasons 97 = .ok (.iload_n 2, 1) := by decide +kernel
theorem dX9_seasons_98 : decode cX9_seasons 98 = .ok (.ireturn, 1) := by decide +kernel
set_option maxRecDepth 20000 in
theorem ggX9_keep_X9_in : GoodIn wsX9_keep wsX9_in := goodIn_r _ [8] (by decide +kernel) (by decide +kernel)
set_option maxRecDepth 20000 in
theorem gX9_keep_X9_in : GoodIn wsX9_keep (va_wsS RX9 69 yX9_in wsX9_in) := goodIn_app (goodIn_of _ (by decide +kernel)) ggX9_keep_X9_in
theorem dX9_keep_0 : decode cX9_keep 0 = .ok (.aload_n 0, 1) := by decide +kernel
theorem dX9_keep_1 : decode cX9_keep 1 = .ok (.iconst 0, 1) := by decide +kernel
theorem dX9_keep_2 : decode cX9_keep 2 = .ok (.putfield 62, 3) := by decide +kernel
theorem dX9_keep_5 : decode cX9_keep 5 = .ok (.iload_n 1, 1) := by decide +kernel
theorem dX9_keep_6 : decode cX9_keep 6 = .ok (.i2l, 1) := by decide +kernel
theorem dX9_keep_7 : decode cX9_keep 7 = .ok (.lconst 0, 1) := by decide +kernel
theorem dX9_keep_8 : decode cX9_keep 8 = .ok (.lconst 1, 1) := by decide +kernel
theorem dX9_keep_9 : decode cX9_keep 9 = .ok (.invokestatic 69, 3) := by decide +kernel
theorem dX9_keep_12 : decode cX9_keep 12 = .ok (.ifCond .ne 5, 3) := by decide +kernel
theorem dX9_keep_15 : decode cX9_keep 15 = .ok (.iconst (-1), 1) := by decide +kernel
theorem dX9_keep_16 : decode cX9_keep 16 = .ok (.ireturn, 1) := by decide +kernel
theorem dX9_keep_17 : decode cX9_keep 17 = .ok (.aload_n 0, 1) := by decide +kernel
theorem dX9_keep_18 : decode cX9_keep 18 = .ok (.getfield 43, 3) := by decide +kernel
theorem dX9_keep_21 : decode cX9_keep 21 = .ok (.iload_n 1, 1) := by decide +kernel
theorem dX9_keep_22 : decode cX9_keep 22 = .ok (.iconst 1, 1) := by decide +kernel
theorem dX9_keep_23 : decode cX9_keep 23 = .ok (.bastore, 1) := by decide +kernel
theorem dX9_keep_24 : decode cX9_keep 24 = .ok (.iconst 0, 1) := by decide +kernel
theorem dX9_keep_25 : decode cX9_keep 25 = .ok (.istore_n 2, 1) := by decide +kernel
theorem dX9_keep_26 : decode cX9_keep 26 = .ok (.iload_n 2, 1) := by decide +kernel
theorem dX9_keep_27 : decode cX9_keep 27 = .ok (.bipush 19, 2) := by decide +kernel
theorem dX9_keep_29 : decode cX9_keep 29 = .ok (.if_icmp .ge 26, 3) := by decide +kernel
theorem dX9_keep_32 : decode cX9_keep 32 = .ok (.aload_n 0, 1) := by decide +kernel
theorem dX9_keep_33 : decode cX9_keep 33 = .ok (.getfield 40, 3) := by decide +kernel
theorem dX9_keep_36 : decode cX9_keep 36 = .ok (.bipush 19, 2) := by decide +kernel
theorem dX9_keep_38 : decode cX9_keep 38 = .ok (.iload_n 1, 1) := by decide +kernel
theorem dX9_keep_39 : decode cX9_keep 39 = .ok (.imul, 1) := by decide +kernel
theorem dX9_keep_40 : decode cX9_keep 40 = .ok (.iload_n 2, 1) := by decide +kernel
theorem dX9_keep_41 : decode cX9_keep 41 = .ok (.iadd, 1) := by decide +kernel
theorem dX9_keep_42 : decode cX9_keep 42 = .ok (.aload_n 0, 1) := by decide +kernel
theorem dX9_keep_43 : decode cX9_keep 43 = .ok (.getfield 31, 3) := by decide +kernel
theorem dX9_keep_46 : decode cX9_keep 46 = .ok (.iload_n 2, 1) := by decide +kernel
theorem dX9_keep_47 : decode cX9_keep 47 = .ok (.iaload, 1) := by decide +kernel
theorem dX9_keep_48 : decode cX9_keep 48 = .ok (.iastore, 1) := by decide +kernel
theorem dX9_keep_49 : decode cX9_keep 49 = .ok (.iinc 2 1, 3) := by decide +kernel
theorem dX9_keep_52 : decode cX9_keep 52 = .ok (.goto (-26), 3) := by decide +kernel
theorem dX9_keep_55 : decode cX9_keep 55 = .ok (.aload_n 0, 1) := by decide +kernel
theorem dX9_keep_56 : decode cX9_keep 56 = .ok (.getfield 31, 3) := by decide +kernel
theorem dX9_keep_59 : decode cX9_keep 59 = .ok (.bipush 18, 2) := by decide +kernel
theorem dX9_keep_61 : decode cX9_keep 61 = .ok (.iaload, 1) := by decide +kernel
theorem dX9_keep_62 : decode cX9_keep 62 = .ok (.ireturn, 1) := by decide +kernel
set_option maxRecDepth 20000 in
theorem ggX9_again_X9_in : GoodIn wsX9_again wsX9_in := goodIn_r _ [9] (by decide +kernel) (by decide +kernel)
set_option maxRecDepth 20000 in
theorem gX9_again_X9_in : GoodIn wsX9_again (va_wsS RX9 69 yX9_in wsX9_in) := goodIn_app (goodIn_of _ (by decide +kernel)) ggX9_again_X9_in
theorem dX9_again_0 : decode cX9_again 0 = .ok (.aload_n 0, 1) := by decide +kernel
theorem dX9_again_1 : decode cX9_again 1 = .ok (.iconst 0, 1) := by decide +kernel
theorem dX9_again_2 : decode cX9_again 2 = .ok (.putfield 62, 3) := by decide +kernel
theorem dX9_again_5 : decode cX9_again 5 = .ok (.iload_n 1, 1) := by decide +kernel
theorem dX9_again_6 : decode cX9_again 6 = .ok (.i2l, 1) := by decide +kernel
theorem dX9_again_7 : decode cX9_again 7 = .ok (.lconst 0, 1) := by decide +kernel
theorem dX9_again_8 : decode cX9_again 8 = .ok (.lconst 1, 1) := by decide +kernel
theorem dX9_again_9 : decode cX9_again 9 = .ok (.invokestatic 69, 3) := by decide +kernel
theorem dX9_again_12 : decode cX9_again 12 = .ok (.ifCond .ne 5, 3) := by decide +kernel
theorem dX9_again_15 : decode cX9_again 15 = .ok (.iconst (-1), 1) := by decide +kernel
theorem dX9_again_16 : decode cX9_again 16 = .ok (.ireturn, 1) := by decide +kernel
theorem dX9_again_17 : decode cX9_again 17 = .ok (.aload_n 0, 1) := by decide +kernel
theorem dX9_again_18 : decode cX9_again 18 = .ok (.getfield 43, 3) := by decide +kernel
theorem dX9_again_21 : decode cX9_again 21 = .ok (.iload_n 1, 1) := by decide +kernel
theorem dX9_again_22 : decode cX9_again 22 = .ok (.baload, 1) := by decide +kernel
theorem dX9_again_23 : decode cX9_again 23 = .ok (.ifCond .ne 6, 3) := by decide +kernel
theorem dX9_again_26 : decode cX9_again 26 = .ok (.bipush (-3), 2) := by decide +kernel
theorem dX9_again_28 : decode cX9_again 28 = .ok (.ireturn, 1) := by decide +kernel
theorem dX9_again_29 : decode cX9_again 29 = .ok (.iconst 0, 1) := by decide +kernel
theorem dX9_again_30 : decode cX9_again 30 = .ok (.istore_n 2, 1) := by decide +kernel
theorem dX9_again_31 : decode cX9_again 31 = .ok (.iload_n 2, 1) := by decide +kernel
theorem dX9_again_32 : decode cX9_again 32 = .ok (.bipush 19, 2) := by decide +kernel
theorem dX9_again_34 : decode cX9_again 34 = .ok (.if_icmp .ge 26, 3) := by decide +kernel
theorem dX9_again_37 : decode cX9_again 37 = .ok (.aload_n 0, 1) := by decide +kernel
theorem dX9_again_38 : decode cX9_again 38 = .ok (.getfield 31, 3) := by decide +kernel
theorem dX9_again_41 : decode cX9_again 41 = .ok (.iload_n 2, 1) := by decide +kernel
theorem dX9_again_42 : decode cX9_again 42 = .ok (.aload_n 0, 1) := by decide +kernel
theorem dX9_again_43 : decode cX9_again 43 = .ok (.getfield 40, 3) := by decide +kernel
theorem dX9_again_46 : decode cX9_again 46 = .ok (.bipush 19, 2) := by decide +kernel
theorem dX9_again_48 : decode cX9_again 48 = .ok (.iload_n 1, 1) := by decide +kernel
theorem dX9_again_49 : decode cX9_again 49 = .ok (.imul, 1) := by decide +kernel
theorem dX9_again_50 : decode cX9_again 50 = .ok (.iload_n 2, 1) := by decide +kernel
theorem dX9_again_51 : decode cX9_again 51 = .ok (.iadd, 1) := by decide +kernel
theorem dX9_again_52 : decode cX9_again 52 = .ok (.iaload, 1) := by decide +kernel
theorem dX9_again_53 : decode cX9_again 53 = .ok (.iastore, 1) := by decide +kernel
theorem dX9_again_54 : decode cX9_again 54 = .ok (.iinc 2 1, 3) := by decide +kernel
theorem dX9_again_57 : decode cX9_again 57 = .ok (.goto (-26), 3) := by decide +kernel
theorem dX9_again_60 : decode cX9_again 60 = .ok (.aload_n 0, 1) := by decide +kernel
theorem dX9_again_61 : decode cX9_again 61 = .ok (.iconst 0, 1) := by decide +kernel
theorem dX9_again_62 : decode cX9_again 62 = .ok (.putfield 117, 3) := by decide +kernel
theorem dX9_again_65 : decode cX9_again 65 = .ok (.aload_n 0, 1) := by decide +kernel
theorem dX9_again_66 : decode cX9_again 66 = .ok (.getfield 31, 3) := by decide +kernel
theorem dX9_again_69 : decode cX9_again 69 = .ok (.bipush 18, 2) := by decide +kernel
theorem dX9_again_71 : decode cX9_again 71 = .ok (.iaload, 1) := by decide +kernel
theorem dX9_again_72 : decode cX9_again 72 = .ok (.ireturn, 1) := by decide +kernel
