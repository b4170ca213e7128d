theorem dX9_init_0 : decode cX9_init 0 = .ok (.aload_n 0, 1) := by decide +kernel
theorem dX9_init_1 : decode cX9_init 1 = .ok (.invokespecial 1, 3) := by decide +kernel
theorem dX9_init_4 : decode cX9_init 4 = .ok (.aload_n 0, 1) := by decide +kernel
theorem dX9_init_5 : decode cX9_init 5 = .ok (.bipush 48, 2) := by decide +kernel
theorem dX9_init_7 : decode cX9_init 7 = .ok (.newarray .int, 2) := by decide +kernel
theorem dX9_init_9 : decode cX9_init 9 = .ok (.putfield 7, 3) := by decide +kernel
theorem dX9_init_12 : decode cX9_init 12 = .ok (.aload_n 0, 1) := by decide +kernel
theorem dX9_init_13 : decode cX9_init 13 = .ok (.iconst 3, 1) := by decide +kernel
theorem dX9_init_14 : decode cX9_init 14 = .ok (.newarray .int, 2) := by decide +kernel
theorem dX9_init_16 : decode cX9_init 16 = .ok (.putfield 13, 3) := by decide +kernel
theorem dX9_init_19 : decode cX9_init 19 = .ok (.aload_n 0, 1) := by decide +kernel
theorem dX9_init_20 : decode cX9_init 20 = .ok (.bipush 7, 2) := by decide +kernel
theorem dX9_init_22 : decode cX9_init 22 = .ok (.newarray .int, 2) := by decide +kernel
theorem dX9_init_24 : decode cX9_init 24 = .ok (.putfield 16, 3) := by decide +kernel
theorem dX9_init_27 : decode cX9_init 27 = .ok (.aload_n 0, 1) := by decide +kernel
theorem dX9_init_28 : decode cX9_init 28 = .ok (.bipush 7, 2) := by decide +kernel
theorem dX9_init_30 : decode cX9_init 30 = .ok (.newarray .int, 2) := by decide +kernel
theorem dX9_init_32 : decode cX9_init 32 = .ok (.putfield 19, 3) := by decide +kernel
theorem dX9_init_35 : decode cX9_init 35 = .ok (.aload_n 0, 1) := by decide +kernel
theorem dX9_init_36 : decode cX9_init 36 = .ok (.bipush 7, 2) := by decide +kernel
theorem dX9_init_38 : decode cX9_init 38 = .ok (.newarray .int, 2) := by decide +kernel
theorem dX9_init_40 : decode cX9_init 40 = .ok (.putfield 22, 3) := by decide +kernel
theorem dX9_init_43 : decode cX9_init 43 = .ok (.aload_n 0, 1) := by decide +kernel
theorem dX9_init_44 : decode cX9_init 44 = .ok (.iconst 3, 1) := by decide +kernel
theorem dX9_init_45 : decode cX9_init 45 = .ok (.newarray .int, 2) := by decide +kernel
theorem dX9_init_47 : decode cX9_init 47 = .ok (.putfield 25, 3) := by decide +kernel
theorem dX9_init_50 : decode cX9_init 50 = .ok (.aload_n 0, 1) := by decide +kernel
theorem dX9_init_51 : decode cX9_init 51 = .ok (.bipush 28, 2) := by decide +kernel
theorem dX9_init_53 : decode cX9_init 53 = .ok (.newarray .int, 2) := by decide +kernel
theorem dX9_init_55 : decode cX9_init 55 = .ok (.putfield 28, 3) := by decide +kernel
theorem dX9_init_58 : decode cX9_init 58 = .ok (.aload_n 0, 1) := by decide +kernel
theorem dX9_init_59 : decode cX9_init 59 = .ok (.bipush 19, 2) := by decide +kernel
theorem dX9_init_61 : decode cX9_init 61 = .ok (.newarray .int, 2) := by decide +kernel
theorem dX9_init_63 : decode cX9_init 63 = .ok (.putfield 31, 3) := by decide +kernel
theorem dX9_init_66 : decode cX9_init 66 = .ok (.aload_n 0, 1) := by decide +kernel
theorem dX9_init_67 : decode cX9_init 67 = .ok (.bipush 19, 2) := by decide +kernel
theorem dX9_init_69 : decode cX9_init 69 = .ok (.newarray .int, 2) := by decide +kernel
theorem dX9_init_71 : decode cX9_init 71 = .ok (.putfield 34, 3) := by decide +kernel
theorem dX9_init_74 : decode cX9_init 74 = .ok (.aload_n 0, 1) := by decide +kernel
theorem dX9_init_75 : decode cX9_init 75 = .ok (.sipush 266, 3) := by decide +kernel
theorem dX9_init_78 : decode cX9_init 78 = .ok (.newarray .int, 2) := by decide +kernel
theorem dX9_init_80 : decode cX9_init 80 = .ok (.putfield 37, 3) := by decide +kernel
theorem dX9_init_83 : decode cX9_init 83 = .ok (.aload_n 0, 1) := by decide +kernel
theorem dX9_init_84 : decode cX9_init 84 = .ok (.bipush 38, 2) := by decide +kernel
theorem dX9_init_86 : decode cX9_init 86 = .ok (.newarray .int, 2) := by decide +kernel
theorem dX9_init_88 : decode cX9_init 88 = .ok (.putfield 40, 3) := by decide +kernel
theorem dX9_init_91 : decode cX9_init 91 = .ok (.aload_n 0, 1) := by decide +kernel
theorem dX9_init_92 : decode cX9_init 92 = .ok (.iconst 2, 1) := by decide +kernel
theorem dX9_init_93 : decode cX9_init 93 = .ok (.newarray .boolean, 2) := by decide +kernel
theorem dX9_init_95 : decode cX9_init 95 = .ok (.putfield 43, 3) := by decide +kernel
theorem dX9_init_98 : decode cX9_init 98 = .ok (.aload_n 0, 1) := by decide +kernel
theorem dX9_init_99 : decode cX9_init 99 = .ok (.bipush 6, 2) := by decide +kernel
theorem dX9_init_101 : decode cX9_init 101 = .ok (.newarray .int, 2) := by decide +kernel
theorem dX9_init_103 : decode cX9_init 103 = .ok (.putfield 47, 3) := by decide +kernel
theorem dX9_init_106 : decode cX9_init 106 = .ok (.aload_n 0, 1) := by decide +kernel
theorem dX9_init_107 : decode cX9_init 107 = .ok (.bipush 6, 2) := by decide +kernel
theorem dX9_init_109 : decode cX9_init 109 = .ok (.newarray .int, 2) := by decide +kernel
theorem dX9_init_111 : decode cX9_init 111 = .ok (.putfield 50, 3) := by decide +kernel
theorem dX9_init_114 : decode cX9_init 114 = .ok (.aload_n 0, 1) := by decide +kernel
theorem dX9_init_115 : decode cX9_init 115 = .ok (.bipush 6, 2) := by decide +kernel
theorem dX9_init_117 : decode cX9_init 117 = .ok (.newarray .int, 2) := by decide +kernel
theorem dX9_init_119 : decode cX9_init 119 = .ok (.putfield 53, 3) := by decide +kernel
theorem dX9_init_122 : decode cX9_init 122 = .ok (.aload_n 0, 1) := by decide +kernel
theorem dX9_init_123 : decode cX9_init 123 = .ok (.bipush 8, 2) := by decide +kernel
theorem dX9_init_125 : decode cX9_init 125 = .ok (.newarray .int, 2) := by decide +kernel
theorem dX9_init_127 : decode cX9_init 127 = .ok (.putfield 56, 3) := by decide +kernel
theorem dX9_init_130 : decode cX9_init 130 = .ok (.aload_n 0, 1) := by decide +kernel
theorem dX9_init_131 : decode cX9_init 131 = .ok (.sipush 128, 3) := by decide +kernel
theorem dX9_init_134 : decode cX9_init 134 = .ok (.newarray .int, 2) := by decide +kernel
theorem dX9_init_136 : decode cX9_init 136 = .ok (.putfield 59, 3) := by decide +kernel
theorem dX9_init_139 : decode cX9_init 139 = .ok (.return_, 1) := by decide +kernel
theorem dX9_in_0 : decode cX9_in 0 = .ok (.lload_n 0, 1) := by decide +kernel
theorem dX9_in_1 : decode cX9_in 1 = .ok (.lload_n 2, 1) := by decide +kernel
theorem dX9_in_2 : decode cX9_in 2 = .ok (.lcmp, 1) := by decide +kernel
theorem dX9_in_3 : decode cX9_in 3 = .ok (.ifCond .lt 14, 3) := by decide +kernel
theorem dX9_in_6 : decode cX9_in 6 = .ok (.lload_n 0, 1) := by decide +kernel
theorem dX9_in_7 : decode cX9_in 7 = .ok (.lload 4, 2) := by decide +kernel
theorem dX9_in_9 : decode cX9_in 9 = .ok (.lcmp, 1) := by decide +kernel
theorem dX9_in_10 : decode cX9_in 10 = .ok (.ifCond .gt 7, 3) := by decide +kernel
theorem dX9_in_13 : decode cX9_in 13 = .ok (.iconst 1, 1) := by decide +kernel
theorem dX9_in_14 : decode cX9_in 14 = .ok (.goto 4, 3) := by decide +kernel
theorem dX9_in_17 : decode cX9_in 17 = .ok (.iconst 0, 1) := by decide +kernel
theorem dX9_in_18 : decode cX9_in 18 = .ok (.ireturn, 1) := by decide +kernel
theorem dX9_has_0 : decode cX9_has 0 = .ok (.iload_n 0, 1) := by decide +kernel
theorem dX9_has_1 : decode cX9_has 1 = .ok (.iload_n 1, 1) := by decide +kernel
theorem dX9_has_2 : decode cX9_has 2 = .ok (.ishr, 1) := by decide +kernel
theorem dX9_has_3 : decode cX9_has 3 = .ok (.iconst 1, 1) := by decide +kernel
theorem dX9_has_4 : decode cX9_has 4 = .ok (.iand, 1) := by decide +kernel
theorem dX9_has_5 : decode cX9_has 5 = .ok (.iconst 1, 1) := by decide +kernel
theorem dX9_has_6 : decode cX9_has 6 = .ok (.if_icmp .ne 7, 3) := by decide +kernel
theorem dX9_has_9 : decode cX9_has 9 = .ok (.iconst 1, 1) := by decide +kernel
theorem dX9_has_10 : decode cX9_has 10 = .ok (.goto 4, 3) := by decide +kernel
theorem dX9_has_13 : decode cX9_has 13 = .ok (.iconst 0, 1) := by decide +kernel
theorem dX9_has_14 : decode cX9_has 14 = .ok (.ireturn, 1) := by decide +kernel
theorem dX9_many_0 : decode cX9_many 0 = .ok (.iconst 0, 1) := by decide +kernel
theorem dX9_many_1 : decode cX9_many 1 = .ok (.istore_n 1, 1) := by decide +kernel
theorem dX9_many_2 : decode cX9_many 2 = .ok (.iconst 0, 1) := by decide +kernel
theorem dX9_many_3 : decode cX9_many 3 = .ok (.istore_n 2, 1) := by decide +kernel
theorem dX9_many_4 : decode cX9_many 4 = .ok (.iload_n 2, 1) := by decide +kernel
theorem dX9_many_5 : decode cX9_many 5 = .ok (.bipush 7, 2) := by decide +kernel
theorem dX9_many_7 : decode cX9_many 7 = .ok (.if_icmp .ge 17, 3) := by decide +kernel
theorem dX9_many_10 : decode cX9_many 10 = .ok (.iload_n 1, 1) := by decide +kernel
theorem dX9_many_11 : decode cX9_many 11 = .ok (.iload_n 0, 1) := by decide +kernel
theorem dX9_many_12 : decode cX9_many 12 = .ok (.iload_n 2, 1) := by decide +kernel
theorem dX9_many_13 : decode cX9_many 13 = .ok (.ishr, 1) := by decide +kernel
theorem dX9_many_14 : decode cX9_many 14 = .ok (.iconst 1, 1) := by decide +kernel
theorem dX9_many_15 : decode cX9_many 15 = .ok (.iand, 1) := by decide +kernel
theorem dX9_many_16 : decode cX9_many 16 = .ok (.iadd, 1) := by decide +kernel
theorem dX9_many_17 : decode cX9_many 17 = .ok (.istore_n 1, 1) := by decide +kernel
theorem dX9_many_18 : decode cX9_many 18 = .ok (.iinc 2 1, 3) := by decide +kernel
theorem dX9_many_21 : decode cX9_many 21 = .ok (.goto (-17), 3) := by decide +kernel
theorem dX9_many_24 : decode cX9_many 24 = .ok (.iload_n 1, 1) := by decide +kernel
theorem dX9_many_25 : decode cX9_many 25 = .ok (.ireturn, 1) := by decide +kernel
theorem dX9_power_0 : decode cX9_power 0 = .ok (.iconst 1, 1) := by decide +kernel
theorem dX9_power_1 : decode cX9_power 1 = .ok (.istore_n 2, 1) := by decide +kernel
theorem dX9_power_2 : decode cX9_power 2 = .ok (.iconst 0, 1) := by decide +kernel
theorem dX9_power_3 : decode cX9_power 3 = .ok (.istore_n 3, 1) := by decide +kernel
theorem dX9_power_4 : decode cX9_power 4 = .ok (.iload_n 3, 1) := by decide +kernel
theorem dX9_power_5 : decode cX9_power 5 = .ok (.iload_n 1, 1) := by decide +kernel
theorem dX9_power_6 : decode cX9_power 6 = .ok (.if_icmp .ge 13, 3) := by decide +kernel
theorem dX9_power_9 : decode cX9_power 9 = .ok (.iload_n 2, 1) := by decide +kernel
theorem dX9_power_10 : decode cX9_power 10 = .ok (.iload_n 0, 1) := by decide +kernel
theorem dX9_power_11 : decode cX9_power 11 = .ok (.imul, 1) := by decide +kernel
theorem dX9_power_12 : decode cX9_power 12 = .ok (.istore_n 2, 1) := by decide +kernel
theorem dX9_power_13 : decode cX9_power 13 = .ok (.iinc 3 1, 3) := by decide +kernel
theorem dX9_power_16 : decode cX9_power 16 = .ok (.goto (-12), 3) := by decide +kernel
theorem dX9_power_19 : decode cX9_power 19 = .ok (.iload_n 2, 1) := by decide +kernel
theorem dX9_power_20 : decode cX9_power 20 = .ok (.ireturn, 1) := by decide +kernel
set_option maxRecDepth 20000 in
theorem ggX9_noPlayer_X9_in : GoodIn wsX9_noPlayer wsX9_in := goodIn_r _ [5] (by decide +kernel) (by decide +kernel)
set_option maxRecDepth 20000 in
theorem gX9_noPlayer_X9_in : GoodIn wsX9_noPlayer (va_wsS RX9 69 yX9_in wsX9_in) := goodIn_app (goodIn_of _ (by decide +kernel)) ggX9_noPlayer_X9_in
theorem dX9_noPlayer_0 : decode cX9_noPlayer 0 = .ok (.iload_n 1, 1) := by decide +kernel
theorem dX9_noPlayer_1 : decode cX9_noPlayer 1 = .ok (.i2l, 1) := by decide +kernel
theorem dX9_noPlayer_2 : decode cX9_noPlayer 2 = .ok (.lconst 0, 1) := by decide +kernel
theorem dX9_noPlayer_3 : decode cX9_noPlayer 3 = .ok (.aload_n 0, 1) := by decide +kernel
theorem dX9_noPlayer_4 : decode cX9_noPlayer 4 = .ok (.getfield 66, 3) := by decide +kernel
theorem dX9_noPlayer_7 : decode cX9_noPlayer 7 = .ok (.iconst 1, 1) := by decide +kernel
theorem dX9_noPlayer_8 : decode cX9_noPlayer 8 = .ok (.isub, 1) := by decide +kernel
theorem dX9_noPlayer_9 : decode cX9_noPlayer 9 = .ok (.i2l, 1) := by decide +kernel
theorem dX9_noPlayer_10 : decode cX9_noPlayer 10 = .ok (.invokestatic 69, 3) := by decide +kernel
theorem dX9_noPlayer_13 : decode cX9_noPlayer 13 = .ok (.ifCond .ne 7, 3) := by decide +kernel
theorem dX9_noPlayer_16 : decode cX9_noPlayer 16 = .ok (.iconst 1, 1) := by decide +kernel
theorem dX9_noPlayer_17 : decode cX9_noPlayer 17 = .ok (.goto 4, 3) := by decide +kernel
theorem dX9_noPlayer_20 : decode cX9_noPlayer 20 = .ok (.iconst 0, 1) := by decide +kernel
theorem dX9_noPlayer_21 : decode cX9_noPlayer 21 = .ok (.ireturn, 1) := by decide +kernel
set_option maxRecDepth 20000 in
theorem ggX9_noHand_X9_in : GoodIn wsX9_noHand wsX9_in := goodIn_r _ [5] (by decide +kernel) (by decide +kernel)
set_option maxRecDepth 20000 in
theorem gX9_noHand_X9_in : GoodIn wsX9_noHand (va_wsS RX9 69 yX9_in wsX9_in) := goodIn_app (goodIn_of _ (by decide +kernel)) ggX9_noHand_X9_in
theorem dX9_noHand_0 : decode cX9_noHand 0 = .ok (.iload_n 1, 1) := by decide +kernel
theorem dX9_noHand_1 : decode cX9_noHand 1 = .ok (.i2l, 1) := by decide +kernel
theorem dX9_noHand_2 : decode cX9_noHand 2 = .ok (.lconst 0, 1) := by decide +kernel
theorem dX9_noHand_3 : decode cX9_noHand 3 = .ok (.aload_n 0, 1) := by decide +kernel
theorem dX9_noHand_4 : decode cX9_noHand 4 = .ok (.getfield 73, 3) := by decide +kernel
theorem dX9_noHand_7 : decode cX9_noHand 7 = .ok (.iconst 1, 1) := by decide +kernel
theorem dX9_noHand_8 : decode cX9_noHand 8 = .ok (.isub, 1) := by decide +kernel
theorem dX9_noHand_9 : decode cX9_noHand 9 = .ok (.i2l, 1) := by decide +kernel
theorem dX9_noHand_10 : decode cX9_noHand 10 = .ok (.invokestatic 69, 3) := by decide +kernel
theorem dX9_noHand_13 : decode cX9_noHand 13 = .ok (.ifCond .ne 7, 3) := by decide +kernel
theorem dX9_noHand_16 : decode cX9_noHand 16 = .ok (.iconst 1, 1) := by decide +kernel
theorem dX9_noHand_17 : decode cX9_noHand 17 = .ok (.goto 4, 3) := by decide +kernel
theorem dX9_noHand_20 : decode cX9_noHand 20 = .ok (.iconst 0, 1) := by decide +kernel
theorem dX9_noHand_21 : decode cX9_noHand 21 = .ok (.ireturn, 1) := by decide +kernel
set_option maxRecDepth 20000 in
theorem ggX9_write_X9_in : GoodIn wsX9_write wsX9_in := goodIn_r _ [8] (by decide +kernel) (by decide +kernel)
set_option maxRecDepth 20000 in
theorem gX9_write_X9_in : GoodIn wsX9_write (va_wsS RX9 69 yX9_in wsX9_in) := goodIn_app (goodIn_of _ (by decide +kernel)) ggX9_write_X9_in
theorem dX9_write_0 : decode cX9_write 0 = .ok (.aload_n 0, 1) := by decide +kernel
theorem dX9_write_1 : decode cX9_write 1 = .ok (.iconst 0, 1) := by decide +kernel
theorem dX9_write_2 : decode cX9_write 2 = .ok (.putfield 62, 3) := by decide +kernel
theorem dX9_write_5 : decode cX9_write 5 = .ok (.iload_n 1, 1) := by decide +kernel
theorem dX9_write_6 : decode cX9_write 6 = .ok (.i2l, 1) := by decide +kernel
theorem dX9_write_7 : decode cX9_write 7 = .ok (.lconst 0, 1) := by decide +kernel
theorem dX9_write_8 : decode cX9_write 8 = .ok (.ldc2_w 76, 3) := by decide +kernel
theorem dX9_write_11 : decode cX9_write 11 = .ok (.invokestatic 69, 3) := by decide +kernel
theorem dX9_write_14 : decode cX9_write 14 = .ok (.ifCond .ne 6, 3) := by decide +kernel
theorem dX9_write_17 : decode cX9_write 17 = .ok (.bipush (-2), 2) := by decide +kernel
theorem dX9_write_19 : decode cX9_write 19 = .ok (.ireturn, 1) := by decide +kernel
theorem dX9_write_20 : decode cX9_write 20 = .ok (.aload_n 0, 1) := by decide +kernel
theorem dX9_write_21 : decode cX9_write 21 = .ok (.getfield 78, 3) := by decide +kernel
theorem dX9_write_24 : decode cX9_write 24 = .ok (.bipush 48, 2) := by decide +kernel
theorem dX9_write_26 : decode cX9_write 26 = .ok (.if_icmp .ne 6, 3) := by decide +kernel
theorem dX9_write_29 : decode cX9_write 29 = .ok (.bipush (-4), 2) := by decide +kernel
theorem dX9_write_31 : decode cX9_write 31 = .ok (.ireturn, 1) := by decide +kernel
theorem dX9_write_32 : decode cX9_write 32 = .ok (.aload_n 0, 1) := by decide +kernel
theorem dX9_write_33 : decode cX9_write 33 = .ok (.getfield 7, 3) := by decide +kernel
theorem dX9_write_36 : decode cX9_write 36 = .ok (.aload_n 0, 1) := by decide +kernel
theorem dX9_write_37 : decode cX9_write 37 = .ok (.getfield 78, 3) := by decide +kernel
theorem dX9_write_40 : decode cX9_write 40 = .ok (.iload_n 1, 1) := by decide +kernel
theorem dX9_write_41 : decode cX9_write 41 = .ok (.iastore, 1) := by decide +kernel
theorem dX9_write_42 : decode cX9_write 42 = .ok (.aload_n 0, 1) := by decide +kernel
theorem dX9_write_43 : decode cX9_write 43 = .ok (.dup, 1) := by decide +kernel
theorem dX9_write_44 : decode cX9_write 44 = .ok (.getfield 78, 3) := by decide +kernel
theorem dX9_write_47 : decode cX9_write 47 = .ok (.iconst 1, 1) := by decide +kernel
theorem dX9_write_48 : decode cX9_write 48 = .ok (.iadd, 1) := by decide +kernel
theorem dX9_write_49 : decode cX9_write 49 = .ok (.putfield 78, 3) := by decide +kernel
theorem dX9_write_52 : decode cX9_write 52 = .ok (.aload_n 0, 1) := by decide +kernel
theorem dX9_write_53 : decode cX9_write 53 = .ok (.getfield 78, 3) := by decide +kernel
theorem dX9_write_56 : decode cX9_write 56 = .ok (.ireturn, 1) := by decide +kernel
theorem dX9_wipe_0 : decode cX9_wipe 0 = .ok (.aload_n 0, 1) := by decide +kernel
theorem dX9_wipe_1 : decode cX9_wipe 1 = .ok (.iconst 0, 1) := by decide +kernel
theorem dX9_wipe_2 : decode cX9_wipe 2 = .ok (.putfield 62, 3) := by decide +kernel
theorem dX9_wipe_5 : decode cX9_wipe 5 = .ok (.aload_n 0, 1) := by decide +kernel
theorem dX9_wipe_6 : decode cX9_wipe 6 = .ok (.getfield 78, 3) := by decide +kernel
theorem dX9_wipe_9 : decode cX9_wipe 9 = .ok (.istore_n 1, 1) := by decide +kernel
theorem dX9_wipe_10 : decode cX9_wipe 10 = .ok (.aload_n 0, 1) := by decide +kernel
theorem dX9_wipe_11 : decode cX9_wipe 11 = .ok (.iconst 0, 1) := by decide +kernel
theorem dX9_wipe_12 : decode cX9_wipe 12 = .ok (.putfield 78, 3) := by decide +kernel
theorem dX9_wipe_15 : decode cX9_wipe 15 = .ok (.iload_n 1, 1) := by decide +kernel
theorem dX9_wipe_16 : decode cX9_wipe 16 = .ok (.ireturn, 1) := by decide +kernel
set_option maxRecDepth 20000 in
theorem ggX9_figure_X9_in : GoodIn wsX9_figure wsX9_in := goodIn_r _ [7] (by decide +kernel) (by decide +kernel)
set_option maxRecDepth 20000 in
theorem gX9_figure_X9_in : GoodIn wsX9_figure (va_wsS RX9 69 yX9_in wsX9_in) := goodIn_app (goodIn_of _ (by decide +kernel)) ggX9_figure_X9_in
theorem dX9_figure_0 : decode cX9_figure 0 = .ok (.aload_n 0, 1) := by decide +kernel
theorem dX9_figure_1 : decode cX9_figure 1 = .ok (.getfield 81, 3) := by decide +kernel
theorem dX9_figure_4 : decode cX9_figure 4 = .ok (.aload_n 0, 1) := by decide +kernel
theorem dX9_figure_5 : decode cX9_figure 5 = .ok (.getfield 78, 3) := by decide +kernel
theorem dX9_figure_8 : decode cX9_figure 8 = .ok (.if_icmp .eq 26, 3) := by decide +kernel
theorem dX9_figure_11 : decode cX9_figure 11 = .ok (.aload_n 0, 1) := by decide +kernel
theorem dX9_figure_12 : decode cX9_figure 12 = .ok (.getfield 7, 3) := by decide +kernel
theorem dX9_figure_15 : decode cX9_figure 15 = .ok (.aload_n 0, 1) := by decide +kernel
theorem dX9_figure_16 : decode cX9_figure 16 = .ok (.getfield 81, 3) := by decide +kernel
theorem dX9_figure_19 : decode cX9_figure 19 = .ok (.iaload, 1) := by decide +kernel
theorem dX9_figure_20 : decode cX9_figure 20 = .ok (.bipush 48, 2) := by decide +kernel
theorem dX9_figure_22 : decode cX9_figure 22 = .ok (.isub, 1) := by decide +kernel
theorem dX9_figure_23 : decode cX9_figure 23 = .ok (.i2l, 1) := by decide +kernel
theorem dX9_figure_24 : decode cX9_figure 24 = .ok (.iload_n 1, 1) := by decide +kernel
theorem dX9_figure_25 : decode cX9_figure 25 = .ok (.i2l, 1) := by decide +kernel
theorem dX9_figure_26 : decode cX9_figure 26 = .ok (.iload_n 2, 1) := by decide +kernel
theorem dX9_figure_27 : decode cX9_figure 27 = .ok (.i2l, 1) := by decide +kernel
theorem dX9_figure_28 : decode cX9_figure 28 = .ok (.invokestatic 69, 3) := by decide +kernel
theorem dX9_figure_31 : decode cX9_figure 31 = .ok (.ifCond .ne 6, 3) := by decide +kernel
theorem dX9_figure_34 : decode cX9_figure 34 = .ok (.bipush (-9), 2) := by decide +kernel
theorem dX9_figure_36 : decode cX9_figure 36 = .ok (.ireturn, 1) := by decide +kernel
theorem dX9_figure_37 : decode cX9_figure 37 = .ok (.aload_n 0, 1) := by decide +kernel
theorem dX9_figure_38 : decode cX9_figure 38 = .ok (.dup, 1) := by decide +kernel
theorem dX9_figure_39 : decode cX9_figure 39 = .ok (.getfield 81, 3) := by decide +kernel
theorem dX9_figure_42 : decode cX9_figure 42 = .ok (.iconst 1, 1) := by decide +kernel
theorem dX9_figure_43 : decode cX9_figure 43 = .ok (.iadd, 1) := by decide +kernel
theorem dX9_figure_44 : decode cX9_figure 44 = .ok (.putfield 81, 3) := by decide +kernel
theorem dX9_figure_47 : decode cX9_figure 47 = .ok (.aload_n 0, 1) := by decide +kernel
theorem dX9_figure_48 : decode cX9_figure 48 = .ok (.getfield 7, 3) := by decide +kernel
theorem dX9_figure_51 : decode cX9_figure 51 = .ok (.aload_n 0, 1) := by decide +kernel
theorem dX9_figure_52 : decode cX9_figure 52 = .ok (.getfield 81, 3) := by decide +kernel
theorem dX9_figure_55 : decode cX9_figure 55 = .ok (.iconst 1, 1) := by decide +kernel
theorem dX9_figure_56 : decode cX9_figure 56 = .ok (.isub, 1) := by decide +kernel
theorem dX9_figure_57 : decode cX9_figure 57 = .ok (.iaload, 1) := by decide +kernel
theorem dX9_figure_58 : decode cX9_figure 58 = .ok (.bipush 48, 2) := by decide +kernel
theorem dX9_figure_60 : decode cX9_figure 60 = .ok (.isub, 1) := by decide +kernel
theorem dX9_figure_61 : decode cX9_figure 61 = .ok (.ireturn, 1) := by decide +kernel
set_option maxRecDepth 20000 in
theorem ggX9_readOnePlayer_X9_figure : GoodIn wsX9_readOnePlayer wsX9_figure := goodIn_r _ [7, 8, 9, 10, 11, 12, 6, 13, 14, 15, 16, 17, 18, 19, 20, 21, 22, 23, 24, 25, 26, 27, 28, 29, 30, 31, 32, 33, 34, 35, 36, 37, 38, 39, 40, 41, 42, 43, 44, 45, 46, 47] (by decide +kernel) (by decide +kernel)
set_option maxRecDepth 20000 in
theorem gX9_readOnePlayer_X9_figure : GoodIn wsX9_readOnePlayer (wsV RX9 84 RX9 yX9_figure wsX9_figure) := goodIn_app (goodIn_of _ (by decide +kernel)) ggX9_readOnePlayer_X9_figure
theorem dX9_readOnePlayer_0 : decode cX9_readOnePlayer 0 = .ok (.aload_n 0, 1) := by decide +kernel
theorem dX9_readOnePlayer_1 : decode cX9_readOnePlayer 1 = .ok (.iconst 1, 1) := by decide +kernel
theorem dX9_readOnePlayer_2 : decode cX9_readOnePlayer 2 = .ok (.bipush 7, 2) := by decide +kernel
theorem dX9_readOnePlayer_4 : decode cX9_readOnePlayer 4 = .ok (.invokevirtual 84, 3) := by decide +kernel
theorem dX9_readOnePlayer_7 : decode cX9_readOnePlayer 7 = .ok (.istore_n 1, 1) := by decide +kernel
theorem dX9_readOnePlayer_8 : decode cX9_readOnePlayer 8 = .ok (.iload_n 1, 1) := by decide +kernel
theorem dX9_readOnePlayer_9 : decode cX9_readOnePlayer 9 = .ok (.bipush (-9), 2) := by decide +kernel
theorem dX9_readOnePlayer_11 : decode cX9_readOnePlayer 11 = .ok (.if_icmp .ne 5, 3) := by decide +kernel
theorem dX9_readOnePlayer_14 : decode cX9_readOnePlayer 14 = .ok (.iconst 0, 1) := by decide +kernel
theorem dX9_readOnePlayer_15 : decode cX9_readOnePlayer 15 = .ok (.ireturn, 1) := by decide +kernel
theorem dX9_readOnePlayer_16 : decode cX9_readOnePlayer 16 = .ok (.aload_n 0, 1) := by decide +kernel
theorem dX9_readOnePlayer_17 : decode cX9_readOnePlayer 17 = .ok (.getfield 25, 3) := by decide +kernel
theorem dX9_readOnePlayer_20 : decode cX9_readOnePlayer 20 = .ok (.aload_n 0, 1) := by decide +kernel
theorem dX9_readOnePlayer_21 : decode cX9_readOnePlayer 21 = .ok (.getfield 88, 3) := by decide +kernel
theorem dX9_readOnePlayer_24 : decode cX9_readOnePlayer 24 = .ok (.iload_n 1, 1) := by decide +kernel
theorem dX9_readOnePlayer_25 : decode cX9_readOnePlayer 25 = .ok (.iastore, 1) := by decide +kernel
theorem dX9_readOnePlayer_26 : decode cX9_readOnePlayer 26 = .ok (.aload_n 0, 1) := by decide +kernel
theorem dX9_readOnePlayer_27 : decode cX9_readOnePlayer 27 = .ok (.dup, 1) := by decide +kernel
theorem dX9_readOnePlayer_28 : decode cX9_readOnePlayer 28 = .ok (.getfield 88, 3) := by decide +kernel
theorem dX9_readOnePlayer_31 : decode cX9_readOnePlayer 31 = .ok (.iconst 1, 1) := by decide +kernel
theorem dX9_readOnePlayer_32 : decode cX9_readOnePlayer 32 = .ok (.iadd, 1) := by decide +kernel
theorem dX9_readOnePlayer_33 : decode cX9_readOnePlayer 33 = .ok (.putfield 88, 3) := by decide +kernel
theorem dX9_readOnePlayer_36 : decode cX9_readOnePlayer 36 = .ok (.iconst 1, 1) := by decide +kernel
theorem dX9_readOnePlayer_37 : decode cX9_readOnePlayer 37 = .ok (.ireturn, 1) := by decide +kernel
set_option maxRecDepth 20000 in
theorem ggX9_readOneHand_X9_in : GoodIn wsX9_readOneHand wsX9_in := goodIn_r _ [12] (by decide +kernel) (by decide +kernel)
set_option maxRecDepth 20000 in
theorem gX9_readOneHand_X9_in : GoodIn wsX9_readOneHand (va_wsS RX9 69 yX9_in wsX9_in) := goodIn_app (goodIn_of _ (by decide +kernel)) ggX9_readOneHand_X9_in
set_option maxRecDepth 20000 in
theorem ggX9_readOneHand_X9_has : GoodIn wsX9_readOneHand wsX9_has := goodIn_r _ [15] (by decide +kernel) (by decide +kernel)
set_option maxRecDepth 20000 in
theorem gX9_readOneHand_X9_has : GoodIn wsX9_readOneHand (va_wsS RX9 96 yX9_has wsX9_has) := goodIn_app (goodIn_of _ (by decide +kernel)) ggX9_readOneHand_X9_has
set_option maxRecDepth 20000 in
theorem ggX9_readOneHand_X9_figure : GoodIn wsX9_readOneHand wsX9_figure := goodIn_r _ [19, 1, 2, 3, 9, 10, 11, 12, 20, 21, 22, 23, 24, 25, 26, 27, 28, 29, 30, 31, 32, 33, 34, 35, 36, 37, 38, 39, 40, 41, 42, 43, 44, 45, 46, 47, 48, 49, 50, 51, 52, 53] (by decide +kernel) (by decide +kernel)
set_option maxRecDepth 20000 in
theorem gX9_readOneHand_X9_figure : GoodIn wsX9_readOneHand (wsV RX9 84 RX9 yX9_figure wsX9_figure) := goodIn_app (goodIn_of _ (by decide +kernel)) ggX9_readOneHand_X9_figure
theorem dX9_readOneHand_0 : decode cX9_readOneHand 0 = .ok (.aload_n 0, 1) := by decide +kernel
theorem dX9_readOneHand_1 : decode cX9_readOneHand 1 = .ok (.getfield 81, 3) := by decide +kernel
theorem dX9_readOneHand_4 : decode cX9_readOneHand 4 = .ok (.aload_n 0, 1) := by decide +kernel
theorem dX9_readOneHand_5 : decode cX9_readOneHand 5 = .ok (.getfield 78, 3) := by decide +kernel
theorem dX9_readOneHand_8 : decode cX9_readOneHand 8 = .ok (.if_icmp .ge 18, 3) := by decide +kernel
theorem dX9_readOneHand_11 : decode cX9_readOneHand 11 = .ok (.aload_n 0, 1) := by decide +kernel
theorem dX9_readOneHand_12 : decode cX9_readOneHand 12 = .ok (.getfield 7, 3) := by decide +kernel
theorem dX9_readOneHand_15 : decode cX9_readOneHand 15 = .ok (.aload_n 0, 1) := by decide +kernel
theorem dX9_readOneHand_16 : decode cX9_readOneHand 16 = .ok (.getfield 81, 3) := by decide +kernel
theorem dX9_readOneHand_19 : decode cX9_readOneHand 19 = .ok (.iaload, 1) := by decide +kernel
theorem dX9_readOneHand_20 : decode cX9_readOneHand 20 = .ok (.bipush 48, 2) := by decide +kernel
theorem dX9_readOneHand_22 : decode cX9_readOneHand 22 = .ok (.isub, 1) := by decide +kernel
theorem dX9_readOneHand_23 : decode cX9_readOneHand 23 = .ok (.goto 5, 3) := by decide +kernel
theorem dX9_readOneHand_26 : decode cX9_readOneHand 26 = .ok (.bipush (-9), 2) := by decide +kernel
theorem dX9_readOneHand_28 : decode cX9_readOneHand 28 = .ok (.istore_n 1, 1) := by decide +kernel
theorem dX9_readOneHand_29 : decode cX9_readOneHand 29 = .ok (.iload_n 1, 1) := by decide +kernel
theorem dX9_readOneHand_30 : decode cX9_readOneHand 30 = .ok (.i2l, 1) := by decide +kernel
theorem dX9_readOneHand_31 : decode cX9_readOneHand 31 = .ok (.lconst 0, 1) := by decide +kernel
theorem dX9_readOneHand_32 : decode cX9_readOneHand 32 = .ok (.ldc2_w 91, 3) := by decide +kernel
theorem dX9_readOneHand_35 : decode cX9_readOneHand 35 = .ok (.invokestatic 69, 3) := by decide +kernel
theorem dX9_readOneHand_38 : decode cX9_readOneHand 38 = .ok (.ifCond .eq 14, 3) := by decide +kernel
theorem dX9_readOneHand_41 : decode cX9_readOneHand 41 = .ok (.aload_n 0, 1) := by decide +kernel
theorem dX9_readOneHand_42 : decode cX9_readOneHand 42 = .ok (.getfield 93, 3) := by decide +kernel
theorem dX9_readOneHand_45 : decode cX9_readOneHand 45 = .ok (.iload_n 1, 1) := by decide +kernel
theorem dX9_readOneHand_46 : decode cX9_readOneHand 46 = .ok (.invokestatic 96, 3) := by decide +kernel
theorem dX9_readOneHand_49 : decode cX9_readOneHand 49 = .ok (.ifCond .eq 5, 3) := by decide +kernel
theorem dX9_readOneHand_52 : decode cX9_readOneHand 52 = .ok (.iconst 0, 1) := by decide +kernel
theorem dX9_readOneHand_53 : decode cX9_readOneHand 53 = .ok (.ireturn, 1) := by decide +kernel
theorem dX9_readOneHand_54 : decode cX9_readOneHand 54 = .ok (.aload_n 0, 1) := by decide +kernel
theorem dX9_readOneHand_55 : decode cX9_readOneHand 55 = .ok (.dup, 1) := by decide +kernel
theorem dX9_readOneHand_56 : decode cX9_readOneHand 56 = .ok (.getfield 81, 3) := by decide +kernel
theorem dX9_readOneHand_59 : decode cX9_readOneHand 59 = .ok (.iconst 1, 1) := by decide +kernel
theorem dX9_readOneHand_60 : decode cX9_readOneHand 60 = .ok (.iadd, 1) := by decide +kernel
theorem dX9_readOneHand_61 : decode cX9_readOneHand 61 = .ok (.putfield 81, 3) := by decide +kernel
theorem dX9_readOneHand_64 : decode cX9_readOneHand 64 = .ok (.aload_n 0, 1) := by decide +kernel
theorem dX9_readOneHand_65 : decode cX9_readOneHand 65 = .ok (.iconst 0, 1) := by decide +kernel
theorem dX9_readOneHand_66 : decode cX9_readOneHand 66 = .ok (.aload_n 0, 1) := by decide +kernel
theorem dX9_readOneHand_67 : decode cX9_readOneHand 67 = .ok (.getfield 88, 3) := by decide +kernel
theorem dX9_readOneHand_70 : decode cX9_readOneHand 70 = .ok (.iconst 1, 1) := by decide +kernel
theorem dX9_readOneHand_71 : decode cX9_readOneHand 71 = .ok (.isub, 1) := by decide +kernel
theorem dX9_readOneHand_72 : decode cX9_readOneHand 72 = .ok (.invokevirtual 84, 3) := by decide +kernel
theorem dX9_readOneHand_75 : decode cX9_readOneHand 75 = .ok (.istore_n 2, 1) := by decide +kernel
theorem dX9_readOneHand_76 : decode cX9_readOneHand 76 = .ok (.iload_n 2, 1) := by decide +kernel
theorem dX9_readOneHand_77 : decode cX9_readOneHand 77 = .ok (.bipush (-9), 2) := by decide +kernel
theorem dX9_readOneHand_79 : decode cX9_readOneHand 79 = .ok (.if_icmp .ne 8, 3) := by decide +kernel
theorem dX9_readOneHand_82 : decode cX9_readOneHand 82 = .ok (.bipush (-9), 2) := by decide +kernel
theorem dX9_readOneHand_84 : decode cX9_readOneHand 84 = .ok (.goto 10, 3) := by decide +kernel
theorem dX9_readOneHand_87 : decode cX9_readOneHand 87 = .ok (.aload_n 0, 1) := by decide +kernel
theorem dX9_readOneHand_88 : decode cX9_readOneHand 88 = .ok (.iconst 1, 1) := by decide +kernel
theorem dX9_readOneHand_89 : decode cX9_readOneHand 89 = .ok (.bipush 9, 2) := by decide +kernel
theorem dX9_readOneHand_91 : decode cX9_readOneHand 91 = .ok (.invokevirtual 84, 3) := by decide +kernel
theorem dX9_readOneHand_94 : decode cX9_readOneHand 94 = .ok (.istore_n 3, 1) := by decide +kernel
theorem dX9_readOneHand_95 : decode cX9_readOneHand 95 = .ok (.iload_n 3, 1) := by decide +kernel
theorem dX9_readOneHand_96 : decode cX9_readOneHand 96 = .ok (.bipush (-9), 2) := by decide +kernel
theorem dX9_readOneHand_98 : decode cX9_readOneHand 98 = .ok (.if_icmp .ne 8, 3) := by decide +kernel
theorem dX9_readOneHand_101 : decode cX9_readOneHand 101 = .ok (.bipush (-9), 2) := by decide +kernel
theorem dX9_readOneHand_103 : decode cX9_readOneHand 103 = .ok (.goto 9, 3) := by decide +kernel
theorem dX9_readOneHand_106 : decode cX9_readOneHand 106 = .ok (.aload_n 0, 1) := by decide +kernel
theorem dX9_readOneHand_107 : decode cX9_readOneHand 107 = .ok (.iconst 0, 1) := by decide +kernel
theorem dX9_readOneHand_108 : decode cX9_readOneHand 108 = .ok (.iconst 3, 1) := by decide +kernel
theorem dX9_readOneHand_109 : decode cX9_readOneHand 109 = .ok (.invokevirtual 84, 3) := by decide +kernel
theorem dX9_readOneHand_112 : decode cX9_readOneHand 112 = .ok (.istore 4, 2) := by decide +kernel
theorem dX9_readOneHand_114 : decode cX9_readOneHand 114 = .ok (.iload 4, 2) := by decide +kernel
theorem dX9_readOneHand_116 : decode cX9_readOneHand 116 = .ok (.bipush (-9), 2) := by decide +kernel
theorem dX9_readOneHand_118 : decode cX9_readOneHand 118 = .ok (.if_icmp .ne 5, 3) := by decide +kernel
theorem dX9_readOneHand_121 : decode cX9_readOneHand 121 = .ok (.iconst 0, 1) := by decide +kernel
theorem dX9_readOneHand_122 : decode cX9_readOneHand 122 = .ok (.ireturn, 1) := by decide +kernel
theorem dX9_readOneHand_123 : decode cX9_readOneHand 123 = .ok (.aload_n 0, 1) := by decide +kernel
theorem dX9_readOneHand_124 : decode cX9_readOneHand 124 = .ok (.dup, 1) := by decide +kernel
theorem dX9_readOneHand_125 : decode cX9_readOneHand 125 = .ok (.getfield 93, 3) := by decide +kernel
theorem dX9_readOneHand_128 : decode cX9_readOneHand 128 = .ok (.iconst 1, 1) := by decide +kernel
theorem dX9_readOneHand_129 : decode cX9_readOneHand 129 = .ok (.iload_n 1, 1) := by decide +kernel
theorem dX9_readOneHand_130 : decode cX9_readOneHand 130 = .ok (.ishl, 1) := by decide +kernel
theorem dX9_readOneHand_131 : decode cX9_readOneHand 131 = .ok (.ior, 1) := by decide +kernel
theorem dX9_readOneHand_132 : decode cX9_readOneHand 132 = .ok (.putfield 93, 3) := by decide +kernel
theorem dX9_readOneHand_135 : decode cX9_readOneHand 135 = .ok (.aload_n 0, 1) := by decide +kernel
theorem dX9_readOneHand_136 : decode cX9_readOneHand 136 = .ok (.getfield 28, 3) := by decide +kernel
theorem dX9_readOneHand_139 : decode cX9_readOneHand 139 = .ok (.iconst 4, 1) := by decide +kernel
theorem dX9_readOneHand_140 : decode cX9_readOneHand 140 = .ok (.aload_n 0, 1) := by decide +kernel
theorem dX9_readOneHand_141 : decode cX9_readOneHand 141 = .ok (.getfield 100, 3) := by decide +kernel
theorem dX9_readOneHand_144 : decode cX9_readOneHand 144 = .ok (.imul, 1) := by decide +kernel
theorem dX9_readOneHand_145 : decode cX9_readOneHand 145 = .ok (.iload_n 1, 1) := by decide +kernel
theorem dX9_readOneHand_146 : decode cX9_readOneHand 146 = .ok (.iastore, 1) := by decide +kernel
theorem dX9_readOneHand_147 : decode cX9_readOneHand 147 = .ok (.aload_n 0, 1) := by decide +kernel
theorem dX9_readOneHand_148 : decode cX9_readOneHand 148 = .ok (.getfield 28, 3) := by decide +kernel
theorem dX9_readOneHand_151 : decode cX9_readOneHand 151 = .ok (.iconst 4, 1) := by decide +kernel
theorem dX9_readOneHand_152 : decode cX9_readOneHand 152 = .ok (.aload_n 0, 1) := by decide +kernel
theorem dX9_readOneHand_153 : decode cX9_readOneHand 153 = .ok (.getfield 100, 3) := by decide +kernel
theorem dX9_readOneHand_156 : decode cX9_readOneHand 156 = .ok (.imul, 1) := by decide +kernel
theorem dX9_readOneHand_157 : decode cX9_readOneHand 157 = .ok (.iconst 1, 1) := by decide +kernel
theorem dX9_readOneHand_158 : decode cX9_readOneHand 158 = .ok (.iadd, 1) := by decide +kernel
theorem dX9_readOneHand_159 : decode cX9_readOneHand 159 = .ok (.iload_n 2, 1) := by decide +kernel
theorem dX9_readOneHand_160 : decode cX9_readOneHand 160 = .ok (.iastore, 1) := by decide +kernel
theorem dX9_readOneHand_161 : decode cX9_readOneHand 161 = .ok (.aload_n 0, 1) := by decide +kernel
theorem dX9_readOneHand_162 : decode cX9_readOneHand 162 = .ok (.getfield 28, 3) := by decide +kernel
theorem dX9_readOneHand_165 : decode cX9_readOneHand 165 = .ok (.iconst 4, 1) := by decide +kernel
theorem dX9_readOneHand_166 : decode cX9_readOneHand 166 = .ok (.aload_n 0, 1) := by decide +kernel
theorem dX9_readOneHand_167 : decode cX9_readOneHand 167 = .ok (.getfield 100, 3) := by decide +kernel
theorem dX9_readOneHand_170 : decode cX9_readOneHand 170 = .ok (.imul, 1) := by decide +kernel
theorem dX9_readOneHand_171 : decode cX9_readOneHand 171 = .ok (.iconst 2, 1) := by decide +kernel
theorem dX9_readOneHand_172 : decode cX9_readOneHand 172 = .ok (.iadd, 1) := by decide +kernel
theorem dX9_readOneHand_173 : decode cX9_readOneHand 173 = .ok (.iload_n 3, 1) := by decide +kernel
theorem dX9_readOneHand_174 : decode cX9_readOneHand 174 = .ok (.iastore, 1) := by decide +kernel
theorem dX9_readOneHand_175 : decode cX9_readOneHand 175 = .ok (.aload_n 0, 1) := by decide +kernel
theorem dX9_readOneHand_176 : decode cX9_readOneHand 176 = .ok (.getfield 28, 3) := by decide +kernel
theorem dX9_readOneHand_179 : decode cX9_readOneHand 179 = .ok (.iconst 4, 1) := by decide +kernel
theorem dX9_readOneHand_180 : decode cX9_readOneHand 180 = .ok (.aload_n 0, 1) := by decide +kernel
theorem dX9_readOneHand_181 : decode cX9_readOneHand 181 = .ok (.getfield 100, 3) := by decide +kernel
theorem dX9_readOneHand_184 : decode cX9_readOneHand 184 = .ok (.imul, 1) := by decide +kernel
theorem dX9_readOneHand_185 : decode cX9_readOneHand 185 = .ok (.iconst 3, 1) := by decide +kernel
theorem dX9_readOneHand_186 : decode cX9_readOneHand 186 = .ok (.iadd, 1) := by decide +kernel
theorem dX9_readOneHand_187 : decode cX9_readOneHand 187 = .ok (.iload 4, 2) := by decide +kernel
theorem dX9_readOneHand_189 : decode cX9_readOneHand 189 = .ok (.iastore, 1) := by decide +kernel
theorem dX9_readOneHand_190 : decode cX9_readOneHand 190 = .ok (.aload_n 0, 1) := by decide +kernel
theorem dX9_readOneHand_191 : decode cX9_readOneHand 191 = .ok (.dup, 1) := by decide +kernel
theorem dX9_readOneHand_192 : decode cX9_readOneHand 192 = .ok (.getfield 100, 3) := by decide +kernel
theorem dX9_readOneHand_195 : decode cX9_readOneHand 195 = .ok (.iconst 1, 1) := by decide +kernel
theorem dX9_readOneHand_196 : decode cX9_readOneHand 196 = .ok (.iadd, 1) := by decide +kernel
theorem dX9_readOneHand_197 : decode cX9_readOneHand 197 = .ok (.putfield 100, 3) := by decide +kernel
theorem dX9_readOneHand_200 : decode cX9_readOneHand 200 = .ok (.iconst 1, 1) := by decide +kernel
theorem dX9_readOneHand_201 : decode cX9_readOneHand 201 = .ok (.ireturn, 1) := by decide +kernel
set_option maxRecDepth 20000 in
theorem ggX9_readThing_X9_readOnePlayer : GoodIn wsX9_readThing wsX9_readOnePlayer := goodIn_r _ [9, 10, 3, 11, 12, 13, 8, 14, 2, 15, 1, 16, 17, 18, 29, 30, 31, 32, 33, 34, 35, 36, 37, 38, 39, 40, 41, 42, 43, 44, 45, 46, 47, 48, 49, 50, 51, 52, 53, 54, 55, 56, 57, 58, 59, 60, 61, 62] (by decide +kernel) (by decide +kernel)
set_option maxRecDepth 20000 in
theorem gX9_readThing_X9_readOnePlayer : GoodIn wsX9_readThing (wsV RX9 103 RX9 yX9_readOnePlayer wsX9_readOnePlayer) := goodIn_app (goodIn_of _ (by decide +kernel)) ggX9_readThing_X9_readOnePlayer
set_option maxRecDepth 20000 in
theorem ggX9_readThing_X9_readOneHand : GoodIn wsX9_readThing wsX9_readOneHand := goodIn_r _ [22, 2, 15, 1, 23, 24, 3, 25, 4, 16, 17, 8, 18, 26, 27, 28, 11, 12, 13, 14, 29, 30, 31, 32, 33, 34, 35, 36, 37, 38, 39, 40, 41, 42, 43, 44, 45, 46, 47, 48, 49, 50, 51, 52, 53, 54, 55, 56, 57, 58, 59, 60, 61, 62] (by decide +kernel) (by decide +kernel)
set_option maxRecDepth 20000 in
theorem gX9_readThing_X9_readOneHand : GoodIn wsX9_readThing (wsV RX9 107 RX9 yX9_readOneHand wsX9_readOneHand) := goodIn_app (goodIn_of _ (by decide +kernel)) ggX9_readThing_X9_readOneHand
theorem dX9_readThing_0 : decode cX9_readThing 0 = .ok (.aload_n 0, 1) := by decide +kernel
theorem dX9_readThing_1 : decode cX9_readThing 1 = .ok (.getfield 7, 3) := by decide +kernel
theorem dX9_readThing_4 : decode cX9_readThing 4 = .ok (.aload_n 0, 1) := by decide +kernel
theorem dX9_readThing_5 : decode cX9_readThing 5 = .ok (.getfield 81, 3) := by decide +kernel
theorem dX9_readThing_8 : decode cX9_readThing 8 = .ok (.iaload, 1) := by decide +kernel
theorem dX9_readThing_9 : decode cX9_readThing 9 = .ok (.istore_n 1, 1) := by decide +kernel
theorem dX9_readThing_10 : decode cX9_readThing 10 = .ok (.aload_n 0, 1) := by decide +kernel
theorem dX9_readThing_11 : decode cX9_readThing 11 = .ok (.dup, 1) := by decide +kernel
theorem dX9_readThing_12 : decode cX9_readThing 12 = .ok (.getfield 81, 3) := by decide +kernel
theorem dX9_readThing_15 : decode cX9_readThing 15 = .ok (.iconst 1, 1) := by decide +kernel
theorem dX9_readThing_16 : decode cX9_readThing 16 = .ok (.iadd, 1) := by decide +kernel
theorem dX9_readThing_17 : decode cX9_readThing 17 = .ok (.putfield 81, 3) := by decide +kernel
theorem dX9_readThing_20 : decode cX9_readThing 20 = .ok (.iload_n 1, 1) := by decide +kernel
theorem dX9_readThing_21 : decode cX9_readThing 21 = .ok (.bipush 80, 2) := by decide +kernel
theorem dX9_readThing_23 : decode cX9_readThing 23 = .ok (.if_icmp .ne 16, 3) := by decide +kernel
theorem dX9_readThing_26 : decode cX9_readThing 26 = .ok (.aload_n 0, 1) := by decide +kernel
theorem dX9_readThing_27 : decode cX9_readThing 27 = .ok (.getfield 88, 3) := by decide +kernel
theorem dX9_readThing_30 : decode cX9_readThing 30 = .ok (.iconst 3, 1) := by decide +kernel
theorem dX9_readThing_31 : decode cX9_readThing 31 = .ok (.if_icmp .ge 8, 3) := by decide +kernel
theorem dX9_readThing_34 : decode cX9_readThing 34 = .ok (.aload_n 0, 1) := by decide +kernel
theorem dX9_readThing_35 : decode cX9_readThing 35 = .ok (.invokevirtual 103, 3) := by decide +kernel
theorem dX9_readThing_38 : decode cX9_readThing 38 = .ok (.ireturn, 1) := by decide +kernel
theorem dX9_readThing_39 : decode cX9_readThing 39 = .ok (.iload_n 1, 1) := by decide +kernel
theorem dX9_readThing_40 : decode cX9_readThing 40 = .ok (.bipush 68, 2) := by decide +kernel
theorem dX9_readThing_42 : decode cX9_readThing 42 = .ok (.if_icmp .ne 24, 3) := by decide +kernel
theorem dX9_readThing_45 : decode cX9_readThing 45 = .ok (.aload_n 0, 1) := by decide +kernel
theorem dX9_readThing_46 : decode cX9_readThing 46 = .ok (.getfield 100, 3) := by decide +kernel
theorem dX9_readThing_49 : decode cX9_readThing 49 = .ok (.bipush 7, 2) := by decide +kernel
theorem dX9_readThing_51 : decode cX9_readThing 51 = .ok (.if_icmp .ge 15, 3) := by decide +kernel
theorem dX9_readThing_54 : decode cX9_readThing 54 = .ok (.aload_n 0, 1) := by decide +kernel
theorem dX9_readThing_55 : decode cX9_readThing 55 = .ok (.getfield 88, 3) := by decide +kernel
theorem dX9_readThing_58 : decode cX9_readThing 58 = .ok (.ifCond .le 8, 3) := by decide +kernel
theorem dX9_readThing_61 : decode cX9_readThing 61 = .ok (.aload_n 0, 1) := by decide +kernel
theorem dX9_readThing_62 : decode cX9_readThing 62 = .ok (.invokevirtual 107, 3) := by decide +kernel
theorem dX9_readThing_65 : decode cX9_readThing 65 = .ok (.ireturn, 1) := by decide +kernel
theorem dX9_readThing_66 : decode cX9_readThing 66 = .ok (.aload_n 0, 1) := by decide +kernel
theorem dX9_readThing_67 : decode cX9_readThing 67 = .ok (.dup, 1) := by decide +kernel
theorem dX9_readThing_68 : decode cX9_readThing 68 = .ok (.getfield 81, 3) := by decide +kernel
theorem dX9_readThing_71 : decode cX9_readThing 71 = .ok (.iconst 1, 1) := by decide +kernel
theorem dX9_readThing_72 : decode cX9_readThing 72 = .ok (.isub, 1) := by decide +kernel
theorem dX9_readThing_73 : decode cX9_readThing 73 = .ok (.putfield 81, 3) := by decide +kernel
theorem dX9_readThing_76 : decode cX9_readThing 76 = .ok (.iconst 0, 1) := by decide +kernel
theorem dX9_readThing_77 : decode cX9_readThing 77 = .ok (.ireturn, 1) := by decide +kernel
set_option maxRecDepth 20000 in
theorem ggX9_readHouse_X9_readThing : GoodIn wsX9_readHouse wsX9_readThing := goodIn_r _ [11, 6, 1, 2, 4, 12, 13, 14, 10, 15, 16, 17, 18, 19, 20, 5, 21, 22, 23, 24, 25, 26, 27, 28, 3, 29, 30, 31, 32, 33, 34, 35, 36, 37, 38, 39, 40, 41, 42, 43, 44, 45, 46, 47, 48, 49, 50, 51, 52, 53, 54, 55, 56, 57, 58, 59, 60, 61, 62, 63, 64, 65, 66] (by decide +kernel) (by decide +kernel)
set_option maxRecDepth 20000 in
theorem gX9_readHouse_X9_readThing : GoodIn wsX9_readHouse (wsV RX9 110 RX9 yX9_readThing wsX9_readThing) := goodIn_app (goodIn_of _ (by decide +kernel)) ggX9_readHouse_X9_readThing
theorem dX9_readHouse_0 : decode cX9_readHouse 0 = .ok (.aload_n 0, 1) := by decide +kernel
theorem dX9_readHouse_1 : decode cX9_readHouse 1 = .ok (.iconst 0, 1) := by decide +kernel
theorem dX9_readHouse_2 : decode cX9_readHouse 2 = .ok (.putfield 81, 3) := by decide +kernel
theorem dX9_readHouse_5 : decode cX9_readHouse 5 = .ok (.aload_n 0, 1) := by decide +kernel
theorem dX9_readHouse_6 : decode cX9_readHouse 6 = .ok (.iconst 0, 1) := by decide +kernel
theorem dX9_readHouse_7 : decode cX9_readHouse 7 = .ok (.putfield 88, 3) := by decide +kernel
theorem dX9_readHouse_10 : decode cX9_readHouse 10 = .ok (.aload_n 0, 1) := by decide +kernel
theorem dX9_readHouse_11 : decode cX9_readHouse 11 = .ok (.iconst 0, 1) := by decide +kernel
theorem dX9_readHouse_12 : decode cX9_readHouse 12 = .ok (.putfield 93, 3) := by decide +kernel
theorem dX9_readHouse_15 : decode cX9_readHouse 15 = .ok (.aload_n 0, 1) := by decide +kernel
theorem dX9_readHouse_16 : decode cX9_readHouse 16 = .ok (.iconst 0, 1) := by decide +kernel
theorem dX9_readHouse_17 : decode cX9_readHouse 17 = .ok (.putfield 100, 3) := by decide +kernel
theorem dX9_readHouse_20 : decode cX9_readHouse 20 = .ok (.aload_n 0, 1) := by decide +kernel
theorem dX9_readHouse_21 : decode cX9_readHouse 21 = .ok (.getfield 78, 3) := by decide +kernel
theorem dX9_readHouse_24 : decode cX9_readHouse 24 = .ok (.ifCond .eq 14, 3) := by decide +kernel
theorem dX9_readHouse_27 : decode cX9_readHouse 27 = .ok (.aload_n 0, 1) := by decide +kernel
theorem dX9_readHouse_28 : decode cX9_readHouse 28 = .ok (.getfield 7, 3) := by decide +kernel
theorem dX9_readHouse_31 : decode cX9_readHouse 31 = .ok (.iconst 0, 1) := by decide +kernel
theorem dX9_readHouse_32 : decode cX9_readHouse 32 = .ok (.iaload, 1) := by decide +kernel
theorem dX9_readHouse_33 : decode cX9_readHouse 33 = .ok (.bipush 72, 2) := by decide +kernel
theorem dX9_readHouse_35 : decode cX9_readHouse 35 = .ok (.if_icmp .eq 5, 3) := by decide +kernel
theorem dX9_readHouse_38 : decode cX9_readHouse 38 = .ok (.iconst 0, 1) := by decide +kernel
theorem dX9_readHouse_39 : decode cX9_readHouse 39 = .ok (.ireturn, 1) := by decide +kernel
theorem dX9_readHouse_40 : decode cX9_readHouse 40 = .ok (.aload_n 0, 1) := by decide +kernel
theorem dX9_readHouse_41 : decode cX9_readHouse 41 = .ok (.iconst 1, 1) := by decide +kernel
theorem dX9_readHouse_42 : decode cX9_readHouse 42 = .ok (.putfield 81, 3) := by decide +kernel
theorem dX9_readHouse_45 : decode cX9_readHouse 45 = .ok (.aload_n 0, 1) := by decide +kernel
theorem dX9_readHouse_46 : decode cX9_readHouse 46 = .ok (.getfield 81, 3) := by decide +kernel
theorem dX9_readHouse_49 : decode cX9_readHouse 49 = .ok (.aload_n 0, 1) := by decide +kernel
theorem dX9_readHouse_50 : decode cX9_readHouse 50 = .ok (.getfield 78, 3) := by decide +kernel
theorem dX9_readHouse_53 : decode cX9_readHouse 53 = .ok (.if_icmp .ge 15, 3) := by decide +kernel
theorem dX9_readHouse_56 : decode cX9_readHouse 56 = .ok (.aload_n 0, 1) := by decide +kernel
theorem dX9_readHouse_57 : decode cX9_readHouse 57 = .ok (.invokevirtual 110, 3) := by decide +kernel
theorem dX9_readHouse_60 : decode cX9_readHouse 60 = .ok (.ifCond .ne (-15), 3) := by decide +kernel
theorem dX9_readHouse_63 : decode cX9_readHouse 63 = .ok (.aload_n 0, 1) := by decide +kernel
theorem dX9_readHouse_64 : decode cX9_readHouse 64 = .ok (.getfield 81, 3) := by decide +kernel
theorem dX9_readHouse_67 : decode cX9_readHouse 67 = .ok (.ireturn, 1) := by decide +kernel
theorem dX9_readHouse_68 : decode cX9_readHouse 68 = .ok (.bipush (-9), 2) := by decide +kernel
theorem dX9_readHouse_70 : decode cX9_readHouse 70 = .ok (.ireturn, 1) := by decide +kernel
set_option maxRecDepth 20000 in
theorem ggX9_fault_X9_readHouse : GoodIn wsX9_fault wsX9_readHouse := goodIn_r _ [6, 7, 8, 9, 10, 11, 12, 13, 14, 15, 5, 16, 17, 18, 19, 20, 21, 22, 23, 24, 25, 26, 27, 28, 29, 30, 31, 32, 33, 34, 35, 36, 37, 38, 39, 40, 41, 42, 43, 44, 45, 46, 47, 48, 49, 50, 51, 52, 53, 54, 55, 56, 57, 58, 59, 60, 61, 62, 63, 64, 65, 66, 67, 68, 69, 70, 71] (by decide +kernel) (by decide +kernel)
set_option maxRecDepth 20000 in
theorem gX9_fault_X9_readHouse : GoodIn wsX9_fault (wsV RX9 113 RX9 yX9_readHouse wsX9_readHouse) := goodIn_app (goodIn_of _ (by decide +kernel)) ggX9_fault_X9_readHouse
theorem dX9_fault_0 : decode cX9_fault 0 = .ok (.aload_n 0, 1) := by decide +kernel
theorem dX9_fault_1 : decode cX9_fault 1 = .ok (.iconst 0, 1) := by decide +kernel
theorem dX9_fault_2 : decode cX9_fault 2 = .ok (.putfield 62, 3) := by decide +kernel
theorem dX9_fault_5 : decode cX9_fault 5 = .ok (.aload_n 0, 1) := by decide +kernel
theorem dX9_fault_6 : decode cX9_fault 6 = .ok (.invokevirtual 113, 3) := by decide +kernel
theorem dX9_fault_9 : decode cX9_fault 9 = .ok (.ireturn, 1) := by decide +kernel
set_option maxRecDepth 20000 in
theorem ggX9_house_X9_readHouse : GoodIn wsX9_house wsX9_readHouse := goodIn_r _ [19, 20, 2, 21, 4, 22, 23, 24, 25, 26, 18, 27, 28, 29, 30, 31, 8, 32, 33, 34, 35, 36, 37, 38, 39, 40, 41, 42, 43, 9, 44, 45, 46, 47, 48, 49, 50, 51, 52, 53, 54, 55, 56, 57, 58, 59, 60, 61, 62, 63, 64, 65, 66, 67, 68, 69, 70, 71, 72, 73, 74, 75, 76, 77, 78, 79, 80] (by decide +kernel) (by decide +kernel)
set_option maxRecDepth 20000 in
theorem gX9_house_X9_readHouse : GoodIn wsX9_house (wsV RX9 113 RX9 yX9_readHouse wsX9_readHouse) := goodIn_app (goodIn_of _ (by decide +kernel)) ggX9_house_X9_readHouse
theorem dX9_house_0 : decode cX9_house 0 = .ok (.aload_n 0, 1) := by decide +kernel
theorem dX9_house_1 : decode cX9_house 1 = .ok (.iconst 0, 1) := by decide +kernel
theorem dX9_house_2 : decode cX9_house 2 = .ok (.putfield 62, 3) := by decide +kernel
theorem dX9_house_5 : decode cX9_house 5 = .ok (.aload_n 0, 1) := by decide +kernel
theorem dX9_house_6 : decode cX9_house 6 = .ok (.invokevirtual 113, 3) := by decide +kernel
theorem dX9_house_9 : decode cX9_house 9 = .ok (.bipush (-9), 2) := by decide +kernel
theorem dX9_house_11 : decode cX9_house 11 = .ok (.if_icmp .eq 6, 3) := by decide +kernel
theorem dX9_house_14 : decode cX9_house 14 = .ok (.bipush (-3), 2) := by decide +kernel
theorem dX9_house_16 : decode cX9_house 16 = .ok (.ireturn, 1) := by decide +kernel
theorem dX9_house_17 : decode cX9_house 17 = .ok (.aload_n 0, 1) := by decide +kernel
theorem dX9_house_18 : decode cX9_house 18 = .ok (.aload_n 0, 1) := by decide +kernel
theorem dX9_house_19 : decode cX9_house 19 = .ok (.getfield 88, 3) := by decide +kernel
theorem dX9_house_22 : decode cX9_house 22 = .ok (.putfield 66, 3) := by decide +kernel
theorem dX9_house_25 : decode cX9_house 25 = .ok (.aload_n 0, 1) := by decide +kernel
theorem dX9_house_26 : decode cX9_house 26 = .ok (.aload_n 0, 1) := by decide +kernel
theorem dX9_house_27 : decode cX9_house 27 = .ok (.getfield 100, 3) := by decide +kernel
theorem dX9_house_30 : decode cX9_house 30 = .ok (.putfield 73, 3) := by decide +kernel
theorem dX9_house_33 : decode cX9_house 33 = .ok (.iconst 0, 1) := by decide +kernel
theorem dX9_house_34 : decode cX9_house 34 = .ok (.istore_n 1, 1) := by decide +kernel
theorem dX9_house_35 : decode cX9_house 35 = .ok (.iload_n 1, 1) := by decide +kernel
theorem dX9_house_36 : decode cX9_house 36 = .ok (.bipush 19, 2) := by decide +kernel
theorem dX9_house_38 : decode cX9_house 38 = .ok (.if_icmp .ge 16, 3) := by decide +kernel
theorem dX9_house_41 : decode cX9_house 41 = .ok (.aload_n 0, 1) := by decide +kernel
theorem dX9_house_42 : decode cX9_house 42 = .ok (.getfield 31, 3) := by decide +kernel
theorem dX9_house_45 : decode cX9_house 45 = .ok (.iload_n 1, 1) := by decide +kernel
theorem dX9_house_46 : decode cX9_house 46 = .ok (.iconst 0, 1) := by decide +kernel
theorem dX9_house_47 : decode cX9_house 47 = .ok (.iastore, 1) := by decide +kernel
theorem dX9_house_48 : decode cX9_house 48 = .ok (.iinc 1 1, 3) := by decide +kernel
theorem dX9_house_51 : decode cX9_house 51 = .ok (.goto (-16), 3) := by decide +kernel
theorem dX9_house_54 : decode cX9_house 54 = .ok (.iconst 0, 1) := by decide +kernel
theorem dX9_house_55 : decode cX9_house 55 = .ok (.istore_n 1, 1) := by decide +kernel
theorem dX9_house_56 : decode cX9_house 56 = .ok (.iload_n 1, 1) := by decide +kernel
theorem dX9_house_57 : decode cX9_house 57 = .ok (.aload_n 0, 1) := by decide +kernel
theorem dX9_house_58 : decode cX9_house 58 = .ok (.getfield 66, 3) := by decide +kernel
theorem dX9_house_61 : decode cX9_house 61 = .ok (.if_icmp .ge 21, 3) := by decide +kernel
theorem dX9_house_64 : decode cX9_house 64 = .ok (.aload_n 0, 1) := by decide +kernel
theorem dX9_house_65 : decode cX9_house 65 = .ok (.getfield 13, 3) := by decide +kernel
theorem dX9_house_68 : decode cX9_house 68 = .ok (.iload_n 1, 1) := by decide +kernel
theorem dX9_house_69 : decode cX9_house 69 = .ok (.aload_n 0, 1) := by decide +kernel
theorem dX9_house_70 : decode cX9_house 70 = .ok (.getfield 25, 3) := by decide +kernel
theorem dX9_house_73 : decode cX9_house 73 = .ok (.iload_n 1, 1) := by decide +kernel
theorem dX9_house_74 : decode cX9_house 74 = .ok (.iaload, 1) := by decide +kernel
theorem dX9_house_75 : decode cX9_house 75 = .ok (.iastore, 1) := by decide +kernel
theorem dX9_house_76 : decode cX9_house 76 = .ok (.iinc 1 1, 3) := by decide +kernel
theorem dX9_house_79 : decode cX9_house 79 = .ok (.goto (-23), 3) := by decide +kernel
theorem dX9_house_82 : decode cX9_house 82 = .ok (.iconst 0, 1) := by decide +kernel
theorem dX9_house_83 : decode cX9_house 83 = .ok (.istore_n 1, 1) := by decide +kernel
theorem dX9_house_84 : decode cX9_house 84 = .ok (.iload_n 1, 1) := by decide +kernel
theorem dX9_house_85 : decode cX9_house 85 = .ok (.aload_n 0, 1) := by decide +kernel
theorem dX9_house_86 : decode cX9_house 86 = .ok (.getfield 73, 3) := by decide +kernel
theorem dX9_house_89 : decode cX9_house 89 = .ok (.if_icmp .ge 86, 3) := by decide +kernel
theorem dX9_house_92 : decode cX9_house 92 = .ok (.aload_n 0, 1) := by decide +kernel
theorem dX9_house_93 : decode cX9_house 93 = .ok (.getfield 31, 3) := by decide +kernel
theorem dX9_house_96 : decode cX9_house 96 = .ok (.iload_n 1, 1) := by decide +kernel
theorem dX9_house_97 : decode cX9_house 97 = .ok (.aload_n 0, 1) := by decide +kernel
theorem dX9_house_98 : decode cX9_house 98 = .ok (.getfield 28, 3) := by decide +kernel
theorem dX9_house_101 : decode cX9_house 101 = .ok (.iconst 4, 1) := by decide +kernel
theorem dX9_house_102 : decode cX9_house 102 = .ok (.iload_n 1, 1) := by decide +kernel
theorem dX9_house_103 : decode cX9_house 103 = .ok (.imul, 1) := by decide +kernel
theorem dX9_house_104 : decode cX9_house 104 = .ok (.iaload, 1) := by decide +kernel
theorem dX9_house_105 : decode cX9_house 105 = .ok (.iastore, 1) := by decide +kernel
theorem dX9_house_106 : decode cX9_house 106 = .ok (.aload_n 0, 1) := by decide +kernel
theorem dX9_house_107 : decode cX9_house 107 = .ok (.getfield 16, 3) := by decide +kernel
theorem dX9_house_110 : decode cX9_house 110 = .ok (.iload_n 1, 1) := by decide +kernel
theorem dX9_house_111 : decode cX9_house 111 = .ok (.aload_n 0, 1) := by decide +kernel
theorem dX9_house_112 : decode cX9_house 112 = .ok (.getfield 28, 3) := by decide +kernel
theorem dX9_house_115 : decode cX9_house 115 = .ok (.iconst 4, 1) := by decide +kernel
theorem dX9_house_116 : decode cX9_house 116 = .ok (.iload_n 1, 1) := by decide +kernel
theorem dX9_house_117 : decode cX9_house 117 = .ok (.imul, 1) := by decide +kernel
theorem dX9_house_118 : decode cX9_house 118 = .ok (.iconst 1, 1) := by decide +kernel
theorem dX9_house_119 : decode cX9_house 119 = .ok (.iadd, 1) := by decide +kernel
theorem dX9_house_120 : decode cX9_house 120 = .ok (.iaload, 1) := by decide +kernel
theorem dX9_house_121 : decode cX9_house 121 = .ok (.iastore, 1) := by decide +kernel
theorem dX9_house_122 : decode cX9_house 122 = .ok (.aload_n 0, 1) := by decide +kernel
theorem dX9_house_123 : decode cX9_house 123 = .ok (.getfield 19, 3) := by decide +kernel
theorem dX9_house_126 : decode cX9_house 126 = .ok (.iload_n 1, 1) := by decide +kernel
theorem dX9_house_127 : decode cX9_house 127 = .ok (.aload_n 0, 1) := by decide +kernel
theorem dX9_house_128 : decode cX9_house 128 = .ok (.getfield 28, 3) := by decide +kernel
theorem dX9_house_131 : decode cX9_house 131 = .ok (.iconst 4, 1) := by decide +kernel
theorem dX9_house_132 : decode cX9_house 132 = .ok (.iload_n 1, 1) := by decide +kernel
theorem dX9_house_133 : decode cX9_house 133 = .ok (.imul, 1) := by decide +kernel
theorem dX9_house_134 : decode cX9_house 134 = .ok (.iconst 2, 1) := by decide +kernel
theorem dX9_house_135 : decode cX9_house 135 = .ok (.iadd, 1) := by decide +kernel
theorem dX9_house_136 : decode cX9_house 136 = .ok (.iaload, 1) := by decide +kernel
theorem dX9_house_137 : decode cX9_house 137 = .ok (.iastore, 1) := by decide +kernel
theorem dX9_house_138 : decode cX9_house 138 = .ok (.aload_n 0, 1) := by decide +kernel
theorem dX9_house_139 : decode cX9_house 139 = .ok (.getfield 22, 3) := by decide +kernel
theorem dX9_house_142 : decode cX9_house 142 = .ok (.iload_n 1, 1) := by decide +kernel
theorem dX9_house_143 : decode cX9_house 143 = .ok (.aload_n 0, 1) := by decide +kernel
theorem dX9_house_144 : decode cX9_house 144 = .ok (.getfield 28, 3) := by decide +kernel
theorem dX9_house_147 : decode cX9_house 147 = .ok (.iconst 4, 1) := by decide +kernel
theorem dX9_house_148 : decode cX9_house 148 = .ok (.iload_n 1, 1) := by decide +kernel
theorem dX9_house_149 : decode cX9_house 149 = .ok (.imul, 1) := by decide +kernel
theorem dX9_house_150 : decode cX9_house 150 = .ok (.iconst 3, 1) := by decide +kernel
theorem dX9_house_151 : decode cX9_house 151 = .ok (.iadd, 1) := by decide +kernel
theorem dX9_house_152 : decode cX9_house 152 = .ok (.iaload, 1) := by decide +kernel
theorem dX9_house_153 : decode cX9_house 153 = .ok (.iastore, 1) := by decide +kernel
theorem dX9_house_154 : decode cX9_house 154 = .ok (.aload_n 0, 1) := by decide +kernel
theorem dX9_house_155 : decode cX9_house 155 = .ok (.getfield 31, 3) := by decide +kernel
theorem dX9_house_158 : decode cX9_house 158 = .ok (.bipush 7, 2) := by decide +kernel
theorem dX9_house_160 : decode cX9_house 160 = .ok (.iload_n 1, 1) := by decide +kernel
theorem dX9_house_161 : decode cX9_house 161 = .ok (.iadd, 1) := by decide +kernel
theorem dX9_house_162 : decode cX9_house 162 = .ok (.aload_n 0, 1) := by decide +kernel
theorem dX9_house_163 : decode cX9_house 163 = .ok (.getfield 19, 3) := by decide +kernel
theorem dX9_house_166 : decode cX9_house 166 = .ok (.iload_n 1, 1) := by decide +kernel
theorem dX9_house_167 : decode cX9_house 167 = .ok (.iaload, 1) := by decide +kernel
theorem dX9_house_168 : decode cX9_house 168 = .ok (.iastore, 1) := by decide +kernel
theorem dX9_house_169 : decode cX9_house 169 = .ok (.iinc 1 1, 3) := by decide +kernel
theorem dX9_house_172 : decode cX9_house 172 = .ok (.goto (-88), 3) := by decide +kernel
theorem dX9_house_175 : decode cX9_house 175 = .ok (.aload_n 0, 1) := by decide +kernel
theorem dX9_house_176 : decode cX9_house 176 = .ok (.iconst 0, 1) := by decide +kernel
theorem dX9_house_177 : decode cX9_house 177 = .ok (.putfield 117, 3) := by decide +kernel
theorem dX9_house_180 : decode cX9_house 180 = .ok (.aload_n 0, 1) := by decide +kernel
theorem dX9_house_181 : decode cX9_house 181 = .ok (.getfield 43, 3) := by decide +kernel
theorem dX9_house_184 : decode cX9_house 184 = .ok (.iconst 0, 1) := by decide +kernel
theorem dX9_house_185 : decode cX9_house 185 = .ok (.iconst 0, 1) := by decide +kernel
theorem dX9_house_186 : decode cX9_house 186 = .ok (.bastore, 1) := by decide +kernel
theorem dX9_house_187 : decode cX9_house 187 = .ok (.aload_n 0, 1) := by decide +kernel
theorem dX9_house_188 : decode cX9_house 188 = .ok (.getfield 43, 3) := by decide +kernel
theorem dX9_house_191 : decode cX9_house 191 = .ok (.iconst 1, 1) := by decide +kernel
theorem dX9_house_192 : decode cX9_house 192 = .ok (.iconst 0, 1) := by decide +kernel
theorem dX9_house_193 : decode cX9_house 193 = .ok (.bastore, 1) := by decide +kernel
theorem dX9_house_194 : decode cX9_house 194 = .ok (.bipush 10, 2) := by decide +kernel
theorem dX9_house_196 : decode cX9_house 196 = .ok (.aload_n 0, 1) := by decide +kernel
theorem dX9_house_197 : decode cX9_house 197 = .ok (.getfield 66, 3) := by decide +kernel
theorem dX9_house_200 : decode cX9_house 200 = .ok (.imul, 1) := by decide +kernel
theorem dX9_house_201 : decode cX9_house 201 = .ok (.aload_n 0, 1) := by decide +kernel
theorem dX9_house_202 : decode cX9_house 202 = .ok (.getfield 73, 3) := by decide +kernel
theorem dX9_house_205 : decode cX9_house 205 = .ok (.iadd, 1) := by decide +kernel
theorem dX9_house_206 : decode cX9_house 206 = .ok (.ireturn, 1) := by decide +kernel
theorem dX9_areBeside_0 : decode cX9_areBeside 0 = .ok (.aload_n 0, 1) := by decide +kernel
theorem dX9_areBeside_1 : decode cX9_areBeside 1 = .ok (.iload_n 1, 1) := by decide +kernel
theorem dX9_areBeside_2 : decode cX9_areBeside 2 = .ok (.iaload, 1) := by decide +kernel
theorem dX9_areBeside_3 : decode cX9_areBeside 3 = .ok (.aload_n 0, 1) := by decide +kernel
theorem dX9_areBeside_4 : decode cX9_areBeside 4 = .ok (.iload_n 2, 1) := by decide +kernel
theorem dX9_areBeside_5 : decode cX9_areBeside 5 = .ok (.iaload, 1) := by decide +kernel
theorem dX9_areBeside_6 : decode cX9_areBeside 6 = .ok (.isub, 1) := by decide +kernel
theorem dX9_areBeside_7 : decode cX9_areBeside 7 = .ok (.iconst 1, 1) := by decide +kernel
theorem dX9_areBeside_8 : decode cX9_areBeside 8 = .ok (.if_icmp .eq 14, 3) := by decide +kernel
theorem dX9_areBeside_11 : decode cX9_areBeside 11 = .ok (.aload_n 0, 1) := by decide +kernel
theorem dX9_areBeside_12 : decode cX9_areBeside 12 = .ok (.iload_n 2, 1) := by decide +kernel
theorem dX9_areBeside_13 : decode cX9_areBeside 13 = .ok (.iaload, 1) := by decide +kernel
theorem dX9_areBeside_14 : decode cX9_areBeside 14 = .ok (.aload_n 0, 1) := by decide +kernel
theorem dX9_areBeside_15 : decode cX9_areBeside 15 = .ok (.iload_n 1, 1) := by decide +kernel
theorem dX9_areBeside_16 : decode cX9_areBeside 16 = .ok (.iaload, 1) := by decide +kernel
theorem dX9_areBeside_17 : decode cX9_areBeside 17 = .ok (.isub, 1) := by decide +kernel
theorem dX9_areBeside_18 : decode cX9_areBeside 18 = .ok (.iconst 1, 1) := by decide +kernel
theorem dX9_areBeside_19 : decode cX9_areBeside 19 = .ok (.if_icmp .ne 7, 3) := by decide +kernel
theorem dX9_areBeside_22 : decode cX9_areBeside 22 = .ok (.iconst 1, 1) := by decide +kernel
theorem dX9_areBeside_23 : decode cX9_areBeside 23 = .ok (.goto 4, 3) := by decide +kernel
theorem dX9_areBeside_26 : decode cX9_areBeside 26 = .ok (.iconst 0, 1) := by decide +kernel
theorem dX9_areBeside_27 : decode cX9_areBeside 27 = .ok (.ireturn, 1) := by decide +kernel
set_option maxRecDepth 20000 in
theorem ggX9_hushedOf_X9_has : GoodIn wsX9_hushedOf wsX9_has := goodIn_r _ [6] (by decide +kernel) (by decide +kernel)
set_option maxRecDepth 20000 in
theorem gX9_hushedOf_X9_has : GoodIn wsX9_hushedOf (va_wsS RX9 96 yX9_has wsX9_has) := goodIn_app (goodIn_of _ (by decide +kernel)) ggX9_hushedOf_X9_has
set_option maxRecDepth 20000 in
theorem ggX9_hushedOf_X9_areBeside : GoodIn wsX9_hushedOf wsX9_areBeside := goodIn_r _ [9] (by decide +kernel) (by decide +kernel)
set_option maxRecDepth 20000 in
theorem gX9_hushedOf_X9_areBeside : GoodIn wsX9_hushedOf (va_wsS RX9 120 yX9_areBeside wsX9_areBeside) := goodIn_app (goodIn_of _ (by decide +kernel)) ggX9_hushedOf_X9_areBeside
theorem dX9_hushedOf_0 : decode cX9_hushedOf 0 = .ok (.iconst 0, 1) := by decide +kernel
theorem dX9_hushedOf_1 : decode cX9_hushedOf 1 = .ok (.istore_n 3, 1) := by decide +kernel
theorem dX9_hushedOf_2 : decode cX9_hushedOf 2 = .ok (.iconst 0, 1) := by decide +kernel
theorem dX9_hushedOf_3 : decode cX9_hushedOf 3 = .ok (.istore 4, 2) := by decide +kernel
theorem dX9_hushedOf_5 : decode cX9_hushedOf 5 = .ok (.iload 4, 2) := by decide +kernel
theorem dX9_hushedOf_7 : decode cX9_hushedOf 7 = .ok (.aload_n 0, 1) := by decide +kernel
theorem dX9_hushedOf_8 : decode cX9_hushedOf 8 = .ok (.getfield 73, 3) := by decide +kernel
theorem dX9_hushedOf_11 : decode cX9_hushedOf 11 = .ok (.if_icmp .ge 102, 3) := by decide +kernel
theorem dX9_hushedOf_14 : decode cX9_hushedOf 14 = .ok (.iconst 0, 1) := by decide +kernel
theorem dX9_hushedOf_15 : decode cX9_hushedOf 15 = .ok (.istore 5, 2) := by decide +kernel
theorem dX9_hushedOf_17 : decode cX9_hushedOf 17 = .ok (.iload 5, 2) := by decide +kernel
theorem dX9_hushedOf_19 : decode cX9_hushedOf 19 = .ok (.aload_n 0, 1) := by decide +kernel
theorem dX9_hushedOf_20 : decode cX9_hushedOf 20 = .ok (.getfield 73, 3) := by decide +kernel
theorem dX9_hushedOf_23 : decode cX9_hushedOf 23 = .ok (.if_icmp .ge 84, 3) := by decide +kernel
theorem dX9_hushedOf_26 : decode cX9_hushedOf 26 = .ok (.iload_n 2, 1) := by decide +kernel
theorem dX9_hushedOf_27 : decode cX9_hushedOf 27 = .ok (.iload 5, 2) := by decide +kernel
theorem dX9_hushedOf_29 : decode cX9_hushedOf 29 = .ok (.invokestatic 96, 3) := by decide +kernel
theorem dX9_hushedOf_32 : decode cX9_hushedOf 32 = .ok (.ifCond .eq 28, 3) := by decide +kernel
theorem dX9_hushedOf_35 : decode cX9_hushedOf 35 = .ok (.aload_n 0, 1) := by decide +kernel
theorem dX9_hushedOf_36 : decode cX9_hushedOf 36 = .ok (.getfield 22, 3) := by decide +kernel
theorem dX9_hushedOf_39 : decode cX9_hushedOf 39 = .ok (.iload 5, 2) := by decide +kernel
theorem dX9_hushedOf_41 : decode cX9_hushedOf 41 = .ok (.iaload, 1) := by decide +kernel
theorem dX9_hushedOf_42 : decode cX9_hushedOf 42 = .ok (.iconst 3, 1) := by decide +kernel
theorem dX9_hushedOf_43 : decode cX9_hushedOf 43 = .ok (.if_icmp .ne 17, 3) := by decide +kernel
theorem dX9_hushedOf_46 : decode cX9_hushedOf 46 = .ok (.aload_n 1, 1) := by decide +kernel
theorem dX9_hushedOf_47 : decode cX9_hushedOf 47 = .ok (.bipush 7, 2) := by decide +kernel
theorem dX9_hushedOf_49 : decode cX9_hushedOf 49 = .ok (.iload 5, 2) := by decide +kernel
theorem dX9_hushedOf_51 : decode cX9_hushedOf 51 = .ok (.iadd, 1) := by decide +kernel
theorem dX9_hushedOf_52 : decode cX9_hushedOf 52 = .ok (.iaload, 1) := by decide +kernel
theorem dX9_hushedOf_53 : decode cX9_hushedOf 53 = .ok (.ifCond .le 7, 3) := by decide +kernel
theorem dX9_hushedOf_56 : decode cX9_hushedOf 56 = .ok (.iconst 1, 1) := by decide +kernel
theorem dX9_hushedOf_57 : decode cX9_hushedOf 57 = .ok (.goto 4, 3) := by decide +kernel
theorem dX9_hushedOf_60 : decode cX9_hushedOf 60 = .ok (.iconst 0, 1) := by decide +kernel
theorem dX9_hushedOf_61 : decode cX9_hushedOf 61 = .ok (.istore 6, 2) := by decide +kernel
theorem dX9_hushedOf_63 : decode cX9_hushedOf 63 = .ok (.iload_n 3, 1) := by decide +kernel
theorem dX9_hushedOf_64 : decode cX9_hushedOf 64 = .ok (.iload 6, 2) := by decide +kernel
theorem dX9_hushedOf_66 : decode cX9_hushedOf 66 = .ok (.ifCond .eq 32, 3) := by decide +kernel
theorem dX9_hushedOf_69 : decode cX9_hushedOf 69 = .ok (.aload_n 0, 1) := by decide +kernel
theorem dX9_hushedOf_70 : decode cX9_hushedOf 70 = .ok (.getfield 22, 3) := by decide +kernel
theorem dX9_hushedOf_73 : decode cX9_hushedOf 73 = .ok (.iload 4, 2) := by decide +kernel
theorem dX9_hushedOf_75 : decode cX9_hushedOf 75 = .ok (.iaload, 1) := by decide +kernel
theorem dX9_hushedOf_76 : decode cX9_hushedOf 76 = .ok (.iconst 3, 1) := by decide +kernel
theorem dX9_hushedOf_77 : decode cX9_hushedOf 77 = .ok (.if_icmp .eq 21, 3) := by decide +kernel
theorem dX9_hushedOf_80 : decode cX9_hushedOf 80 = .ok (.aload_n 1, 1) := by decide +kernel
theorem dX9_hushedOf_81 : decode cX9_hushedOf 81 = .ok (.iload 4, 2) := by decide +kernel
theorem dX9_hushedOf_83 : decode cX9_hushedOf 83 = .ok (.iload 5, 2) := by decide +kernel
theorem dX9_hushedOf_85 : decode cX9_hushedOf 85 = .ok (.invokestatic 120, 3) := by decide +kernel
theorem dX9_hushedOf_88 : decode cX9_hushedOf 88 = .ok (.ifCond .eq 10, 3) := by decide +kernel
theorem dX9_hushedOf_91 : decode cX9_hushedOf 91 = .ok (.iconst 1, 1) := by decide +kernel
theorem dX9_hushedOf_92 : decode cX9_hushedOf 92 = .ok (.iload 4, 2) := by decide +kernel
theorem dX9_hushedOf_94 : decode cX9_hushedOf 94 = .ok (.ishl, 1) := by decide +kernel
theorem dX9_hushedOf_95 : decode cX9_hushedOf 95 = .ok (.goto 4, 3) := by decide +kernel
theorem dX9_hushedOf_98 : decode cX9_hushedOf 98 = .ok (.iconst 0, 1) := by decide +kernel
theorem dX9_hushedOf_99 : decode cX9_hushedOf 99 = .ok (.ior, 1) := by decide +kernel
theorem dX9_hushedOf_100 : decode cX9_hushedOf 100 = .ok (.istore_n 3, 1) := by decide +kernel
theorem dX9_hushedOf_101 : decode cX9_hushedOf 101 = .ok (.iinc 5 1, 3) := by decide +kernel
theorem dX9_hushedOf_104 : decode cX9_hushedOf 104 = .ok (.goto (-87), 3) := by decide +kernel
theorem dX9_hushedOf_107 : decode cX9_hushedOf 107 = .ok (.iinc 4 1, 3) := by decide +kernel
theorem dX9_hushedOf_110 : decode cX9_hushedOf 110 = .ok (.goto (-105), 3) := by decide +kernel
theorem dX9_hushedOf_113 : decode cX9_hushedOf 113 = .ok (.iload_n 3, 1) := by decide +kernel
theorem dX9_hushedOf_114 : decode cX9_hushedOf 114 = .ok (.ireturn, 1) := by decide +kernel
set_option maxRecDepth 20000 in
theorem ggX9_isMoved_X9_has : GoodIn wsX9_isMoved wsX9_has := goodIn_r _ [5] (by decide +kernel) (by decide +kernel)
set_option maxRecDepth 20000 in
theorem gX9_isMoved_X9_has : GoodIn wsX9_isMoved (va_wsS RX9 96 yX9_has wsX9_has) := goodIn_app (goodIn_of _ (by decide +kernel)) ggX9_isMoved_X9_has
set_option maxRecDepth 20000 in
theorem ggX9_isMoved_X9_areBeside : GoodIn wsX9_isMoved wsX9_areBeside := goodIn_r _ [8] (by decide +kernel) (by decide +kernel)
set_option maxRecDepth 20000 in
theorem gX9_isMoved_X9_areBeside : GoodIn wsX9_isMoved (va_wsS RX9 120 yX9_areBeside wsX9_areBeside) := goodIn_app (goodIn_of _ (by decide +kernel)) ggX9_isMoved_X9_areBeside
theorem dX9_isMoved_0 : decode cX9_isMoved 0 = .ok (.iconst 0, 1) := by decide +kernel
theorem dX9_isMoved_1 : decode cX9_isMoved 1 = .ok (.istore 4, 2) := by decide +kernel
theorem dX9_isMoved_3 : decode cX9_isMoved 3 = .ok (.iconst 0, 1) := by decide +kernel
theorem dX9_isMoved_4 : decode cX9_isMoved 4 = .ok (.istore 5, 2) := by decide +kernel
theorem dX9_isMoved_6 : decode cX9_isMoved 6 = .ok (.iload 5, 2) := by decide +kernel
theorem dX9_isMoved_8 : decode cX9_isMoved 8 = .ok (.aload_n 0, 1) := by decide +kernel
theorem dX9_isMoved_9 : decode cX9_isMoved 9 = .ok (.getfield 73, 3) := by decide +kernel
theorem dX9_isMoved_12 : decode cX9_isMoved 12 = .ok (.if_icmp .ge 40, 3) := by decide +kernel
theorem dX9_isMoved_15 : decode cX9_isMoved 15 = .ok (.iload 4, 2) := by decide +kernel
theorem dX9_isMoved_17 : decode cX9_isMoved 17 = .ok (.ifCond .ne 22, 3) := by decide +kernel
theorem dX9_isMoved_20 : decode cX9_isMoved 20 = .ok (.iload_n 3, 1) := by decide +kernel
theorem dX9_isMoved_21 : decode cX9_isMoved 21 = .ok (.iload 5, 2) := by decide +kernel
theorem dX9_isMoved_23 : decode cX9_isMoved 23 = .ok (.invokestatic 96, 3) := by decide +kernel
theorem dX9_isMoved_26 : decode cX9_isMoved 26 = .ok (.ifCond .eq 17, 3) := by decide +kernel
theorem dX9_isMoved_29 : decode cX9_isMoved 29 = .ok (.aload_n 1, 1) := by decide +kernel
theorem dX9_isMoved_30 : decode cX9_isMoved 30 = .ok (.iload_n 2, 1) := by decide +kernel
theorem dX9_isMoved_31 : decode cX9_isMoved 31 = .ok (.iload 5, 2) := by decide +kernel
theorem dX9_isMoved_33 : decode cX9_isMoved 33 = .ok (.invokestatic 120, 3) := by decide +kernel
theorem dX9_isMoved_36 : decode cX9_isMoved 36 = .ok (.ifCond .eq 7, 3) := by decide +kernel
theorem dX9_isMoved_39 : decode cX9_isMoved 39 = .ok (.iconst 1, 1) := by decide +kernel
theorem dX9_isMoved_40 : decode cX9_isMoved 40 = .ok (.goto 4, 3) := by decide +kernel
theorem dX9_isMoved_43 : decode cX9_isMoved 43 = .ok (.iconst 0, 1) := by decide +kernel
theorem dX9_isMoved_44 : decode cX9_isMoved 44 = .ok (.istore 4, 2) := by decide +kernel
theorem dX9_isMoved_46 : decode cX9_isMoved 46 = .ok (.iinc 5 1, 3) := by decide +kernel
theorem dX9_isMoved_49 : decode cX9_isMoved 49 = .ok (.goto (-43), 3) := by decide +kernel
theorem dX9_isMoved_52 : decode cX9_isMoved 52 = .ok (.iload 4, 2) := by decide +kernel
theorem dX9_isMoved_54 : decode cX9_isMoved 54 = .ok (.ireturn, 1) := by decide +kernel
set_option maxRecDepth 20000 in
theorem ggX9_clapsOf_X9_hushedOf : GoodIn wsX9_clapsOf wsX9_hushedOf := goodIn_r _ [8, 1, 3, 9, 10, 7, 11, 12, 13, 14, 19, 20, 21, 22, 23, 24, 25, 26, 27, 28, 29, 30, 31, 32, 33, 34, 35, 36, 37, 38, 39, 40, 41, 42, 43, 44, 45, 46, 47, 48, 49, 50, 51, 52] (by decide +kernel) (by decide +kernel)
set_option maxRecDepth 20000 in
theorem gX9_clapsOf_X9_hushedOf : GoodIn wsX9_clapsOf (wsV RX9 124 RX9 yX9_hushedOf wsX9_hushedOf) := goodIn_app (goodIn_of _ (by decide +kernel)) ggX9_clapsOf_X9_hushedOf
set_option maxRecDepth 20000 in
theorem ggX9_clapsOf_X9_has : GoodIn wsX9_clapsOf wsX9_has := goodIn_r _ [11] (by decide +kernel) (by decide +kernel)
set_option maxRecDepth 20000 in
theorem gX9_clapsOf_X9_has : GoodIn wsX9_clapsOf (va_wsS RX9 96 yX9_has wsX9_has) := goodIn_app (goodIn_of _ (by decide +kernel)) ggX9_clapsOf_X9_has
set_option maxRecDepth 20000 in
theorem ggX9_clapsOf_X9_isMoved : GoodIn wsX9_clapsOf wsX9_isMoved := goodIn_r _ [18, 1, 9, 10, 7, 11, 12, 13, 14, 19, 20, 21, 22, 23, 24, 25, 26, 27, 28, 29, 30, 31, 32, 33, 34, 35, 36, 37, 38, 39, 40, 41, 42, 43, 44, 45, 46, 47, 48, 49, 50, 51, 52] (by decide +kernel) (by decide +kernel)
set_option maxRecDepth 20000 in
theorem gX9_clapsOf_X9_isMoved : GoodIn wsX9_clapsOf (wsV RX9 128 RX9 yX9_isMoved wsX9_isMoved) := goodIn_app (goodIn_of _ (by decide +kernel)) ggX9_clapsOf_X9_isMoved
theorem dX9_clapsOf_0 : decode cX9_clapsOf 0 = .ok (.aload_n 0, 1) := by decide +kernel
theorem dX9_clapsOf_1 : decode cX9_clapsOf 1 = .ok (.aload_n 1, 1) := by decide +kernel
theorem dX9_clapsOf_2 : decode cX9_clapsOf 2 = .ok (.iload_n 3, 1) := by decide +kernel
theorem dX9_clapsOf_3 : decode cX9_clapsOf 3 = .ok (.invokevirtual 124, 3) := by decide +kernel
theorem dX9_clapsOf_6 : decode cX9_clapsOf 6 = .ok (.istore 4, 2) := by decide +kernel
theorem dX9_clapsOf_8 : decode cX9_clapsOf 8 = .ok (.iconst 0, 1) := by decide +kernel
theorem dX9_clapsOf_9 : decode cX9_clapsOf 9 = .ok (.istore 5, 2) := by decide +kernel
theorem dX9_clapsOf_11 : decode cX9_clapsOf 11 = .ok (.iconst 0, 1) := by decide +kernel
theorem dX9_clapsOf_12 : decode cX9_clapsOf 12 = .ok (.istore 6, 2) := by decide +kernel
theorem dX9_clapsOf_14 : decode cX9_clapsOf 14 = .ok (.iload 6, 2) := by decide +kernel
theorem dX9_clapsOf_16 : decode cX9_clapsOf 16 = .ok (.aload_n 0, 1) := by decide +kernel
theorem dX9_clapsOf_17 : decode cX9_clapsOf 17 = .ok (.getfield 73, 3) := by decide +kernel
theorem dX9_clapsOf_20 : decode cX9_clapsOf 20 = .ok (.if_icmp .ge 85, 3) := by decide +kernel
theorem dX9_clapsOf_23 : decode cX9_clapsOf 23 = .ok (.iload_n 3, 1) := by decide +kernel
theorem dX9_clapsOf_24 : decode cX9_clapsOf 24 = .ok (.iload 6, 2) := by decide +kernel
theorem dX9_clapsOf_26 : decode cX9_clapsOf 26 = .ok (.invokestatic 96, 3) := by decide +kernel
theorem dX9_clapsOf_29 : decode cX9_clapsOf 29 = .ok (.ifCond .eq 49, 3) := by decide +kernel
theorem dX9_clapsOf_32 : decode cX9_clapsOf 32 = .ok (.iload 4, 2) := by decide +kernel
theorem dX9_clapsOf_34 : decode cX9_clapsOf 34 = .ok (.iload 6, 2) := by decide +kernel
theorem dX9_clapsOf_36 : decode cX9_clapsOf 36 = .ok (.invokestatic 96, 3) := by decide +kernel
theorem dX9_clapsOf_39 : decode cX9_clapsOf 39 = .ok (.ifCond .ne 39, 3) := by decide +kernel
theorem dX9_clapsOf_42 : decode cX9_clapsOf 42 = .ok (.aload_n 0, 1) := by decide +kernel
theorem dX9_clapsOf_43 : decode cX9_clapsOf 43 = .ok (.getfield 16, 3) := by decide +kernel
theorem dX9_clapsOf_46 : decode cX9_clapsOf 46 = .ok (.iload 6, 2) := by decide +kernel
theorem dX9_clapsOf_48 : decode cX9_clapsOf 48 = .ok (.iaload, 1) := by decide +kernel
theorem dX9_clapsOf_49 : decode cX9_clapsOf 49 = .ok (.iload_n 2, 1) := by decide +kernel
theorem dX9_clapsOf_50 : decode cX9_clapsOf 50 = .ok (.if_icmp .ne 28, 3) := by decide +kernel
theorem dX9_clapsOf_53 : decode cX9_clapsOf 53 = .ok (.aload_n 1, 1) := by decide +kernel
theorem dX9_clapsOf_54 : decode cX9_clapsOf 54 = .ok (.bipush 7, 2) := by decide +kernel
theorem dX9_clapsOf_56 : decode cX9_clapsOf 56 = .ok (.iload 6, 2) := by decide +kernel
theorem dX9_clapsOf_58 : decode cX9_clapsOf 58 = .ok (.iadd, 1) := by decide +kernel
theorem dX9_clapsOf_59 : decode cX9_clapsOf 59 = .ok (.iaload, 1) := by decide +kernel
theorem dX9_clapsOf_60 : decode cX9_clapsOf 60 = .ok (.ifCond .le 18, 3) := by decide +kernel
theorem dX9_clapsOf_63 : decode cX9_clapsOf 63 = .ok (.aload_n 0, 1) := by decide +kernel
theorem dX9_clapsOf_64 : decode cX9_clapsOf 64 = .ok (.getfield 22, 3) := by decide +kernel
theorem dX9_clapsOf_67 : decode cX9_clapsOf 67 = .ok (.iload 6, 2) := by decide +kernel
theorem dX9_clapsOf_69 : decode cX9_clapsOf 69 = .ok (.iaload, 1) := by decide +kernel
theorem dX9_clapsOf_70 : decode cX9_clapsOf 70 = .ok (.iconst 3, 1) := by decide +kernel
theorem dX9_clapsOf_71 : decode cX9_clapsOf 71 = .ok (.if_icmp .eq 7, 3) := by decide +kernel
theorem dX9_clapsOf_74 : decode cX9_clapsOf 74 = .ok (.iconst 1, 1) := by decide +kernel
theorem dX9_clapsOf_75 : decode cX9_clapsOf 75 = .ok (.goto 4, 3) := by decide +kernel
theorem dX9_clapsOf_78 : decode cX9_clapsOf 78 = .ok (.iconst 0, 1) := by decide +kernel
theorem dX9_clapsOf_79 : decode cX9_clapsOf 79 = .ok (.istore 7, 2) := by decide +kernel
theorem dX9_clapsOf_81 : decode cX9_clapsOf 81 = .ok (.iload 5, 2) := by decide +kernel
theorem dX9_clapsOf_83 : decode cX9_clapsOf 83 = .ok (.iload 7, 2) := by decide +kernel
theorem dX9_clapsOf_85 : decode cX9_clapsOf 85 = .ok (.ifCond .eq 10, 3) := by decide +kernel
theorem dX9_clapsOf_88 : decode cX9_clapsOf 88 = .ok (.iconst 1, 1) := by decide +kernel
theorem dX9_clapsOf_89 : decode cX9_clapsOf 89 = .ok (.iload 6, 2) := by decide +kernel
theorem dX9_clapsOf_91 : decode cX9_clapsOf 91 = .ok (.ishl, 1) := by decide +kernel
theorem dX9_clapsOf_92 : decode cX9_clapsOf 92 = .ok (.goto 4, 3) := by decide +kernel
theorem dX9_clapsOf_95 : decode cX9_clapsOf 95 = .ok (.iconst 0, 1) := by decide +kernel
theorem dX9_clapsOf_96 : decode cX9_clapsOf 96 = .ok (.ior, 1) := by decide +kernel
theorem dX9_clapsOf_97 : decode cX9_clapsOf 97 = .ok (.istore 5, 2) := by decide +kernel
theorem dX9_clapsOf_99 : decode cX9_clapsOf 99 = .ok (.iinc 6 1, 3) := by decide +kernel
theorem dX9_clapsOf_102 : decode cX9_clapsOf 102 = .ok (.goto (-88), 3) := by decide +kernel
theorem dX9_clapsOf_105 : decode cX9_clapsOf 105 = .ok (.iconst 0, 1) := by decide +kernel
theorem dX9_clapsOf_106 : decode cX9_clapsOf 106 = .ok (.istore 6, 2) := by decide +kernel
theorem dX9_clapsOf_108 : decode cX9_clapsOf 108 = .ok (.iconst 0, 1) := by decide +kernel
theorem dX9_clapsOf_109 : decode cX9_clapsOf 109 = .ok (.istore 7, 2) := by decide +kernel
theorem dX9_clapsOf_111 : decode cX9_clapsOf 111 = .ok (.iload 7, 2) := by decide +kernel
theorem dX9_clapsOf_113 : decode cX9_clapsOf 113 = .ok (.aload_n 0, 1) := by decide +kernel
theorem dX9_clapsOf_114 : decode cX9_clapsOf 114 = .ok (.getfield 73, 3) := by decide +kernel
theorem dX9_clapsOf_117 : decode cX9_clapsOf 117 = .ok (.if_icmp .ge 53, 3) := by decide +kernel
theorem dX9_clapsOf_120 : decode cX9_clapsOf 120 = .ok (.iload 6, 2) := by decide +kernel
theorem dX9_clapsOf_122 : decode cX9_clapsOf 122 = .ok (.iload 5, 2) := by decide +kernel
theorem dX9_clapsOf_124 : decode cX9_clapsOf 124 = .ok (.iload 7, 2) := by decide +kernel
theorem dX9_clapsOf_126 : decode cX9_clapsOf 126 = .ok (.invokestatic 96, 3) := by decide +kernel
theorem dX9_clapsOf_129 : decode cX9_clapsOf 129 = .ok (.ifCond .eq 31, 3) := by decide +kernel
theorem dX9_clapsOf_132 : decode cX9_clapsOf 132 = .ok (.aload_n 0, 1) := by decide +kernel
theorem dX9_clapsOf_133 : decode cX9_clapsOf 133 = .ok (.getfield 22, 3) := by decide +kernel
theorem dX9_clapsOf_136 : decode cX9_clapsOf 136 = .ok (.iload 7, 2) := by decide +kernel
theorem dX9_clapsOf_138 : decode cX9_clapsOf 138 = .ok (.iaload, 1) := by decide +kernel
theorem dX9_clapsOf_139 : decode cX9_clapsOf 139 = .ok (.ifCond .ne 21, 3) := by decide +kernel
theorem dX9_clapsOf_142 : decode cX9_clapsOf 142 = .ok (.aload_n 1, 1) := by decide +kernel
theorem dX9_clapsOf_143 : decode cX9_clapsOf 143 = .ok (.bipush 7, 2) := by decide +kernel
theorem dX9_clapsOf_145 : decode cX9_clapsOf 145 = .ok (.iload 7, 2) := by decide +kernel
theorem dX9_clapsOf_147 : decode cX9_clapsOf 147 = .ok (.iadd, 1) := by decide +kernel
theorem dX9_clapsOf_148 : decode cX9_clapsOf 148 = .ok (.iaload, 1) := by decide +kernel
theorem dX9_clapsOf_149 : decode cX9_clapsOf 149 = .ok (.iconst 2, 1) := by decide +kernel
theorem dX9_clapsOf_150 : decode cX9_clapsOf 150 = .ok (.if_icmp .le 10, 3) := by decide +kernel
theorem dX9_clapsOf_153 : decode cX9_clapsOf 153 = .ok (.iconst 1, 1) := by decide +kernel
theorem dX9_clapsOf_154 : decode cX9_clapsOf 154 = .ok (.iload 7, 2) := by decide +kernel
theorem dX9_clapsOf_156 : decode cX9_clapsOf 156 = .ok (.ishl, 1) := by decide +kernel
theorem dX9_clapsOf_157 : decode cX9_clapsOf 157 = .ok (.goto 4, 3) := by decide +kernel
theorem dX9_clapsOf_160 : decode cX9_clapsOf 160 = .ok (.iconst 0, 1) := by decide +kernel
theorem dX9_clapsOf_161 : decode cX9_clapsOf 161 = .ok (.ior, 1) := by decide +kernel
theorem dX9_clapsOf_162 : decode cX9_clapsOf 162 = .ok (.istore 6, 2) := by decide +kernel
theorem dX9_clapsOf_164 : decode cX9_clapsOf 164 = .ok (.iinc 7 1, 3) := by decide +kernel
theorem dX9_clapsOf_167 : decode cX9_clapsOf 167 = .ok (.goto (-56), 3) := by decide +kernel
theorem dX9_clapsOf_170 : decode cX9_clapsOf 170 = .ok (.iconst 0, 1) := by decide +kernel
theorem dX9_clapsOf_171 : decode cX9_clapsOf 171 = .ok (.istore 7, 2) := by decide +kernel
theorem dX9_clapsOf_173 : decode cX9_clapsOf 173 = .ok (.iload 7, 2) := by decide +kernel
theorem dX9_clapsOf_175 : decode cX9_clapsOf 175 = .ok (.bipush 7, 2) := by decide +kernel
theorem dX9_clapsOf_177 : decode cX9_clapsOf 177 = .ok (.if_icmp .ge 73, 3) := by decide +kernel
theorem dX9_clapsOf_180 : decode cX9_clapsOf 180 = .ok (.iconst 0, 1) := by decide +kernel
theorem dX9_clapsOf_181 : decode cX9_clapsOf 181 = .ok (.istore 8, 2) := by decide +kernel
theorem dX9_clapsOf_183 : decode cX9_clapsOf 183 = .ok (.iload 8, 2) := by decide +kernel
theorem dX9_clapsOf_185 : decode cX9_clapsOf 185 = .ok (.aload_n 0, 1) := by decide +kernel
theorem dX9_clapsOf_186 : decode cX9_clapsOf 186 = .ok (.getfield 73, 3) := by decide +kernel
theorem dX9_clapsOf_189 : decode cX9_clapsOf 189 = .ok (.if_icmp .ge 55, 3) := by decide +kernel
theorem dX9_clapsOf_192 : decode cX9_clapsOf 192 = .ok (.iload 6, 2) := by decide +kernel
theorem dX9_clapsOf_194 : decode cX9_clapsOf 194 = .ok (.iload 5, 2) := by decide +kernel
theorem dX9_clapsOf_196 : decode cX9_clapsOf 196 = .ok (.iload 8, 2) := by decide +kernel
theorem dX9_clapsOf_198 : decode cX9_clapsOf 198 = .ok (.invokestatic 96, 3) := by decide +kernel
theorem dX9_clapsOf_201 : decode cX9_clapsOf 201 = .ok (.ifCond .eq 33, 3) := by decide +kernel
theorem dX9_clapsOf_204 : decode cX9_clapsOf 204 = .ok (.aload_n 0, 1) := by decide +kernel
theorem dX9_clapsOf_205 : decode cX9_clapsOf 205 = .ok (.getfield 22, 3) := by decide +kernel
theorem dX9_clapsOf_208 : decode cX9_clapsOf 208 = .ok (.iload 8, 2) := by decide +kernel
theorem dX9_clapsOf_210 : decode cX9_clapsOf 210 = .ok (.iaload, 1) := by decide +kernel
theorem dX9_clapsOf_211 : decode cX9_clapsOf 211 = .ok (.iconst 1, 1) := by decide +kernel
theorem dX9_clapsOf_212 : decode cX9_clapsOf 212 = .ok (.if_icmp .ne 22, 3) := by decide +kernel
theorem dX9_clapsOf_215 : decode cX9_clapsOf 215 = .ok (.aload_n 0, 1) := by decide +kernel
theorem dX9_clapsOf_216 : decode cX9_clapsOf 216 = .ok (.aload_n 1, 1) := by decide +kernel
theorem dX9_clapsOf_217 : decode cX9_clapsOf 217 = .ok (.iload 8, 2) := by decide +kernel
theorem dX9_clapsOf_219 : decode cX9_clapsOf 219 = .ok (.iload 6, 2) := by decide +kernel
theorem dX9_clapsOf_221 : decode cX9_clapsOf 221 = .ok (.invokevirtual 128, 3) := by decide +kernel
theorem dX9_clapsOf_224 : decode cX9_clapsOf 224 = .ok (.ifCond .eq 10, 3) := by decide +kernel
theorem dX9_clapsOf_227 : decode cX9_clapsOf 227 = .ok (.iconst 1, 1) := by decide +kernel
theorem dX9_clapsOf_228 : decode cX9_clapsOf 228 = .ok (.iload 8, 2) := by decide +kernel
theorem dX9_clapsOf_230 : decode cX9_clapsOf 230 = .ok (.ishl, 1) := by decide +kernel
theorem dX9_clapsOf_231 : decode cX9_clapsOf 231 = .ok (.goto 4, 3) := by decide +kernel
theorem dX9_clapsOf_234 : decode cX9_clapsOf 234 = .ok (.iconst 0, 1) := by decide +kernel
theorem dX9_clapsOf_235 : decode cX9_clapsOf 235 = .ok (.ior, 1) := by decide +kernel
theorem dX9_clapsOf_236 : decode cX9_clapsOf 236 = .ok (.istore 6, 2) := by decide +kernel
theorem dX9_clapsOf_238 : decode cX9_clapsOf 238 = .ok (.iinc 8 1, 3) := by decide +kernel
theorem dX9_clapsOf_241 : decode cX9_clapsOf 241 = .ok (.goto (-58), 3) := by decide +kernel
theorem dX9_clapsOf_244 : decode cX9_clapsOf 244 = .ok (.iinc 7 1, 3) := by decide +kernel
theorem dX9_clapsOf_247 : decode cX9_clapsOf 247 = .ok (.goto (-74), 3) := by decide +kernel
theorem dX9_clapsOf_250 : decode cX9_clapsOf 250 = .ok (.iload 6, 2) := by decide +kernel
theorem dX9_clapsOf_252 : decode cX9_clapsOf 252 = .ok (.ifCond .eq 6, 3) := by decide +kernel
theorem dX9_clapsOf_255 : decode cX9_clapsOf 255 = .ok (.iload 6, 2) := by decide +kernel
theorem dX9_clapsOf_257 : decode cX9_clapsOf 257 = .ok (.ireturn, 1) := by decide +kernel
theorem dX9_clapsOf_258 : decode cX9_clapsOf 258 = .ok (.iconst 0, 1) := by decide +kernel
theorem dX9_clapsOf_259 : decode cX9_clapsOf 259 = .ok (.istore 7, 2) := by decide +kernel
theorem dX9_clapsOf_261 : decode cX9_clapsOf 261 = .ok (.iload 7, 2) := by decide +kernel
theorem dX9_clapsOf_263 : decode cX9_clapsOf 263 = .ok (.aload_n 0, 1) := by decide +kernel
theorem dX9_clapsOf_264 : decode cX9_clapsOf 264 = .ok (.getfield 73, 3) := by decide +kernel
theorem dX9_clapsOf_267 : decode cX9_clapsOf 267 = .ok (.if_icmp .ge 43, 3) := by decide +kernel
theorem dX9_clapsOf_270 : decode cX9_clapsOf 270 = .ok (.iload 6, 2) := by decide +kernel
theorem dX9_clapsOf_272 : decode cX9_clapsOf 272 = .ok (.iload 5, 2) := by decide +kernel
theorem dX9_clapsOf_274 : decode cX9_clapsOf 274 = .ok (.iload 7, 2) := by decide +kernel
theorem dX9_clapsOf_276 : decode cX9_clapsOf 276 = .ok (.invokestatic 96, 3) := by decide +kernel
theorem dX9_clapsOf_279 : decode cX9_clapsOf 279 = .ok (.ifCond .eq 21, 3) := by decide +kernel
theorem dX9_clapsOf_282 : decode cX9_clapsOf 282 = .ok (.aload_n 0, 1) := by decide +kernel
theorem dX9_clapsOf_283 : decode cX9_clapsOf 283 = .ok (.getfield 22, 3) := by decide +kernel
theorem dX9_clapsOf_286 : decode cX9_clapsOf 286 = .ok (.iload 7, 2) := by decide +kernel
theorem dX9_clapsOf_288 : decode cX9_clapsOf 288 = .ok (.iaload, 1) := by decide +kernel
theorem dX9_clapsOf_289 : decode cX9_clapsOf 289 = .ok (.iconst 2, 1) := by decide +kernel
theorem dX9_clapsOf_290 : decode cX9_clapsOf 290 = .ok (.if_icmp .ne 10, 3) := by decide +kernel
theorem dX9_clapsOf_293 : decode cX9_clapsOf 293 = .ok (.iconst 1, 1) := by decide +kernel
theorem dX9_clapsOf_294 : decode cX9_clapsOf 294 = .ok (.iload 7, 2) := by decide +kernel
theorem dX9_clapsOf_296 : decode cX9_clapsOf 296 = .ok (.ishl, 1) := by decide +kernel
theorem dX9_clapsOf_297 : decode cX9_clapsOf 297 = .ok (.goto 4, 3) := by decide +kernel
theorem dX9_clapsOf_300 : decode cX9_clapsOf 300 = .ok (.iconst 0, 1) := by decide +kernel
theorem dX9_clapsOf_301 : decode cX9_clapsOf 301 = .ok (.ior, 1) := by decide +kernel
theorem dX9_clapsOf_302 : decode cX9_clapsOf 302 = .ok (.istore 6, 2) := by decide +kernel
theorem dX9_clapsOf_304 : decode cX9_clapsOf 304 = .ok (.iinc 7 1, 3) := by decide +kernel
theorem dX9_clapsOf_307 : decode cX9_clapsOf 307 = .ok (.goto (-46), 3) := by decide +kernel
theorem dX9_clapsOf_310 : decode cX9_clapsOf 310 = .ok (.iload 6, 2) := by decide +kernel
theorem dX9_clapsOf_312 : decode cX9_clapsOf 312 = .ok (.ireturn, 1) := by decide +kernel
set_option maxRecDepth 20000 in
theorem ggX9_loudOf_X9_clapsOf : GoodIn wsX9_loudOf wsX9_clapsOf := goodIn_r _ [5, 6, 7, 8, 9, 10, 11, 4, 12, 13, 14, 15, 16, 17, 18, 19, 20, 21, 22, 26, 27, 28, 29, 30, 31, 32, 33, 34, 35, 36, 37, 38, 39, 40, 41, 42, 43, 44, 45, 46, 47, 48, 49, 50, 51, 52, 53, 54, 55, 56, 57, 58, 59] (by decide +kernel) (by decide +kernel)
set_option maxRecDepth 20000 in
theorem gX9_loudOf_X9_clapsOf : GoodIn wsX9_loudOf (wsV RX9 131 RX9 yX9_clapsOf wsX9_clapsOf) := goodIn_app (goodIn_of _ (by decide +kernel)) ggX9_loudOf_X9_clapsOf
set_option maxRecDepth 20000 in
theorem ggX9_loudOf_X9_many : GoodIn wsX9_loudOf wsX9_many := goodIn_r _ [25] (by decide +kernel) (by decide +kernel)
set_option maxRecDepth 20000 in
theorem gX9_loudOf_X9_many : GoodIn wsX9_loudOf (va_wsS RX9 135 yX9_many wsX9_many) := goodIn_app (goodIn_of _ (by decide +kernel)) ggX9_loudOf_X9_many
theorem dX9_loudOf_0 : decode cX9_loudOf 0 = .ok (.aload_n 0, 1) := by decide +kernel
theorem dX9_loudOf_1 : decode cX9_loudOf 1 = .ok (.aload_n 1, 1) := by decide +kernel
theorem dX9_loudOf_2 : decode cX9_loudOf 2 = .ok (.iload_n 2, 1) := by decide +kernel
theorem dX9_loudOf_3 : decode cX9_loudOf 3 = .ok (.iload_n 3, 1) := by decide +kernel
theorem dX9_loudOf_4 : decode cX9_loudOf 4 = .ok (.invokevirtual 131, 3) := by decide +kernel
theorem dX9_loudOf_7 : decode cX9_loudOf 7 = .ok (.invokestatic 135, 3) := by decide +kernel
theorem dX9_loudOf_10 : decode cX9_loudOf 10 = .ok (.ireturn, 1) := by decide +kernel
theorem dX9_seatsOf_0 : decode cX9_seatsOf 0 = .ok (.iconst 0, 1) := by decide +kernel
theorem dX9_seatsOf_1 : decode cX9_seatsOf 1 = .ok (.istore_n 1, 1) := by decide +kernel
theorem dX9_seatsOf_2 : decode cX9_seatsOf 2 = .ok (.iconst 0, 1) := by decide +kernel
theorem dX9_seatsOf_3 : decode cX9_seatsOf 3 = .ok (.istore_n 2, 1) := by decide +kernel
theorem dX9_seatsOf_4 : decode cX9_seatsOf 4 = .ok (.iload_n 2, 1) := by decide +kernel
theorem dX9_seatsOf_5 : decode cX9_seatsOf 5 = .ok (.aload_n 0, 1) := by decide +kernel
theorem dX9_seatsOf_6 : decode cX9_seatsOf 6 = .ok (.getfield 73, 3) := by decide +kernel
theorem dX9_seatsOf_9 : decode cX9_seatsOf 9 = .ok (.if_icmp .ge 20, 3) := by decide +kernel
theorem dX9_seatsOf_12 : decode cX9_seatsOf 12 = .ok (.iload_n 1, 1) := by decide +kernel
theorem dX9_seatsOf_13 : decode cX9_seatsOf 13 = .ok (.iconst 1, 1) := by decide +kernel
theorem dX9_seatsOf_14 : decode cX9_seatsOf 14 = .ok (.aload_n 0, 1) := by decide +kernel
theorem dX9_seatsOf_15 : decode cX9_seatsOf 15 = .ok (.getfield 31, 3) := by decide +kernel
theorem dX9_seatsOf_18 : decode cX9_seatsOf 18 = .ok (.iload_n 2, 1) := by decide +kernel
theorem dX9_seatsOf_19 : decode cX9_seatsOf 19 = .ok (.iaload, 1) := by decide +kernel
theorem dX9_seatsOf_20 : decode cX9_seatsOf 20 = .ok (.ishl, 1) := by decide +kernel
theorem dX9_seatsOf_21 : decode cX9_seatsOf 21 = .ok (.ior, 1) := by decide +kernel
theorem dX9_seatsOf_22 : decode cX9_seatsOf 22 = .ok (.istore_n 1, 1) := by decide +kernel
theorem dX9_seatsOf_23 : decode cX9_seatsOf 23 = .ok (.iinc 2 1, 3) := by decide +kernel
theorem dX9_seatsOf_26 : decode cX9_seatsOf 26 = .ok (.goto (-22), 3) := by decide +kernel
theorem dX9_seatsOf_29 : decode cX9_seatsOf 29 = .ok (.iload_n 1, 1) := by decide +kernel
theorem dX9_seatsOf_30 : decode cX9_seatsOf 30 = .ok (.ireturn, 1) := by decide +kernel
theorem dX9_vigours_0 : decode cX9_vigours 0 = .ok (.iconst 0, 1) := by decide +kernel
theorem dX9_vigours_1 : decode cX9_vigours 1 = .ok (.istore_n 1, 1) := by decide +kernel
theorem dX9_vigours_2 : decode cX9_vigours 2 = .ok (.iconst 0, 1) := by decide +kernel
theorem dX9_vigours_3 : decode cX9_vigours 3 = .ok (.istore_n 2, 1) := by decide +kernel
theorem dX9_vigours_4 : decode cX9_vigours 4 = .ok (.iload_n 2, 1) := by decide +kernel
theorem dX9_vigours_5 : decode cX9_vigours 5 = .ok (.bipush 7, 2) := by decide +kernel
theorem dX9_vigours_7 : decode cX9_vigours 7 = .ok (.if_icmp .ge 18, 3) := by decide +kernel
theorem dX9_vigours_10 : decode cX9_vigours 10 = .ok (.iload_n 1, 1) := by decide +kernel
theorem dX9_vigours_11 : decode cX9_vigours 11 = .ok (.aload_n 0, 1) := by decide +kernel
theorem dX9_vigours_12 : decode cX9_vigours 12 = .ok (.bipush 7, 2) := by decide +kernel
theorem dX9_vigours_14 : decode cX9_vigours 14 = .ok (.iload_n 2, 1) := by decide +kernel
theorem dX9_vigours_15 : decode cX9_vigours 15 = .ok (.iadd, 1) := by decide +kernel
theorem dX9_vigours_16 : decode cX9_vigours 16 = .ok (.iaload, 1) := by decide +kernel
theorem dX9_vigours_17 : decode cX9_vigours 17 = .ok (.iadd, 1) := by decide +kernel
theorem dX9_vigours_18 : decode cX9_vigours 18 = .ok (.istore_n 1, 1) := by decide +kernel
theorem dX9_vigours_19 : decode cX9_vigours 19 = .ok (.iinc 2 1, 3) := by decide +kernel
theorem dX9_vigours_22 : decode cX9_vigours 22 = .ok (.goto (-18), 3) := by decide +kernel
theorem dX9_vigours_25 : decode cX9_vigours 25 = .ok (.iload_n 1, 1) := by decide +kernel
theorem dX9_vigours_26 : decode cX9_vigours 26 = .ok (.ireturn, 1) := by decide +kernel
set_option maxRecDepth 20000 in
theorem ggX9_about_X9_seatsOf : GoodIn wsX9_about wsX9_seatsOf := goodIn_r _ [12, 3, 4, 27, 28, 29, 30, 31, 32, 33, 34, 35, 36, 37, 38, 39, 40, 41, 42, 43, 44, 45, 46, 47, 48, 49, 50, 51, 52, 53, 54, 55, 56, 57, 58, 59, 60] (by decide +kernel) (by decide +kernel)
set_option maxRecDepth 20000 in
theorem gX9_about_X9_seatsOf : GoodIn wsX9_about (wsV RX9 139 RX9 yX9_seatsOf wsX9_seatsOf) := goodIn_app (goodIn_of _ (by decide +kernel)) ggX9_about_X9_seatsOf
set_option maxRecDepth 20000 in
theorem ggX9_about_X9_vigours : GoodIn wsX9_about wsX9_vigours := goodIn_r _ [15] (by decide +kernel) (by decide +kernel)
set_option maxRecDepth 20000 in
theorem gX9_about_X9_vigours : GoodIn wsX9_about (va_wsS RX9 142 yX9_vigours wsX9_vigours) := goodIn_app (goodIn_of _ (by decide +kernel)) ggX9_about_X9_vigours
set_option maxRecDepth 20000 in
theorem ggX9_about_X9_hushedOf : GoodIn wsX9_about wsX9_hushedOf := goodIn_r _ [19, 3, 20, 21, 22, 11, 23, 24, 25, 26, 27, 28, 29, 30, 31, 32, 33, 34, 35, 36, 37, 38, 39, 40, 41, 42, 43, 44, 45, 46, 47, 48, 49, 50, 51, 52, 53, 54, 55, 56, 57, 58, 59, 60] (by decide +kernel) (by decide +kernel)
set_option maxRecDepth 20000 in
theorem gX9_about_X9_hushedOf : GoodIn wsX9_about (wsV RX9 124 RX9 yX9_hushedOf wsX9_hushedOf) := goodIn_app (goodIn_of _ (by decide +kernel)) ggX9_about_X9_hushedOf
theorem dX9_about_0 : decode cX9_about 0 = .ok (.aload_n 0, 1) := by decide +kernel
theorem dX9_about_1 : decode cX9_about 1 = .ok (.iconst 0, 1) := by decide +kernel
theorem dX9_about_2 : decode cX9_about 2 = .ok (.putfield 62, 3) := by decide +kernel
theorem dX9_about_5 : decode cX9_about 5 = .ok (.iload_n 1, 1) := by decide +kernel
theorem dX9_about_6 : decode cX9_about 6 = .ok (.tableswitch 119 0 9 #[54, 59, 64, 72, 80, 85, 93, 104, 109, 114], 54) := by decide +kernel
theorem dX9_about_60 : decode cX9_about 60 = .ok (.aload_n 0, 1) := by decide +kernel
theorem dX9_about_61 : decode cX9_about 61 = .ok (.getfield 66, 3) := by decide +kernel
theorem dX9_about_64 : decode cX9_about 64 = .ok (.ireturn, 1) := by decide +kernel
theorem dX9_about_65 : decode cX9_about 65 = .ok (.aload_n 0, 1) := by decide +kernel
theorem dX9_about_66 : decode cX9_about 66 = .ok (.getfield 73, 3) := by decide +kernel
theorem dX9_about_69 : decode cX9_about 69 = .ok (.ireturn, 1) := by decide +kernel
theorem dX9_about_70 : decode cX9_about 70 = .ok (.aload_n 0, 1) := by decide +kernel
theorem dX9_about_71 : decode cX9_about 71 = .ok (.getfield 31, 3) := by decide +kernel
theorem dX9_about_74 : decode cX9_about 74 = .ok (.bipush 18, 2) := by decide +kernel
theorem dX9_about_76 : decode cX9_about 76 = .ok (.iaload, 1) := by decide +kernel
theorem dX9_about_77 : decode cX9_about 77 = .ok (.ireturn, 1) := by decide +kernel
theorem dX9_about_78 : decode cX9_about 78 = .ok (.aload_n 0, 1) := by decide +kernel
theorem dX9_about_79 : decode cX9_about 79 = .ok (.getfield 31, 3) := by decide +kernel
theorem dX9_about_82 : decode cX9_about 82 = .ok (.bipush 17, 2) := by decide +kernel
theorem dX9_about_84 : decode cX9_about 84 = .ok (.iaload, 1) := by decide +kernel
theorem dX9_about_85 : decode cX9_about 85 = .ok (.ireturn, 1) := by decide +kernel
theorem dX9_about_86 : decode cX9_about 86 = .ok (.aload_n 0, 1) := by decide +kernel
theorem dX9_about_87 : decode cX9_about 87 = .ok (.invokevirtual 139, 3) := by decide +kernel
theorem dX9_about_90 : decode cX9_about 90 = .ok (.ireturn, 1) := by decide +kernel
theorem dX9_about_91 : decode cX9_about 91 = .ok (.aload_n 0, 1) := by decide +kernel
theorem dX9_about_92 : decode cX9_about 92 = .ok (.getfield 31, 3) := by decide +kernel
theorem dX9_about_95 : decode cX9_about 95 = .ok (.invokestatic 142, 3) := by decide +kernel
theorem dX9_about_98 : decode cX9_about 98 = .ok (.ireturn, 1) := by decide +kernel
theorem dX9_about_99 : decode cX9_about 99 = .ok (.aload_n 0, 1) := by decide +kernel
theorem dX9_about_100 : decode cX9_about 100 = .ok (.aload_n 0, 1) := by decide +kernel
theorem dX9_about_101 : decode cX9_about 101 = .ok (.getfield 31, 3) := by decide +kernel
theorem dX9_about_104 : decode cX9_about 104 = .ok (.bipush 127, 2) := by decide +kernel
theorem dX9_about_106 : decode cX9_about 106 = .ok (.invokevirtual 124, 3) := by decide +kernel
theorem dX9_about_109 : decode cX9_about 109 = .ok (.ireturn, 1) := by decide +kernel
theorem dX9_about_110 : decode cX9_about 110 = .ok (.aload_n 0, 1) := by decide +kernel
theorem dX9_about_111 : decode cX9_about 111 = .ok (.getfield 117, 3) := by decide +kernel
theorem dX9_about_114 : decode cX9_about 114 = .ok (.ireturn, 1) := by decide +kernel
theorem dX9_about_115 : decode cX9_about 115 = .ok (.aload_n 0, 1) := by decide +kernel
theorem dX9_about_116 : decode cX9_about 116 = .ok (.getfield 146, 3) := by decide +kernel
theorem dX9_about_119 : decode cX9_about 119 = .ok (.ireturn, 1) := by decide +kernel
theorem dX9_about_120 : decode cX9_about 120 = .ok (.aload_n 0, 1) := by decide +kernel
theorem dX9_about_121 : decode cX9_about 121 = .ok (.getfield 78, 3) := by decide +kernel
theorem dX9_about_124 : decode cX9_about 124 = .ok (.ireturn, 1) := by decide +kernel
theorem dX9_about_125 : decode cX9_about 125 = .ok (.bipush (-2), 2) := by decide +kernel
theorem dX9_about_127 : decode cX9_about 127 = .ok (.ireturn, 1) := by decide +kernel
set_option maxRecDepth 20000 in
theorem ggX9_player_X9_noPlayer : GoodIn wsX9_player wsX9_noPlayer := goodIn_r _ [8, 9, 10, 11, 7, 12, 41, 42, 43, 44, 45, 46, 47, 48, 49, 50, 51, 52, 53, 54, 55, 56, 57, 58, 59, 60, 61, 62, 63, 64, 65, 66, 67, 68, 69, 70, 71, 72, 73, 74] (by decide +kernel) (by decide +kernel)
set_option maxRecDepth 20000 in
theorem gX9_player_X9_noPlayer : GoodIn wsX9_player (wsV RX9 149 RX9 yX9_noPlayer wsX9_noPlayer) := goodIn_app (goodIn_of _ (by decide +kernel)) ggX9_player_X9_noPlayer
set_option maxRecDepth 20000 in
theorem ggX9_player_X9_clapsOf : GoodIn wsX9_player wsX9_clapsOf := goodIn_r _ [16, 17, 18, 19, 20, 21, 22, 7, 23, 24, 25, 26, 27, 28, 29, 30, 31, 32, 33, 41, 42, 43, 44, 45, 46, 47, 48, 49, 50, 51, 52, 53, 54, 55, 56, 57, 58, 59, 60, 61, 62, 63, 64, 65, 66, 67, 68, 69, 70, 71, 72, 73, 74] (by decide +kernel) (by decide +kernel)
set_option maxRecDepth 20000 in
theorem gX9_player_X9_clapsOf : GoodIn wsX9_player (wsV RX9 131 RX9 yX9_clapsOf wsX9_clapsOf) := goodIn_app (goodIn_of _ (by decide +kernel)) ggX9_player_X9_clapsOf
set_option maxRecDepth 20000 in
theorem ggX9_player_X9_loudOf : GoodIn wsX9_player wsX9_loudOf := goodIn_r _ [37, 13, 14, 15, 7, 16, 17, 18, 19, 20, 21, 22, 23, 24, 25, 26, 27, 28, 29, 30, 31, 32, 33, 38, 39, 40, 41, 42, 43, 44, 45, 46, 47, 48, 49, 50, 51, 52, 53, 54, 55, 56, 57, 58, 59, 60, 61, 62, 63, 64, 65, 66, 67, 68, 69, 70, 71, 72, 73, 74] (by decide +kernel) (by decide +kernel)
set_option maxRecDepth 20000 in
theorem gX9_player_X9_loudOf : GoodIn wsX9_player (wsV RX9 153 RX9 yX9_loudOf wsX9_loudOf) := goodIn_app (goodIn_of _ (by decide +kernel)) ggX9_player_X9_loudOf
theorem dX9_player_0 : decode cX9_player 0 = .ok (.aload_n 0, 1) := by decide +kernel
theorem dX9_player_1 : decode cX9_player 1 = .ok (.iconst 0, 1) := by decide +kernel
theorem dX9_player_2 : decode cX9_player 2 = .ok (.putfield 62, 3) := by decide +kernel
theorem dX9_player_5 : decode cX9_player 5 = .ok (.aload_n 0, 1) := by decide +kernel
theorem dX9_player_6 : decode cX9_player 6 = .ok (.iload_n 1, 1) := by decide +kernel
theorem dX9_player_7 : decode cX9_player 7 = .ok (.invokevirtual 149, 3) := by decide +kernel
theorem dX9_player_10 : decode cX9_player 10 = .ok (.ifCond .eq 5, 3) := by decide +kernel
theorem dX9_player_13 : decode cX9_player 13 = .ok (.iconst (-1), 1) := by decide +kernel
theorem dX9_player_14 : decode cX9_player 14 = .ok (.ireturn, 1) := by decide +kernel
theorem dX9_player_15 : decode cX9_player 15 = .ok (.iload_n 2, 1) := by decide +kernel
theorem dX9_player_16 : decode cX9_player 16 = .ok (.tableswitch 89 0 4 #[36, 43, 53, 65, 77], 36) := by decide +kernel
theorem dX9_player_52 : decode cX9_player 52 = .ok (.aload_n 0, 1) := by decide +kernel
theorem dX9_player_53 : decode cX9_player 53 = .ok (.getfield 13, 3) := by decide +kernel
theorem dX9_player_56 : decode cX9_player 56 = .ok (.iload_n 1, 1) := by decide +kernel
theorem dX9_player_57 : decode cX9_player 57 = .ok (.iaload, 1) := by decide +kernel
theorem dX9_player_58 : decode cX9_player 58 = .ok (.ireturn, 1) := by decide +kernel
theorem dX9_player_59 : decode cX9_player 59 = .ok (.aload_n 0, 1) := by decide +kernel
theorem dX9_player_60 : decode cX9_player 60 = .ok (.getfield 31, 3) := by decide +kernel
theorem dX9_player_63 : decode cX9_player 63 = .ok (.bipush 14, 2) := by decide +kernel
theorem dX9_player_65 : decode cX9_player 65 = .ok (.iload_n 1, 1) := by decide +kernel
theorem dX9_player_66 : decode cX9_player 66 = .ok (.iadd, 1) := by decide +kernel
theorem dX9_player_67 : decode cX9_player 67 = .ok (.iaload, 1) := by decide +kernel
theorem dX9_player_68 : decode cX9_player 68 = .ok (.ireturn, 1) := by decide +kernel
theorem dX9_player_69 : decode cX9_player 69 = .ok (.aload_n 0, 1) := by decide +kernel
theorem dX9_player_70 : decode cX9_player 70 = .ok (.aload_n 0, 1) := by decide +kernel
theorem dX9_player_71 : decode cX9_player 71 = .ok (.getfield 31, 3) := by decide +kernel
theorem dX9_player_74 : decode cX9_player 74 = .ok (.iload_n 1, 1) := by decide +kernel
theorem dX9_player_75 : decode cX9_player 75 = .ok (.bipush 127, 2) := by decide +kernel
theorem dX9_player_77 : decode cX9_player 77 = .ok (.invokevirtual 131, 3) := by decide +kernel
theorem dX9_player_80 : decode cX9_player 80 = .ok (.ireturn, 1) := by decide +kernel
theorem dX9_player_81 : decode cX9_player 81 = .ok (.aload_n 0, 1) := by decide +kernel
theorem dX9_player_82 : decode cX9_player 82 = .ok (.aload_n 0, 1) := by decide +kernel
theorem dX9_player_83 : decode cX9_player 83 = .ok (.getfield 31, 3) := by decide +kernel
theorem dX9_player_86 : decode cX9_player 86 = .ok (.iload_n 1, 1) := by decide +kernel
theorem dX9_player_87 : decode cX9_player 87 = .ok (.bipush 127, 2) := by decide +kernel
theorem dX9_player_89 : decode cX9_player 89 = .ok (.invokevirtual 153, 3) := by decide +kernel
theorem dX9_player_92 : decode cX9_player 92 = .ok (.ireturn, 1) := by decide +kernel
theorem dX9_player_93 : decode cX9_player 93 = .ok (.aload_n 0, 1) := by decide +kernel
theorem dX9_player_94 : decode cX9_player 94 = .ok (.getfield 31, 3) := by decide +kernel
theorem dX9_player_97 : decode cX9_player 97 = .ok (.bipush 17, 2) := by decide +kernel
theorem dX9_player_99 : decode cX9_player 99 = .ok (.iaload, 1) := by decide +kernel
theorem dX9_player_100 : decode cX9_player 100 = .ok (.iload_n 1, 1) := by decide +kernel
theorem dX9_player_101 : decode cX9_player 101 = .ok (.ishr, 1) := by decide +kernel
theorem dX9_player_102 : decode cX9_player 102 = .ok (.iconst 1, 1) := by decide +kernel
theorem dX9_player_103 : decode cX9_player 103 = .ok (.iand, 1) := by decide +kernel
theorem dX9_player_104 : decode cX9_player 104 = .ok (.ireturn, 1) := by decide +kernel
theorem dX9_player_105 : decode cX9_player 105 = .ok (.bipush (-2), 2) := by decide +kernel
theorem dX9_player_107 : decode cX9_player 107 = .ok (.ireturn, 1) := by decide +kernel
set_option maxRecDepth 20000 in
theorem ggX9_hand_X9_noHand : GoodIn wsX9_hand wsX9_noHand := goodIn_r _ [10, 11, 12, 13, 9, 14, 25, 26, 27, 28, 29, 30, 31, 32, 33, 34, 35, 36, 37, 38, 39, 40, 41, 42, 43, 44, 45, 46, 47, 48, 49, 50, 51, 52, 53, 54, 55, 56, 57, 58] (by decide +kernel) (by decide +kernel)
set_option maxRecDepth 20000 in
theorem gX9_hand_X9_noHand : GoodIn wsX9_hand (wsV RX9 156 RX9 yX9_noHand wsX9_noHand) := goodIn_app (goodIn_of _ (by decide +kernel)) ggX9_hand_X9_noHand
set_option maxRecDepth 20000 in
theorem ggX9_hand_X9_hushedOf : GoodIn wsX9_hand wsX9_hushedOf := goodIn_r _ [18, 11, 5, 19, 20, 9, 21, 22, 23, 24, 25, 26, 27, 28, 29, 30, 31, 32, 33, 34, 35, 36, 37, 38, 39, 40, 41, 42, 43, 44, 45, 46, 47, 48, 49, 50, 51, 52, 53, 54, 55, 56, 57, 58] (by decide +kernel) (by decide +kernel)
set_option maxRecDepth 20000 in
theorem gX9_hand_X9_hushedOf : GoodIn wsX9_hand (wsV RX9 124 RX9 yX9_hushedOf wsX9_hushedOf) := goodIn_app (goodIn_of _ (by decide +kernel)) ggX9_hand_X9_hushedOf
theorem dX9_hand_0 : decode cX9_hand 0 = .ok (.aload_n 0, 1) := by decide +kernel
theorem dX9_hand_1 : decode cX9_hand 1 = .ok (.iconst 0, 1) := by decide +kernel
theorem dX9_hand_2 : decode cX9_hand 2 = .ok (.putfield 62, 3) := by decide +kernel
theorem dX9_hand_5 : decode cX9_hand 5 = .ok (.aload_n 0, 1) := by decide +kernel
theorem dX9_hand_6 : decode cX9_hand 6 = .ok (.iload_n 1, 1) := by decide +kernel
theorem dX9_hand_7 : decode cX9_hand 7 = .ok (.invokevirtual 156, 3) := by decide +kernel
theorem dX9_hand_10 : decode cX9_hand 10 = .ok (.ifCond .eq 5, 3) := by decide +kernel
theorem dX9_hand_13 : decode cX9_hand 13 = .ok (.iconst (-1), 1) := by decide +kernel
theorem dX9_hand_14 : decode cX9_hand 14 = .ok (.ireturn, 1) := by decide +kernel
theorem dX9_hand_15 : decode cX9_hand 15 = .ok (.iload_n 2, 1) := by decide +kernel
theorem dX9_hand_16 : decode cX9_hand 16 = .ok (.tableswitch 93 0 5 #[40, 47, 54, 61, 68, 78], 40) := by decide +kernel
theorem dX9_hand_56 : decode cX9_hand 56 = .ok (.aload_n 0, 1) := by decide +kernel
theorem dX9_hand_57 : decode cX9_hand 57 = .ok (.getfield 31, 3) := by decide +kernel
theorem dX9_hand_60 : decode cX9_hand 60 = .ok (.iload_n 1, 1) := by decide +kernel
theorem dX9_hand_61 : decode cX9_hand 61 = .ok (.iaload, 1) := by decide +kernel
theorem dX9_hand_62 : decode cX9_hand 62 = .ok (.ireturn, 1) := by decide +kernel
theorem dX9_hand_63 : decode cX9_hand 63 = .ok (.aload_n 0, 1) := by decide +kernel
theorem dX9_hand_64 : decode cX9_hand 64 = .ok (.getfield 16, 3) := by decide +kernel
theorem dX9_hand_67 : decode cX9_hand 67 = .ok (.iload_n 1, 1) := by decide +kernel
theorem dX9_hand_68 : decode cX9_hand 68 = .ok (.iaload, 1) := by decide +kernel
theorem dX9_hand_69 : decode cX9_hand 69 = .ok (.ireturn, 1) := by decide +kernel
theorem dX9_hand_70 : decode cX9_hand 70 = .ok (.aload_n 0, 1) := by decide +kernel
theorem dX9_hand_71 : decode cX9_hand 71 = .ok (.getfield 19, 3) := by decide +kernel
theorem dX9_hand_74 : decode cX9_hand 74 = .ok (.iload_n 1, 1) := by decide +kernel
theorem dX9_hand_75 : decode cX9_hand 75 = .ok (.iaload, 1) := by decide +kernel
theorem dX9_hand_76 : decode cX9_hand 76 = .ok (.ireturn, 1) := by decide +kernel
theorem dX9_hand_77 : decode cX9_hand 77 = .ok (.aload_n 0, 1) := by decide +kernel
theorem dX9_hand_78 : decode cX9_hand 78 = .ok (.getfield 22, 3) := by decide +kernel
theorem dX9_hand_81 : decode cX9_hand 81 = .ok (.iload_n 1, 1) := by decide +kernel
theorem dX9_hand_82 : decode cX9_hand 82 = .ok (.iaload, 1) := by decide +kernel
theorem dX9_hand_83 : decode cX9_hand 83 = .ok (.ireturn, 1) := by decide +kernel
theorem dX9_hand_84 : decode cX9_hand 84 = .ok (.aload_n 0, 1) := by decide +kernel
theorem dX9_hand_85 : decode cX9_hand 85 = .ok (.getfield 31, 3) := by decide +kernel
theorem dX9_hand_88 : decode cX9_hand 88 = .ok (.bipush 7, 2) := by decide +kernel
theorem dX9_hand_90 : decode cX9_hand 90 = .ok (.iload_n 1, 1) := by decide +kernel
theorem dX9_hand_91 : decode cX9_hand 91 = .ok (.iadd, 1) := by decide +kernel
theorem dX9_hand_92 : decode cX9_hand 92 = .ok (.iaload, 1) := by decide +kernel
theorem dX9_hand_93 : decode cX9_hand 93 = .ok (.ireturn, 1) := by decide +kernel
theorem dX9_hand_94 : decode cX9_hand 94 = .ok (.aload_n 0, 1) := by decide +kernel
theorem dX9_hand_95 : decode cX9_hand 95 = .ok (.aload_n 0, 1) := by decide +kernel
theorem dX9_hand_96 : decode cX9_hand 96 = .ok (.getfield 31, 3) := by decide +kernel
theorem dX9_hand_99 : decode cX9_hand 99 = .ok (.bipush 127, 2) := by decide +kernel
theorem dX9_hand_101 : decode cX9_hand 101 = .ok (.invokevirtual 124, 3) := by decide +kernel
theorem dX9_hand_104 : decode cX9_hand 104 = .ok (.iload_n 1, 1) := by decide +kernel
theorem dX9_hand_105 : decode cX9_hand 105 = .ok (.ishr, 1) := by decide +kernel
theorem dX9_hand_106 : decode cX9_hand 106 = .ok (.iconst 1, 1) := by decide +kernel
theorem dX9_hand_107 : decode cX9_hand 107 = .ok (.iand, 1) := by decide +kernel
theorem dX9_hand_108 : decode cX9_hand 108 = .ok (.ireturn, 1) := by decide +kernel
theorem dX9_hand_109 : decode cX9_hand 109 = .ok (.bipush (-2), 2) := by decide +kernel
theorem dX9_hand_111 : decode cX9_hand 111 = .ok (.ireturn, 1) := by decide +kernel
theorem dX9_note_0 : decode cX9_note 0 = .ok (.aload_n 0, 1) := by decide +kernel
theorem dX9_note_1 : decode cX9_note 1 = .ok (.getfield 117, 3) := by decide +kernel
theorem dX9_note_4 : decode cX9_note 4 = .ok (.bipush 14, 2) := by decide +kernel
theorem dX9_note_6 : decode cX9_note 6 = .ok (.if_icmp .ne 43, 3) := by decide +kernel
theorem dX9_note_9 : decode cX9_note 9 = .ok (.iconst 0, 1) := by decide +kernel
theorem dX9_note_10 : decode cX9_note 10 = .ok (.istore_n 1, 1) := by decide +kernel
theorem dX9_note_11 : decode cX9_note 11 = .ok (.iload_n 1, 1) := by decide +kernel
theorem dX9_note_12 : decode cX9_note 12 = .ok (.sipush 247, 3) := by decide +kernel
theorem dX9_note_15 : decode cX9_note 15 = .ok (.if_icmp .ge 24, 3) := by decide +kernel
theorem dX9_note_18 : decode cX9_note 18 = .ok (.aload_n 0, 1) := by decide +kernel
theorem dX9_note_19 : decode cX9_note 19 = .ok (.getfield 37, 3) := by decide +kernel
theorem dX9_note_22 : decode cX9_note 22 = .ok (.iload_n 1, 1) := by decide +kernel
theorem dX9_note_23 : decode cX9_note 23 = .ok (.aload_n 0, 1) := by decide +kernel
theorem dX9_note_24 : decode cX9_note 24 = .ok (.getfield 37, 3) := by decide +kernel
theorem dX9_note_27 : decode cX9_note 27 = .ok (.iload_n 1, 1) := by decide +kernel
theorem dX9_note_28 : decode cX9_note 28 = .ok (.bipush 19, 2) := by decide +kernel
theorem dX9_note_30 : decode cX9_note 30 = .ok (.iadd, 1) := by decide +kernel
theorem dX9_note_31 : decode cX9_note 31 = .ok (.iaload, 1) := by decide +kernel
theorem dX9_note_32 : decode cX9_note 32 = .ok (.iastore, 1) := by decide +kernel
theorem dX9_note_33 : decode cX9_note 33 = .ok (.iinc 1 1, 3) := by decide +kernel
theorem dX9_note_36 : decode cX9_note 36 = .ok (.goto (-25), 3) := by decide +kernel
theorem dX9_note_39 : decode cX9_note 39 = .ok (.aload_n 0, 1) := by decide +kernel
theorem dX9_note_40 : decode cX9_note 40 = .ok (.dup, 1) := by decide +kernel
theorem dX9_note_41 : decode cX9_note 41 = .ok (.getfield 117, 3) := by decide +kernel
theorem dX9_note_44 : decode cX9_note 44 = .ok (.iconst 1, 1) := by decide +kernel
theorem dX9_note_45 : decode cX9_note 45 = .ok (.isub, 1) := by decide +kernel
theorem dX9_note_46 : decode cX9_note 46 = .ok (.putfield 117, 3) := by decide +kernel
theorem dX9_note_49 : decode cX9_note 49 = .ok (.iconst 0, 1) := by decide +kernel
theorem dX9_note_50 : decode cX9_note 50 = .ok (.istore_n 1, 1) := by decide +kernel
theorem dX9_note_51 : decode cX9_note 51 = .ok (.iload_n 1, 1) := by decide +kernel
theorem dX9_note_52 : decode cX9_note 52 = .ok (.bipush 19, 2) := by decide +kernel
theorem dX9_note_54 : decode cX9_note 54 = .ok (.if_icmp .ge 29, 3) := by decide +kernel
theorem dX9_note_57 : decode cX9_note 57 = .ok (.aload_n 0, 1) := by decide +kernel
theorem dX9_note_58 : decode cX9_note 58 = .ok (.getfield 37, 3) := by decide +kernel
theorem dX9_note_61 : decode cX9_note 61 = .ok (.bipush 19, 2) := by decide +kernel
theorem dX9_note_63 : decode cX9_note 63 = .ok (.aload_n 0, 1) := by decide +kernel
theorem dX9_note_64 : decode cX9_note 64 = .ok (.getfield 117, 3) := by decide +kernel
theorem dX9_note_67 : decode cX9_note 67 = .ok (.imul, 1) := by decide +kernel
theorem dX9_note_68 : decode cX9_note 68 = .ok (.iload_n 1, 1) := by decide +kernel
theorem dX9_note_69 : decode cX9_note 69 = .ok (.iadd, 1) := by decide +kernel
theorem dX9_note_70 : decode cX9_note 70 = .ok (.aload_n 0, 1) := by decide +kernel
theorem dX9_note_71 : decode cX9_note 71 = .ok (.getfield 31, 3) := by decide +kernel
theorem dX9_note_74 : decode cX9_note 74 = .ok (.iload_n 1, 1) := by decide +kernel
theorem dX9_note_75 : decode cX9_note 75 = .ok (.iaload, 1) := by decide +kernel
theorem dX9_note_76 : decode cX9_note 76 = .ok (.iastore, 1) := by decide +kernel
theorem dX9_note_77 : decode cX9_note 77 = .ok (.iinc 1 1, 3) := by decide +kernel
theorem dX9_note_80 : decode cX9_note 80 = .ok (.goto (-29), 3) := by decide +kernel
theorem dX9_note_83 : decode cX9_note 83 = .ok (.aload_n 0, 1) := by decide +kernel
theorem dX9_note_84 : decode cX9_note 84 = .ok (.dup, 1) := by decide +kernel
theorem dX9_note_85 : decode cX9_note 85 = .ok (.getfield 117, 3) := by decide +kernel
theorem dX9_note_88 : decode cX9_note 88 = .ok (.iconst 1, 1) := by decide +kernel
theorem dX9_note_89 : decode cX9_note 89 = .ok (.iadd, 1) := by decide +kernel
theorem dX9_note_90 : decode cX9_note 90 = .ok (.putfield 117, 3) := by decide +kernel
theorem dX9_note_93 : decode cX9_note 93 = .ok (.return_, 1) := by decide +kernel
set_option maxRecDepth 20000 in
theorem ggX9_goCall_X9_clapsOf : GoodIn wsX9_goCall wsX9_clapsOf := goodIn_r _ [7, 2, 8, 9, 10, 11, 12, 6, 13, 14, 15, 16, 17, 18, 19, 20, 21, 22, 23, 27, 28, 29, 30, 31, 32, 33, 34, 35, 36, 37, 38, 39, 40, 41, 42, 43, 44, 45, 46, 47, 48, 49, 50, 51, 52, 53, 54, 55, 56, 57, 58, 59, 60] (by decide +kernel) (by decide +kernel)
set_option maxRecDepth 20000 in
theorem gX9_goCall_X9_clapsOf : GoodIn wsX9_goCall (wsV RX9 131 RX9 yX9_clapsOf wsX9_clapsOf) := goodIn_app (goodIn_of _ (by decide +kernel)) ggX9_goCall_X9_clapsOf
set_option maxRecDepth 20000 in
theorem ggX9_goCall_X9_many : GoodIn wsX9_goCall wsX9_many := goodIn_r _ [26] (by decide +kernel) (by decide +kernel)
set_option maxRecDepth 20000 in
theorem gX9_goCall_X9_many : GoodIn wsX9_goCall (va_wsS RX9 135 yX9_many wsX9_many) := goodIn_app (goodIn_of _ (by decide +kernel)) ggX9_goCall_X9_many
set_option maxRecDepth 20000 in
theorem ggX9_goCall_X9_has : GoodIn wsX9_goCall wsX9_has := goodIn_r _ [16] (by decide +kernel) (by decide +kernel)
set_option maxRecDepth 20000 in
theorem gX9_goCall_X9_has : GoodIn wsX9_goCall (va_wsS RX9 96 yX9_has wsX9_has) := goodIn_app (goodIn_of _ (by decide +kernel)) ggX9_goCall_X9_has
theorem dX9_goCall_0 : decode cX9_goCall 0 = .ok (.aload_n 0, 1) := by decide +kernel
theorem dX9_goCall_1 : decode cX9_goCall 1 = .ok (.aload_n 1, 1) := by decide +kernel
theorem dX9_goCall_2 : decode cX9_goCall 2 = .ok (.iload_n 2, 1) := by decide +kernel
theorem dX9_goCall_3 : decode cX9_goCall 3 = .ok (.bipush 127, 2) := by decide +kernel
theorem dX9_goCall_5 : decode cX9_goCall 5 = .ok (.invokevirtual 131, 3) := by decide +kernel
theorem dX9_goCall_8 : decode cX9_goCall 8 = .ok (.istore_n 3, 1) := by decide +kernel
theorem dX9_goCall_9 : decode cX9_goCall 9 = .ok (.iload_n 3, 1) := by decide +kernel
theorem dX9_goCall_10 : decode cX9_goCall 10 = .ok (.invokestatic 135, 3) := by decide +kernel
theorem dX9_goCall_13 : decode cX9_goCall 13 = .ok (.aload_n 0, 1) := by decide +kernel
theorem dX9_goCall_14 : decode cX9_goCall 14 = .ok (.getfield 13, 3) := by decide +kernel
theorem dX9_goCall_17 : decode cX9_goCall 17 = .ok (.iload_n 2, 1) := by decide +kernel
theorem dX9_goCall_18 : decode cX9_goCall 18 = .ok (.iaload, 1) := by decide +kernel
theorem dX9_goCall_19 : decode cX9_goCall 19 = .ok (.if_icmp .lt 7, 3) := by decide +kernel
theorem dX9_goCall_22 : decode cX9_goCall 22 = .ok (.iconst 1, 1) := by decide +kernel
theorem dX9_goCall_23 : decode cX9_goCall 23 = .ok (.goto 4, 3) := by decide +kernel
theorem dX9_goCall_26 : decode cX9_goCall 26 = .ok (.iconst 0, 1) := by decide +kernel
theorem dX9_goCall_27 : decode cX9_goCall 27 = .ok (.istore 4, 2) := by decide +kernel
theorem dX9_goCall_29 : decode cX9_goCall 29 = .ok (.iload 4, 2) := by decide +kernel
theorem dX9_goCall_31 : decode cX9_goCall 31 = .ok (.ifCond .ne 15, 3) := by decide +kernel
theorem dX9_goCall_34 : decode cX9_goCall 34 = .ok (.aload_n 1, 1) := by decide +kernel
theorem dX9_goCall_35 : decode cX9_goCall 35 = .ok (.bipush 17, 2) := by decide +kernel
theorem dX9_goCall_37 : decode cX9_goCall 37 = .ok (.dup2, 1) := by decide +kernel
theorem dX9_goCall_38 : decode cX9_goCall 38 = .ok (.iaload, 1) := by decide +kernel
theorem dX9_goCall_39 : decode cX9_goCall 39 = .ok (.iconst 1, 1) := by decide +kernel
theorem dX9_goCall_40 : decode cX9_goCall 40 = .ok (.iload_n 2, 1) := by decide +kernel
theorem dX9_goCall_41 : decode cX9_goCall 41 = .ok (.ishl, 1) := by decide +kernel
theorem dX9_goCall_42 : decode cX9_goCall 42 = .ok (.ior, 1) := by decide +kernel
theorem dX9_goCall_43 : decode cX9_goCall 43 = .ok (.iastore, 1) := by decide +kernel
theorem dX9_goCall_44 : decode cX9_goCall 44 = .ok (.iconst 0, 1) := by decide +kernel
theorem dX9_goCall_45 : decode cX9_goCall 45 = .ok (.ireturn, 1) := by decide +kernel
theorem dX9_goCall_46 : decode cX9_goCall 46 = .ok (.aload_n 1, 1) := by decide +kernel
theorem dX9_goCall_47 : decode cX9_goCall 47 = .ok (.bipush 14, 2) := by decide +kernel
theorem dX9_goCall_49 : decode cX9_goCall 49 = .ok (.iload_n 2, 1) := by decide +kernel
theorem dX9_goCall_50 : decode cX9_goCall 50 = .ok (.iadd, 1) := by decide +kernel
theorem dX9_goCall_51 : decode cX9_goCall 51 = .ok (.dup2, 1) := by decide +kernel
theorem dX9_goCall_52 : decode cX9_goCall 52 = .ok (.iaload, 1) := by decide +kernel
theorem dX9_goCall_53 : decode cX9_goCall 53 = .ok (.iconst 1, 1) := by decide +kernel
theorem dX9_goCall_54 : decode cX9_goCall 54 = .ok (.iadd, 1) := by decide +kernel
theorem dX9_goCall_55 : decode cX9_goCall 55 = .ok (.iastore, 1) := by decide +kernel
theorem dX9_goCall_56 : decode cX9_goCall 56 = .ok (.iconst 0, 1) := by decide +kernel
theorem dX9_goCall_57 : decode cX9_goCall 57 = .ok (.istore 5, 2) := by decide +kernel
theorem dX9_goCall_59 : decode cX9_goCall 59 = .ok (.iload 5, 2) := by decide +kernel
theorem dX9_goCall_61 : decode cX9_goCall 61 = .ok (.aload_n 0, 1) := by decide +kernel
theorem dX9_goCall_62 : decode cX9_goCall 62 = .ok (.getfield 73, 3) := by decide +kernel
theorem dX9_goCall_65 : decode cX9_goCall 65 = .ok (.if_icmp .ge 33, 3) := by decide +kernel
theorem dX9_goCall_68 : decode cX9_goCall 68 = .ok (.aload_n 1, 1) := by decide +kernel
theorem dX9_goCall_69 : decode cX9_goCall 69 = .ok (.bipush 7, 2) := by decide +kernel
theorem dX9_goCall_71 : decode cX9_goCall 71 = .ok (.iload 5, 2) := by decide +kernel
theorem dX9_goCall_73 : decode cX9_goCall 73 = .ok (.iadd, 1) := by decide +kernel
theorem dX9_goCall_74 : decode cX9_goCall 74 = .ok (.dup2, 1) := by decide +kernel
theorem dX9_goCall_75 : decode cX9_goCall 75 = .ok (.iaload, 1) := by decide +kernel
theorem dX9_goCall_76 : decode cX9_goCall 76 = .ok (.iload_n 3, 1) := by decide +kernel
theorem dX9_goCall_77 : decode cX9_goCall 77 = .ok (.iload 5, 2) := by decide +kernel
theorem dX9_goCall_79 : decode cX9_goCall 79 = .ok (.invokestatic 96, 3) := by decide +kernel
theorem dX9_goCall_82 : decode cX9_goCall 82 = .ok (.ifCond .eq 7, 3) := by decide +kernel
theorem dX9_goCall_85 : decode cX9_goCall 85 = .ok (.iconst 1, 1) := by decide +kernel
theorem dX9_goCall_86 : decode cX9_goCall 86 = .ok (.goto 4, 3) := by decide +kernel
theorem dX9_goCall_89 : decode cX9_goCall 89 = .ok (.iconst 0, 1) := by decide +kernel
theorem dX9_goCall_90 : decode cX9_goCall 90 = .ok (.isub, 1) := by decide +kernel
theorem dX9_goCall_91 : decode cX9_goCall 91 = .ok (.iastore, 1) := by decide +kernel
theorem dX9_goCall_92 : decode cX9_goCall 92 = .ok (.iinc 5 1, 3) := by decide +kernel
theorem dX9_goCall_95 : decode cX9_goCall 95 = .ok (.goto (-36), 3) := by decide +kernel
theorem dX9_goCall_98 : decode cX9_goCall 98 = .ok (.iconst 1, 1) := by decide +kernel
theorem dX9_goCall_99 : decode cX9_goCall 99 = .ok (.ireturn, 1) := by decide +kernel
set_option maxRecDepth 20000 in
theorem ggX9_call_X9_noPlayer : GoodIn wsX9_call wsX9_noPlayer := goodIn_r _ [7, 8, 9, 10, 6, 11, 51, 52, 53, 54, 55, 56, 57, 58, 59, 60, 61, 62, 63, 64, 65, 66, 67, 68, 69, 70, 71, 72, 73, 74, 75, 76, 77, 78, 79, 80, 81, 82, 83, 84] (by decide +kernel) (by decide +kernel)
set_option maxRecDepth 20000 in
theorem gX9_call_X9_noPlayer : GoodIn wsX9_call (wsV RX9 149 RX9 yX9_noPlayer wsX9_noPlayer) := goodIn_app (goodIn_of _ (by decide +kernel)) ggX9_call_X9_noPlayer
set_option maxRecDepth 20000 in
theorem ggX9_call_X9_has : GoodIn wsX9_call wsX9_has := goodIn_r _ [14] (by decide +kernel) (by decide +kernel)
set_option maxRecDepth 20000 in
theorem gX9_call_X9_has : GoodIn wsX9_call (va_wsS RX9 96 yX9_has wsX9_has) := goodIn_app (goodIn_of _ (by decide +kernel)) ggX9_call_X9_has
set_option maxRecDepth 20000 in
theorem ggX9_call_X9_note : GoodIn wsX9_call wsX9_note := goodIn_r _ [18, 19, 20, 2, 51, 52, 53, 54, 55, 56, 57, 58, 59, 60, 61, 62, 63, 64, 65, 66, 67, 68, 69, 70, 71, 72, 73, 74, 75, 76, 77, 78, 79, 80, 81, 82, 83, 84] (by decide +kernel) (by decide +kernel)
set_option maxRecDepth 20000 in
theorem gX9_call_X9_note : GoodIn wsX9_call (wsV RX9 159 RX9 yX9_note wsX9_note) := goodIn_app (goodIn_of _ (by decide +kernel)) ggX9_call_X9_note
set_option maxRecDepth 20000 in
theorem ggX9_call_X9_loudOf : GoodIn wsX9_call wsX9_loudOf := goodIn_r _ [24, 25, 26, 27, 6, 28, 29, 30, 31, 32, 33, 34, 35, 12, 13, 14, 36, 37, 38, 39, 40, 41, 42, 43, 44, 45, 51, 52, 53, 54, 55, 56, 57, 58, 59, 60, 61, 62, 63, 64, 65, 66, 67, 68, 69, 70, 71, 72, 73, 74, 75, 76, 77, 78, 79, 80, 81, 82, 83, 84] (by decide +kernel) (by decide +kernel)
set_option maxRecDepth 20000 in
theorem gX9_call_X9_loudOf : GoodIn wsX9_call (wsV RX9 153 RX9 yX9_loudOf wsX9_loudOf) := goodIn_app (goodIn_of _ (by decide +kernel)) ggX9_call_X9_loudOf
set_option maxRecDepth 20000 in
theorem ggX9_call_X9_goCall : GoodIn wsX9_call wsX9_goCall := goodIn_r _ [49, 50, 29, 25, 26, 27, 6, 28, 30, 31, 32, 33, 34, 35, 12, 13, 14, 36, 37, 38, 39, 40, 41, 42, 43, 44, 45, 51, 52, 53, 54, 55, 56, 57, 58, 59, 60, 61, 62, 63, 64, 65, 66, 67, 68, 69, 70, 71, 72, 73, 74, 75, 76, 77, 78, 79, 80, 81, 82, 83, 84] (by decide +kernel) (by decide +kernel)
set_option maxRecDepth 20000 in
theorem gX9_call_X9_goCall : GoodIn wsX9_call (wsV RX9 162 RX9 yX9_goCall wsX9_goCall) := goodIn_app (goodIn_of _ (by decide +kernel)) ggX9_call_X9_goCall
theorem dX9_call_0 : decode cX9_call 0 = .ok (.aload_n 0, 1) := by decide +kernel
theorem dX9_call_1 : decode cX9_call 1 = .ok (.iconst 0, 1) := by decide +kernel
theorem dX9_call_2 : decode cX9_call 2 = .ok (.putfield 62, 3) := by decide +kernel
theorem dX9_call_5 : decode cX9_call 5 = .ok (.aload_n 0, 1) := by decide +kernel
theorem dX9_call_6 : decode cX9_call 6 = .ok (.iload_n 1, 1) := by decide +kernel
theorem dX9_call_7 : decode cX9_call 7 = .ok (.invokevirtual 149, 3) := by decide +kernel
theorem dX9_call_10 : decode cX9_call 10 = .ok (.ifCond .eq 5, 3) := by decide +kernel
theorem dX9_call_13 : decode cX9_call 13 = .ok (.iconst (-1), 1) := by decide +kernel
theorem dX9_call_14 : decode cX9_call 14 = .ok (.ireturn, 1) := by decide +kernel
theorem dX9_call_15 : decode cX9_call 15 = .ok (.aload_n 0, 1) := by decide +kernel
theorem dX9_call_16 : decode cX9_call 16 = .ok (.getfield 31, 3) := by decide +kernel
theorem dX9_call_19 : decode cX9_call 19 = .ok (.bipush 17, 2) := by decide +kernel
theorem dX9_call_21 : decode cX9_call 21 = .ok (.iaload, 1) := by decide +kernel
theorem dX9_call_22 : decode cX9_call 22 = .ok (.iload_n 1, 1) := by decide +kernel
theorem dX9_call_23 : decode cX9_call 23 = .ok (.invokestatic 96, 3) := by decide +kernel
theorem dX9_call_26 : decode cX9_call 26 = .ok (.ifCond .eq 6, 3) := by decide +kernel
theorem dX9_call_29 : decode cX9_call 29 = .ok (.bipush (-3), 2) := by decide +kernel
theorem dX9_call_31 : decode cX9_call 31 = .ok (.ireturn, 1) := by decide +kernel
theorem dX9_call_32 : decode cX9_call 32 = .ok (.aload_n 0, 1) := by decide +kernel
theorem dX9_call_33 : decode cX9_call 33 = .ok (.invokevirtual 159, 3) := by decide +kernel
theorem dX9_call_36 : decode cX9_call 36 = .ok (.aload_n 0, 1) := by decide +kernel
theorem dX9_call_37 : decode cX9_call 37 = .ok (.aload_n 0, 1) := by decide +kernel
theorem dX9_call_38 : decode cX9_call 38 = .ok (.getfield 31, 3) := by decide +kernel
theorem dX9_call_41 : decode cX9_call 41 = .ok (.iload_n 1, 1) := by decide +kernel
theorem dX9_call_42 : decode cX9_call 42 = .ok (.bipush 127, 2) := by decide +kernel
theorem dX9_call_44 : decode cX9_call 44 = .ok (.invokevirtual 153, 3) := by decide +kernel
theorem dX9_call_47 : decode cX9_call 47 = .ok (.istore_n 2, 1) := by decide +kernel
theorem dX9_call_48 : decode cX9_call 48 = .ok (.aload_n 0, 1) := by decide +kernel
theorem dX9_call_49 : decode cX9_call 49 = .ok (.aload_n 0, 1) := by decide +kernel
theorem dX9_call_50 : decode cX9_call 50 = .ok (.getfield 31, 3) := by decide +kernel
theorem dX9_call_53 : decode cX9_call 53 = .ok (.iload_n 1, 1) := by decide +kernel
theorem dX9_call_54 : decode cX9_call 54 = .ok (.invokevirtual 162, 3) := by decide +kernel
theorem dX9_call_57 : decode cX9_call 57 = .ok (.pop, 1) := by decide +kernel
theorem dX9_call_58 : decode cX9_call 58 = .ok (.iload_n 2, 1) := by decide +kernel
theorem dX9_call_59 : decode cX9_call 59 = .ok (.ireturn, 1) := by decide +kernel
theorem dX9_goFlowers_0 : decode cX9_goFlowers 0 = .ok (.iconst 0, 1) := by decide +kernel
theorem dX9_goFlowers_1 : decode cX9_goFlowers 1 = .ok (.istore_n 3, 1) := by decide +kernel
theorem dX9_goFlowers_2 : decode cX9_goFlowers 2 = .ok (.iload_n 3, 1) := by decide +kernel
theorem dX9_goFlowers_3 : decode cX9_goFlowers 3 = .ok (.aload_n 0, 1) := by decide +kernel
theorem dX9_goFlowers_4 : decode cX9_goFlowers 4 = .ok (.getfield 73, 3) := by decide +kernel
theorem dX9_goFlowers_7 : decode cX9_goFlowers 7 = .ok (.if_icmp .ge 44, 3) := by decide +kernel
theorem dX9_goFlowers_10 : decode cX9_goFlowers 10 = .ok (.aload_n 1, 1) := by decide +kernel
theorem dX9_goFlowers_11 : decode cX9_goFlowers 11 = .ok (.bipush 7, 2) := by decide +kernel
theorem dX9_goFlowers_13 : decode cX9_goFlowers 13 = .ok (.iload_n 3, 1) := by decide +kernel
theorem dX9_goFlowers_14 : decode cX9_goFlowers 14 = .ok (.iadd, 1) := by decide +kernel
theorem dX9_goFlowers_15 : decode cX9_goFlowers 15 = .ok (.dup2, 1) := by decide +kernel
theorem dX9_goFlowers_16 : decode cX9_goFlowers 16 = .ok (.iaload, 1) := by decide +kernel
theorem dX9_goFlowers_17 : decode cX9_goFlowers 17 = .ok (.aload_n 0, 1) := by decide +kernel
theorem dX9_goFlowers_18 : decode cX9_goFlowers 18 = .ok (.getfield 16, 3) := by decide +kernel
theorem dX9_goFlowers_21 : decode cX9_goFlowers 21 = .ok (.iload_n 3, 1) := by decide +kernel
theorem dX9_goFlowers_22 : decode cX9_goFlowers 22 = .ok (.iaload, 1) := by decide +kernel
theorem dX9_goFlowers_23 : decode cX9_goFlowers 23 = .ok (.iload_n 2, 1) := by decide +kernel
theorem dX9_goFlowers_24 : decode cX9_goFlowers 24 = .ok (.if_icmp .ne 18, 3) := by decide +kernel
theorem dX9_goFlowers_27 : decode cX9_goFlowers 27 = .ok (.aload_n 1, 1) := by decide +kernel
theorem dX9_goFlowers_28 : decode cX9_goFlowers 28 = .ok (.bipush 7, 2) := by decide +kernel
theorem dX9_goFlowers_30 : decode cX9_goFlowers 30 = .ok (.iload_n 3, 1) := by decide +kernel
theorem dX9_goFlowers_31 : decode cX9_goFlowers 31 = .ok (.iadd, 1) := by decide +kernel
theorem dX9_goFlowers_32 : decode cX9_goFlowers 32 = .ok (.iaload, 1) := by decide +kernel
theorem dX9_goFlowers_33 : decode cX9_goFlowers 33 = .ok (.bipush 9, 2) := by decide +kernel
theorem dX9_goFlowers_35 : decode cX9_goFlowers 35 = .ok (.if_icmp .ge 7, 3) := by decide +kernel
theorem dX9_goFlowers_38 : decode cX9_goFlowers 38 = .ok (.iconst 1, 1) := by decide +kernel
theorem dX9_goFlowers_39 : decode cX9_goFlowers 39 = .ok (.goto 4, 3) := by decide +kernel
theorem dX9_goFlowers_42 : decode cX9_goFlowers 42 = .ok (.iconst 0, 1) := by decide +kernel
theorem dX9_goFlowers_43 : decode cX9_goFlowers 43 = .ok (.iadd, 1) := by decide +kernel
theorem dX9_goFlowers_44 : decode cX9_goFlowers 44 = .ok (.iastore, 1) := by decide +kernel
theorem dX9_goFlowers_45 : decode cX9_goFlowers 45 = .ok (.iinc 3 1, 3) := by decide +kernel
theorem dX9_goFlowers_48 : decode cX9_goFlowers 48 = .ok (.goto (-46), 3) := by decide +kernel
theorem dX9_goFlowers_51 : decode cX9_goFlowers 51 = .ok (.return_, 1) := by decide +kernel
set_option maxRecDepth 20000 in
theorem ggX9_flowers_X9_noPlayer : GoodIn wsX9_flowers wsX9_noPlayer := goodIn_r _ [7, 8, 9, 10, 6, 11, 50, 51, 52, 53, 54, 55, 56, 57, 58, 59, 60, 61, 62, 63, 64, 65, 66, 67, 68, 69, 70, 71, 72, 73, 74, 75, 76, 77, 78, 79, 80, 81, 82, 83] (by decide +kernel) (by decide +kernel)
set_option maxRecDepth 20000 in
theorem gX9_flowers_X9_noPlayer : GoodIn wsX9_flowers (wsV RX9 149 RX9 yX9_noPlayer wsX9_noPlayer) := goodIn_app (goodIn_of _ (by decide +kernel)) ggX9_flowers_X9_noPlayer
set_option maxRecDepth 20000 in
theorem ggX9_flowers_X9_note : GoodIn wsX9_flowers wsX9_note := goodIn_r _ [15, 16, 17, 2, 50, 51, 52, 53, 54, 55, 56, 57, 58, 59, 60, 61, 62, 63, 64, 65, 66, 67, 68, 69, 70, 71, 72, 73, 74, 75, 76, 77, 78, 79, 80, 81, 82, 83] (by decide +kernel) (by decide +kernel)
set_option maxRecDepth 20000 in
theorem gX9_flowers_X9_note : GoodIn wsX9_flowers (wsV RX9 159 RX9 yX9_note wsX9_note) := goodIn_app (goodIn_of _ (by decide +kernel)) ggX9_flowers_X9_note
set_option maxRecDepth 20000 in
theorem ggX9_flowers_X9_goFlowers : GoodIn wsX9_flowers wsX9_goFlowers := goodIn_r _ [21, 22, 23, 50, 51, 52, 53, 54, 55, 56, 57, 58, 59, 60, 61, 62, 63, 64, 65, 66, 67, 68, 69, 70, 71, 72, 73, 74, 75, 76, 77, 78, 79, 80, 81, 82, 83] (by decide +kernel) (by decide +kernel)
set_option maxRecDepth 20000 in
theorem gX9_flowers_X9_goFlowers : GoodIn wsX9_flowers (wsV RX9 166 RX9 yX9_goFlowers wsX9_goFlowers) := goodIn_app (goodIn_of _ (by decide +kernel)) ggX9_flowers_X9_goFlowers
set_option maxRecDepth 20000 in
theorem ggX9_flowers_X9_loudOf : GoodIn wsX9_flowers wsX9_loudOf := goodIn_r _ [27, 28, 29, 30, 6, 31, 22, 23, 32, 33, 34, 35, 36, 37, 38, 39, 40, 41, 42, 43, 44, 45, 46, 47, 48, 49, 50, 51, 52, 53, 54, 55, 56, 57, 58, 59, 60, 61, 62, 63, 64, 65, 66, 67, 68, 69, 70, 71, 72, 73, 74, 75, 76, 77, 78, 79, 80, 81, 82, 83] (by decide +kernel) (by decide +kernel)
set_option maxRecDepth 20000 in
theorem gX9_flowers_X9_loudOf : GoodIn wsX9_flowers (wsV RX9 153 RX9 yX9_loudOf wsX9_loudOf) := goodIn_app (goodIn_of _ (by decide +kernel)) ggX9_flowers_X9_loudOf
theorem dX9_flowers_0 : decode cX9_flowers 0 = .ok (.aload_n 0, 1) := by decide +kernel
theorem dX9_flowers_1 : decode cX9_flowers 1 = .ok (.iconst 0, 1) := by decide +kernel
theorem dX9_flowers_2 : decode cX9_flowers 2 = .ok (.putfield 62, 3) := by decide +kernel
theorem dX9_flowers_5 : decode cX9_flowers 5 = .ok (.aload_n 0, 1) := by decide +kernel
theorem dX9_flowers_6 : decode cX9_flowers 6 = .ok (.iload_n 1, 1) := by decide +kernel
theorem dX9_flowers_7 : decode cX9_flowers 7 = .ok (.invokevirtual 149, 3) := by decide +kernel
theorem dX9_flowers_10 : decode cX9_flowers 10 = .ok (.ifCond .eq 5, 3) := by decide +kernel
theorem dX9_flowers_13 : decode cX9_flowers 13 = .ok (.iconst (-1), 1) := by decide +kernel
theorem dX9_flowers_14 : decode cX9_flowers 14 = .ok (.ireturn, 1) := by decide +kernel
theorem dX9_flowers_15 : decode cX9_flowers 15 = .ok (.aload_n 0, 1) := by decide +kernel
theorem dX9_flowers_16 : decode cX9_flowers 16 = .ok (.invokevirtual 159, 3) := by decide +kernel
theorem dX9_flowers_19 : decode cX9_flowers 19 = .ok (.aload_n 0, 1) := by decide +kernel
theorem dX9_flowers_20 : decode cX9_flowers 20 = .ok (.aload_n 0, 1) := by decide +kernel
theorem dX9_flowers_21 : decode cX9_flowers 21 = .ok (.getfield 31, 3) := by decide +kernel
theorem dX9_flowers_24 : decode cX9_flowers 24 = .ok (.iload_n 1, 1) := by decide +kernel
theorem dX9_flowers_25 : decode cX9_flowers 25 = .ok (.invokevirtual 166, 3) := by decide +kernel
theorem dX9_flowers_28 : decode cX9_flowers 28 = .ok (.aload_n 0, 1) := by decide +kernel
theorem dX9_flowers_29 : decode cX9_flowers 29 = .ok (.aload_n 0, 1) := by decide +kernel
theorem dX9_flowers_30 : decode cX9_flowers 30 = .ok (.getfield 31, 3) := by decide +kernel
theorem dX9_flowers_33 : decode cX9_flowers 33 = .ok (.iload_n 1, 1) := by decide +kernel
theorem dX9_flowers_34 : decode cX9_flowers 34 = .ok (.bipush 127, 2) := by decide +kernel
theorem dX9_flowers_36 : decode cX9_flowers 36 = .ok (.invokevirtual 153, 3) := by decide +kernel
theorem dX9_flowers_39 : decode cX9_flowers 39 = .ok (.ireturn, 1) := by decide +kernel
set_option maxRecDepth 20000 in
theorem ggX9_isFree_X9_in : GoodIn wsX9_isFree wsX9_in := goodIn_r _ [6] (by decide +kernel) (by decide +kernel)
set_option maxRecDepth 20000 in
theorem gX9_isFree_X9_in : GoodIn wsX9_isFree (va_wsS RX9 69 yX9_in wsX9_in) := goodIn_app (goodIn_of _ (by decide +kernel)) ggX9_isFree_X9_in
theorem dX9_isFree_0 : decode cX9_isFree 0 = .ok (.iload_n 2, 1) := by decide +kernel
theorem dX9_isFree_1 : decode cX9_isFree 1 = .ok (.i2l, 1) := by decide +kernel
theorem dX9_isFree_2 : decode cX9_isFree 2 = .ok (.lconst 0, 1) := by decide +kernel
theorem dX9_isFree_3 : decode cX9_isFree 3 = .ok (.ldc2_w 91, 3) := by decide +kernel
theorem dX9_isFree_6 : decode cX9_isFree 6 = .ok (.invokestatic 69, 3) := by decide +kernel
theorem dX9_isFree_9 : decode cX9_isFree 9 = .ok (.istore_n 3, 1) := by decide +kernel
theorem dX9_isFree_10 : decode cX9_isFree 10 = .ok (.iconst 0, 1) := by decide +kernel
theorem dX9_isFree_11 : decode cX9_isFree 11 = .ok (.istore 4, 2) := by decide +kernel
theorem dX9_isFree_13 : decode cX9_isFree 13 = .ok (.iload 4, 2) := by decide +kernel
theorem dX9_isFree_15 : decode cX9_isFree 15 = .ok (.aload_n 0, 1) := by decide +kernel
theorem dX9_isFree_16 : decode cX9_isFree 16 = .ok (.getfield 73, 3) := by decide +kernel
theorem dX9_isFree_19 : decode cX9_isFree 19 = .ok (.if_icmp .ge 27, 3) := by decide +kernel
theorem dX9_isFree_22 : decode cX9_isFree 22 = .ok (.iload_n 3, 1) := by decide +kernel
theorem dX9_isFree_23 : decode cX9_isFree 23 = .ok (.ifCond .eq 15, 3) := by decide +kernel
theorem dX9_isFree_26 : decode cX9_isFree 26 = .ok (.aload_n 1, 1) := by decide +kernel
theorem dX9_isFree_27 : decode cX9_isFree 27 = .ok (.iload 4, 2) := by decide +kernel
theorem dX9_isFree_29 : decode cX9_isFree 29 = .ok (.iaload, 1) := by decide +kernel
theorem dX9_isFree_30 : decode cX9_isFree 30 = .ok (.iload_n 2, 1) := by decide +kernel
theorem dX9_isFree_31 : decode cX9_isFree 31 = .ok (.if_icmp .eq 7, 3) := by decide +kernel
theorem dX9_isFree_34 : decode cX9_isFree 34 = .ok (.iconst 1, 1) := by decide +kernel
theorem dX9_isFree_35 : decode cX9_isFree 35 = .ok (.goto 4, 3) := by decide +kernel
theorem dX9_isFree_38 : decode cX9_isFree 38 = .ok (.iconst 0, 1) := by decide +kernel
theorem dX9_isFree_39 : decode cX9_isFree 39 = .ok (.istore_n 3, 1) := by decide +kernel
theorem dX9_isFree_40 : decode cX9_isFree 40 = .ok (.iinc 4 1, 3) := by decide +kernel
theorem dX9_isFree_43 : decode cX9_isFree 43 = .ok (.goto (-30), 3) := by decide +kernel
theorem dX9_isFree_46 : decode cX9_isFree 46 = .ok (.iload_n 3, 1) := by decide +kernel
theorem dX9_isFree_47 : decode cX9_isFree 47 = .ok (.ireturn, 1) := by decide +kernel
set_option maxRecDepth 20000 in
theorem ggX9_seat_X9_noHand : GoodIn wsX9_seat wsX9_noHand := goodIn_r _ [8, 9, 10, 11, 7, 12, 23, 24, 25, 26, 27, 28, 29, 30, 31, 32, 33, 34, 35, 36, 37, 38, 39, 40, 41, 42, 43, 44, 45, 46, 47, 48, 49, 50, 51, 52, 53, 54, 55, 56] (by decide +kernel) (by decide +kernel)
set_option maxRecDepth 20000 in
theorem gX9_seat_X9_noHand : GoodIn wsX9_seat (wsV RX9 156 RX9 yX9_noHand wsX9_noHand) := goodIn_app (goodIn_of _ (by decide +kernel)) ggX9_seat_X9_noHand
set_option maxRecDepth 20000 in
theorem ggX9_seat_X9_in : GoodIn wsX9_seat wsX9_in := goodIn_r _ [12] (by decide +kernel) (by decide +kernel)
set_option maxRecDepth 20000 in
theorem gX9_seat_X9_in : GoodIn wsX9_seat (va_wsS RX9 69 yX9_in wsX9_in) := goodIn_app (goodIn_of _ (by decide +kernel)) ggX9_seat_X9_in
set_option maxRecDepth 20000 in
theorem ggX9_seat_X9_isFree : GoodIn wsX9_seat wsX9_isFree := goodIn_r _ [16, 2, 9, 10, 11, 7, 12, 23, 24, 25, 26, 27, 28, 29, 30, 31, 32, 33, 34, 35, 36, 37, 38, 39, 40, 41, 42, 43, 44, 45, 46, 47, 48, 49, 50, 51, 52, 53, 54, 55, 56] (by decide +kernel) (by decide +kernel)
set_option maxRecDepth 20000 in
theorem gX9_seat_X9_isFree : GoodIn wsX9_seat (wsV RX9 170 RX9 yX9_isFree wsX9_isFree) := goodIn_app (goodIn_of _ (by decide +kernel)) ggX9_seat_X9_isFree
set_option maxRecDepth 20000 in
theorem ggX9_seat_X9_note : GoodIn wsX9_seat wsX9_note := goodIn_r _ [20, 21, 22, 3, 23, 24, 25, 26, 27, 28, 29, 30, 31, 32, 33, 34, 35, 36, 37, 38, 39, 40, 41, 42, 43, 44, 45, 46, 47, 48, 49, 50, 51, 52, 53, 54, 55, 56] (by decide +kernel) (by decide +kernel)
set_option maxRecDepth 20000 in
theorem gX9_seat_X9_note : GoodIn wsX9_seat (wsV RX9 159 RX9 yX9_note wsX9_note) := goodIn_app (goodIn_of _ (by decide +kernel)) ggX9_seat_X9_note
theorem dX9_seat_0 : decode cX9_seat 0 = .ok (.aload_n 0, 1) := by decide +kernel
theorem dX9_seat_1 : decode cX9_seat 1 = .ok (.iconst 0, 1) := by decide +kernel
theorem dX9_seat_2 : decode cX9_seat 2 = .ok (.putfield 62, 3) := by decide +kernel
theorem dX9_seat_5 : decode cX9_seat 5 = .ok (.aload_n 0, 1) := by decide +kernel
theorem dX9_seat_6 : decode cX9_seat 6 = .ok (.iload_n 1, 1) := by decide +kernel
theorem dX9_seat_7 : decode cX9_seat 7 = .ok (.invokevirtual 156, 3) := by decide +kernel
theorem dX9_seat_10 : decode cX9_seat 10 = .ok (.ifCond .ne 15, 3) := by decide +kernel
theorem dX9_seat_13 : decode cX9_seat 13 = .ok (.iload_n 2, 1) := by decide +kernel
theorem dX9_seat_14 : decode cX9_seat 14 = .ok (.i2l, 1) := by decide +kernel
theorem dX9_seat_15 : decode cX9_seat 15 = .ok (.lconst 0, 1) := by decide +kernel
theorem dX9_seat_16 : decode cX9_seat 16 = .ok (.ldc2_w 91, 3) := by decide +kernel
theorem dX9_seat_19 : decode cX9_seat 19 = .ok (.invokestatic 69, 3) := by decide +kernel
theorem dX9_seat_22 : decode cX9_seat 22 = .ok (.ifCond .ne 5, 3) := by decide +kernel
theorem dX9_seat_25 : decode cX9_seat 25 = .ok (.iconst (-1), 1) := by decide +kernel
theorem dX9_seat_26 : decode cX9_seat 26 = .ok (.ireturn, 1) := by decide +kernel
theorem dX9_seat_27 : decode cX9_seat 27 = .ok (.aload_n 0, 1) := by decide +kernel
theorem dX9_seat_28 : decode cX9_seat 28 = .ok (.aload_n 0, 1) := by decide +kernel
theorem dX9_seat_29 : decode cX9_seat 29 = .ok (.getfield 31, 3) := by decide +kernel
theorem dX9_seat_32 : decode cX9_seat 32 = .ok (.iload_n 2, 1) := by decide +kernel
theorem dX9_seat_33 : decode cX9_seat 33 = .ok (.invokevirtual 170, 3) := by decide +kernel
theorem dX9_seat_36 : decode cX9_seat 36 = .ok (.ifCond .ne 6, 3) := by decide +kernel
theorem dX9_seat_39 : decode cX9_seat 39 = .ok (.bipush (-3), 2) := by decide +kernel
theorem dX9_seat_41 : decode cX9_seat 41 = .ok (.ireturn, 1) := by decide +kernel
theorem dX9_seat_42 : decode cX9_seat 42 = .ok (.aload_n 0, 1) := by decide +kernel
theorem dX9_seat_43 : decode cX9_seat 43 = .ok (.invokevirtual 159, 3) := by decide +kernel
theorem dX9_seat_46 : decode cX9_seat 46 = .ok (.aload_n 0, 1) := by decide +kernel
theorem dX9_seat_47 : decode cX9_seat 47 = .ok (.getfield 31, 3) := by decide +kernel
theorem dX9_seat_50 : decode cX9_seat 50 = .ok (.iload_n 1, 1) := by decide +kernel
theorem dX9_seat_51 : decode cX9_seat 51 = .ok (.iaload, 1) := by decide +kernel
theorem dX9_seat_52 : decode cX9_seat 52 = .ok (.istore_n 3, 1) := by decide +kernel
theorem dX9_seat_53 : decode cX9_seat 53 = .ok (.aload_n 0, 1) := by decide +kernel
theorem dX9_seat_54 : decode cX9_seat 54 = .ok (.getfield 31, 3) := by decide +kernel
theorem dX9_seat_57 : decode cX9_seat 57 = .ok (.iload_n 1, 1) := by decide +kernel
theorem dX9_seat_58 : decode cX9_seat 58 = .ok (.iload_n 2, 1) := by decide +kernel
theorem dX9_seat_59 : decode cX9_seat 59 = .ok (.iastore, 1) := by decide +kernel
theorem dX9_seat_60 : decode cX9_seat 60 = .ok (.iload_n 3, 1) := by decide +kernel
theorem dX9_seat_61 : decode cX9_seat 61 = .ok (.ireturn, 1) := by decide +kernel
theorem dX9_goNight_0 : decode cX9_goNight 0 = .ok (.iconst 0, 1) := by decide +kernel
theorem dX9_goNight_1 : decode cX9_goNight 1 = .ok (.istore_n 2, 1) := by decide +kernel
theorem dX9_goNight_2 : decode cX9_goNight 2 = .ok (.iload_n 2, 1) := by decide +kernel
theorem dX9_goNight_3 : decode cX9_goNight 3 = .ok (.aload_n 0, 1) := by decide +kernel
theorem dX9_goNight_4 : decode cX9_goNight 4 = .ok (.getfield 73, 3) := by decide +kernel
theorem dX9_goNight_7 : decode cX9_goNight 7 = .ok (.if_icmp .ge 38, 3) := by decide +kernel
theorem dX9_goNight_10 : decode cX9_goNight 10 = .ok (.aload_n 1, 1) := by decide +kernel
theorem dX9_goNight_11 : decode cX9_goNight 11 = .ok (.bipush 7, 2) := by decide +kernel
theorem dX9_goNight_13 : decode cX9_goNight 13 = .ok (.iload_n 2, 1) := by decide +kernel
theorem dX9_goNight_14 : decode cX9_goNight 14 = .ok (.iadd, 1) := by decide +kernel
theorem dX9_goNight_15 : decode cX9_goNight 15 = .ok (.dup2, 1) := by decide +kernel
theorem dX9_goNight_16 : decode cX9_goNight 16 = .ok (.iaload, 1) := by decide +kernel
theorem dX9_goNight_17 : decode cX9_goNight 17 = .ok (.aload_n 1, 1) := by decide +kernel
theorem dX9_goNight_18 : decode cX9_goNight 18 = .ok (.bipush 7, 2) := by decide +kernel
theorem dX9_goNight_20 : decode cX9_goNight 20 = .ok (.iload_n 2, 1) := by decide +kernel
theorem dX9_goNight_21 : decode cX9_goNight 21 = .ok (.iadd, 1) := by decide +kernel
theorem dX9_goNight_22 : decode cX9_goNight 22 = .ok (.iaload, 1) := by decide +kernel
theorem dX9_goNight_23 : decode cX9_goNight 23 = .ok (.aload_n 0, 1) := by decide +kernel
theorem dX9_goNight_24 : decode cX9_goNight 24 = .ok (.getfield 19, 3) := by decide +kernel
theorem dX9_goNight_27 : decode cX9_goNight 27 = .ok (.iload_n 2, 1) := by decide +kernel
theorem dX9_goNight_28 : decode cX9_goNight 28 = .ok (.iaload, 1) := by decide +kernel
theorem dX9_goNight_29 : decode cX9_goNight 29 = .ok (.if_icmp .ge 7, 3) := by decide +kernel
theorem dX9_goNight_32 : decode cX9_goNight 32 = .ok (.iconst 1, 1) := by decide +kernel
theorem dX9_goNight_33 : decode cX9_goNight 33 = .ok (.goto 4, 3) := by decide +kernel
theorem dX9_goNight_36 : decode cX9_goNight 36 = .ok (.iconst 0, 1) := by decide +kernel
theorem dX9_goNight_37 : decode cX9_goNight 37 = .ok (.iadd, 1) := by decide +kernel
