set_option maxRecDepth 20000 in
theorem ggX0_init_X4_init : GoodIn wsX0_init wsX4_init := goodIn_r _ [10, 11, 2, 3, 12, 13, 14, 15, 16, 20, 21, 22, 23, 24, 25] (by decide +kernel) (by decide +kernel)
set_option maxRecDepth 20000 in
theorem gX0_init_X4_init : GoodIn wsX0_init (wsX4_init) := ggX0_init_X4_init
theorem dX0_init_0 : decode cX0_init 0 = .ok (.aload_n 0, 1) := by decide +kernel
theorem dX0_init_1 : decode cX0_init 1 = .ok (.invokespecial 3, 3) := by decide +kernel
theorem dX0_init_4 : decode cX0_init 4 = .ok (.aload_n 0, 1) := by decide +kernel
theorem dX0_init_5 : decode cX0_init 5 = .ok (.bipush 14, 2) := by decide +kernel
theorem dX0_init_7 : decode cX0_init 7 = .ok (.anewarray 9, 3) := by decide +kernel
theorem dX0_init_10 : decode cX0_init 10 = .ok (.putfield 11, 3) := by decide +kernel
theorem dX0_init_13 : decode cX0_init 13 = .ok (.iconst 0, 1) := by decide +kernel
theorem dX0_init_14 : decode cX0_init 14 = .ok (.istore_n 2, 1) := by decide +kernel
theorem dX0_init_15 : decode cX0_init 15 = .ok (.iload_n 2, 1) := by decide +kernel
theorem dX0_init_16 : decode cX0_init 16 = .ok (.bipush 14, 2) := by decide +kernel
theorem dX0_init_18 : decode cX0_init 18 = .ok (.if_icmp .ge 23, 3) := by decide +kernel
theorem dX0_init_21 : decode cX0_init 21 = .ok (.aload_n 0, 1) := by decide +kernel
theorem dX0_init_22 : decode cX0_init 22 = .ok (.getfield 11, 3) := by decide +kernel
theorem dX0_init_25 : decode cX0_init 25 = .ok (.iload_n 2, 1) := by decide +kernel
theorem dX0_init_26 : decode cX0_init 26 = .ok (.new 9, 3) := by decide +kernel
theorem dX0_init_29 : decode cX0_init 29 = .ok (.dup, 1) := by decide +kernel
theorem dX0_init_30 : decode cX0_init 30 = .ok (.aload_n 1, 1) := by decide +kernel
theorem dX0_init_31 : decode cX0_init 31 = .ok (.invokespecial 17, 3) := by decide +kernel
theorem dX0_init_34 : decode cX0_init 34 = .ok (.aastore, 1) := by decide +kernel
theorem dX0_init_35 : decode cX0_init 35 = .ok (.iinc 2 1, 3) := by decide +kernel
theorem dX0_init_38 : decode cX0_init 38 = .ok (.goto (-23), 3) := by decide +kernel
theorem dX0_init_41 : decode cX0_init 41 = .ok (.return_, 1) := by decide +kernel
set_option maxRecDepth 20000 in
theorem ggX0_note_X4_copyFrom : GoodIn wsX0_note wsX4_copyFrom := goodIn_r _ [8, 9, 10, 11, 12, 13, 14, 15, 16, 17, 21, 22, 23, 24, 25, 26] (by decide +kernel) (by decide +kernel)
set_option maxRecDepth 20000 in
theorem gX0_note_X4_copyFrom : GoodIn wsX0_note (wsV RX0 27 RX4 yX4_copyFrom wsX4_copyFrom) := goodIn_app (goodIn_of _ (by decide +kernel)) ggX0_note_X4_copyFrom
theorem dX0_note_0 : decode cX0_note 0 = .ok (.aload_n 0, 1) := by decide +kernel
theorem dX0_note_1 : decode cX0_note 1 = .ok (.getfield 11, 3) := by decide +kernel
theorem dX0_note_4 : decode cX0_note 4 = .ok (.aload_n 0, 1) := by decide +kernel
theorem dX0_note_5 : decode cX0_note 5 = .ok (.getfield 20, 3) := by decide +kernel
theorem dX0_note_8 : decode cX0_note 8 = .ok (.aload_n 0, 1) := by decide +kernel
theorem dX0_note_9 : decode cX0_note 9 = .ok (.getfield 24, 3) := by decide +kernel
theorem dX0_note_12 : decode cX0_note 12 = .ok (.iadd, 1) := by decide +kernel
theorem dX0_note_13 : decode cX0_note 13 = .ok (.bipush 14, 2) := by decide +kernel
theorem dX0_note_15 : decode cX0_note 15 = .ok (.irem, 1) := by decide +kernel
theorem dX0_note_16 : decode cX0_note 16 = .ok (.aaload, 1) := by decide +kernel
theorem dX0_note_17 : decode cX0_note 17 = .ok (.aload_n 1, 1) := by decide +kernel
theorem dX0_note_18 : decode cX0_note 18 = .ok (.invokevirtual 27, 3) := by decide +kernel
theorem dX0_note_21 : decode cX0_note 21 = .ok (.aload_n 0, 1) := by decide +kernel
theorem dX0_note_22 : decode cX0_note 22 = .ok (.getfield 24, 3) := by decide +kernel
theorem dX0_note_25 : decode cX0_note 25 = .ok (.bipush 14, 2) := by decide +kernel
theorem dX0_note_27 : decode cX0_note 27 = .ok (.if_icmp .ge 16, 3) := by decide +kernel
theorem dX0_note_30 : decode cX0_note 30 = .ok (.aload_n 0, 1) := by decide +kernel
theorem dX0_note_31 : decode cX0_note 31 = .ok (.dup, 1) := by decide +kernel
theorem dX0_note_32 : decode cX0_note 32 = .ok (.getfield 24, 3) := by decide +kernel
theorem dX0_note_35 : decode cX0_note 35 = .ok (.iconst 1, 1) := by decide +kernel
theorem dX0_note_36 : decode cX0_note 36 = .ok (.iadd, 1) := by decide +kernel
theorem dX0_note_37 : decode cX0_note 37 = .ok (.putfield 24, 3) := by decide +kernel
theorem dX0_note_40 : decode cX0_note 40 = .ok (.goto 16, 3) := by decide +kernel
theorem dX0_note_43 : decode cX0_note 43 = .ok (.aload_n 0, 1) := by decide +kernel
theorem dX0_note_44 : decode cX0_note 44 = .ok (.aload_n 0, 1) := by decide +kernel
theorem dX0_note_45 : decode cX0_note 45 = .ok (.getfield 20, 3) := by decide +kernel
theorem dX0_note_48 : decode cX0_note 48 = .ok (.iconst 1, 1) := by decide +kernel
theorem dX0_note_49 : decode cX0_note 49 = .ok (.iadd, 1) := by decide +kernel
theorem dX0_note_50 : decode cX0_note 50 = .ok (.bipush 14, 2) := by decide +kernel
theorem dX0_note_52 : decode cX0_note 52 = .ok (.irem, 1) := by decide +kernel
theorem dX0_note_53 : decode cX0_note 53 = .ok (.putfield 20, 3) := by decide +kernel
theorem dX0_note_56 : decode cX0_note 56 = .ok (.return_, 1) := by decide +kernel
set_option maxRecDepth 20000 in
theorem ggX0_takeBack_X4_copyFrom : GoodIn wsX0_takeBack wsX4_copyFrom := goodIn_r _ [8, 9, 10, 11, 12, 13, 14, 15, 16, 17, 21, 22, 23, 24, 25, 26] (by decide +kernel) (by decide +kernel)
set_option maxRecDepth 20000 in
theorem gX0_takeBack_X4_copyFrom : GoodIn wsX0_takeBack (wsV RX0 27 RX4 yX4_copyFrom wsX4_copyFrom) := goodIn_app (goodIn_of _ (by decide +kernel)) ggX0_takeBack_X4_copyFrom
theorem dX0_takeBack_0 : decode cX0_takeBack 0 = .ok (.aload_n 0, 1) := by decide +kernel
theorem dX0_takeBack_1 : decode cX0_takeBack 1 = .ok (.getfield 24, 3) := by decide +kernel
theorem dX0_takeBack_4 : decode cX0_takeBack 4 = .ok (.ifCond .le 34, 3) := by decide +kernel
theorem dX0_takeBack_7 : decode cX0_takeBack 7 = .ok (.aload_n 0, 1) := by decide +kernel
theorem dX0_takeBack_8 : decode cX0_takeBack 8 = .ok (.dup, 1) := by decide +kernel
theorem dX0_takeBack_9 : decode cX0_takeBack 9 = .ok (.getfield 24, 3) := by decide +kernel
theorem dX0_takeBack_12 : decode cX0_takeBack 12 = .ok (.iconst 1, 1) := by decide +kernel
theorem dX0_takeBack_13 : decode cX0_takeBack 13 = .ok (.isub, 1) := by decide +kernel
theorem dX0_takeBack_14 : decode cX0_takeBack 14 = .ok (.putfield 24, 3) := by decide +kernel
theorem dX0_takeBack_17 : decode cX0_takeBack 17 = .ok (.aload_n 1, 1) := by decide +kernel
theorem dX0_takeBack_18 : decode cX0_takeBack 18 = .ok (.aload_n 0, 1) := by decide +kernel
theorem dX0_takeBack_19 : decode cX0_takeBack 19 = .ok (.getfield 11, 3) := by decide +kernel
theorem dX0_takeBack_22 : decode cX0_takeBack 22 = .ok (.aload_n 0, 1) := by decide +kernel
theorem dX0_takeBack_23 : decode cX0_takeBack 23 = .ok (.getfield 20, 3) := by decide +kernel
theorem dX0_takeBack_26 : decode cX0_takeBack 26 = .ok (.aload_n 0, 1) := by decide +kernel
theorem dX0_takeBack_27 : decode cX0_takeBack 27 = .ok (.getfield 24, 3) := by decide +kernel
theorem dX0_takeBack_30 : decode cX0_takeBack 30 = .ok (.iadd, 1) := by decide +kernel
theorem dX0_takeBack_31 : decode cX0_takeBack 31 = .ok (.bipush 14, 2) := by decide +kernel
theorem dX0_takeBack_33 : decode cX0_takeBack 33 = .ok (.irem, 1) := by decide +kernel
theorem dX0_takeBack_34 : decode cX0_takeBack 34 = .ok (.aaload, 1) := by decide +kernel
theorem dX0_takeBack_35 : decode cX0_takeBack 35 = .ok (.invokevirtual 27, 3) := by decide +kernel
theorem dX0_takeBack_38 : decode cX0_takeBack 38 = .ok (.return_, 1) := by decide +kernel
theorem dX0_forget_0 : decode cX0_forget 0 = .ok (.aload_n 0, 1) := by decide +kernel
theorem dX0_forget_1 : decode cX0_forget 1 = .ok (.iconst 0, 1) := by decide +kernel
theorem dX0_forget_2 : decode cX0_forget 2 = .ok (.putfield 20, 3) := by decide +kernel
theorem dX0_forget_5 : decode cX0_forget 5 = .ok (.aload_n 0, 1) := by decide +kernel
theorem dX0_forget_6 : decode cX0_forget 6 = .ok (.iconst 0, 1) := by decide +kernel
theorem dX0_forget_7 : decode cX0_forget 7 = .ok (.putfield 24, 3) := by decide +kernel
theorem dX0_forget_10 : decode cX0_forget 10 = .ok (.return_, 1) := by decide +kernel
theorem dX1_init_0 : decode cX1_init 0 = .ok (.aload_n 0, 1) := by decide +kernel
theorem dX1_init_1 : decode cX1_init 1 = .ok (.invokespecial 3, 3) := by decide +kernel
theorem dX1_init_4 : decode cX1_init 4 = .ok (.aload_n 0, 1) := by decide +kernel
theorem dX1_init_5 : decode cX1_init 5 = .ok (.iconst 3, 1) := by decide +kernel
theorem dX1_init_6 : decode cX1_init 6 = .ok (.newarray .int, 2) := by decide +kernel
theorem dX1_init_8 : decode cX1_init 8 = .ok (.putfield 9, 3) := by decide +kernel
theorem dX1_init_11 : decode cX1_init 11 = .ok (.aload_n 0, 1) := by decide +kernel
theorem dX1_init_12 : decode cX1_init 12 = .ok (.bipush 7, 2) := by decide +kernel
theorem dX1_init_14 : decode cX1_init 14 = .ok (.newarray .int, 2) := by decide +kernel
theorem dX1_init_16 : decode cX1_init 16 = .ok (.putfield 15, 3) := by decide +kernel
theorem dX1_init_19 : decode cX1_init 19 = .ok (.aload_n 0, 1) := by decide +kernel
theorem dX1_init_20 : decode cX1_init 20 = .ok (.bipush 7, 2) := by decide +kernel
theorem dX1_init_22 : decode cX1_init 22 = .ok (.newarray .int, 2) := by decide +kernel
theorem dX1_init_24 : decode cX1_init 24 = .ok (.putfield 18, 3) := by decide +kernel
theorem dX1_init_27 : decode cX1_init 27 = .ok (.aload_n 0, 1) := by decide +kernel
theorem dX1_init_28 : decode cX1_init 28 = .ok (.bipush 7, 2) := by decide +kernel
theorem dX1_init_30 : decode cX1_init 30 = .ok (.newarray .int, 2) := by decide +kernel
theorem dX1_init_32 : decode cX1_init 32 = .ok (.putfield 21, 3) := by decide +kernel
theorem dX1_init_35 : decode cX1_init 35 = .ok (.aload_n 0, 1) := by decide +kernel
theorem dX1_init_36 : decode cX1_init 36 = .ok (.bipush 7, 2) := by decide +kernel
theorem dX1_init_38 : decode cX1_init 38 = .ok (.newarray .int, 2) := by decide +kernel
theorem dX1_init_40 : decode cX1_init 40 = .ok (.putfield 24, 3) := by decide +kernel
theorem dX1_init_43 : decode cX1_init 43 = .ok (.return_, 1) := by decide +kernel
theorem dX1_clear_0 : decode cX1_clear 0 = .ok (.aload_n 0, 1) := by decide +kernel
theorem dX1_clear_1 : decode cX1_clear 1 = .ok (.iconst 0, 1) := by decide +kernel
theorem dX1_clear_2 : decode cX1_clear 2 = .ok (.putfield 27, 3) := by decide +kernel
theorem dX1_clear_5 : decode cX1_clear 5 = .ok (.aload_n 0, 1) := by decide +kernel
theorem dX1_clear_6 : decode cX1_clear 6 = .ok (.iconst 0, 1) := by decide +kernel
theorem dX1_clear_7 : decode cX1_clear 7 = .ok (.putfield 31, 3) := by decide +kernel
theorem dX1_clear_10 : decode cX1_clear 10 = .ok (.aload_n 0, 1) := by decide +kernel
theorem dX1_clear_11 : decode cX1_clear 11 = .ok (.iconst 0, 1) := by decide +kernel
theorem dX1_clear_12 : decode cX1_clear 12 = .ok (.putfield 34, 3) := by decide +kernel
theorem dX1_clear_15 : decode cX1_clear 15 = .ok (.return_, 1) := by decide +kernel
theorem dX1_addPlayer_0 : decode cX1_addPlayer 0 = .ok (.aload_n 0, 1) := by decide +kernel
theorem dX1_addPlayer_1 : decode cX1_addPlayer 1 = .ok (.getfield 27, 3) := by decide +kernel
theorem dX1_addPlayer_4 : decode cX1_addPlayer 4 = .ok (.iconst 3, 1) := by decide +kernel
theorem dX1_addPlayer_5 : decode cX1_addPlayer 5 = .ok (.if_icmp .ge 23, 3) := by decide +kernel
theorem dX1_addPlayer_8 : decode cX1_addPlayer 8 = .ok (.aload_n 0, 1) := by decide +kernel
theorem dX1_addPlayer_9 : decode cX1_addPlayer 9 = .ok (.getfield 9, 3) := by decide +kernel
theorem dX1_addPlayer_12 : decode cX1_addPlayer 12 = .ok (.aload_n 0, 1) := by decide +kernel
theorem dX1_addPlayer_13 : decode cX1_addPlayer 13 = .ok (.getfield 27, 3) := by decide +kernel
theorem dX1_addPlayer_16 : decode cX1_addPlayer 16 = .ok (.iload_n 1, 1) := by decide +kernel
theorem dX1_addPlayer_17 : decode cX1_addPlayer 17 = .ok (.iastore, 1) := by decide +kernel
theorem dX1_addPlayer_18 : decode cX1_addPlayer 18 = .ok (.aload_n 0, 1) := by decide +kernel
theorem dX1_addPlayer_19 : decode cX1_addPlayer 19 = .ok (.dup, 1) := by decide +kernel
theorem dX1_addPlayer_20 : decode cX1_addPlayer 20 = .ok (.getfield 27, 3) := by decide +kernel
theorem dX1_addPlayer_23 : decode cX1_addPlayer 23 = .ok (.iconst 1, 1) := by decide +kernel
theorem dX1_addPlayer_24 : decode cX1_addPlayer 24 = .ok (.iadd, 1) := by decide +kernel
theorem dX1_addPlayer_25 : decode cX1_addPlayer 25 = .ok (.putfield 27, 3) := by decide +kernel
theorem dX1_addPlayer_28 : decode cX1_addPlayer 28 = .ok (.return_, 1) := by decide +kernel
theorem dX1_addHand_0 : decode cX1_addHand 0 = .ok (.aload_n 0, 1) := by decide +kernel
theorem dX1_addHand_1 : decode cX1_addHand 1 = .ok (.getfield 31, 3) := by decide +kernel
theorem dX1_addHand_4 : decode cX1_addHand 4 = .ok (.bipush 7, 2) := by decide +kernel
theorem dX1_addHand_6 : decode cX1_addHand 6 = .ok (.if_icmp .ge 66, 3) := by decide +kernel
theorem dX1_addHand_9 : decode cX1_addHand 9 = .ok (.aload_n 0, 1) := by decide +kernel
theorem dX1_addHand_10 : decode cX1_addHand 10 = .ok (.getfield 15, 3) := by decide +kernel
theorem dX1_addHand_13 : decode cX1_addHand 13 = .ok (.aload_n 0, 1) := by decide +kernel
theorem dX1_addHand_14 : decode cX1_addHand 14 = .ok (.getfield 31, 3) := by decide +kernel
theorem dX1_addHand_17 : decode cX1_addHand 17 = .ok (.iload_n 1, 1) := by decide +kernel
theorem dX1_addHand_18 : decode cX1_addHand 18 = .ok (.iastore, 1) := by decide +kernel
theorem dX1_addHand_19 : decode cX1_addHand 19 = .ok (.aload_n 0, 1) := by decide +kernel
theorem dX1_addHand_20 : decode cX1_addHand 20 = .ok (.getfield 18, 3) := by decide +kernel
theorem dX1_addHand_23 : decode cX1_addHand 23 = .ok (.aload_n 0, 1) := by decide +kernel
theorem dX1_addHand_24 : decode cX1_addHand 24 = .ok (.getfield 31, 3) := by decide +kernel
theorem dX1_addHand_27 : decode cX1_addHand 27 = .ok (.iload_n 2, 1) := by decide +kernel
theorem dX1_addHand_28 : decode cX1_addHand 28 = .ok (.iastore, 1) := by decide +kernel
theorem dX1_addHand_29 : decode cX1_addHand 29 = .ok (.aload_n 0, 1) := by decide +kernel
theorem dX1_addHand_30 : decode cX1_addHand 30 = .ok (.getfield 21, 3) := by decide +kernel
theorem dX1_addHand_33 : decode cX1_addHand 33 = .ok (.aload_n 0, 1) := by decide +kernel
theorem dX1_addHand_34 : decode cX1_addHand 34 = .ok (.getfield 31, 3) := by decide +kernel
theorem dX1_addHand_37 : decode cX1_addHand 37 = .ok (.iload_n 3, 1) := by decide +kernel
theorem dX1_addHand_38 : decode cX1_addHand 38 = .ok (.iastore, 1) := by decide +kernel
theorem dX1_addHand_39 : decode cX1_addHand 39 = .ok (.aload_n 0, 1) := by decide +kernel
theorem dX1_addHand_40 : decode cX1_addHand 40 = .ok (.getfield 24, 3) := by decide +kernel
theorem dX1_addHand_43 : decode cX1_addHand 43 = .ok (.aload_n 0, 1) := by decide +kernel
theorem dX1_addHand_44 : decode cX1_addHand 44 = .ok (.getfield 31, 3) := by decide +kernel
theorem dX1_addHand_47 : decode cX1_addHand 47 = .ok (.iload 4, 2) := by decide +kernel
theorem dX1_addHand_49 : decode cX1_addHand 49 = .ok (.iastore, 1) := by decide +kernel
theorem dX1_addHand_50 : decode cX1_addHand 50 = .ok (.aload_n 0, 1) := by decide +kernel
theorem dX1_addHand_51 : decode cX1_addHand 51 = .ok (.dup, 1) := by decide +kernel
theorem dX1_addHand_52 : decode cX1_addHand 52 = .ok (.getfield 34, 3) := by decide +kernel
theorem dX1_addHand_55 : decode cX1_addHand 55 = .ok (.iconst 1, 1) := by decide +kernel
theorem dX1_addHand_56 : decode cX1_addHand 56 = .ok (.iload_n 1, 1) := by decide +kernel
theorem dX1_addHand_57 : decode cX1_addHand 57 = .ok (.ishl, 1) := by decide +kernel
theorem dX1_addHand_58 : decode cX1_addHand 58 = .ok (.ior, 1) := by decide +kernel
theorem dX1_addHand_59 : decode cX1_addHand 59 = .ok (.putfield 34, 3) := by decide +kernel
theorem dX1_addHand_62 : decode cX1_addHand 62 = .ok (.aload_n 0, 1) := by decide +kernel
theorem dX1_addHand_63 : decode cX1_addHand 63 = .ok (.dup, 1) := by decide +kernel
theorem dX1_addHand_64 : decode cX1_addHand 64 = .ok (.getfield 31, 3) := by decide +kernel
theorem dX1_addHand_67 : decode cX1_addHand 67 = .ok (.iconst 1, 1) := by decide +kernel
theorem dX1_addHand_68 : decode cX1_addHand 68 = .ok (.iadd, 1) := by decide +kernel
theorem dX1_addHand_69 : decode cX1_addHand 69 = .ok (.putfield 31, 3) := by decide +kernel
theorem dX1_addHand_72 : decode cX1_addHand 72 = .ok (.return_, 1) := by decide +kernel
theorem dX1_hasPlayer_0 : decode cX1_hasPlayer 0 = .ok (.iload_n 1, 1) := by decide +kernel
theorem dX1_hasPlayer_1 : decode cX1_hasPlayer 1 = .ok (.ifCond .lt 15, 3) := by decide +kernel
theorem dX1_hasPlayer_4 : decode cX1_hasPlayer 4 = .ok (.iload_n 1, 1) := by decide +kernel
theorem dX1_hasPlayer_5 : decode cX1_hasPlayer 5 = .ok (.aload_n 0, 1) := by decide +kernel
theorem dX1_hasPlayer_6 : decode cX1_hasPlayer 6 = .ok (.getfield 27, 3) := by decide +kernel
theorem dX1_hasPlayer_9 : decode cX1_hasPlayer 9 = .ok (.if_icmp .ge 7, 3) := by decide +kernel
theorem dX1_hasPlayer_12 : decode cX1_hasPlayer 12 = .ok (.iconst 1, 1) := by decide +kernel
theorem dX1_hasPlayer_13 : decode cX1_hasPlayer 13 = .ok (.goto 4, 3) := by decide +kernel
theorem dX1_hasPlayer_16 : decode cX1_hasPlayer 16 = .ok (.iconst 0, 1) := by decide +kernel
theorem dX1_hasPlayer_17 : decode cX1_hasPlayer 17 = .ok (.ireturn, 1) := by decide +kernel
theorem dX1_hasHand_0 : decode cX1_hasHand 0 = .ok (.iload_n 1, 1) := by decide +kernel
theorem dX1_hasHand_1 : decode cX1_hasHand 1 = .ok (.ifCond .lt 15, 3) := by decide +kernel
theorem dX1_hasHand_4 : decode cX1_hasHand 4 = .ok (.iload_n 1, 1) := by decide +kernel
theorem dX1_hasHand_5 : decode cX1_hasHand 5 = .ok (.aload_n 0, 1) := by decide +kernel
theorem dX1_hasHand_6 : decode cX1_hasHand 6 = .ok (.getfield 31, 3) := by decide +kernel
theorem dX1_hasHand_9 : decode cX1_hasHand 9 = .ok (.if_icmp .ge 7, 3) := by decide +kernel
theorem dX1_hasHand_12 : decode cX1_hasHand 12 = .ok (.iconst 1, 1) := by decide +kernel
theorem dX1_hasHand_13 : decode cX1_hasHand 13 = .ok (.goto 4, 3) := by decide +kernel
theorem dX1_hasHand_16 : decode cX1_hasHand 16 = .ok (.iconst 0, 1) := by decide +kernel
theorem dX1_hasHand_17 : decode cX1_hasHand 17 = .ok (.ireturn, 1) := by decide +kernel
theorem dX1_everyHand_0 : decode cX1_everyHand 0 = .ok (.iconst 1, 1) := by decide +kernel
theorem dX1_everyHand_1 : decode cX1_everyHand 1 = .ok (.aload_n 0, 1) := by decide +kernel
theorem dX1_everyHand_2 : decode cX1_everyHand 2 = .ok (.getfield 31, 3) := by decide +kernel
theorem dX1_everyHand_5 : decode cX1_everyHand 5 = .ok (.ishl, 1) := by decide +kernel
theorem dX1_everyHand_6 : decode cX1_everyHand 6 = .ok (.iconst 1, 1) := by decide +kernel
theorem dX1_everyHand_7 : decode cX1_everyHand 7 = .ok (.isub, 1) := by decide +kernel
theorem dX1_everyHand_8 : decode cX1_everyHand 8 = .ok (.ireturn, 1) := by decide +kernel
set_option maxRecDepth 20000 in
theorem ggX2_init_X4_init : GoodIn wsX2_init wsX4_init := goodIn_r _ [11, 12, 2, 3, 13, 14, 15, 16, 17, 21, 22, 23, 24, 25, 26] (by decide +kernel) (by decide +kernel)
set_option maxRecDepth 20000 in
theorem gX2_init_X4_init : GoodIn wsX2_init (wsX4_init) := ggX2_init_X4_init
theorem dX2_init_0 : decode cX2_init 0 = .ok (.aload_n 0, 1) := by decide +kernel
theorem dX2_init_1 : decode cX2_init 1 = .ok (.invokespecial 3, 3) := by decide +kernel
theorem dX2_init_4 : decode cX2_init 4 = .ok (.aload_n 0, 1) := by decide +kernel
theorem dX2_init_5 : decode cX2_init 5 = .ok (.aload_n 1, 1) := by decide +kernel
theorem dX2_init_6 : decode cX2_init 6 = .ok (.putfield 9, 3) := by decide +kernel
theorem dX2_init_9 : decode cX2_init 9 = .ok (.aload_n 0, 1) := by decide +kernel
theorem dX2_init_10 : decode cX2_init 10 = .ok (.new 15, 3) := by decide +kernel
theorem dX2_init_13 : decode cX2_init 13 = .ok (.dup, 1) := by decide +kernel
theorem dX2_init_14 : decode cX2_init 14 = .ok (.aload_n 1, 1) := by decide +kernel
theorem dX2_init_15 : decode cX2_init 15 = .ok (.invokespecial 17, 3) := by decide +kernel
theorem dX2_init_18 : decode cX2_init 18 = .ok (.putfield 20, 3) := by decide +kernel
theorem dX2_init_21 : decode cX2_init 21 = .ok (.return_, 1) := by decide +kernel
set_option maxRecDepth 20000 in
theorem ggX2_meanLouder_X1_everyHand : GoodIn wsX2_meanLouder wsX1_everyHand := goodIn_r _ [7, 8, 69, 70, 71, 72, 73, 74, 75, 76] (by decide +kernel) (by decide +kernel)
set_option maxRecDepth 20000 in
theorem gX2_meanLouder_X1_everyHand : GoodIn wsX2_meanLouder (wsV RX2 24 RX1 yX1_everyHand wsX1_everyHand) := goodIn_app (goodIn_of _ (by decide +kernel)) ggX2_meanLouder_X1_everyHand
set_option maxRecDepth 20000 in
theorem ggX2_meanLouder_J6_bitCount_0f7a4 : GoodIn wsX2_meanLouder wsJ6_bitCount_0f7a4 := goodIn_r _ [12, 13, 14, 15] (by decide +kernel) (by decide +kernel)
set_option maxRecDepth 20000 in
theorem gX2_meanLouder_J6_bitCount_0f7a4 : GoodIn wsX2_meanLouder (va_wsS RX2 30 yJ6_bitCount_0f7a4 wsJ6_bitCount_0f7a4) := goodIn_app (goodIn_of _ (by decide +kernel)) ggX2_meanLouder_J6_bitCount_0f7a4
set_option maxRecDepth 20000 in
theorem ggX2_meanLouder_X2_orders : GoodIn wsX2_meanLouder wsX2_orders := goodIn_r _ [19] (by decide +kernel) (by decide +kernel)
set_option maxRecDepth 20000 in
theorem gX2_meanLouder_X2_orders : GoodIn wsX2_meanLouder (va_wsS RX2 36 yX2_orders wsX2_orders) := goodIn_app (goodIn_of _ (by decide +kernel)) ggX2_meanLouder_X2_orders
set_option maxRecDepth 20000 in
theorem ggX2_meanLouder_X4_loud : GoodIn wsX2_meanLouder wsX4_loud := goodIn_r _ [24, 25, 26, 27, 23, 28, 29, 30, 31, 32, 33, 34, 35, 36, 37, 38, 39, 40, 41, 42, 43, 44, 45, 46, 47, 48, 49, 50, 51, 52, 53, 54, 55, 56, 57, 58, 10, 11, 12, 13, 14, 15, 77, 78, 79, 80, 81, 82, 69, 70, 71, 72, 73, 74, 75, 76] (by decide +kernel) (by decide +kernel)
set_option maxRecDepth 20000 in
theorem gX2_meanLouder_X4_loud : GoodIn wsX2_meanLouder (wsV RX2 44 RX4 yX4_loud wsX4_loud) := goodIn_app (goodIn_of _ (by decide +kernel)) ggX2_meanLouder_X4_loud
set_option maxRecDepth 20000 in
theorem ggX2_meanLouder_X2_fraction : GoodIn wsX2_meanLouder wsX2_fraction := goodIn_r _ [61, 62, 63, 64, 65] (by decide +kernel) (by decide +kernel)
set_option maxRecDepth 20000 in
theorem gX2_meanLouder_X2_fraction : GoodIn wsX2_meanLouder (va_wsS RX2 48 yX2_fraction wsX2_fraction) := goodIn_app (goodIn_of _ (by decide +kernel)) ggX2_meanLouder_X2_fraction
theorem dX2_meanLouder_0 : decode cX2_meanLouder 0 = .ok (.lconst 0, 1) := by decide +kernel
theorem dX2_meanLouder_1 : decode cX2_meanLouder 1 = .ok (.lstore 5, 2) := by decide +kernel
theorem dX2_meanLouder_3 : decode cX2_meanLouder 3 = .ok (.aload_n 0, 1) := by decide +kernel
theorem dX2_meanLouder_4 : decode cX2_meanLouder 4 = .ok (.getfield 9, 3) := by decide +kernel
theorem dX2_meanLouder_7 : decode cX2_meanLouder 7 = .ok (.invokevirtual 24, 3) := by decide +kernel
theorem dX2_meanLouder_10 : decode cX2_meanLouder 10 = .ok (.istore 7, 2) := by decide +kernel
theorem dX2_meanLouder_12 : decode cX2_meanLouder 12 = .ok (.iconst 0, 1) := by decide +kernel
theorem dX2_meanLouder_13 : decode cX2_meanLouder 13 = .ok (.istore 8, 2) := by decide +kernel
theorem dX2_meanLouder_15 : decode cX2_meanLouder 15 = .ok (.iload 8, 2) := by decide +kernel
theorem dX2_meanLouder_17 : decode cX2_meanLouder 17 = .ok (.iload 7, 2) := by decide +kernel
theorem dX2_meanLouder_19 : decode cX2_meanLouder 19 = .ok (.if_icmp .gt 76, 3) := by decide +kernel
theorem dX2_meanLouder_22 : decode cX2_meanLouder 22 = .ok (.iload 8, 2) := by decide +kernel
theorem dX2_meanLouder_24 : decode cX2_meanLouder 24 = .ok (.iload_n 2, 1) := by decide +kernel
theorem dX2_meanLouder_25 : decode cX2_meanLouder 25 = .ok (.ishr, 1) := by decide +kernel
theorem dX2_meanLouder_26 : decode cX2_meanLouder 26 = .ok (.iconst 1, 1) := by decide +kernel
theorem dX2_meanLouder_27 : decode cX2_meanLouder 27 = .ok (.iand, 1) := by decide +kernel
theorem dX2_meanLouder_28 : decode cX2_meanLouder 28 = .ok (.ifCond .ne 61, 3) := by decide +kernel
theorem dX2_meanLouder_31 : decode cX2_meanLouder 31 = .ok (.iload 8, 2) := by decide +kernel
theorem dX2_meanLouder_33 : decode cX2_meanLouder 33 = .ok (.invokestatic 30, 3) := by decide +kernel
theorem dX2_meanLouder_36 : decode cX2_meanLouder 36 = .ok (.istore 9, 2) := by decide +kernel
theorem dX2_meanLouder_38 : decode cX2_meanLouder 38 = .ok (.iload 9, 2) := by decide +kernel
theorem dX2_meanLouder_40 : decode cX2_meanLouder 40 = .ok (.invokestatic 36, 3) := by decide +kernel
theorem dX2_meanLouder_43 : decode cX2_meanLouder 43 = .ok (.aload_n 0, 1) := by decide +kernel
theorem dX2_meanLouder_44 : decode cX2_meanLouder 44 = .ok (.getfield 9, 3) := by decide +kernel
theorem dX2_meanLouder_47 : decode cX2_meanLouder 47 = .ok (.getfield 40, 3) := by decide +kernel
theorem dX2_meanLouder_50 : decode cX2_meanLouder 50 = .ok (.iconst 1, 1) := by decide +kernel
theorem dX2_meanLouder_51 : decode cX2_meanLouder 51 = .ok (.isub, 1) := by decide +kernel
theorem dX2_meanLouder_52 : decode cX2_meanLouder 52 = .ok (.iload 9, 2) := by decide +kernel
theorem dX2_meanLouder_54 : decode cX2_meanLouder 54 = .ok (.isub, 1) := by decide +kernel
theorem dX2_meanLouder_55 : decode cX2_meanLouder 55 = .ok (.invokestatic 36, 3) := by decide +kernel
theorem dX2_meanLouder_58 : decode cX2_meanLouder 58 = .ok (.lmul, 1) := by decide +kernel
theorem dX2_meanLouder_59 : decode cX2_meanLouder 59 = .ok (.lstore 10, 2) := by decide +kernel
theorem dX2_meanLouder_61 : decode cX2_meanLouder 61 = .ok (.lload 5, 2) := by decide +kernel
theorem dX2_meanLouder_63 : decode cX2_meanLouder 63 = .ok (.lload 10, 2) := by decide +kernel
theorem dX2_meanLouder_65 : decode cX2_meanLouder 65 = .ok (.aload_n 1, 1) := by decide +kernel
theorem dX2_meanLouder_66 : decode cX2_meanLouder 66 = .ok (.iload_n 3, 1) := by decide +kernel
theorem dX2_meanLouder_67 : decode cX2_meanLouder 67 = .ok (.iload 8, 2) := by decide +kernel
theorem dX2_meanLouder_69 : decode cX2_meanLouder 69 = .ok (.iconst 1, 1) := by decide +kernel
theorem dX2_meanLouder_70 : decode cX2_meanLouder 70 = .ok (.iload_n 2, 1) := by decide +kernel
theorem dX2_meanLouder_71 : decode cX2_meanLouder 71 = .ok (.ishl, 1) := by decide +kernel
theorem dX2_meanLouder_72 : decode cX2_meanLouder 72 = .ok (.ior, 1) := by decide +kernel
theorem dX2_meanLouder_73 : decode cX2_meanLouder 73 = .ok (.invokevirtual 44, 3) := by decide +kernel
theorem dX2_meanLouder_76 : decode cX2_meanLouder 76 = .ok (.aload_n 1, 1) := by decide +kernel
theorem dX2_meanLouder_77 : decode cX2_meanLouder 77 = .ok (.iload_n 3, 1) := by decide +kernel
theorem dX2_meanLouder_78 : decode cX2_meanLouder 78 = .ok (.iload 8, 2) := by decide +kernel
theorem dX2_meanLouder_80 : decode cX2_meanLouder 80 = .ok (.invokevirtual 44, 3) := by decide +kernel
theorem dX2_meanLouder_83 : decode cX2_meanLouder 83 = .ok (.isub, 1) := by decide +kernel
theorem dX2_meanLouder_84 : decode cX2_meanLouder 84 = .ok (.i2l, 1) := by decide +kernel
theorem dX2_meanLouder_85 : decode cX2_meanLouder 85 = .ok (.lmul, 1) := by decide +kernel
theorem dX2_meanLouder_86 : decode cX2_meanLouder 86 = .ok (.ladd, 1) := by decide +kernel
theorem dX2_meanLouder_87 : decode cX2_meanLouder 87 = .ok (.lstore 5, 2) := by decide +kernel
theorem dX2_meanLouder_89 : decode cX2_meanLouder 89 = .ok (.iinc 8 1, 3) := by decide +kernel
theorem dX2_meanLouder_92 : decode cX2_meanLouder 92 = .ok (.goto (-77), 3) := by decide +kernel
theorem dX2_meanLouder_95 : decode cX2_meanLouder 95 = .ok (.lload 5, 2) := by decide +kernel
theorem dX2_meanLouder_97 : decode cX2_meanLouder 97 = .ok (.aload_n 0, 1) := by decide +kernel
theorem dX2_meanLouder_98 : decode cX2_meanLouder 98 = .ok (.getfield 9, 3) := by decide +kernel
theorem dX2_meanLouder_101 : decode cX2_meanLouder 101 = .ok (.getfield 40, 3) := by decide +kernel
theorem dX2_meanLouder_104 : decode cX2_meanLouder 104 = .ok (.invokestatic 36, 3) := by decide +kernel
theorem dX2_meanLouder_107 : decode cX2_meanLouder 107 = .ok (.iload 4, 2) := by decide +kernel
theorem dX2_meanLouder_109 : decode cX2_meanLouder 109 = .ok (.invokestatic 48, 3) := by decide +kernel
theorem dX2_meanLouder_112 : decode cX2_meanLouder 112 = .ok (.ireturn, 1) := by decide +kernel
set_option maxRecDepth 20000 in
theorem ggX2_countRests_X2_isRest : GoodIn wsX2_countRests wsX2_isRest := goodIn_r _ [5, 6, 7, 8, 9, 10, 11, 12, 13, 14, 15, 4, 16, 17, 18, 19, 20, 21, 22, 23, 24, 25, 26, 27, 28, 29, 30, 31, 32, 33, 34, 35, 36, 37, 38, 39, 40, 41, 42, 43, 44, 45, 46, 47, 48, 49, 50, 51, 52, 53, 54, 55, 56, 57, 58, 59, 60, 61, 62, 63, 64, 65, 66, 67, 68, 69, 70, 71, 72, 73, 74, 75, 76] (by decide +kernel) (by decide +kernel)
set_option maxRecDepth 20000 in
theorem gX2_countRests_X2_isRest : GoodIn wsX2_countRests (wsV RX2 52 RX2 yX2_isRest wsX2_isRest) := goodIn_app (goodIn_of _ (by decide +kernel)) ggX2_countRests_X2_isRest
theorem dX2_countRests_0 : decode cX2_countRests 0 = .ok (.iconst 0, 1) := by decide +kernel
theorem dX2_countRests_1 : decode cX2_countRests 1 = .ok (.istore 4, 2) := by decide +kernel
theorem dX2_countRests_3 : decode cX2_countRests 3 = .ok (.iconst 0, 1) := by decide +kernel
theorem dX2_countRests_4 : decode cX2_countRests 4 = .ok (.istore 5, 2) := by decide +kernel
theorem dX2_countRests_6 : decode cX2_countRests 6 = .ok (.iload 5, 2) := by decide +kernel
theorem dX2_countRests_8 : decode cX2_countRests 8 = .ok (.iconst 4, 1) := by decide +kernel
theorem dX2_countRests_9 : decode cX2_countRests 9 = .ok (.if_icmp .ge 24, 3) := by decide +kernel
theorem dX2_countRests_12 : decode cX2_countRests 12 = .ok (.aload_n 0, 1) := by decide +kernel
theorem dX2_countRests_13 : decode cX2_countRests 13 = .ok (.aload_n 1, 1) := by decide +kernel
theorem dX2_countRests_14 : decode cX2_countRests 14 = .ok (.iload_n 2, 1) := by decide +kernel
theorem dX2_countRests_15 : decode cX2_countRests 15 = .ok (.iload_n 3, 1) := by decide +kernel
theorem dX2_countRests_16 : decode cX2_countRests 16 = .ok (.iload 5, 2) := by decide +kernel
theorem dX2_countRests_18 : decode cX2_countRests 18 = .ok (.invokevirtual 52, 3) := by decide +kernel
theorem dX2_countRests_21 : decode cX2_countRests 21 = .ok (.ifCond .eq 6, 3) := by decide +kernel
theorem dX2_countRests_24 : decode cX2_countRests 24 = .ok (.iinc 4 1, 3) := by decide +kernel
theorem dX2_countRests_27 : decode cX2_countRests 27 = .ok (.iinc 5 1, 3) := by decide +kernel
theorem dX2_countRests_30 : decode cX2_countRests 30 = .ok (.goto (-24), 3) := by decide +kernel
theorem dX2_countRests_33 : decode cX2_countRests 33 = .ok (.iload 4, 2) := by decide +kernel
theorem dX2_countRests_35 : decode cX2_countRests 35 = .ok (.ireturn, 1) := by decide +kernel
set_option maxRecDepth 20000 in
theorem ggX2_firstRest_X2_isRest : GoodIn wsX2_firstRest wsX2_isRest := goodIn_r _ [5, 6, 7, 8, 9, 10, 11, 12, 13, 14, 15, 4, 16, 17, 18, 19, 20, 21, 22, 23, 24, 25, 26, 27, 28, 29, 30, 31, 32, 33, 34, 35, 36, 37, 38, 39, 40, 41, 42, 43, 44, 45, 46, 47, 48, 49, 50, 51, 52, 53, 54, 55, 56, 57, 58, 59, 60, 61, 62, 63, 64, 65, 66, 67, 68, 69, 70, 71, 72, 73, 74, 75, 76] (by decide +kernel) (by decide +kernel)
set_option maxRecDepth 20000 in
theorem gX2_firstRest_X2_isRest : GoodIn wsX2_firstRest (wsV RX2 52 RX2 yX2_isRest wsX2_isRest) := goodIn_app (goodIn_of _ (by decide +kernel)) ggX2_firstRest_X2_isRest
theorem dX2_firstRest_0 : decode cX2_firstRest 0 = .ok (.iconst 0, 1) := by decide +kernel
theorem dX2_firstRest_1 : decode cX2_firstRest 1 = .ok (.istore 4, 2) := by decide +kernel
theorem dX2_firstRest_3 : decode cX2_firstRest 3 = .ok (.iload 4, 2) := by decide +kernel
theorem dX2_firstRest_5 : decode cX2_firstRest 5 = .ok (.iconst 4, 1) := by decide +kernel
theorem dX2_firstRest_6 : decode cX2_firstRest 6 = .ok (.if_icmp .ge 34, 3) := by decide +kernel
theorem dX2_firstRest_9 : decode cX2_firstRest 9 = .ok (.aload_n 0, 1) := by decide +kernel
theorem dX2_firstRest_10 : decode cX2_firstRest 10 = .ok (.aload_n 1, 1) := by decide +kernel
theorem dX2_firstRest_11 : decode cX2_firstRest 11 = .ok (.iload_n 2, 1) := by decide +kernel
theorem dX2_firstRest_12 : decode cX2_firstRest 12 = .ok (.iload_n 3, 1) := by decide +kernel
theorem dX2_firstRest_13 : decode cX2_firstRest 13 = .ok (.iload 4, 2) := by decide +kernel
theorem dX2_firstRest_15 : decode cX2_firstRest 15 = .ok (.invokevirtual 52, 3) := by decide +kernel
theorem dX2_firstRest_18 : decode cX2_firstRest 18 = .ok (.ifCond .eq 16, 3) := by decide +kernel
theorem dX2_firstRest_21 : decode cX2_firstRest 21 = .ok (.bipush 10, 2) := by decide +kernel
theorem dX2_firstRest_23 : decode cX2_firstRest 23 = .ok (.iload 4, 2) := by decide +kernel
theorem dX2_firstRest_25 : decode cX2_firstRest 25 = .ok (.iconst 1, 1) := by decide +kernel
theorem dX2_firstRest_26 : decode cX2_firstRest 26 = .ok (.ishr, 1) := by decide +kernel
theorem dX2_firstRest_27 : decode cX2_firstRest 27 = .ok (.imul, 1) := by decide +kernel
theorem dX2_firstRest_28 : decode cX2_firstRest 28 = .ok (.iload 4, 2) := by decide +kernel
theorem dX2_firstRest_30 : decode cX2_firstRest 30 = .ok (.iconst 1, 1) := by decide +kernel
theorem dX2_firstRest_31 : decode cX2_firstRest 31 = .ok (.iand, 1) := by decide +kernel
theorem dX2_firstRest_32 : decode cX2_firstRest 32 = .ok (.iadd, 1) := by decide +kernel
theorem dX2_firstRest_33 : decode cX2_firstRest 33 = .ok (.ireturn, 1) := by decide +kernel
theorem dX2_firstRest_34 : decode cX2_firstRest 34 = .ok (.iinc 4 1, 3) := by decide +kernel
theorem dX2_firstRest_37 : decode cX2_firstRest 37 = .ok (.goto (-34), 3) := by decide +kernel
theorem dX2_firstRest_40 : decode cX2_firstRest 40 = .ok (.bipush (-9), 2) := by decide +kernel
theorem dX2_firstRest_42 : decode cX2_firstRest 42 = .ok (.ireturn, 1) := by decide +kernel
set_option maxRecDepth 20000 in
theorem ggX2_isRest_X1_everyHand : GoodIn wsX2_isRest wsX1_everyHand := goodIn_r _ [6, 7, 59, 60, 61, 62, 63, 64, 65, 66] (by decide +kernel) (by decide +kernel)
set_option maxRecDepth 20000 in
theorem gX2_isRest_X1_everyHand : GoodIn wsX2_isRest (wsV RX2 24 RX1 yX1_everyHand wsX1_everyHand) := goodIn_app (goodIn_of _ (by decide +kernel)) ggX2_isRest_X1_everyHand
set_option maxRecDepth 20000 in
theorem ggX2_isRest_X2_gain : GoodIn wsX2_isRest wsX2_gain := goodIn_r _ [12, 1, 13, 14, 15, 16, 17, 18, 19, 20, 21, 22, 23, 24, 25, 26, 27, 28, 29, 30, 31, 32, 33, 34, 35, 36, 37, 38, 39, 40, 41, 42, 43, 44, 45, 46, 47, 48, 49, 50, 51, 52, 53, 54, 55, 56, 57, 58, 59, 60, 61, 62, 63, 64, 65, 66, 67, 68, 69, 70, 71, 72] (by decide +kernel) (by decide +kernel)
set_option maxRecDepth 20000 in
theorem gX2_isRest_X2_gain : GoodIn wsX2_isRest (wsV RX2 56 RX2 yX2_gain wsX2_gain) := goodIn_app (goodIn_of _ (by decide +kernel)) ggX2_isRest_X2_gain
theorem dX2_isRest_0 : decode cX2_isRest 0 = .ok (.aload_n 0, 1) := by decide +kernel
theorem dX2_isRest_1 : decode cX2_isRest 1 = .ok (.getfield 9, 3) := by decide +kernel
theorem dX2_isRest_4 : decode cX2_isRest 4 = .ok (.invokevirtual 24, 3) := by decide +kernel
theorem dX2_isRest_7 : decode cX2_isRest 7 = .ok (.iconst 1, 1) := by decide +kernel
theorem dX2_isRest_8 : decode cX2_isRest 8 = .ok (.iload_n 2, 1) := by decide +kernel
theorem dX2_isRest_9 : decode cX2_isRest 9 = .ok (.ishl, 1) := by decide +kernel
theorem dX2_isRest_10 : decode cX2_isRest 10 = .ok (.iconst 1, 1) := by decide +kernel
theorem dX2_isRest_11 : decode cX2_isRest 11 = .ok (.iload_n 3, 1) := by decide +kernel
theorem dX2_isRest_12 : decode cX2_isRest 12 = .ok (.ishl, 1) := by decide +kernel
theorem dX2_isRest_13 : decode cX2_isRest 13 = .ok (.ior, 1) := by decide +kernel
theorem dX2_isRest_14 : decode cX2_isRest 14 = .ok (.iconst (-1), 1) := by decide +kernel
theorem dX2_isRest_15 : decode cX2_isRest 15 = .ok (.ixor, 1) := by decide +kernel
theorem dX2_isRest_16 : decode cX2_isRest 16 = .ok (.iand, 1) := by decide +kernel
theorem dX2_isRest_17 : decode cX2_isRest 17 = .ok (.istore 5, 2) := by decide +kernel
theorem dX2_isRest_19 : decode cX2_isRest 19 = .ok (.iload 5, 2) := by decide +kernel
theorem dX2_isRest_21 : decode cX2_isRest 21 = .ok (.iload 4, 2) := by decide +kernel
theorem dX2_isRest_23 : decode cX2_isRest 23 = .ok (.iconst 1, 1) := by decide +kernel
theorem dX2_isRest_24 : decode cX2_isRest 24 = .ok (.ishr, 1) := by decide +kernel
theorem dX2_isRest_25 : decode cX2_isRest 25 = .ok (.iload_n 2, 1) := by decide +kernel
theorem dX2_isRest_26 : decode cX2_isRest 26 = .ok (.ishl, 1) := by decide +kernel
theorem dX2_isRest_27 : decode cX2_isRest 27 = .ok (.ior, 1) := by decide +kernel
theorem dX2_isRest_28 : decode cX2_isRest 28 = .ok (.iload 4, 2) := by decide +kernel
theorem dX2_isRest_30 : decode cX2_isRest 30 = .ok (.iconst 1, 1) := by decide +kernel
theorem dX2_isRest_31 : decode cX2_isRest 31 = .ok (.iand, 1) := by decide +kernel
theorem dX2_isRest_32 : decode cX2_isRest 32 = .ok (.iload_n 3, 1) := by decide +kernel
theorem dX2_isRest_33 : decode cX2_isRest 33 = .ok (.ishl, 1) := by decide +kernel
theorem dX2_isRest_34 : decode cX2_isRest 34 = .ok (.ior, 1) := by decide +kernel
theorem dX2_isRest_35 : decode cX2_isRest 35 = .ok (.istore 6, 2) := by decide +kernel
theorem dX2_isRest_37 : decode cX2_isRest 37 = .ok (.aload_n 0, 1) := by decide +kernel
theorem dX2_isRest_38 : decode cX2_isRest 38 = .ok (.aload_n 1, 1) := by decide +kernel
theorem dX2_isRest_39 : decode cX2_isRest 39 = .ok (.iload_n 2, 1) := by decide +kernel
theorem dX2_isRest_40 : decode cX2_isRest 40 = .ok (.iload 6, 2) := by decide +kernel
theorem dX2_isRest_42 : decode cX2_isRest 42 = .ok (.invokevirtual 56, 3) := by decide +kernel
theorem dX2_isRest_45 : decode cX2_isRest 45 = .ok (.aload_n 0, 1) := by decide +kernel
theorem dX2_isRest_46 : decode cX2_isRest 46 = .ok (.aload_n 1, 1) := by decide +kernel
theorem dX2_isRest_47 : decode cX2_isRest 47 = .ok (.iload_n 2, 1) := by decide +kernel
theorem dX2_isRest_48 : decode cX2_isRest 48 = .ok (.iload 6, 2) := by decide +kernel
theorem dX2_isRest_50 : decode cX2_isRest 50 = .ok (.iconst 1, 1) := by decide +kernel
theorem dX2_isRest_51 : decode cX2_isRest 51 = .ok (.iload_n 2, 1) := by decide +kernel
theorem dX2_isRest_52 : decode cX2_isRest 52 = .ok (.ishl, 1) := by decide +kernel
theorem dX2_isRest_53 : decode cX2_isRest 53 = .ok (.ixor, 1) := by decide +kernel
theorem dX2_isRest_54 : decode cX2_isRest 54 = .ok (.invokevirtual 56, 3) := by decide +kernel
theorem dX2_isRest_57 : decode cX2_isRest 57 = .ok (.if_icmp .lt 30, 3) := by decide +kernel
theorem dX2_isRest_60 : decode cX2_isRest 60 = .ok (.aload_n 0, 1) := by decide +kernel
theorem dX2_isRest_61 : decode cX2_isRest 61 = .ok (.aload_n 1, 1) := by decide +kernel
theorem dX2_isRest_62 : decode cX2_isRest 62 = .ok (.iload_n 3, 1) := by decide +kernel
theorem dX2_isRest_63 : decode cX2_isRest 63 = .ok (.iload 6, 2) := by decide +kernel
theorem dX2_isRest_65 : decode cX2_isRest 65 = .ok (.invokevirtual 56, 3) := by decide +kernel
theorem dX2_isRest_68 : decode cX2_isRest 68 = .ok (.aload_n 0, 1) := by decide +kernel
theorem dX2_isRest_69 : decode cX2_isRest 69 = .ok (.aload_n 1, 1) := by decide +kernel
theorem dX2_isRest_70 : decode cX2_isRest 70 = .ok (.iload_n 3, 1) := by decide +kernel
theorem dX2_isRest_71 : decode cX2_isRest 71 = .ok (.iload 6, 2) := by decide +kernel
theorem dX2_isRest_73 : decode cX2_isRest 73 = .ok (.iconst 1, 1) := by decide +kernel
theorem dX2_isRest_74 : decode cX2_isRest 74 = .ok (.iload_n 3, 1) := by decide +kernel
theorem dX2_isRest_75 : decode cX2_isRest 75 = .ok (.ishl, 1) := by decide +kernel
theorem dX2_isRest_76 : decode cX2_isRest 76 = .ok (.ixor, 1) := by decide +kernel
theorem dX2_isRest_77 : decode cX2_isRest 77 = .ok (.invokevirtual 56, 3) := by decide +kernel
theorem dX2_isRest_80 : decode cX2_isRest 80 = .ok (.if_icmp .lt 7, 3) := by decide +kernel
theorem dX2_isRest_83 : decode cX2_isRest 83 = .ok (.iconst 1, 1) := by decide +kernel
theorem dX2_isRest_84 : decode cX2_isRest 84 = .ok (.goto 4, 3) := by decide +kernel
theorem dX2_isRest_87 : decode cX2_isRest 87 = .ok (.iconst 0, 1) := by decide +kernel
theorem dX2_isRest_88 : decode cX2_isRest 88 = .ok (.ireturn, 1) := by decide +kernel
set_option maxRecDepth 20000 in
theorem ggX2_gain_X4_clapping : GoodIn wsX2_gain wsX4_clapping := goodIn_r _ [8, 9, 10, 11, 12, 13, 7, 14, 15, 16, 17, 18, 19, 20, 21, 22, 23, 24, 25, 26, 27, 28, 29, 30, 31, 32, 33, 34, 35, 36, 37, 56, 57, 58, 59, 60, 61, 48, 49, 50, 51, 52, 53, 54, 55] (by decide +kernel) (by decide +kernel)
set_option maxRecDepth 20000 in
theorem gX2_gain_X4_clapping : GoodIn wsX2_gain (wsV RX2 64 RX4 yX4_clapping wsX4_clapping) := goodIn_app (goodIn_of _ (by decide +kernel)) ggX2_gain_X4_clapping
set_option maxRecDepth 20000 in
theorem ggX2_gain_J6_bitCount_0f7a4 : GoodIn wsX2_gain wsJ6_bitCount_0f7a4 := goodIn_r _ [41, 42, 43, 44] (by decide +kernel) (by decide +kernel)
set_option maxRecDepth 20000 in
theorem gX2_gain_J6_bitCount_0f7a4 : GoodIn wsX2_gain (va_wsS RX2 30 yJ6_bitCount_0f7a4 wsJ6_bitCount_0f7a4) := goodIn_app (goodIn_of _ (by decide +kernel)) ggX2_gain_J6_bitCount_0f7a4
theorem dX2_gain_0 : decode cX2_gain 0 = .ok (.aload_n 0, 1) := by decide +kernel
theorem dX2_gain_1 : decode cX2_gain 1 = .ok (.getfield 9, 3) := by decide +kernel
theorem dX2_gain_4 : decode cX2_gain 4 = .ok (.getfield 60, 3) := by decide +kernel
theorem dX2_gain_7 : decode cX2_gain 7 = .ok (.iload_n 2, 1) := by decide +kernel
theorem dX2_gain_8 : decode cX2_gain 8 = .ok (.iaload, 1) := by decide +kernel
theorem dX2_gain_9 : decode cX2_gain 9 = .ok (.istore 4, 2) := by decide +kernel
theorem dX2_gain_11 : decode cX2_gain 11 = .ok (.aload_n 1, 1) := by decide +kernel
theorem dX2_gain_12 : decode cX2_gain 12 = .ok (.iload 4, 2) := by decide +kernel
theorem dX2_gain_14 : decode cX2_gain 14 = .ok (.iload_n 3, 1) := by decide +kernel
theorem dX2_gain_15 : decode cX2_gain 15 = .ok (.invokevirtual 64, 3) := by decide +kernel
theorem dX2_gain_18 : decode cX2_gain 18 = .ok (.istore 5, 2) := by decide +kernel
theorem dX2_gain_20 : decode cX2_gain 20 = .ok (.iload 5, 2) := by decide +kernel
theorem dX2_gain_22 : decode cX2_gain 22 = .ok (.invokestatic 30, 3) := by decide +kernel
theorem dX2_gain_25 : decode cX2_gain 25 = .ok (.aload_n 0, 1) := by decide +kernel
theorem dX2_gain_26 : decode cX2_gain 26 = .ok (.getfield 9, 3) := by decide +kernel
theorem dX2_gain_29 : decode cX2_gain 29 = .ok (.getfield 67, 3) := by decide +kernel
theorem dX2_gain_32 : decode cX2_gain 32 = .ok (.iload 4, 2) := by decide +kernel
theorem dX2_gain_34 : decode cX2_gain 34 = .ok (.iaload, 1) := by decide +kernel
theorem dX2_gain_35 : decode cX2_gain 35 = .ok (.if_icmp .lt 7, 3) := by decide +kernel
theorem dX2_gain_38 : decode cX2_gain 38 = .ok (.iconst 3, 1) := by decide +kernel
theorem dX2_gain_39 : decode cX2_gain 39 = .ok (.goto 4, 3) := by decide +kernel
theorem dX2_gain_42 : decode cX2_gain 42 = .ok (.iconst 0, 1) := by decide +kernel
theorem dX2_gain_43 : decode cX2_gain 43 = .ok (.istore 6, 2) := by decide +kernel
theorem dX2_gain_45 : decode cX2_gain 45 = .ok (.iload 6, 2) := by decide +kernel
theorem dX2_gain_47 : decode cX2_gain 47 = .ok (.iload 5, 2) := by decide +kernel
theorem dX2_gain_49 : decode cX2_gain 49 = .ok (.iload_n 2, 1) := by decide +kernel
theorem dX2_gain_50 : decode cX2_gain 50 = .ok (.ishr, 1) := by decide +kernel
theorem dX2_gain_51 : decode cX2_gain 51 = .ok (.iconst 1, 1) := by decide +kernel
theorem dX2_gain_52 : decode cX2_gain 52 = .ok (.iand, 1) := by decide +kernel
theorem dX2_gain_53 : decode cX2_gain 53 = .ok (.isub, 1) := by decide +kernel
theorem dX2_gain_54 : decode cX2_gain 54 = .ok (.ireturn, 1) := by decide +kernel
set_option maxRecDepth 20000 in
theorem ggX2_enoughStay_X1_everyHand : GoodIn wsX2_enoughStay wsX1_everyHand := goodIn_r _ [8, 9, 75, 76, 77, 78, 79, 80, 81, 82] (by decide +kernel) (by decide +kernel)
set_option maxRecDepth 20000 in
theorem gX2_enoughStay_X1_everyHand : GoodIn wsX2_enoughStay (wsV RX2 24 RX1 yX1_everyHand wsX1_everyHand) := goodIn_app (goodIn_of _ (by decide +kernel)) ggX2_enoughStay_X1_everyHand
set_option maxRecDepth 20000 in
theorem ggX2_enoughStay_X4_isEnough : GoodIn wsX2_enoughStay wsX4_isEnough := goodIn_r _ [14, 15, 16, 17, 18, 19, 13, 20, 21, 22, 23, 24, 25, 26, 27, 28, 29, 30, 31, 32, 33, 34, 35, 36, 37, 38, 39, 40, 41, 42, 43, 44, 45, 46, 47, 48, 49, 50, 51, 52, 53, 54, 55, 56, 57, 58, 59, 83, 84, 85, 86, 87, 88, 75, 76, 77, 78, 79, 80, 81, 82] (by decide +kernel) (by decide +kernel)
set_option maxRecDepth 20000 in
theorem gX2_enoughStay_X4_isEnough : GoodIn wsX2_enoughStay (wsV RX2 70 RX4 yX4_isEnough wsX4_isEnough) := goodIn_app (goodIn_of _ (by decide +kernel)) ggX2_enoughStay_X4_isEnough
set_option maxRecDepth 20000 in
theorem ggX2_enoughStay_J6_bitCount_0f7a4 : GoodIn wsX2_enoughStay wsJ6_bitCount_0f7a4 := goodIn_r _ [56, 57, 58, 59] (by decide +kernel) (by decide +kernel)
set_option maxRecDepth 20000 in
theorem gX2_enoughStay_J6_bitCount_0f7a4 : GoodIn wsX2_enoughStay (va_wsS RX2 30 yJ6_bitCount_0f7a4 wsJ6_bitCount_0f7a4) := goodIn_app (goodIn_of _ (by decide +kernel)) ggX2_enoughStay_J6_bitCount_0f7a4
set_option maxRecDepth 20000 in
theorem ggX2_enoughStay_X2_power : GoodIn wsX2_enoughStay wsX2_power := goodIn_r _ [64] (by decide +kernel) (by decide +kernel)
set_option maxRecDepth 20000 in
theorem gX2_enoughStay_X2_power : GoodIn wsX2_enoughStay (va_wsS RX2 74 yX2_power wsX2_power) := goodIn_app (goodIn_of _ (by decide +kernel)) ggX2_enoughStay_X2_power
set_option maxRecDepth 20000 in
theorem ggX2_enoughStay_X2_fraction : GoodIn wsX2_enoughStay wsX2_fraction := goodIn_r _ [67, 68, 69, 70, 71] (by decide +kernel) (by decide +kernel)
set_option maxRecDepth 20000 in
theorem gX2_enoughStay_X2_fraction : GoodIn wsX2_enoughStay (va_wsS RX2 48 yX2_fraction wsX2_fraction) := goodIn_app (goodIn_of _ (by decide +kernel)) ggX2_enoughStay_X2_fraction
theorem dX2_enoughStay_0 : decode cX2_enoughStay 0 = .ok (.lconst 0, 1) := by decide +kernel
theorem dX2_enoughStay_1 : decode cX2_enoughStay 1 = .ok (.lstore 5, 2) := by decide +kernel
theorem dX2_enoughStay_3 : decode cX2_enoughStay 3 = .ok (.aload_n 0, 1) := by decide +kernel
theorem dX2_enoughStay_4 : decode cX2_enoughStay 4 = .ok (.getfield 9, 3) := by decide +kernel
theorem dX2_enoughStay_7 : decode cX2_enoughStay 7 = .ok (.invokevirtual 24, 3) := by decide +kernel
theorem dX2_enoughStay_10 : decode cX2_enoughStay 10 = .ok (.istore 7, 2) := by decide +kernel
theorem dX2_enoughStay_12 : decode cX2_enoughStay 12 = .ok (.iconst 0, 1) := by decide +kernel
theorem dX2_enoughStay_13 : decode cX2_enoughStay 13 = .ok (.istore 8, 2) := by decide +kernel
theorem dX2_enoughStay_15 : decode cX2_enoughStay 15 = .ok (.iload 8, 2) := by decide +kernel
theorem dX2_enoughStay_17 : decode cX2_enoughStay 17 = .ok (.iload 7, 2) := by decide +kernel
theorem dX2_enoughStay_19 : decode cX2_enoughStay 19 = .ok (.if_icmp .gt 57, 3) := by decide +kernel
theorem dX2_enoughStay_22 : decode cX2_enoughStay 22 = .ok (.aload_n 1, 1) := by decide +kernel
theorem dX2_enoughStay_23 : decode cX2_enoughStay 23 = .ok (.iload_n 2, 1) := by decide +kernel
theorem dX2_enoughStay_24 : decode cX2_enoughStay 24 = .ok (.iload 8, 2) := by decide +kernel
theorem dX2_enoughStay_26 : decode cX2_enoughStay 26 = .ok (.invokevirtual 70, 3) := by decide +kernel
theorem dX2_enoughStay_29 : decode cX2_enoughStay 29 = .ok (.ifCond .eq 41, 3) := by decide +kernel
theorem dX2_enoughStay_32 : decode cX2_enoughStay 32 = .ok (.iload 8, 2) := by decide +kernel
theorem dX2_enoughStay_34 : decode cX2_enoughStay 34 = .ok (.invokestatic 30, 3) := by decide +kernel
theorem dX2_enoughStay_37 : decode cX2_enoughStay 37 = .ok (.istore 9, 2) := by decide +kernel
theorem dX2_enoughStay_39 : decode cX2_enoughStay 39 = .ok (.lload 5, 2) := by decide +kernel
theorem dX2_enoughStay_41 : decode cX2_enoughStay 41 = .ok (.bipush 10, 2) := by decide +kernel
theorem dX2_enoughStay_43 : decode cX2_enoughStay 43 = .ok (.iload_n 3, 1) := by decide +kernel
theorem dX2_enoughStay_44 : decode cX2_enoughStay 44 = .ok (.isub, 1) := by decide +kernel
theorem dX2_enoughStay_45 : decode cX2_enoughStay 45 = .ok (.i2l, 1) := by decide +kernel
theorem dX2_enoughStay_46 : decode cX2_enoughStay 46 = .ok (.iload 9, 2) := by decide +kernel
theorem dX2_enoughStay_48 : decode cX2_enoughStay 48 = .ok (.invokestatic 74, 3) := by decide +kernel
theorem dX2_enoughStay_51 : decode cX2_enoughStay 51 = .ok (.iload_n 3, 1) := by decide +kernel
theorem dX2_enoughStay_52 : decode cX2_enoughStay 52 = .ok (.i2l, 1) := by decide +kernel
theorem dX2_enoughStay_53 : decode cX2_enoughStay 53 = .ok (.aload_n 0, 1) := by decide +kernel
theorem dX2_enoughStay_54 : decode cX2_enoughStay 54 = .ok (.getfield 9, 3) := by decide +kernel
theorem dX2_enoughStay_57 : decode cX2_enoughStay 57 = .ok (.getfield 40, 3) := by decide +kernel
theorem dX2_enoughStay_60 : decode cX2_enoughStay 60 = .ok (.iload 9, 2) := by decide +kernel
theorem dX2_enoughStay_62 : decode cX2_enoughStay 62 = .ok (.isub, 1) := by decide +kernel
theorem dX2_enoughStay_63 : decode cX2_enoughStay 63 = .ok (.invokestatic 74, 3) := by decide +kernel
theorem dX2_enoughStay_66 : decode cX2_enoughStay 66 = .ok (.lmul, 1) := by decide +kernel
theorem dX2_enoughStay_67 : decode cX2_enoughStay 67 = .ok (.ladd, 1) := by decide +kernel
theorem dX2_enoughStay_68 : decode cX2_enoughStay 68 = .ok (.lstore 5, 2) := by decide +kernel
theorem dX2_enoughStay_70 : decode cX2_enoughStay 70 = .ok (.iinc 8 1, 3) := by decide +kernel
theorem dX2_enoughStay_73 : decode cX2_enoughStay 73 = .ok (.goto (-58), 3) := by decide +kernel
theorem dX2_enoughStay_76 : decode cX2_enoughStay 76 = .ok (.lload 5, 2) := by decide +kernel
theorem dX2_enoughStay_78 : decode cX2_enoughStay 78 = .ok (.ldc2_w 78, 3) := by decide +kernel
theorem dX2_enoughStay_81 : decode cX2_enoughStay 81 = .ok (.aload_n 0, 1) := by decide +kernel
theorem dX2_enoughStay_82 : decode cX2_enoughStay 82 = .ok (.getfield 9, 3) := by decide +kernel
theorem dX2_enoughStay_85 : decode cX2_enoughStay 85 = .ok (.getfield 40, 3) := by decide +kernel
theorem dX2_enoughStay_88 : decode cX2_enoughStay 88 = .ok (.invokestatic 74, 3) := by decide +kernel
theorem dX2_enoughStay_91 : decode cX2_enoughStay 91 = .ok (.iload 4, 2) := by decide +kernel
theorem dX2_enoughStay_93 : decode cX2_enoughStay 93 = .ok (.invokestatic 48, 3) := by decide +kernel
theorem dX2_enoughStay_96 : decode cX2_enoughStay 96 = .ok (.ireturn, 1) := by decide +kernel
set_option maxRecDepth 20000 in
theorem ggX2_playSeasons_X4_copyFrom : GoodIn wsX2_playSeasons wsX4_copyFrom := goodIn_r _ [10, 11, 12, 13, 14, 15, 16, 17, 18, 19, 118, 119, 120, 121, 122, 123] (by decide +kernel) (by decide +kernel)
set_option maxRecDepth 20000 in
theorem gX2_playSeasons_X4_copyFrom : GoodIn wsX2_playSeasons (wsV RX2 80 RX4 yX4_copyFrom wsX4_copyFrom) := goodIn_app (goodIn_of _ (by decide +kernel)) ggX2_playSeasons_X4_copyFrom
set_option maxRecDepth 20000 in
theorem ggX2_playSeasons_X2_happen : GoodIn wsX2_playSeasons wsX2_happen := goodIn_r _ [24, 25, 1, 26, 27, 28, 29, 30, 31, 32, 33, 34, 35, 9, 36, 37, 38, 18, 17, 39, 16, 40, 41, 42, 43, 44, 45, 46, 47, 48, 49, 50, 51, 52, 53, 54, 55, 56, 57, 58, 59, 60, 61, 62, 63, 64, 65, 11, 66, 67, 68, 69, 70, 71, 72, 73, 74, 75, 76, 77, 78, 79, 80, 81, 82, 83, 84, 85, 86, 87, 88, 89, 90, 91, 92, 93, 94, 95, 96, 97, 98, 99, 100, 101, 102, 103, 104, 105, 106, 107, 108, 109, 19, 115, 116, 117, 118, 119, 120, 121, 122, 123, 124, 125, 126, 127, 128, 129, 130, 131] (by decide +kernel) (by decide +kernel)
set_option maxRecDepth 20000 in
theorem gX2_playSeasons_X2_happen : GoodIn wsX2_playSeasons (wsV RX2 94 RX2 yX2_happen wsX2_happen) := goodIn_app (goodIn_of _ (by decide +kernel)) ggX2_playSeasons_X2_happen
set_option maxRecDepth 20000 in
theorem ggX2_playSeasons_X4_allCalled : GoodIn wsX2_playSeasons wsX4_allCalled := goodIn_r _ [113, 37, 114, 17, 118, 119, 120, 121, 122, 123, 124, 125, 126, 127, 128, 129, 130, 131] (by decide +kernel) (by decide +kernel)
set_option maxRecDepth 20000 in
theorem gX2_playSeasons_X4_allCalled : GoodIn wsX2_playSeasons (wsV RX2 98 RX4 yX4_allCalled wsX4_allCalled) := goodIn_app (goodIn_of _ (by decide +kernel)) ggX2_playSeasons_X4_allCalled
theorem dX2_playSeasons_0 : decode cX2_playSeasons 0 = .ok (.aload_n 0, 1) := by decide +kernel
theorem dX2_playSeasons_1 : decode cX2_playSeasons 1 = .ok (.getfield 20, 3) := by decide +kernel
theorem dX2_playSeasons_4 : decode cX2_playSeasons 4 = .ok (.aload_n 1, 1) := by decide +kernel
theorem dX2_playSeasons_5 : decode cX2_playSeasons 5 = .ok (.invokevirtual 80, 3) := by decide +kernel
theorem dX2_playSeasons_8 : decode cX2_playSeasons 8 = .ok (.iconst 0, 1) := by decide +kernel
theorem dX2_playSeasons_9 : decode cX2_playSeasons 9 = .ok (.istore_n 3, 1) := by decide +kernel
theorem dX2_playSeasons_10 : decode cX2_playSeasons 10 = .ok (.iconst 0, 1) := by decide +kernel
theorem dX2_playSeasons_11 : decode cX2_playSeasons 11 = .ok (.istore 4, 2) := by decide +kernel
theorem dX2_playSeasons_13 : decode cX2_playSeasons 13 = .ok (.iload 4, 2) := by decide +kernel
theorem dX2_playSeasons_15 : decode cX2_playSeasons 15 = .ok (.iload_n 2, 1) := by decide +kernel
theorem dX2_playSeasons_16 : decode cX2_playSeasons 16 = .ok (.if_icmp .ge 51, 3) := by decide +kernel
theorem dX2_playSeasons_19 : decode cX2_playSeasons 19 = .ok (.aload_n 0, 1) := by decide +kernel
theorem dX2_playSeasons_20 : decode cX2_playSeasons 20 = .ok (.aload_n 0, 1) := by decide +kernel
theorem dX2_playSeasons_21 : decode cX2_playSeasons 21 = .ok (.getfield 84, 3) := by decide +kernel
theorem dX2_playSeasons_24 : decode cX2_playSeasons 24 = .ok (.ldc2_w 88, 3) := by decide +kernel
theorem dX2_playSeasons_27 : decode cX2_playSeasons 27 = .ok (.lmul, 1) := by decide +kernel
theorem dX2_playSeasons_28 : decode cX2_playSeasons 28 = .ok (.ldc2_w 90, 3) := by decide +kernel
theorem dX2_playSeasons_31 : decode cX2_playSeasons 31 = .ok (.ladd, 1) := by decide +kernel
theorem dX2_playSeasons_32 : decode cX2_playSeasons 32 = .ok (.putfield 84, 3) := by decide +kernel
theorem dX2_playSeasons_35 : decode cX2_playSeasons 35 = .ok (.aload_n 0, 1) := by decide +kernel
theorem dX2_playSeasons_36 : decode cX2_playSeasons 36 = .ok (.aload_n 0, 1) := by decide +kernel
theorem dX2_playSeasons_37 : decode cX2_playSeasons 37 = .ok (.getfield 84, 3) := by decide +kernel
theorem dX2_playSeasons_40 : decode cX2_playSeasons 40 = .ok (.bipush 33, 2) := by decide +kernel
theorem dX2_playSeasons_42 : decode cX2_playSeasons 42 = .ok (.lushr, 1) := by decide +kernel
theorem dX2_playSeasons_43 : decode cX2_playSeasons 43 = .ok (.ldc2_w 92, 3) := by decide +kernel
theorem dX2_playSeasons_46 : decode cX2_playSeasons 46 = .ok (.lrem, 1) := by decide +kernel
theorem dX2_playSeasons_47 : decode cX2_playSeasons 47 = .ok (.l2i, 1) := by decide +kernel
theorem dX2_playSeasons_48 : decode cX2_playSeasons 48 = .ok (.invokevirtual 94, 3) := by decide +kernel
theorem dX2_playSeasons_51 : decode cX2_playSeasons 51 = .ok (.iload_n 3, 1) := by decide +kernel
theorem dX2_playSeasons_52 : decode cX2_playSeasons 52 = .ok (.aload_n 0, 1) := by decide +kernel
theorem dX2_playSeasons_53 : decode cX2_playSeasons 53 = .ok (.getfield 20, 3) := by decide +kernel
theorem dX2_playSeasons_56 : decode cX2_playSeasons 56 = .ok (.invokevirtual 98, 3) := by decide +kernel
theorem dX2_playSeasons_59 : decode cX2_playSeasons 59 = .ok (.iadd, 1) := by decide +kernel
theorem dX2_playSeasons_60 : decode cX2_playSeasons 60 = .ok (.istore_n 3, 1) := by decide +kernel
theorem dX2_playSeasons_61 : decode cX2_playSeasons 61 = .ok (.iinc 4 1, 3) := by decide +kernel
theorem dX2_playSeasons_64 : decode cX2_playSeasons 64 = .ok (.goto (-51), 3) := by decide +kernel
theorem dX2_playSeasons_67 : decode cX2_playSeasons 67 = .ok (.iload_n 3, 1) := by decide +kernel
theorem dX2_playSeasons_68 : decode cX2_playSeasons 68 = .ok (.ireturn, 1) := by decide +kernel
set_option maxRecDepth 20000 in
theorem ggX2_happen_X1_hasPlayer : GoodIn wsX2_happen wsX1_hasPlayer := goodIn_r _ [8, 9, 102, 103, 104, 105, 106, 107, 108, 109] (by decide +kernel) (by decide +kernel)
set_option maxRecDepth 20000 in
theorem gX2_happen_X1_hasPlayer : GoodIn wsX2_happen (wsV RX2 101 RX1 yX1_hasPlayer wsX1_hasPlayer) := goodIn_app (goodIn_of _ (by decide +kernel)) ggX2_happen_X1_hasPlayer
set_option maxRecDepth 20000 in
theorem ggX2_happen_X4_bringOut : GoodIn wsX2_happen wsX4_bringOut := goodIn_r _ [14, 15, 16, 17, 18, 19, 20, 21, 22, 23, 13, 24, 25, 26, 27, 7, 28, 29, 30, 31, 32, 33, 34, 35, 36, 37, 38, 39, 40, 41, 42, 43, 44, 45, 46, 47, 48, 49, 50, 51, 52, 53, 54, 55, 56, 57, 58, 59, 60, 61, 62, 63, 64, 65, 66, 96, 97, 98, 99, 100, 101, 102, 103, 104, 105, 106, 107, 108, 109] (by decide +kernel) (by decide +kernel)
set_option maxRecDepth 20000 in
theorem gX2_happen_X4_bringOut : GoodIn wsX2_happen (wsV RX2 105 RX4 yX4_bringOut wsX4_bringOut) := goodIn_app (goodIn_of _ (by decide +kernel)) ggX2_happen_X4_bringOut
set_option maxRecDepth 20000 in
theorem ggX2_happen_X4_strew : GoodIn wsX2_happen wsX4_strew := goodIn_r _ [70, 15, 19, 59, 20, 71, 72, 73, 74, 96, 97, 98, 99, 100, 101, 102, 103, 104, 105, 106, 107, 108, 109] (by decide +kernel) (by decide +kernel)
set_option maxRecDepth 20000 in
theorem gX2_happen_X4_strew : GoodIn wsX2_happen (wsV RX2 108 RX4 yX4_strew wsX4_strew) := goodIn_app (goodIn_of _ (by decide +kernel)) ggX2_happen_X4_strew
set_option maxRecDepth 20000 in
theorem ggX2_happen_X1_hasHand : GoodIn wsX2_happen wsX1_hasHand := goodIn_r _ [78, 29, 102, 103, 104, 105, 106, 107, 108, 109] (by decide +kernel) (by decide +kernel)
set_option maxRecDepth 20000 in
theorem gX2_happen_X1_hasHand : GoodIn wsX2_happen (wsV RX2 112 RX1 yX1_hasHand wsX1_hasHand) := goodIn_app (goodIn_of _ (by decide +kernel)) ggX2_happen_X1_hasHand
set_option maxRecDepth 20000 in
theorem ggX2_happen_X4_isTaken : GoodIn wsX2_happen wsX4_isTaken := goodIn_r _ [82, 83, 84, 85, 13, 86, 15, 25, 26, 27, 7, 28, 29, 43, 44, 45, 46, 19, 47, 96, 97, 98, 99, 100, 101, 102, 103, 104, 105, 106, 107, 108, 109] (by decide +kernel) (by decide +kernel)
set_option maxRecDepth 20000 in
theorem gX2_happen_X4_isTaken : GoodIn wsX2_happen (wsV RX2 115 RX4 yX4_isTaken wsX4_isTaken) := goodIn_app (goodIn_of _ (by decide +kernel)) ggX2_happen_X4_isTaken
set_option maxRecDepth 20000 in
theorem ggX2_happen_X4_sleep : GoodIn wsX2_happen wsX4_sleep := goodIn_r _ [90, 15, 19, 20, 91, 92, 96, 97, 98, 99, 100, 101, 102, 103, 104, 105, 106, 107, 108, 109] (by decide +kernel) (by decide +kernel)
set_option maxRecDepth 20000 in
theorem gX2_happen_X4_sleep : GoodIn wsX2_happen (wsV RX2 121 RX4 yX4_sleep wsX4_sleep) := goodIn_app (goodIn_of _ (by decide +kernel)) ggX2_happen_X4_sleep
theorem dX2_happen_0 : decode cX2_happen 0 = .ok (.iload_n 1, 1) := by decide +kernel
theorem dX2_happen_1 : decode cX2_happen 1 = .ok (.bipush 6, 2) := by decide +kernel
theorem dX2_happen_3 : decode cX2_happen 3 = .ok (.if_icmp .ge 30, 3) := by decide +kernel
theorem dX2_happen_6 : decode cX2_happen 6 = .ok (.aload_n 0, 1) := by decide +kernel
theorem dX2_happen_7 : decode cX2_happen 7 = .ok (.getfield 9, 3) := by decide +kernel
theorem dX2_happen_10 : decode cX2_happen 10 = .ok (.iload_n 1, 1) := by decide +kernel
theorem dX2_happen_11 : decode cX2_happen 11 = .ok (.iconst 3, 1) := by decide +kernel
theorem dX2_happen_12 : decode cX2_happen 12 = .ok (.irem, 1) := by decide +kernel
theorem dX2_happen_13 : decode cX2_happen 13 = .ok (.invokevirtual 101, 3) := by decide +kernel
theorem dX2_happen_16 : decode cX2_happen 16 = .ok (.ifCond .eq 92, 3) := by decide +kernel
theorem dX2_happen_19 : decode cX2_happen 19 = .ok (.aload_n 0, 1) := by decide +kernel
theorem dX2_happen_20 : decode cX2_happen 20 = .ok (.getfield 20, 3) := by decide +kernel
theorem dX2_happen_23 : decode cX2_happen 23 = .ok (.iload_n 1, 1) := by decide +kernel
theorem dX2_happen_24 : decode cX2_happen 24 = .ok (.iconst 3, 1) := by decide +kernel
theorem dX2_happen_25 : decode cX2_happen 25 = .ok (.irem, 1) := by decide +kernel
theorem dX2_happen_26 : decode cX2_happen 26 = .ok (.invokevirtual 105, 3) := by decide +kernel
theorem dX2_happen_29 : decode cX2_happen 29 = .ok (.pop, 1) := by decide +kernel
theorem dX2_happen_30 : decode cX2_happen 30 = .ok (.goto 78, 3) := by decide +kernel
theorem dX2_happen_33 : decode cX2_happen 33 = .ok (.iload_n 1, 1) := by decide +kernel
theorem dX2_happen_34 : decode cX2_happen 34 = .ok (.bipush 9, 2) := by decide +kernel
theorem dX2_happen_36 : decode cX2_happen 36 = .ok (.if_icmp .ge 18, 3) := by decide +kernel
theorem dX2_happen_39 : decode cX2_happen 39 = .ok (.aload_n 0, 1) := by decide +kernel
theorem dX2_happen_40 : decode cX2_happen 40 = .ok (.getfield 20, 3) := by decide +kernel
theorem dX2_happen_43 : decode cX2_happen 43 = .ok (.iload_n 1, 1) := by decide +kernel
theorem dX2_happen_44 : decode cX2_happen 44 = .ok (.bipush 6, 2) := by decide +kernel
theorem dX2_happen_46 : decode cX2_happen 46 = .ok (.isub, 1) := by decide +kernel
theorem dX2_happen_47 : decode cX2_happen 47 = .ok (.iconst 1, 1) := by decide +kernel
theorem dX2_happen_48 : decode cX2_happen 48 = .ok (.invokevirtual 108, 3) := by decide +kernel
theorem dX2_happen_51 : decode cX2_happen 51 = .ok (.goto 57, 3) := by decide +kernel
theorem dX2_happen_54 : decode cX2_happen 54 = .ok (.iload_n 1, 1) := by decide +kernel
theorem dX2_happen_55 : decode cX2_happen 55 = .ok (.bipush 19, 2) := by decide +kernel
theorem dX2_happen_57 : decode cX2_happen 57 = .ok (.if_icmp .ge 44, 3) := by decide +kernel
theorem dX2_happen_60 : decode cX2_happen 60 = .ok (.aload_n 0, 1) := by decide +kernel
theorem dX2_happen_61 : decode cX2_happen 61 = .ok (.getfield 9, 3) := by decide +kernel
theorem dX2_happen_64 : decode cX2_happen 64 = .ok (.iconst 0, 1) := by decide +kernel
theorem dX2_happen_65 : decode cX2_happen 65 = .ok (.invokevirtual 112, 3) := by decide +kernel
theorem dX2_happen_68 : decode cX2_happen 68 = .ok (.ifCond .eq 40, 3) := by decide +kernel
theorem dX2_happen_71 : decode cX2_happen 71 = .ok (.aload_n 0, 1) := by decide +kernel
theorem dX2_happen_72 : decode cX2_happen 72 = .ok (.getfield 20, 3) := by decide +kernel
theorem dX2_happen_75 : decode cX2_happen 75 = .ok (.iload_n 1, 1) := by decide +kernel
theorem dX2_happen_76 : decode cX2_happen 76 = .ok (.bipush 9, 2) := by decide +kernel
theorem dX2_happen_78 : decode cX2_happen 78 = .ok (.isub, 1) := by decide +kernel
theorem dX2_happen_79 : decode cX2_happen 79 = .ok (.invokevirtual 115, 3) := by decide +kernel
theorem dX2_happen_82 : decode cX2_happen 82 = .ok (.ifCond .ne 26, 3) := by decide +kernel
theorem dX2_happen_85 : decode cX2_happen 85 = .ok (.aload_n 0, 1) := by decide +kernel
theorem dX2_happen_86 : decode cX2_happen 86 = .ok (.getfield 20, 3) := by decide +kernel
theorem dX2_happen_89 : decode cX2_happen 89 = .ok (.getfield 118, 3) := by decide +kernel
theorem dX2_happen_92 : decode cX2_happen 92 = .ok (.iconst 0, 1) := by decide +kernel
theorem dX2_happen_93 : decode cX2_happen 93 = .ok (.iload_n 1, 1) := by decide +kernel
theorem dX2_happen_94 : decode cX2_happen 94 = .ok (.bipush 9, 2) := by decide +kernel
theorem dX2_happen_96 : decode cX2_happen 96 = .ok (.isub, 1) := by decide +kernel
theorem dX2_happen_97 : decode cX2_happen 97 = .ok (.iastore, 1) := by decide +kernel
theorem dX2_happen_98 : decode cX2_happen 98 = .ok (.goto 10, 3) := by decide +kernel
theorem dX2_happen_101 : decode cX2_happen 101 = .ok (.aload_n 0, 1) := by decide +kernel
theorem dX2_happen_102 : decode cX2_happen 102 = .ok (.getfield 20, 3) := by decide +kernel
theorem dX2_happen_105 : decode cX2_happen 105 = .ok (.invokevirtual 121, 3) := by decide +kernel
theorem dX2_happen_108 : decode cX2_happen 108 = .ok (.return_, 1) := by decide +kernel
theorem dX2_orders_0 : decode cX2_orders 0 = .ok (.lconst 1, 1) := by decide +kernel
theorem dX2_orders_1 : decode cX2_orders 1 = .ok (.lstore_n 1, 1) := by decide +kernel
theorem dX2_orders_2 : decode cX2_orders 2 = .ok (.iconst 2, 1) := by decide +kernel
theorem dX2_orders_3 : decode cX2_orders 3 = .ok (.istore_n 3, 1) := by decide +kernel
theorem dX2_orders_4 : decode cX2_orders 4 = .ok (.iload_n 3, 1) := by decide +kernel
theorem dX2_orders_5 : decode cX2_orders 5 = .ok (.iload_n 0, 1) := by decide +kernel
theorem dX2_orders_6 : decode cX2_orders 6 = .ok (.if_icmp .gt 14, 3) := by decide +kernel
theorem dX2_orders_9 : decode cX2_orders 9 = .ok (.lload_n 1, 1) := by decide +kernel
theorem dX2_orders_10 : decode cX2_orders 10 = .ok (.iload_n 3, 1) := by decide +kernel
theorem dX2_orders_11 : decode cX2_orders 11 = .ok (.i2l, 1) := by decide +kernel
theorem dX2_orders_12 : decode cX2_orders 12 = .ok (.lmul, 1) := by decide +kernel
theorem dX2_orders_13 : decode cX2_orders 13 = .ok (.lstore_n 1, 1) := by decide +kernel
theorem dX2_orders_14 : decode cX2_orders 14 = .ok (.iinc 3 1, 3) := by decide +kernel
theorem dX2_orders_17 : decode cX2_orders 17 = .ok (.goto (-13), 3) := by decide +kernel
theorem dX2_orders_20 : decode cX2_orders 20 = .ok (.lload_n 1, 1) := by decide +kernel
theorem dX2_orders_21 : decode cX2_orders 21 = .ok (.lreturn, 1) := by decide +kernel
theorem dX2_power_0 : decode cX2_power 0 = .ok (.lconst 1, 1) := by decide +kernel
theorem dX2_power_1 : decode cX2_power 1 = .ok (.lstore_n 3, 1) := by decide +kernel
theorem dX2_power_2 : decode cX2_power 2 = .ok (.iconst 0, 1) := by decide +kernel
theorem dX2_power_3 : decode cX2_power 3 = .ok (.istore 5, 2) := by decide +kernel
theorem dX2_power_5 : decode cX2_power 5 = .ok (.iload 5, 2) := by decide +kernel
theorem dX2_power_7 : decode cX2_power 7 = .ok (.iload_n 2, 1) := by decide +kernel
theorem dX2_power_8 : decode cX2_power 8 = .ok (.if_icmp .ge 13, 3) := by decide +kernel
theorem dX2_power_11 : decode cX2_power 11 = .ok (.lload_n 3, 1) := by decide +kernel
theorem dX2_power_12 : decode cX2_power 12 = .ok (.lload_n 0, 1) := by decide +kernel
theorem dX2_power_13 : decode cX2_power 13 = .ok (.lmul, 1) := by decide +kernel
theorem dX2_power_14 : decode cX2_power 14 = .ok (.lstore_n 3, 1) := by decide +kernel
theorem dX2_power_15 : decode cX2_power 15 = .ok (.iinc 5 1, 3) := by decide +kernel
theorem dX2_power_18 : decode cX2_power 18 = .ok (.goto (-13), 3) := by decide +kernel
theorem dX2_power_21 : decode cX2_power 21 = .ok (.lload_n 3, 1) := by decide +kernel
theorem dX2_power_22 : decode cX2_power 22 = .ok (.lreturn, 1) := by decide +kernel
theorem dX2_fraction_0 : decode cX2_fraction 0 = .ok (.lload_n 0, 1) := by decide +kernel
theorem dX2_fraction_1 : decode cX2_fraction 1 = .ok (.invokestatic 124, 3) := by decide +kernel
theorem dX2_fraction_4 : decode cX2_fraction 4 = .ok (.lstore 5, 2) := by decide +kernel
theorem dX2_fraction_6 : decode cX2_fraction 6 = .ok (.lload_n 2, 1) := by decide +kernel
theorem dX2_fraction_7 : decode cX2_fraction 7 = .ok (.lstore 7, 2) := by decide +kernel
theorem dX2_fraction_9 : decode cX2_fraction 9 = .ok (.iconst 0, 1) := by decide +kernel
theorem dX2_fraction_10 : decode cX2_fraction 10 = .ok (.istore 9, 2) := by decide +kernel
theorem dX2_fraction_12 : decode cX2_fraction 12 = .ok (.iload 9, 2) := by decide +kernel
theorem dX2_fraction_14 : decode cX2_fraction 14 = .ok (.sipush 128, 3) := by decide +kernel
theorem dX2_fraction_17 : decode cX2_fraction 17 = .ok (.if_icmp .ge 31, 3) := by decide +kernel
theorem dX2_fraction_20 : decode cX2_fraction 20 = .ok (.lload 7, 2) := by decide +kernel
theorem dX2_fraction_22 : decode cX2_fraction 22 = .ok (.lconst 0, 1) := by decide +kernel
theorem dX2_fraction_23 : decode cX2_fraction 23 = .ok (.lcmp, 1) := by decide +kernel
theorem dX2_fraction_24 : decode cX2_fraction 24 = .ok (.ifCond .eq 24, 3) := by decide +kernel
theorem dX2_fraction_27 : decode cX2_fraction 27 = .ok (.lload 5, 2) := by decide +kernel
theorem dX2_fraction_29 : decode cX2_fraction 29 = .ok (.lload 7, 2) := by decide +kernel
theorem dX2_fraction_31 : decode cX2_fraction 31 = .ok (.lrem, 1) := by decide +kernel
theorem dX2_fraction_32 : decode cX2_fraction 32 = .ok (.lstore 10, 2) := by decide +kernel
theorem dX2_fraction_34 : decode cX2_fraction 34 = .ok (.lload 7, 2) := by decide +kernel
theorem dX2_fraction_36 : decode cX2_fraction 36 = .ok (.lstore 5, 2) := by decide +kernel
theorem dX2_fraction_38 : decode cX2_fraction 38 = .ok (.lload 10, 2) := by decide +kernel
theorem dX2_fraction_40 : decode cX2_fraction 40 = .ok (.lstore 7, 2) := by decide +kernel
theorem dX2_fraction_42 : decode cX2_fraction 42 = .ok (.iinc 9 1, 3) := by decide +kernel
theorem dX2_fraction_45 : decode cX2_fraction 45 = .ok (.goto (-33), 3) := by decide +kernel
theorem dX2_fraction_48 : decode cX2_fraction 48 = .ok (.lload 5, 2) := by decide +kernel
theorem dX2_fraction_50 : decode cX2_fraction 50 = .ok (.lconst 0, 1) := by decide +kernel
theorem dX2_fraction_51 : decode cX2_fraction 51 = .ok (.lcmp, 1) := by decide +kernel
theorem dX2_fraction_52 : decode cX2_fraction 52 = .ok (.ifCond .ne 5, 3) := by decide +kernel
theorem dX2_fraction_55 : decode cX2_fraction 55 = .ok (.iconst 0, 1) := by decide +kernel
theorem dX2_fraction_56 : decode cX2_fraction 56 = .ok (.ireturn, 1) := by decide +kernel
theorem dX2_fraction_57 : decode cX2_fraction 57 = .ok (.iload 4, 2) := by decide +kernel
theorem dX2_fraction_59 : decode cX2_fraction 59 = .ok (.ifCond .eq 7, 3) := by decide +kernel
theorem dX2_fraction_62 : decode cX2_fraction 62 = .ok (.lload_n 0, 1) := by decide +kernel
theorem dX2_fraction_63 : decode cX2_fraction 63 = .ok (.goto 4, 3) := by decide +kernel
theorem dX2_fraction_66 : decode cX2_fraction 66 = .ok (.lload_n 2, 1) := by decide +kernel
theorem dX2_fraction_67 : decode cX2_fraction 67 = .ok (.lload 5, 2) := by decide +kernel
theorem dX2_fraction_69 : decode cX2_fraction 69 = .ok (.ldiv, 1) := by decide +kernel
theorem dX2_fraction_70 : decode cX2_fraction 70 = .ok (.l2i, 1) := by decide +kernel
theorem dX2_fraction_71 : decode cX2_fraction 71 = .ok (.ireturn, 1) := by decide +kernel
theorem dX3_init_0 : decode cX3_init 0 = .ok (.aload_n 0, 1) := by decide +kernel
theorem dX3_init_1 : decode cX3_init 1 = .ok (.invokespecial 3, 3) := by decide +kernel
theorem dX3_init_4 : decode cX3_init 4 = .ok (.aload_n 0, 1) := by decide +kernel
theorem dX3_init_5 : decode cX3_init 5 = .ok (.bipush 6, 2) := by decide +kernel
theorem dX3_init_7 : decode cX3_init 7 = .ok (.newarray .int, 2) := by decide +kernel
theorem dX3_init_9 : decode cX3_init 9 = .ok (.putfield 9, 3) := by decide +kernel
theorem dX3_init_12 : decode cX3_init 12 = .ok (.aload_n 0, 1) := by decide +kernel
theorem dX3_init_13 : decode cX3_init 13 = .ok (.bipush 6, 2) := by decide +kernel
theorem dX3_init_15 : decode cX3_init 15 = .ok (.newarray .int, 2) := by decide +kernel
theorem dX3_init_17 : decode cX3_init 17 = .ok (.putfield 15, 3) := by decide +kernel
theorem dX3_init_20 : decode cX3_init 20 = .ok (.aload_n 0, 1) := by decide +kernel
theorem dX3_init_21 : decode cX3_init 21 = .ok (.bipush 6, 2) := by decide +kernel
theorem dX3_init_23 : decode cX3_init 23 = .ok (.newarray .int, 2) := by decide +kernel
theorem dX3_init_25 : decode cX3_init 25 = .ok (.putfield 18, 3) := by decide +kernel
theorem dX3_init_28 : decode cX3_init 28 = .ok (.return_, 1) := by decide +kernel
theorem dX3_note_0 : decode cX3_note 0 = .ok (.aload_n 0, 1) := by decide +kernel
theorem dX3_note_1 : decode cX3_note 1 = .ok (.getfield 21, 3) := by decide +kernel
theorem dX3_note_4 : decode cX3_note 4 = .ok (.bipush 6, 2) := by decide +kernel
theorem dX3_note_6 : decode cX3_note 6 = .ok (.if_icmp .lt 6, 3) := by decide +kernel
theorem dX3_note_9 : decode cX3_note 9 = .ok (.bipush (-4), 2) := by decide +kernel
theorem dX3_note_11 : decode cX3_note 11 = .ok (.ireturn, 1) := by decide +kernel
theorem dX3_note_12 : decode cX3_note 12 = .ok (.aload_n 0, 1) := by decide +kernel
theorem dX3_note_13 : decode cX3_note 13 = .ok (.getfield 9, 3) := by decide +kernel
theorem dX3_note_16 : decode cX3_note 16 = .ok (.aload_n 0, 1) := by decide +kernel
theorem dX3_note_17 : decode cX3_note 17 = .ok (.getfield 21, 3) := by decide +kernel
theorem dX3_note_20 : decode cX3_note 20 = .ok (.iload_n 1, 1) := by decide +kernel
theorem dX3_note_21 : decode cX3_note 21 = .ok (.iastore, 1) := by decide +kernel
theorem dX3_note_22 : decode cX3_note 22 = .ok (.aload_n 0, 1) := by decide +kernel
theorem dX3_note_23 : decode cX3_note 23 = .ok (.getfield 15, 3) := by decide +kernel
theorem dX3_note_26 : decode cX3_note 26 = .ok (.aload_n 0, 1) := by decide +kernel
theorem dX3_note_27 : decode cX3_note 27 = .ok (.getfield 21, 3) := by decide +kernel
theorem dX3_note_30 : decode cX3_note 30 = .ok (.iload_n 2, 1) := by decide +kernel
theorem dX3_note_31 : decode cX3_note 31 = .ok (.iastore, 1) := by decide +kernel
theorem dX3_note_32 : decode cX3_note 32 = .ok (.aload_n 0, 1) := by decide +kernel
theorem dX3_note_33 : decode cX3_note 33 = .ok (.getfield 18, 3) := by decide +kernel
theorem dX3_note_36 : decode cX3_note 36 = .ok (.aload_n 0, 1) := by decide +kernel
theorem dX3_note_37 : decode cX3_note 37 = .ok (.getfield 21, 3) := by decide +kernel
theorem dX3_note_40 : decode cX3_note 40 = .ok (.iload_n 3, 1) := by decide +kernel
theorem dX3_note_41 : decode cX3_note 41 = .ok (.iastore, 1) := by decide +kernel
theorem dX3_note_42 : decode cX3_note 42 = .ok (.aload_n 0, 1) := by decide +kernel
theorem dX3_note_43 : decode cX3_note 43 = .ok (.dup, 1) := by decide +kernel
theorem dX3_note_44 : decode cX3_note 44 = .ok (.getfield 21, 3) := by decide +kernel
theorem dX3_note_47 : decode cX3_note 47 = .ok (.iconst 1, 1) := by decide +kernel
theorem dX3_note_48 : decode cX3_note 48 = .ok (.iadd, 1) := by decide +kernel
theorem dX3_note_49 : decode cX3_note 49 = .ok (.putfield 21, 3) := by decide +kernel
theorem dX3_note_52 : decode cX3_note 52 = .ok (.aload_n 0, 1) := by decide +kernel
theorem dX3_note_53 : decode cX3_note 53 = .ok (.getfield 21, 3) := by decide +kernel
theorem dX3_note_56 : decode cX3_note 56 = .ok (.ireturn, 1) := by decide +kernel
theorem dX3_forget_0 : decode cX3_forget 0 = .ok (.aload_n 0, 1) := by decide +kernel
theorem dX3_forget_1 : decode cX3_forget 1 = .ok (.getfield 21, 3) := by decide +kernel
theorem dX3_forget_4 : decode cX3_forget 4 = .ok (.istore_n 1, 1) := by decide +kernel
theorem dX3_forget_5 : decode cX3_forget 5 = .ok (.aload_n 0, 1) := by decide +kernel
theorem dX3_forget_6 : decode cX3_forget 6 = .ok (.iconst 0, 1) := by decide +kernel
theorem dX3_forget_7 : decode cX3_forget 7 = .ok (.putfield 21, 3) := by decide +kernel
theorem dX3_forget_10 : decode cX3_forget 10 = .ok (.iload_n 1, 1) := by decide +kernel
theorem dX3_forget_11 : decode cX3_forget 11 = .ok (.ireturn, 1) := by decide +kernel
set_option maxRecDepth 20000 in
theorem ggX3_countFitting_X3_fitsAll : GoodIn wsX3_countFitting wsX3_fitsAll := goodIn_r _ [5, 6, 7, 8, 9, 10, 11, 4, 12, 13, 14, 15, 16] (by decide +kernel) (by decide +kernel)
set_option maxRecDepth 20000 in
theorem gX3_countFitting_X3_fitsAll : GoodIn wsX3_countFitting (wsV RX3 25 RX3 yX3_fitsAll wsX3_fitsAll) := goodIn_app (goodIn_of _ (by decide +kernel)) ggX3_countFitting_X3_fitsAll
theorem dX3_countFitting_0 : decode cX3_countFitting 0 = .ok (.iconst 0, 1) := by decide +kernel
theorem dX3_countFitting_1 : decode cX3_countFitting 1 = .ok (.istore_n 1, 1) := by decide +kernel
theorem dX3_countFitting_2 : decode cX3_countFitting 2 = .ok (.iconst 0, 1) := by decide +kernel
theorem dX3_countFitting_3 : decode cX3_countFitting 3 = .ok (.istore_n 2, 1) := by decide +kernel
theorem dX3_countFitting_4 : decode cX3_countFitting 4 = .ok (.iload_n 2, 1) := by decide +kernel
theorem dX3_countFitting_5 : decode cX3_countFitting 5 = .ok (.iconst 3, 1) := by decide +kernel
theorem dX3_countFitting_6 : decode cX3_countFitting 6 = .ok (.if_icmp .gt 35, 3) := by decide +kernel
theorem dX3_countFitting_9 : decode cX3_countFitting 9 = .ok (.iconst 1, 1) := by decide +kernel
theorem dX3_countFitting_10 : decode cX3_countFitting 10 = .ok (.istore_n 3, 1) := by decide +kernel
theorem dX3_countFitting_11 : decode cX3_countFitting 11 = .ok (.iload_n 3, 1) := by decide +kernel
theorem dX3_countFitting_12 : decode cX3_countFitting 12 = .ok (.bipush 9, 2) := by decide +kernel
theorem dX3_countFitting_14 : decode cX3_countFitting 14 = .ok (.if_icmp .gt 21, 3) := by decide +kernel
theorem dX3_countFitting_17 : decode cX3_countFitting 17 = .ok (.aload_n 0, 1) := by decide +kernel
theorem dX3_countFitting_18 : decode cX3_countFitting 18 = .ok (.iload_n 2, 1) := by decide +kernel
theorem dX3_countFitting_19 : decode cX3_countFitting 19 = .ok (.iload_n 3, 1) := by decide +kernel
theorem dX3_countFitting_20 : decode cX3_countFitting 20 = .ok (.invokevirtual 25, 3) := by decide +kernel
theorem dX3_countFitting_23 : decode cX3_countFitting 23 = .ok (.ifCond .eq 6, 3) := by decide +kernel
theorem dX3_countFitting_26 : decode cX3_countFitting 26 = .ok (.iinc 1 1, 3) := by decide +kernel
theorem dX3_countFitting_29 : decode cX3_countFitting 29 = .ok (.iinc 3 1, 3) := by decide +kernel
theorem dX3_countFitting_32 : decode cX3_countFitting 32 = .ok (.goto (-21), 3) := by decide +kernel
theorem dX3_countFitting_35 : decode cX3_countFitting 35 = .ok (.iinc 2 1, 3) := by decide +kernel
theorem dX3_countFitting_38 : decode cX3_countFitting 38 = .ok (.goto (-34), 3) := by decide +kernel
theorem dX3_countFitting_41 : decode cX3_countFitting 41 = .ok (.iload_n 1, 1) := by decide +kernel
theorem dX3_countFitting_42 : decode cX3_countFitting 42 = .ok (.ireturn, 1) := by decide +kernel
set_option maxRecDepth 20000 in
theorem ggX3_firstFitting_X3_fitsAll : GoodIn wsX3_firstFitting wsX3_fitsAll := goodIn_r _ [5, 6, 7, 8, 9, 10, 11, 4, 12, 13, 14, 15, 16] (by decide +kernel) (by decide +kernel)
set_option maxRecDepth 20000 in
theorem gX3_firstFitting_X3_fitsAll : GoodIn wsX3_firstFitting (wsV RX3 25 RX3 yX3_fitsAll wsX3_fitsAll) := goodIn_app (goodIn_of _ (by decide +kernel)) ggX3_firstFitting_X3_fitsAll
theorem dX3_firstFitting_0 : decode cX3_firstFitting 0 = .ok (.iconst 0, 1) := by decide +kernel
theorem dX3_firstFitting_1 : decode cX3_firstFitting 1 = .ok (.istore_n 1, 1) := by decide +kernel
theorem dX3_firstFitting_2 : decode cX3_firstFitting 2 = .ok (.iload_n 1, 1) := by decide +kernel
theorem dX3_firstFitting_3 : decode cX3_firstFitting 3 = .ok (.iconst 3, 1) := by decide +kernel
theorem dX3_firstFitting_4 : decode cX3_firstFitting 4 = .ok (.if_icmp .gt 39, 3) := by decide +kernel
theorem dX3_firstFitting_7 : decode cX3_firstFitting 7 = .ok (.iconst 1, 1) := by decide +kernel
theorem dX3_firstFitting_8 : decode cX3_firstFitting 8 = .ok (.istore_n 2, 1) := by decide +kernel
theorem dX3_firstFitting_9 : decode cX3_firstFitting 9 = .ok (.iload_n 2, 1) := by decide +kernel
theorem dX3_firstFitting_10 : decode cX3_firstFitting 10 = .ok (.bipush 9, 2) := by decide +kernel
theorem dX3_firstFitting_12 : decode cX3_firstFitting 12 = .ok (.if_icmp .gt 25, 3) := by decide +kernel
theorem dX3_firstFitting_15 : decode cX3_firstFitting 15 = .ok (.aload_n 0, 1) := by decide +kernel
theorem dX3_firstFitting_16 : decode cX3_firstFitting 16 = .ok (.iload_n 1, 1) := by decide +kernel
theorem dX3_firstFitting_17 : decode cX3_firstFitting 17 = .ok (.iload_n 2, 1) := by decide +kernel
theorem dX3_firstFitting_18 : decode cX3_firstFitting 18 = .ok (.invokevirtual 25, 3) := by decide +kernel
theorem dX3_firstFitting_21 : decode cX3_firstFitting 21 = .ok (.ifCond .eq 10, 3) := by decide +kernel
theorem dX3_firstFitting_24 : decode cX3_firstFitting 24 = .ok (.bipush 10, 2) := by decide +kernel
theorem dX3_firstFitting_26 : decode cX3_firstFitting 26 = .ok (.iload_n 1, 1) := by decide +kernel
theorem dX3_firstFitting_27 : decode cX3_firstFitting 27 = .ok (.imul, 1) := by decide +kernel
theorem dX3_firstFitting_28 : decode cX3_firstFitting 28 = .ok (.iload_n 2, 1) := by decide +kernel
theorem dX3_firstFitting_29 : decode cX3_firstFitting 29 = .ok (.iadd, 1) := by decide +kernel
theorem dX3_firstFitting_30 : decode cX3_firstFitting 30 = .ok (.ireturn, 1) := by decide +kernel
theorem dX3_firstFitting_31 : decode cX3_firstFitting 31 = .ok (.iinc 2 1, 3) := by decide +kernel
theorem dX3_firstFitting_34 : decode cX3_firstFitting 34 = .ok (.goto (-25), 3) := by decide +kernel
theorem dX3_firstFitting_37 : decode cX3_firstFitting 37 = .ok (.iinc 1 1, 3) := by decide +kernel
theorem dX3_firstFitting_40 : decode cX3_firstFitting 40 = .ok (.goto (-38), 3) := by decide +kernel
theorem dX3_firstFitting_43 : decode cX3_firstFitting 43 = .ok (.bipush (-9), 2) := by decide +kernel
theorem dX3_firstFitting_45 : decode cX3_firstFitting 45 = .ok (.ireturn, 1) := by decide +kernel
set_option maxRecDepth 20000 in
theorem ggX3_fitsAll_X3_clapsAt : GoodIn wsX3_fitsAll wsX3_clapsAt := goodIn_r _ [8] (by decide +kernel) (by decide +kernel)
set_option maxRecDepth 20000 in
theorem gX3_fitsAll_X3_clapsAt : GoodIn wsX3_fitsAll (va_wsS RX3 29 yX3_clapsAt wsX3_clapsAt) := goodIn_app (goodIn_of _ (by decide +kernel)) ggX3_fitsAll_X3_clapsAt
theorem dX3_fitsAll_0 : decode cX3_fitsAll 0 = .ok (.iconst 0, 1) := by decide +kernel
theorem dX3_fitsAll_1 : decode cX3_fitsAll 1 = .ok (.istore_n 3, 1) := by decide +kernel
theorem dX3_fitsAll_2 : decode cX3_fitsAll 2 = .ok (.iload_n 3, 1) := by decide +kernel
theorem dX3_fitsAll_3 : decode cX3_fitsAll 3 = .ok (.aload_n 0, 1) := by decide +kernel
theorem dX3_fitsAll_4 : decode cX3_fitsAll 4 = .ok (.getfield 21, 3) := by decide +kernel
theorem dX3_fitsAll_7 : decode cX3_fitsAll 7 = .ok (.if_icmp .ge 60, 3) := by decide +kernel
theorem dX3_fitsAll_10 : decode cX3_fitsAll 10 = .ok (.iload_n 1, 1) := by decide +kernel
theorem dX3_fitsAll_11 : decode cX3_fitsAll 11 = .ok (.iload_n 2, 1) := by decide +kernel
theorem dX3_fitsAll_12 : decode cX3_fitsAll 12 = .ok (.aload_n 0, 1) := by decide +kernel
theorem dX3_fitsAll_13 : decode cX3_fitsAll 13 = .ok (.getfield 9, 3) := by decide +kernel
theorem dX3_fitsAll_16 : decode cX3_fitsAll 16 = .ok (.iload_n 3, 1) := by decide +kernel
theorem dX3_fitsAll_17 : decode cX3_fitsAll 17 = .ok (.iaload, 1) := by decide +kernel
theorem dX3_fitsAll_18 : decode cX3_fitsAll 18 = .ok (.isub, 1) := by decide +kernel
theorem dX3_fitsAll_19 : decode cX3_fitsAll 19 = .ok (.aload_n 0, 1) := by decide +kernel
theorem dX3_fitsAll_20 : decode cX3_fitsAll 20 = .ok (.getfield 15, 3) := by decide +kernel
theorem dX3_fitsAll_23 : decode cX3_fitsAll 23 = .ok (.iload_n 3, 1) := by decide +kernel
theorem dX3_fitsAll_24 : decode cX3_fitsAll 24 = .ok (.iaload, 1) := by decide +kernel
theorem dX3_fitsAll_25 : decode cX3_fitsAll 25 = .ok (.iconst 1, 1) := by decide +kernel
theorem dX3_fitsAll_26 : decode cX3_fitsAll 26 = .ok (.if_icmp .ne 7, 3) := by decide +kernel
theorem dX3_fitsAll_29 : decode cX3_fitsAll 29 = .ok (.iconst 1, 1) := by decide +kernel
theorem dX3_fitsAll_30 : decode cX3_fitsAll 30 = .ok (.goto 4, 3) := by decide +kernel
theorem dX3_fitsAll_33 : decode cX3_fitsAll 33 = .ok (.iconst 0, 1) := by decide +kernel
theorem dX3_fitsAll_34 : decode cX3_fitsAll 34 = .ok (.invokestatic 29, 3) := by decide +kernel
theorem dX3_fitsAll_37 : decode cX3_fitsAll 37 = .ok (.istore 4, 2) := by decide +kernel
theorem dX3_fitsAll_39 : decode cX3_fitsAll 39 = .ok (.iload 4, 2) := by decide +kernel
theorem dX3_fitsAll_41 : decode cX3_fitsAll 41 = .ok (.aload_n 0, 1) := by decide +kernel
theorem dX3_fitsAll_42 : decode cX3_fitsAll 42 = .ok (.getfield 18, 3) := by decide +kernel
theorem dX3_fitsAll_45 : decode cX3_fitsAll 45 = .ok (.iload_n 3, 1) := by decide +kernel
theorem dX3_fitsAll_46 : decode cX3_fitsAll 46 = .ok (.iaload, 1) := by decide +kernel
theorem dX3_fitsAll_47 : decode cX3_fitsAll 47 = .ok (.iconst 1, 1) := by decide +kernel
theorem dX3_fitsAll_48 : decode cX3_fitsAll 48 = .ok (.if_icmp .ne 7, 3) := by decide +kernel
theorem dX3_fitsAll_51 : decode cX3_fitsAll 51 = .ok (.iconst 1, 1) := by decide +kernel
theorem dX3_fitsAll_52 : decode cX3_fitsAll 52 = .ok (.goto 4, 3) := by decide +kernel
theorem dX3_fitsAll_55 : decode cX3_fitsAll 55 = .ok (.iconst 0, 1) := by decide +kernel
theorem dX3_fitsAll_56 : decode cX3_fitsAll 56 = .ok (.if_icmp .eq 5, 3) := by decide +kernel
theorem dX3_fitsAll_59 : decode cX3_fitsAll 59 = .ok (.iconst 0, 1) := by decide +kernel
theorem dX3_fitsAll_60 : decode cX3_fitsAll 60 = .ok (.ireturn, 1) := by decide +kernel
theorem dX3_fitsAll_61 : decode cX3_fitsAll 61 = .ok (.iinc 3 1, 3) := by decide +kernel
theorem dX3_fitsAll_64 : decode cX3_fitsAll 64 = .ok (.goto (-62), 3) := by decide +kernel
theorem dX3_fitsAll_67 : decode cX3_fitsAll 67 = .ok (.iconst 1, 1) := by decide +kernel
theorem dX3_fitsAll_68 : decode cX3_fitsAll 68 = .ok (.ireturn, 1) := by decide +kernel
theorem dX3_clapsAt_0 : decode cX3_clapsAt 0 = .ok (.iload_n 0, 1) := by decide +kernel
theorem dX3_clapsAt_1 : decode cX3_clapsAt 1 = .ok (.ifCond .ne 14, 3) := by decide +kernel
theorem dX3_clapsAt_4 : decode cX3_clapsAt 4 = .ok (.iload_n 1, 1) := by decide +kernel
theorem dX3_clapsAt_5 : decode cX3_clapsAt 5 = .ok (.iconst 3, 1) := by decide +kernel
theorem dX3_clapsAt_6 : decode cX3_clapsAt 6 = .ok (.if_icmp .lt 7, 3) := by decide +kernel
theorem dX3_clapsAt_9 : decode cX3_clapsAt 9 = .ok (.iconst 1, 1) := by decide +kernel
theorem dX3_clapsAt_10 : decode cX3_clapsAt 10 = .ok (.goto 4, 3) := by decide +kernel
theorem dX3_clapsAt_13 : decode cX3_clapsAt 13 = .ok (.iconst 0, 1) := by decide +kernel
theorem dX3_clapsAt_14 : decode cX3_clapsAt 14 = .ok (.ireturn, 1) := by decide +kernel
theorem dX3_clapsAt_15 : decode cX3_clapsAt 15 = .ok (.iload_n 0, 1) := by decide +kernel
theorem dX3_clapsAt_16 : decode cX3_clapsAt 16 = .ok (.iconst 2, 1) := by decide +kernel
theorem dX3_clapsAt_17 : decode cX3_clapsAt 17 = .ok (.if_icmp .ne 16, 3) := by decide +kernel
theorem dX3_clapsAt_20 : decode cX3_clapsAt 20 = .ok (.iload_n 2, 1) := by decide +kernel
theorem dX3_clapsAt_21 : decode cX3_clapsAt 21 = .ok (.ifCond .ne 12, 3) := by decide +kernel
theorem dX3_clapsAt_24 : decode cX3_clapsAt 24 = .ok (.iload_n 1, 1) := by decide +kernel
theorem dX3_clapsAt_25 : decode cX3_clapsAt 25 = .ok (.iconst 1, 1) := by decide +kernel
theorem dX3_clapsAt_26 : decode cX3_clapsAt 26 = .ok (.if_icmp .lt 7, 3) := by decide +kernel
theorem dX3_clapsAt_29 : decode cX3_clapsAt 29 = .ok (.iconst 1, 1) := by decide +kernel
theorem dX3_clapsAt_30 : decode cX3_clapsAt 30 = .ok (.goto 4, 3) := by decide +kernel
theorem dX3_clapsAt_33 : decode cX3_clapsAt 33 = .ok (.iconst 0, 1) := by decide +kernel
theorem dX3_clapsAt_34 : decode cX3_clapsAt 34 = .ok (.ireturn, 1) := by decide +kernel
theorem dX4_init_0 : decode cX4_init 0 = .ok (.aload_n 0, 1) := by decide +kernel
theorem dX4_init_1 : decode cX4_init 1 = .ok (.invokespecial 3, 3) := by decide +kernel
theorem dX4_init_4 : decode cX4_init 4 = .ok (.aload_n 0, 1) := by decide +kernel
theorem dX4_init_5 : decode cX4_init 5 = .ok (.bipush 7, 2) := by decide +kernel
theorem dX4_init_7 : decode cX4_init 7 = .ok (.newarray .int, 2) := by decide +kernel
theorem dX4_init_9 : decode cX4_init 9 = .ok (.putfield 9, 3) := by decide +kernel
theorem dX4_init_12 : decode cX4_init 12 = .ok (.aload_n 0, 1) := by decide +kernel
theorem dX4_init_13 : decode cX4_init 13 = .ok (.bipush 7, 2) := by decide +kernel
theorem dX4_init_15 : decode cX4_init 15 = .ok (.newarray .int, 2) := by decide +kernel
theorem dX4_init_17 : decode cX4_init 17 = .ok (.putfield 15, 3) := by decide +kernel
theorem dX4_init_20 : decode cX4_init 20 = .ok (.aload_n 0, 1) := by decide +kernel
theorem dX4_init_21 : decode cX4_init 21 = .ok (.iconst 3, 1) := by decide +kernel
theorem dX4_init_22 : decode cX4_init 22 = .ok (.newarray .int, 2) := by decide +kernel
theorem dX4_init_24 : decode cX4_init 24 = .ok (.putfield 18, 3) := by decide +kernel
theorem dX4_init_27 : decode cX4_init 27 = .ok (.aload_n 0, 1) := by decide +kernel
theorem dX4_init_28 : decode cX4_init 28 = .ok (.aload_n 1, 1) := by decide +kernel
theorem dX4_init_29 : decode cX4_init 29 = .ok (.putfield 21, 3) := by decide +kernel
theorem dX4_init_32 : decode cX4_init 32 = .ok (.return_, 1) := by decide +kernel
theorem dX4_begin_0 : decode cX4_begin 0 = .ok (.aload_n 0, 1) := by decide +kernel
theorem dX4_begin_1 : decode cX4_begin 1 = .ok (.getfield 21, 3) := by decide +kernel
theorem dX4_begin_4 : decode cX4_begin 4 = .ok (.getfield 25, 3) := by decide +kernel
theorem dX4_begin_7 : decode cX4_begin 7 = .ok (.iconst 0, 1) := by decide +kernel
theorem dX4_begin_8 : decode cX4_begin 8 = .ok (.aload_n 0, 1) := by decide +kernel
theorem dX4_begin_9 : decode cX4_begin 9 = .ok (.getfield 9, 3) := by decide +kernel
theorem dX4_begin_12 : decode cX4_begin 12 = .ok (.iconst 0, 1) := by decide +kernel
theorem dX4_begin_13 : decode cX4_begin 13 = .ok (.bipush 7, 2) := by decide +kernel
theorem dX4_begin_15 : decode cX4_begin 15 = .ok (.invokestatic 30, 3) := by decide +kernel
theorem dX4_begin_18 : decode cX4_begin 18 = .ok (.aload_n 0, 1) := by decide +kernel
theorem dX4_begin_19 : decode cX4_begin 19 = .ok (.getfield 21, 3) := by decide +kernel
theorem dX4_begin_22 : decode cX4_begin 22 = .ok (.getfield 36, 3) := by decide +kernel
theorem dX4_begin_25 : decode cX4_begin 25 = .ok (.iconst 0, 1) := by decide +kernel
theorem dX4_begin_26 : decode cX4_begin 26 = .ok (.aload_n 0, 1) := by decide +kernel
theorem dX4_begin_27 : decode cX4_begin 27 = .ok (.getfield 15, 3) := by decide +kernel
theorem dX4_begin_30 : decode cX4_begin 30 = .ok (.iconst 0, 1) := by decide +kernel
theorem dX4_begin_31 : decode cX4_begin 31 = .ok (.bipush 7, 2) := by decide +kernel
theorem dX4_begin_33 : decode cX4_begin 33 = .ok (.invokestatic 30, 3) := by decide +kernel
theorem dX4_begin_36 : decode cX4_begin 36 = .ok (.iconst 0, 1) := by decide +kernel
theorem dX4_begin_37 : decode cX4_begin 37 = .ok (.istore_n 1, 1) := by decide +kernel
theorem dX4_begin_38 : decode cX4_begin 38 = .ok (.iload_n 1, 1) := by decide +kernel
theorem dX4_begin_39 : decode cX4_begin 39 = .ok (.iconst 3, 1) := by decide +kernel
theorem dX4_begin_40 : decode cX4_begin 40 = .ok (.if_icmp .ge 16, 3) := by decide +kernel
theorem dX4_begin_43 : decode cX4_begin 43 = .ok (.aload_n 0, 1) := by decide +kernel
theorem dX4_begin_44 : decode cX4_begin 44 = .ok (.getfield 18, 3) := by decide +kernel
theorem dX4_begin_47 : decode cX4_begin 47 = .ok (.iload_n 1, 1) := by decide +kernel
theorem dX4_begin_48 : decode cX4_begin 48 = .ok (.iconst 0, 1) := by decide +kernel
theorem dX4_begin_49 : decode cX4_begin 49 = .ok (.iastore, 1) := by decide +kernel
theorem dX4_begin_50 : decode cX4_begin 50 = .ok (.iinc 1 1, 3) := by decide +kernel
theorem dX4_begin_53 : decode cX4_begin 53 = .ok (.goto (-15), 3) := by decide +kernel
theorem dX4_begin_56 : decode cX4_begin 56 = .ok (.aload_n 0, 1) := by decide +kernel
theorem dX4_begin_57 : decode cX4_begin 57 = .ok (.iconst 0, 1) := by decide +kernel
theorem dX4_begin_58 : decode cX4_begin 58 = .ok (.putfield 39, 3) := by decide +kernel
theorem dX4_begin_61 : decode cX4_begin 61 = .ok (.aload_n 0, 1) := by decide +kernel
theorem dX4_begin_62 : decode cX4_begin 62 = .ok (.iconst 0, 1) := by decide +kernel
theorem dX4_begin_63 : decode cX4_begin 63 = .ok (.putfield 43, 3) := by decide +kernel
theorem dX4_begin_66 : decode cX4_begin 66 = .ok (.return_, 1) := by decide +kernel
theorem dX4_copyFrom_0 : decode cX4_copyFrom 0 = .ok (.aload_n 1, 1) := by decide +kernel
theorem dX4_copyFrom_1 : decode cX4_copyFrom 1 = .ok (.getfield 9, 3) := by decide +kernel
theorem dX4_copyFrom_4 : decode cX4_copyFrom 4 = .ok (.iconst 0, 1) := by decide +kernel
theorem dX4_copyFrom_5 : decode cX4_copyFrom 5 = .ok (.aload_n 0, 1) := by decide +kernel
theorem dX4_copyFrom_6 : decode cX4_copyFrom 6 = .ok (.getfield 9, 3) := by decide +kernel
theorem dX4_copyFrom_9 : decode cX4_copyFrom 9 = .ok (.iconst 0, 1) := by decide +kernel
theorem dX4_copyFrom_10 : decode cX4_copyFrom 10 = .ok (.bipush 7, 2) := by decide +kernel
theorem dX4_copyFrom_12 : decode cX4_copyFrom 12 = .ok (.invokestatic 30, 3) := by decide +kernel
theorem dX4_copyFrom_15 : decode cX4_copyFrom 15 = .ok (.aload_n 1, 1) := by decide +kernel
theorem dX4_copyFrom_16 : decode cX4_copyFrom 16 = .ok (.getfield 15, 3) := by decide +kernel
theorem dX4_copyFrom_19 : decode cX4_copyFrom 19 = .ok (.iconst 0, 1) := by decide +kernel
theorem dX4_copyFrom_20 : decode cX4_copyFrom 20 = .ok (.aload_n 0, 1) := by decide +kernel
theorem dX4_copyFrom_21 : decode cX4_copyFrom 21 = .ok (.getfield 15, 3) := by decide +kernel
theorem dX4_copyFrom_24 : decode cX4_copyFrom 24 = .ok (.iconst 0, 1) := by decide +kernel
theorem dX4_copyFrom_25 : decode cX4_copyFrom 25 = .ok (.bipush 7, 2) := by decide +kernel
theorem dX4_copyFrom_27 : decode cX4_copyFrom 27 = .ok (.invokestatic 30, 3) := by decide +kernel
theorem dX4_copyFrom_30 : decode cX4_copyFrom 30 = .ok (.aload_n 1, 1) := by decide +kernel
theorem dX4_copyFrom_31 : decode cX4_copyFrom 31 = .ok (.getfield 18, 3) := by decide +kernel
theorem dX4_copyFrom_34 : decode cX4_copyFrom 34 = .ok (.iconst 0, 1) := by decide +kernel
theorem dX4_copyFrom_35 : decode cX4_copyFrom 35 = .ok (.aload_n 0, 1) := by decide +kernel
theorem dX4_copyFrom_36 : decode cX4_copyFrom 36 = .ok (.getfield 18, 3) := by decide +kernel
theorem dX4_copyFrom_39 : decode cX4_copyFrom 39 = .ok (.iconst 0, 1) := by decide +kernel
theorem dX4_copyFrom_40 : decode cX4_copyFrom 40 = .ok (.iconst 3, 1) := by decide +kernel
theorem dX4_copyFrom_41 : decode cX4_copyFrom 41 = .ok (.invokestatic 30, 3) := by decide +kernel
theorem dX4_copyFrom_44 : decode cX4_copyFrom 44 = .ok (.aload_n 0, 1) := by decide +kernel
theorem dX4_copyFrom_45 : decode cX4_copyFrom 45 = .ok (.aload_n 1, 1) := by decide +kernel
theorem dX4_copyFrom_46 : decode cX4_copyFrom 46 = .ok (.getfield 39, 3) := by decide +kernel
theorem dX4_copyFrom_49 : decode cX4_copyFrom 49 = .ok (.putfield 39, 3) := by decide +kernel
theorem dX4_copyFrom_52 : decode cX4_copyFrom 52 = .ok (.aload_n 0, 1) := by decide +kernel
theorem dX4_copyFrom_53 : decode cX4_copyFrom 53 = .ok (.aload_n 1, 1) := by decide +kernel
theorem dX4_copyFrom_54 : decode cX4_copyFrom 54 = .ok (.getfield 43, 3) := by decide +kernel
theorem dX4_copyFrom_57 : decode cX4_copyFrom 57 = .ok (.putfield 43, 3) := by decide +kernel
theorem dX4_copyFrom_60 : decode cX4_copyFrom 60 = .ok (.return_, 1) := by decide +kernel
theorem dX4_isDead_0 : decode cX4_isDead 0 = .ok (.aload_n 0, 1) := by decide +kernel
theorem dX4_isDead_1 : decode cX4_isDead 1 = .ok (.getfield 39, 3) := by decide +kernel
theorem dX4_isDead_4 : decode cX4_isDead 4 = .ok (.iload_n 1, 1) := by decide +kernel
theorem dX4_isDead_5 : decode cX4_isDead 5 = .ok (.ishr, 1) := by decide +kernel
theorem dX4_isDead_6 : decode cX4_isDead 6 = .ok (.iconst 1, 1) := by decide +kernel
theorem dX4_isDead_7 : decode cX4_isDead 7 = .ok (.iand, 1) := by decide +kernel
theorem dX4_isDead_8 : decode cX4_isDead 8 = .ok (.iconst 1, 1) := by decide +kernel
theorem dX4_isDead_9 : decode cX4_isDead 9 = .ok (.if_icmp .ne 7, 3) := by decide +kernel
theorem dX4_isDead_12 : decode cX4_isDead 12 = .ok (.iconst 1, 1) := by decide +kernel
theorem dX4_isDead_13 : decode cX4_isDead 13 = .ok (.goto 4, 3) := by decide +kernel
theorem dX4_isDead_16 : decode cX4_isDead 16 = .ok (.iconst 0, 1) := by decide +kernel
theorem dX4_isDead_17 : decode cX4_isDead 17 = .ok (.ireturn, 1) := by decide +kernel
set_option maxRecDepth 20000 in
theorem ggX4_takenSeats_X1_everyHand : GoodIn wsX4_takenSeats wsX1_everyHand := goodIn_r _ [6, 7, 21, 22, 23, 24, 25, 26, 27, 28] (by decide +kernel) (by decide +kernel)
set_option maxRecDepth 20000 in
theorem gX4_takenSeats_X1_everyHand : GoodIn wsX4_takenSeats (wsV RX4 46 RX1 yX1_everyHand wsX1_everyHand) := goodIn_app (goodIn_of _ (by decide +kernel)) ggX4_takenSeats_X1_everyHand
set_option maxRecDepth 20000 in
theorem ggX4_takenSeats_X4_seatsOf : GoodIn wsX4_takenSeats wsX4_seatsOf := goodIn_r _ [12, 1, 13, 14, 15, 16, 17, 18, 19, 20, 21, 22, 23, 24, 25, 26, 27, 28] (by decide +kernel) (by decide +kernel)
set_option maxRecDepth 20000 in
theorem gX4_takenSeats_X4_seatsOf : GoodIn wsX4_takenSeats (wsV RX4 50 RX4 yX4_seatsOf wsX4_seatsOf) := goodIn_app (goodIn_of _ (by decide +kernel)) ggX4_takenSeats_X4_seatsOf
theorem dX4_takenSeats_0 : decode cX4_takenSeats 0 = .ok (.aload_n 0, 1) := by decide +kernel
theorem dX4_takenSeats_1 : decode cX4_takenSeats 1 = .ok (.aload_n 0, 1) := by decide +kernel
theorem dX4_takenSeats_2 : decode cX4_takenSeats 2 = .ok (.getfield 21, 3) := by decide +kernel
theorem dX4_takenSeats_5 : decode cX4_takenSeats 5 = .ok (.invokevirtual 46, 3) := by decide +kernel
theorem dX4_takenSeats_8 : decode cX4_takenSeats 8 = .ok (.invokevirtual 50, 3) := by decide +kernel
theorem dX4_takenSeats_11 : decode cX4_takenSeats 11 = .ok (.ireturn, 1) := by decide +kernel
set_option maxRecDepth 20000 in
theorem ggX4_isTaken_X4_takenSeats : GoodIn wsX4_isTaken wsX4_takenSeats := goodIn_r _ [5, 6, 7, 8, 9, 10, 11, 12, 13, 14, 15, 4, 16, 17, 18, 19, 20, 21, 22, 23, 24, 25, 26, 27, 28, 29, 30, 31, 32] (by decide +kernel) (by decide +kernel)
set_option maxRecDepth 20000 in
theorem gX4_isTaken_X4_takenSeats : GoodIn wsX4_isTaken (wsV RX4 54 RX4 yX4_takenSeats wsX4_takenSeats) := goodIn_app (goodIn_of _ (by decide +kernel)) ggX4_isTaken_X4_takenSeats
theorem dX4_isTaken_0 : decode cX4_isTaken 0 = .ok (.aload_n 0, 1) := by decide +kernel
theorem dX4_isTaken_1 : decode cX4_isTaken 1 = .ok (.invokevirtual 54, 3) := by decide +kernel
theorem dX4_isTaken_4 : decode cX4_isTaken 4 = .ok (.iload_n 1, 1) := by decide +kernel
theorem dX4_isTaken_5 : decode cX4_isTaken 5 = .ok (.ishr, 1) := by decide +kernel
theorem dX4_isTaken_6 : decode cX4_isTaken 6 = .ok (.iconst 1, 1) := by decide +kernel
theorem dX4_isTaken_7 : decode cX4_isTaken 7 = .ok (.iand, 1) := by decide +kernel
theorem dX4_isTaken_8 : decode cX4_isTaken 8 = .ok (.iconst 1, 1) := by decide +kernel
theorem dX4_isTaken_9 : decode cX4_isTaken 9 = .ok (.if_icmp .ne 7, 3) := by decide +kernel
theorem dX4_isTaken_12 : decode cX4_isTaken 12 = .ok (.iconst 1, 1) := by decide +kernel
theorem dX4_isTaken_13 : decode cX4_isTaken 13 = .ok (.goto 4, 3) := by decide +kernel
theorem dX4_isTaken_16 : decode cX4_isTaken 16 = .ok (.iconst 0, 1) := by decide +kernel
theorem dX4_isTaken_17 : decode cX4_isTaken 17 = .ok (.ireturn, 1) := by decide +kernel
theorem dX4_allVigour_0 : decode cX4_allVigour 0 = .ok (.iconst 0, 1) := by decide +kernel
theorem dX4_allVigour_1 : decode cX4_allVigour 1 = .ok (.istore_n 1, 1) := by decide +kernel
theorem dX4_allVigour_2 : decode cX4_allVigour 2 = .ok (.iconst 0, 1) := by decide +kernel
theorem dX4_allVigour_3 : decode cX4_allVigour 3 = .ok (.istore_n 2, 1) := by decide +kernel
theorem dX4_allVigour_4 : decode cX4_allVigour 4 = .ok (.iload_n 2, 1) := by decide +kernel
theorem dX4_allVigour_5 : decode cX4_allVigour 5 = .ok (.aload_n 0, 1) := by decide +kernel
theorem dX4_allVigour_6 : decode cX4_allVigour 6 = .ok (.getfield 21, 3) := by decide +kernel
theorem dX4_allVigour_9 : decode cX4_allVigour 9 = .ok (.getfield 57, 3) := by decide +kernel
theorem dX4_allVigour_12 : decode cX4_allVigour 12 = .ok (.if_icmp .ge 18, 3) := by decide +kernel
theorem dX4_allVigour_15 : decode cX4_allVigour 15 = .ok (.iload_n 1, 1) := by decide +kernel
theorem dX4_allVigour_16 : decode cX4_allVigour 16 = .ok (.aload_n 0, 1) := by decide +kernel
theorem dX4_allVigour_17 : decode cX4_allVigour 17 = .ok (.getfield 15, 3) := by decide +kernel
theorem dX4_allVigour_20 : decode cX4_allVigour 20 = .ok (.iload_n 2, 1) := by decide +kernel
theorem dX4_allVigour_21 : decode cX4_allVigour 21 = .ok (.iaload, 1) := by decide +kernel
theorem dX4_allVigour_22 : decode cX4_allVigour 22 = .ok (.iadd, 1) := by decide +kernel
theorem dX4_allVigour_23 : decode cX4_allVigour 23 = .ok (.istore_n 1, 1) := by decide +kernel
theorem dX4_allVigour_24 : decode cX4_allVigour 24 = .ok (.iinc 2 1, 3) := by decide +kernel
theorem dX4_allVigour_27 : decode cX4_allVigour 27 = .ok (.goto (-23), 3) := by decide +kernel
theorem dX4_allVigour_30 : decode cX4_allVigour 30 = .ok (.iload_n 1, 1) := by decide +kernel
theorem dX4_allVigour_31 : decode cX4_allVigour 31 = .ok (.ireturn, 1) := by decide +kernel
theorem dX4_allCalled_0 : decode cX4_allCalled 0 = .ok (.iconst 0, 1) := by decide +kernel
theorem dX4_allCalled_1 : decode cX4_allCalled 1 = .ok (.istore_n 1, 1) := by decide +kernel
theorem dX4_allCalled_2 : decode cX4_allCalled 2 = .ok (.iconst 0, 1) := by decide +kernel
theorem dX4_allCalled_3 : decode cX4_allCalled 3 = .ok (.istore_n 2, 1) := by decide +kernel
theorem dX4_allCalled_4 : decode cX4_allCalled 4 = .ok (.iload_n 2, 1) := by decide +kernel
theorem dX4_allCalled_5 : decode cX4_allCalled 5 = .ok (.aload_n 0, 1) := by decide +kernel
theorem dX4_allCalled_6 : decode cX4_allCalled 6 = .ok (.getfield 21, 3) := by decide +kernel
theorem dX4_allCalled_9 : decode cX4_allCalled 9 = .ok (.getfield 60, 3) := by decide +kernel
theorem dX4_allCalled_12 : decode cX4_allCalled 12 = .ok (.if_icmp .ge 18, 3) := by decide +kernel
theorem dX4_allCalled_15 : decode cX4_allCalled 15 = .ok (.iload_n 1, 1) := by decide +kernel
theorem dX4_allCalled_16 : decode cX4_allCalled 16 = .ok (.aload_n 0, 1) := by decide +kernel
theorem dX4_allCalled_17 : decode cX4_allCalled 17 = .ok (.getfield 18, 3) := by decide +kernel
theorem dX4_allCalled_20 : decode cX4_allCalled 20 = .ok (.iload_n 2, 1) := by decide +kernel
theorem dX4_allCalled_21 : decode cX4_allCalled 21 = .ok (.iaload, 1) := by decide +kernel
theorem dX4_allCalled_22 : decode cX4_allCalled 22 = .ok (.iadd, 1) := by decide +kernel
theorem dX4_allCalled_23 : decode cX4_allCalled 23 = .ok (.istore_n 1, 1) := by decide +kernel
theorem dX4_allCalled_24 : decode cX4_allCalled 24 = .ok (.iinc 2 1, 3) := by decide +kernel
theorem dX4_allCalled_27 : decode cX4_allCalled 27 = .ok (.goto (-23), 3) := by decide +kernel
theorem dX4_allCalled_30 : decode cX4_allCalled 30 = .ok (.iload_n 1, 1) := by decide +kernel
theorem dX4_allCalled_31 : decode cX4_allCalled 31 = .ok (.ireturn, 1) := by decide +kernel
set_option maxRecDepth 20000 in
theorem ggX4_hushed_X4_ready : GoodIn wsX4_hushed wsX4_ready := goodIn_r _ [5, 6, 7, 8, 9, 22, 23, 24, 25, 26, 27, 28, 29, 30, 31, 32, 33, 34, 35] (by decide +kernel) (by decide +kernel)
set_option maxRecDepth 20000 in
theorem gX4_hushed_X4_ready : GoodIn wsX4_hushed (wsV RX4 63 RX4 yX4_ready wsX4_ready) := goodIn_app (goodIn_of _ (by decide +kernel)) ggX4_hushed_X4_ready
set_option maxRecDepth 20000 in
theorem ggX4_hushed_X4_seatsOf : GoodIn wsX4_hushed wsX4_seatsOf := goodIn_r _ [13, 6, 7, 14, 22, 23, 24, 25, 26, 27, 28, 29, 30, 31, 32, 33, 34, 35] (by decide +kernel) (by decide +kernel)
set_option maxRecDepth 20000 in
theorem gX4_hushed_X4_seatsOf : GoodIn wsX4_hushed (wsV RX4 50 RX4 yX4_seatsOf wsX4_seatsOf) := goodIn_app (goodIn_of _ (by decide +kernel)) ggX4_hushed_X4_seatsOf
set_option maxRecDepth 20000 in
theorem ggX4_hushed_X4_besides : GoodIn wsX4_hushed wsX4_besides := goodIn_r _ [17] (by decide +kernel) (by decide +kernel)
set_option maxRecDepth 20000 in
theorem gX4_hushed_X4_besides : GoodIn wsX4_hushed (va_wsS RX4 67 yX4_besides wsX4_besides) := goodIn_app (goodIn_of _ (by decide +kernel)) ggX4_hushed_X4_besides
set_option maxRecDepth 20000 in
theorem ggX4_hushed_X4_handsAt : GoodIn wsX4_hushed wsX4_handsAt := goodIn_r _ [21, 6, 7, 14, 22, 23, 24, 25, 26, 27, 28, 29, 30, 31, 32, 33, 34, 35] (by decide +kernel) (by decide +kernel)
set_option maxRecDepth 20000 in
theorem gX4_hushed_X4_handsAt : GoodIn wsX4_hushed (wsV RX4 70 RX4 yX4_handsAt wsX4_handsAt) := goodIn_app (goodIn_of _ (by decide +kernel)) ggX4_hushed_X4_handsAt
theorem dX4_hushed_0 : decode cX4_hushed 0 = .ok (.iload_n 1, 1) := by decide +kernel
theorem dX4_hushed_1 : decode cX4_hushed 1 = .ok (.aload_n 0, 1) := by decide +kernel
theorem dX4_hushed_2 : decode cX4_hushed 2 = .ok (.iconst 3, 1) := by decide +kernel
theorem dX4_hushed_3 : decode cX4_hushed 3 = .ok (.iconst 1, 1) := by decide +kernel
theorem dX4_hushed_4 : decode cX4_hushed 4 = .ok (.invokevirtual 63, 3) := by decide +kernel
theorem dX4_hushed_7 : decode cX4_hushed 7 = .ok (.iand, 1) := by decide +kernel
theorem dX4_hushed_8 : decode cX4_hushed 8 = .ok (.istore_n 2, 1) := by decide +kernel
theorem dX4_hushed_9 : decode cX4_hushed 9 = .ok (.aload_n 0, 1) := by decide +kernel
theorem dX4_hushed_10 : decode cX4_hushed 10 = .ok (.aload_n 0, 1) := by decide +kernel
theorem dX4_hushed_11 : decode cX4_hushed 11 = .ok (.iload_n 2, 1) := by decide +kernel
theorem dX4_hushed_12 : decode cX4_hushed 12 = .ok (.invokevirtual 50, 3) := by decide +kernel
theorem dX4_hushed_15 : decode cX4_hushed 15 = .ok (.invokestatic 67, 3) := by decide +kernel
theorem dX4_hushed_18 : decode cX4_hushed 18 = .ok (.invokevirtual 70, 3) := by decide +kernel
theorem dX4_hushed_21 : decode cX4_hushed 21 = .ok (.istore_n 3, 1) := by decide +kernel
theorem dX4_hushed_22 : decode cX4_hushed 22 = .ok (.iload_n 1, 1) := by decide +kernel
theorem dX4_hushed_23 : decode cX4_hushed 23 = .ok (.iload_n 3, 1) := by decide +kernel
theorem dX4_hushed_24 : decode cX4_hushed 24 = .ok (.iand, 1) := by decide +kernel
theorem dX4_hushed_25 : decode cX4_hushed 25 = .ok (.aload_n 0, 1) := by decide +kernel
theorem dX4_hushed_26 : decode cX4_hushed 26 = .ok (.iconst 3, 1) := by decide +kernel
theorem dX4_hushed_27 : decode cX4_hushed 27 = .ok (.iconst 0, 1) := by decide +kernel
theorem dX4_hushed_28 : decode cX4_hushed 28 = .ok (.invokevirtual 63, 3) := by decide +kernel
theorem dX4_hushed_31 : decode cX4_hushed 31 = .ok (.iconst (-1), 1) := by decide +kernel
theorem dX4_hushed_32 : decode cX4_hushed 32 = .ok (.ixor, 1) := by decide +kernel
theorem dX4_hushed_33 : decode cX4_hushed 33 = .ok (.iand, 1) := by decide +kernel
theorem dX4_hushed_34 : decode cX4_hushed 34 = .ok (.ireturn, 1) := by decide +kernel
set_option maxRecDepth 20000 in
theorem ggX4_clapping_X4_hushed : GoodIn wsX4_clapping wsX4_hushed := goodIn_r _ [7, 8, 9, 10, 6, 11, 1, 2, 12, 13, 14, 15, 16, 17, 18, 19, 20, 21, 22, 23, 24, 25, 31, 32, 33, 34, 35, 36, 37, 38, 39, 40, 41, 42, 43, 44] (by decide +kernel) (by decide +kernel)
set_option maxRecDepth 20000 in
theorem gX4_clapping_X4_hushed : GoodIn wsX4_clapping (wsV RX4 73 RX4 yX4_hushed wsX4_hushed) := goodIn_app (goodIn_of _ (by decide +kernel)) ggX4_clapping_X4_hushed
set_option maxRecDepth 20000 in
theorem ggX4_clapping_X4_fondOnes : GoodIn wsX4_clapping wsX4_fondOnes := goodIn_r _ [29, 1, 2, 30, 31, 32, 33, 34, 35, 36, 37, 38, 39, 40, 41, 42, 43, 44] (by decide +kernel) (by decide +kernel)
set_option maxRecDepth 20000 in
theorem gX4_clapping_X4_fondOnes : GoodIn wsX4_clapping (wsV RX4 76 RX4 yX4_fondOnes wsX4_fondOnes) := goodIn_app (goodIn_of _ (by decide +kernel)) ggX4_clapping_X4_fondOnes
set_option maxRecDepth 20000 in
theorem ggX4_clapping_X4_ready : GoodIn wsX4_clapping wsX4_ready := goodIn_r _ [11, 1, 2, 12, 13, 31, 32, 33, 34, 35, 36, 37, 38, 39, 40, 41, 42, 43, 44] (by decide +kernel) (by decide +kernel)
set_option maxRecDepth 20000 in
theorem gX4_clapping_X4_ready : GoodIn wsX4_clapping (wsV RX4 63 RX4 yX4_ready wsX4_ready) := goodIn_app (goodIn_of _ (by decide +kernel)) ggX4_clapping_X4_ready
set_option maxRecDepth 20000 in
theorem ggX4_clapping_X4_seatsOf : GoodIn wsX4_clapping wsX4_seatsOf := goodIn_r _ [17, 1, 2, 18, 31, 32, 33, 34, 35, 36, 37, 38, 39, 40, 41, 42, 43, 44] (by decide +kernel) (by decide +kernel)
set_option maxRecDepth 20000 in
theorem gX4_clapping_X4_seatsOf : GoodIn wsX4_clapping (wsV RX4 50 RX4 yX4_seatsOf wsX4_seatsOf) := goodIn_app (goodIn_of _ (by decide +kernel)) ggX4_clapping_X4_seatsOf
set_option maxRecDepth 20000 in
theorem ggX4_clapping_X4_besides : GoodIn wsX4_clapping wsX4_besides := goodIn_r _ [21] (by decide +kernel) (by decide +kernel)
set_option maxRecDepth 20000 in
theorem gX4_clapping_X4_besides : GoodIn wsX4_clapping (va_wsS RX4 67 yX4_besides wsX4_besides) := goodIn_app (goodIn_of _ (by decide +kernel)) ggX4_clapping_X4_besides
set_option maxRecDepth 20000 in
theorem ggX4_clapping_X4_handsAt : GoodIn wsX4_clapping wsX4_handsAt := goodIn_r _ [25, 1, 2, 18, 31, 32, 33, 34, 35, 36, 37, 38, 39, 40, 41, 42, 43, 44] (by decide +kernel) (by decide +kernel)
set_option maxRecDepth 20000 in
theorem gX4_clapping_X4_handsAt : GoodIn wsX4_clapping (wsV RX4 70 RX4 yX4_handsAt wsX4_handsAt) := goodIn_app (goodIn_of _ (by decide +kernel)) ggX4_clapping_X4_handsAt
theorem dX4_clapping_0 : decode cX4_clapping 0 = .ok (.iload_n 2, 1) := by decide +kernel
theorem dX4_clapping_1 : decode cX4_clapping 1 = .ok (.aload_n 0, 1) := by decide +kernel
theorem dX4_clapping_2 : decode cX4_clapping 2 = .ok (.iload_n 2, 1) := by decide +kernel
theorem dX4_clapping_3 : decode cX4_clapping 3 = .ok (.invokevirtual 73, 3) := by decide +kernel
theorem dX4_clapping_6 : decode cX4_clapping 6 = .ok (.iconst (-1), 1) := by decide +kernel
theorem dX4_clapping_7 : decode cX4_clapping 7 = .ok (.ixor, 1) := by decide +kernel
theorem dX4_clapping_8 : decode cX4_clapping 8 = .ok (.iand, 1) := by decide +kernel
theorem dX4_clapping_9 : decode cX4_clapping 9 = .ok (.aload_n 0, 1) := by decide +kernel
theorem dX4_clapping_10 : decode cX4_clapping 10 = .ok (.iload_n 1, 1) := by decide +kernel
theorem dX4_clapping_11 : decode cX4_clapping 11 = .ok (.invokevirtual 76, 3) := by decide +kernel
theorem dX4_clapping_14 : decode cX4_clapping 14 = .ok (.iand, 1) := by decide +kernel
theorem dX4_clapping_15 : decode cX4_clapping 15 = .ok (.istore_n 3, 1) := by decide +kernel
theorem dX4_clapping_16 : decode cX4_clapping 16 = .ok (.iload_n 3, 1) := by decide +kernel
theorem dX4_clapping_17 : decode cX4_clapping 17 = .ok (.aload_n 0, 1) := by decide +kernel
theorem dX4_clapping_18 : decode cX4_clapping 18 = .ok (.iconst 0, 1) := by decide +kernel
theorem dX4_clapping_19 : decode cX4_clapping 19 = .ok (.iconst 3, 1) := by decide +kernel
theorem dX4_clapping_20 : decode cX4_clapping 20 = .ok (.invokevirtual 63, 3) := by decide +kernel
theorem dX4_clapping_23 : decode cX4_clapping 23 = .ok (.iand, 1) := by decide +kernel
theorem dX4_clapping_24 : decode cX4_clapping 24 = .ok (.istore 4, 2) := by decide +kernel
theorem dX4_clapping_26 : decode cX4_clapping 26 = .ok (.iload_n 3, 1) := by decide +kernel
theorem dX4_clapping_27 : decode cX4_clapping 27 = .ok (.aload_n 0, 1) := by decide +kernel
theorem dX4_clapping_28 : decode cX4_clapping 28 = .ok (.iconst 1, 1) := by decide +kernel
theorem dX4_clapping_29 : decode cX4_clapping 29 = .ok (.iconst 1, 1) := by decide +kernel
theorem dX4_clapping_30 : decode cX4_clapping 30 = .ok (.invokevirtual 63, 3) := by decide +kernel
theorem dX4_clapping_33 : decode cX4_clapping 33 = .ok (.iand, 1) := by decide +kernel
theorem dX4_clapping_34 : decode cX4_clapping 34 = .ok (.istore 5, 2) := by decide +kernel
theorem dX4_clapping_36 : decode cX4_clapping 36 = .ok (.iconst 0, 1) := by decide +kernel
theorem dX4_clapping_37 : decode cX4_clapping 37 = .ok (.istore 6, 2) := by decide +kernel
theorem dX4_clapping_39 : decode cX4_clapping 39 = .ok (.iload 6, 2) := by decide +kernel
theorem dX4_clapping_41 : decode cX4_clapping 41 = .ok (.aload_n 0, 1) := by decide +kernel
theorem dX4_clapping_42 : decode cX4_clapping 42 = .ok (.getfield 21, 3) := by decide +kernel
theorem dX4_clapping_45 : decode cX4_clapping 45 = .ok (.getfield 57, 3) := by decide +kernel
theorem dX4_clapping_48 : decode cX4_clapping 48 = .ok (.if_icmp .ge 30, 3) := by decide +kernel
theorem dX4_clapping_51 : decode cX4_clapping 51 = .ok (.iload 4, 2) := by decide +kernel
theorem dX4_clapping_53 : decode cX4_clapping 53 = .ok (.iload 5, 2) := by decide +kernel
theorem dX4_clapping_55 : decode cX4_clapping 55 = .ok (.aload_n 0, 1) := by decide +kernel
theorem dX4_clapping_56 : decode cX4_clapping 56 = .ok (.aload_n 0, 1) := by decide +kernel
theorem dX4_clapping_57 : decode cX4_clapping 57 = .ok (.iload 4, 2) := by decide +kernel
theorem dX4_clapping_59 : decode cX4_clapping 59 = .ok (.invokevirtual 50, 3) := by decide +kernel
theorem dX4_clapping_62 : decode cX4_clapping 62 = .ok (.invokestatic 67, 3) := by decide +kernel
theorem dX4_clapping_65 : decode cX4_clapping 65 = .ok (.invokevirtual 70, 3) := by decide +kernel
theorem dX4_clapping_68 : decode cX4_clapping 68 = .ok (.iand, 1) := by decide +kernel
theorem dX4_clapping_69 : decode cX4_clapping 69 = .ok (.ior, 1) := by decide +kernel
theorem dX4_clapping_70 : decode cX4_clapping 70 = .ok (.istore 4, 2) := by decide +kernel
theorem dX4_clapping_72 : decode cX4_clapping 72 = .ok (.iinc 6 1, 3) := by decide +kernel
theorem dX4_clapping_75 : decode cX4_clapping 75 = .ok (.goto (-36), 3) := by decide +kernel
theorem dX4_clapping_78 : decode cX4_clapping 78 = .ok (.iload 4, 2) := by decide +kernel
theorem dX4_clapping_80 : decode cX4_clapping 80 = .ok (.ifCond .eq 8, 3) := by decide +kernel
theorem dX4_clapping_83 : decode cX4_clapping 83 = .ok (.iload 4, 2) := by decide +kernel
theorem dX4_clapping_85 : decode cX4_clapping 85 = .ok (.goto 11, 3) := by decide +kernel
theorem dX4_clapping_88 : decode cX4_clapping 88 = .ok (.iload_n 3, 1) := by decide +kernel
theorem dX4_clapping_89 : decode cX4_clapping 89 = .ok (.aload_n 0, 1) := by decide +kernel
theorem dX4_clapping_90 : decode cX4_clapping 90 = .ok (.iconst 2, 1) := by decide +kernel
theorem dX4_clapping_91 : decode cX4_clapping 91 = .ok (.iconst 1, 1) := by decide +kernel
theorem dX4_clapping_92 : decode cX4_clapping 92 = .ok (.invokevirtual 63, 3) := by decide +kernel
theorem dX4_clapping_95 : decode cX4_clapping 95 = .ok (.iand, 1) := by decide +kernel
theorem dX4_clapping_96 : decode cX4_clapping 96 = .ok (.ireturn, 1) := by decide +kernel
set_option maxRecDepth 20000 in
theorem ggX4_loud_X4_clapping : GoodIn wsX4_loud wsX4_clapping := goodIn_r _ [5, 6, 7, 8, 9, 10, 4, 11, 12, 13, 14, 15, 16, 17, 18, 19, 20, 21, 22, 23, 24, 25, 26, 27, 28, 29, 30, 31, 32, 33, 34, 42, 43, 44, 45, 46, 47, 48, 49, 50, 51, 52, 53, 54, 55] (by decide +kernel) (by decide +kernel)
set_option maxRecDepth 20000 in
theorem gX4_loud_X4_clapping : GoodIn wsX4_loud (wsV RX4 79 RX4 yX4_clapping wsX4_clapping) := goodIn_app (goodIn_of _ (by decide +kernel)) ggX4_loud_X4_clapping
set_option maxRecDepth 20000 in
theorem ggX4_loud_J6_bitCount_0f7a4 : GoodIn wsX4_loud wsJ6_bitCount_0f7a4 := goodIn_r _ [38, 39, 40, 41] (by decide +kernel) (by decide +kernel)
set_option maxRecDepth 20000 in
theorem gX4_loud_J6_bitCount_0f7a4 : GoodIn wsX4_loud (va_wsS RX4 82 yJ6_bitCount_0f7a4 wsJ6_bitCount_0f7a4) := goodIn_app (goodIn_of _ (by decide +kernel)) ggX4_loud_J6_bitCount_0f7a4
theorem dX4_loud_0 : decode cX4_loud 0 = .ok (.aload_n 0, 1) := by decide +kernel
theorem dX4_loud_1 : decode cX4_loud 1 = .ok (.iload_n 1, 1) := by decide +kernel
theorem dX4_loud_2 : decode cX4_loud 2 = .ok (.iload_n 2, 1) := by decide +kernel
theorem dX4_loud_3 : decode cX4_loud 3 = .ok (.invokevirtual 79, 3) := by decide +kernel
theorem dX4_loud_6 : decode cX4_loud 6 = .ok (.invokestatic 82, 3) := by decide +kernel
theorem dX4_loud_9 : decode cX4_loud 9 = .ok (.ireturn, 1) := by decide +kernel
set_option maxRecDepth 20000 in
theorem ggX4_isEnough_X4_loud : GoodIn wsX4_isEnough wsX4_loud := goodIn_r _ [7, 8, 9, 10, 6, 11, 1, 12, 13, 14, 15, 16, 17, 18, 19, 20, 21, 22, 23, 24, 25, 26, 27, 28, 29, 30, 31, 32, 33, 34, 35, 36, 37, 38, 39, 40, 41, 42, 43, 44, 45, 46, 47, 48, 49, 50, 51, 52, 53, 54, 55, 56, 57, 58, 59, 60] (by decide +kernel) (by decide +kernel)
set_option maxRecDepth 20000 in
theorem gX4_isEnough_X4_loud : GoodIn wsX4_isEnough (wsV RX4 87 RX4 yX4_loud wsX4_loud) := goodIn_app (goodIn_of _ (by decide +kernel)) ggX4_isEnough_X4_loud
theorem dX4_isEnough_0 : decode cX4_isEnough 0 = .ok (.aload_n 0, 1) := by decide +kernel
theorem dX4_isEnough_1 : decode cX4_isEnough 1 = .ok (.iload_n 1, 1) := by decide +kernel
theorem dX4_isEnough_2 : decode cX4_isEnough 2 = .ok (.iload_n 2, 1) := by decide +kernel
theorem dX4_isEnough_3 : decode cX4_isEnough 3 = .ok (.invokevirtual 87, 3) := by decide +kernel
theorem dX4_isEnough_6 : decode cX4_isEnough 6 = .ok (.aload_n 0, 1) := by decide +kernel
theorem dX4_isEnough_7 : decode cX4_isEnough 7 = .ok (.getfield 21, 3) := by decide +kernel
theorem dX4_isEnough_10 : decode cX4_isEnough 10 = .ok (.getfield 90, 3) := by decide +kernel
theorem dX4_isEnough_13 : decode cX4_isEnough 13 = .ok (.iload_n 1, 1) := by decide +kernel
theorem dX4_isEnough_14 : decode cX4_isEnough 14 = .ok (.iaload, 1) := by decide +kernel
theorem dX4_isEnough_15 : decode cX4_isEnough 15 = .ok (.if_icmp .lt 7, 3) := by decide +kernel
theorem dX4_isEnough_18 : decode cX4_isEnough 18 = .ok (.iconst 1, 1) := by decide +kernel
theorem dX4_isEnough_19 : decode cX4_isEnough 19 = .ok (.goto 4, 3) := by decide +kernel
theorem dX4_isEnough_22 : decode cX4_isEnough 22 = .ok (.iconst 0, 1) := by decide +kernel
theorem dX4_isEnough_23 : decode cX4_isEnough 23 = .ok (.ireturn, 1) := by decide +kernel
set_option maxRecDepth 20000 in
theorem ggX4_bringOut_X4_isDead : GoodIn wsX4_bringOut wsX4_isDead := goodIn_r _ [11, 3, 55, 56, 57, 58, 59, 60] (by decide +kernel) (by decide +kernel)
set_option maxRecDepth 20000 in
theorem gX4_bringOut_X4_isDead : GoodIn wsX4_bringOut (wsV RX4 93 RX4 yX4_isDead wsX4_isDead) := goodIn_app (goodIn_of _ (by decide +kernel)) ggX4_bringOut_X4_isDead
set_option maxRecDepth 20000 in
theorem ggX4_bringOut_X1_everyHand : GoodIn wsX4_bringOut wsX1_everyHand := goodIn_r _ [16, 17, 61, 62, 63, 64, 65, 66, 67, 68] (by decide +kernel) (by decide +kernel)
set_option maxRecDepth 20000 in
theorem gX4_bringOut_X1_everyHand : GoodIn wsX4_bringOut (wsV RX4 46 RX1 yX1_everyHand wsX1_everyHand) := goodIn_app (goodIn_of _ (by decide +kernel)) ggX4_bringOut_X1_everyHand
set_option maxRecDepth 20000 in
theorem ggX4_bringOut_X4_clapping : GoodIn wsX4_bringOut wsX4_clapping := goodIn_r _ [21, 1, 5, 22, 23, 24, 10, 25, 26, 27, 28, 29, 30, 6, 31, 32, 33, 34, 35, 36, 37, 38, 39, 40, 41, 42, 43, 44, 45, 46, 47, 55, 56, 57, 58, 59, 60, 61, 62, 63, 64, 65, 66, 67, 68] (by decide +kernel) (by decide +kernel)
set_option maxRecDepth 20000 in
theorem gX4_bringOut_X4_clapping : GoodIn wsX4_bringOut (wsV RX4 79 RX4 yX4_clapping wsX4_clapping) := goodIn_app (goodIn_of _ (by decide +kernel)) ggX4_bringOut_X4_clapping
set_option maxRecDepth 20000 in
theorem ggX4_bringOut_J6_bitCount_0f7a4 : GoodIn wsX4_bringOut wsJ6_bitCount_0f7a4 := goodIn_r _ [51, 52, 53, 54] (by decide +kernel) (by decide +kernel)
set_option maxRecDepth 20000 in
theorem gX4_bringOut_J6_bitCount_0f7a4 : GoodIn wsX4_bringOut (va_wsS RX4 82 yJ6_bitCount_0f7a4 wsJ6_bitCount_0f7a4) := goodIn_app (goodIn_of _ (by decide +kernel)) ggX4_bringOut_J6_bitCount_0f7a4
theorem dX4_bringOut_0 : decode cX4_bringOut 0 = .ok (.aload_n 0, 1) := by decide +kernel
theorem dX4_bringOut_1 : decode cX4_bringOut 1 = .ok (.iload_n 1, 1) := by decide +kernel
theorem dX4_bringOut_2 : decode cX4_bringOut 2 = .ok (.invokevirtual 93, 3) := by decide +kernel
theorem dX4_bringOut_5 : decode cX4_bringOut 5 = .ok (.ifCond .eq 5, 3) := by decide +kernel
theorem dX4_bringOut_8 : decode cX4_bringOut 8 = .ok (.iconst 0, 1) := by decide +kernel
theorem dX4_bringOut_9 : decode cX4_bringOut 9 = .ok (.ireturn, 1) := by decide +kernel
theorem dX4_bringOut_10 : decode cX4_bringOut 10 = .ok (.aload_n 0, 1) := by decide +kernel
theorem dX4_bringOut_11 : decode cX4_bringOut 11 = .ok (.iload_n 1, 1) := by decide +kernel
theorem dX4_bringOut_12 : decode cX4_bringOut 12 = .ok (.aload_n 0, 1) := by decide +kernel
theorem dX4_bringOut_13 : decode cX4_bringOut 13 = .ok (.getfield 21, 3) := by decide +kernel
theorem dX4_bringOut_16 : decode cX4_bringOut 16 = .ok (.invokevirtual 46, 3) := by decide +kernel
theorem dX4_bringOut_19 : decode cX4_bringOut 19 = .ok (.invokevirtual 79, 3) := by decide +kernel
theorem dX4_bringOut_22 : decode cX4_bringOut 22 = .ok (.istore_n 2, 1) := by decide +kernel
theorem dX4_bringOut_23 : decode cX4_bringOut 23 = .ok (.iload_n 2, 1) := by decide +kernel
theorem dX4_bringOut_24 : decode cX4_bringOut 24 = .ok (.invokestatic 82, 3) := by decide +kernel
theorem dX4_bringOut_27 : decode cX4_bringOut 27 = .ok (.aload_n 0, 1) := by decide +kernel
theorem dX4_bringOut_28 : decode cX4_bringOut 28 = .ok (.getfield 21, 3) := by decide +kernel
theorem dX4_bringOut_31 : decode cX4_bringOut 31 = .ok (.getfield 90, 3) := by decide +kernel
theorem dX4_bringOut_34 : decode cX4_bringOut 34 = .ok (.iload_n 1, 1) := by decide +kernel
theorem dX4_bringOut_35 : decode cX4_bringOut 35 = .ok (.iaload, 1) := by decide +kernel
theorem dX4_bringOut_36 : decode cX4_bringOut 36 = .ok (.if_icmp .ge 17, 3) := by decide +kernel
theorem dX4_bringOut_39 : decode cX4_bringOut 39 = .ok (.aload_n 0, 1) := by decide +kernel
theorem dX4_bringOut_40 : decode cX4_bringOut 40 = .ok (.dup, 1) := by decide +kernel
theorem dX4_bringOut_41 : decode cX4_bringOut 41 = .ok (.getfield 39, 3) := by decide +kernel
theorem dX4_bringOut_44 : decode cX4_bringOut 44 = .ok (.iconst 1, 1) := by decide +kernel
theorem dX4_bringOut_45 : decode cX4_bringOut 45 = .ok (.iload_n 1, 1) := by decide +kernel
theorem dX4_bringOut_46 : decode cX4_bringOut 46 = .ok (.ishl, 1) := by decide +kernel
theorem dX4_bringOut_47 : decode cX4_bringOut 47 = .ok (.ior, 1) := by decide +kernel
theorem dX4_bringOut_48 : decode cX4_bringOut 48 = .ok (.putfield 39, 3) := by decide +kernel
theorem dX4_bringOut_51 : decode cX4_bringOut 51 = .ok (.iconst 0, 1) := by decide +kernel
theorem dX4_bringOut_52 : decode cX4_bringOut 52 = .ok (.ireturn, 1) := by decide +kernel
theorem dX4_bringOut_53 : decode cX4_bringOut 53 = .ok (.aload_n 0, 1) := by decide +kernel
theorem dX4_bringOut_54 : decode cX4_bringOut 54 = .ok (.getfield 18, 3) := by decide +kernel
theorem dX4_bringOut_57 : decode cX4_bringOut 57 = .ok (.iload_n 1, 1) := by decide +kernel
theorem dX4_bringOut_58 : decode cX4_bringOut 58 = .ok (.dup2, 1) := by decide +kernel
theorem dX4_bringOut_59 : decode cX4_bringOut 59 = .ok (.iaload, 1) := by decide +kernel
theorem dX4_bringOut_60 : decode cX4_bringOut 60 = .ok (.iconst 1, 1) := by decide +kernel
theorem dX4_bringOut_61 : decode cX4_bringOut 61 = .ok (.iadd, 1) := by decide +kernel
theorem dX4_bringOut_62 : decode cX4_bringOut 62 = .ok (.iastore, 1) := by decide +kernel
theorem dX4_bringOut_63 : decode cX4_bringOut 63 = .ok (.iconst 0, 1) := by decide +kernel
theorem dX4_bringOut_64 : decode cX4_bringOut 64 = .ok (.istore_n 3, 1) := by decide +kernel
theorem dX4_bringOut_65 : decode cX4_bringOut 65 = .ok (.iload_n 3, 1) := by decide +kernel
theorem dX4_bringOut_66 : decode cX4_bringOut 66 = .ok (.aload_n 0, 1) := by decide +kernel
theorem dX4_bringOut_67 : decode cX4_bringOut 67 = .ok (.getfield 21, 3) := by decide +kernel
theorem dX4_bringOut_70 : decode cX4_bringOut 70 = .ok (.getfield 57, 3) := by decide +kernel
theorem dX4_bringOut_73 : decode cX4_bringOut 73 = .ok (.if_icmp .ge 23, 3) := by decide +kernel
theorem dX4_bringOut_76 : decode cX4_bringOut 76 = .ok (.aload_n 0, 1) := by decide +kernel
theorem dX4_bringOut_77 : decode cX4_bringOut 77 = .ok (.getfield 15, 3) := by decide +kernel
theorem dX4_bringOut_80 : decode cX4_bringOut 80 = .ok (.iload_n 3, 1) := by decide +kernel
theorem dX4_bringOut_81 : decode cX4_bringOut 81 = .ok (.dup2, 1) := by decide +kernel
theorem dX4_bringOut_82 : decode cX4_bringOut 82 = .ok (.iaload, 1) := by decide +kernel
theorem dX4_bringOut_83 : decode cX4_bringOut 83 = .ok (.iload_n 2, 1) := by decide +kernel
theorem dX4_bringOut_84 : decode cX4_bringOut 84 = .ok (.iload_n 3, 1) := by decide +kernel
theorem dX4_bringOut_85 : decode cX4_bringOut 85 = .ok (.ishr, 1) := by decide +kernel
theorem dX4_bringOut_86 : decode cX4_bringOut 86 = .ok (.iconst 1, 1) := by decide +kernel
theorem dX4_bringOut_87 : decode cX4_bringOut 87 = .ok (.iand, 1) := by decide +kernel
theorem dX4_bringOut_88 : decode cX4_bringOut 88 = .ok (.isub, 1) := by decide +kernel
theorem dX4_bringOut_89 : decode cX4_bringOut 89 = .ok (.iastore, 1) := by decide +kernel
theorem dX4_bringOut_90 : decode cX4_bringOut 90 = .ok (.iinc 3 1, 3) := by decide +kernel
theorem dX4_bringOut_93 : decode cX4_bringOut 93 = .ok (.goto (-28), 3) := by decide +kernel
theorem dX4_bringOut_96 : decode cX4_bringOut 96 = .ok (.iconst 1, 1) := by decide +kernel
theorem dX4_bringOut_97 : decode cX4_bringOut 97 = .ok (.ireturn, 1) := by decide +kernel
theorem dX4_strew_0 : decode cX4_strew 0 = .ok (.iconst 0, 1) := by decide +kernel
theorem dX4_strew_1 : decode cX4_strew 1 = .ok (.istore_n 3, 1) := by decide +kernel
theorem dX4_strew_2 : decode cX4_strew 2 = .ok (.iload_n 3, 1) := by decide +kernel
theorem dX4_strew_3 : decode cX4_strew 3 = .ok (.aload_n 0, 1) := by decide +kernel
theorem dX4_strew_4 : decode cX4_strew 4 = .ok (.getfield 21, 3) := by decide +kernel
theorem dX4_strew_7 : decode cX4_strew 7 = .ok (.getfield 57, 3) := by decide +kernel
theorem dX4_strew_10 : decode cX4_strew 10 = .ok (.if_icmp .ge 41, 3) := by decide +kernel
theorem dX4_strew_13 : decode cX4_strew 13 = .ok (.aload_n 0, 1) := by decide +kernel
theorem dX4_strew_14 : decode cX4_strew 14 = .ok (.getfield 21, 3) := by decide +kernel
theorem dX4_strew_17 : decode cX4_strew 17 = .ok (.getfield 97, 3) := by decide +kernel
theorem dX4_strew_20 : decode cX4_strew 20 = .ok (.iload_n 3, 1) := by decide +kernel
theorem dX4_strew_21 : decode cX4_strew 21 = .ok (.iaload, 1) := by decide +kernel
theorem dX4_strew_22 : decode cX4_strew 22 = .ok (.iload_n 1, 1) := by decide +kernel
theorem dX4_strew_23 : decode cX4_strew 23 = .ok (.if_icmp .ne 22, 3) := by decide +kernel
theorem dX4_strew_26 : decode cX4_strew 26 = .ok (.aload_n 0, 1) := by decide +kernel
theorem dX4_strew_27 : decode cX4_strew 27 = .ok (.getfield 15, 3) := by decide +kernel
theorem dX4_strew_30 : decode cX4_strew 30 = .ok (.iload_n 3, 1) := by decide +kernel
theorem dX4_strew_31 : decode cX4_strew 31 = .ok (.bipush 9, 2) := by decide +kernel
theorem dX4_strew_33 : decode cX4_strew 33 = .ok (.aload_n 0, 1) := by decide +kernel
theorem dX4_strew_34 : decode cX4_strew 34 = .ok (.getfield 15, 3) := by decide +kernel
theorem dX4_strew_37 : decode cX4_strew 37 = .ok (.iload_n 3, 1) := by decide +kernel
theorem dX4_strew_38 : decode cX4_strew 38 = .ok (.iaload, 1) := by decide +kernel
theorem dX4_strew_39 : decode cX4_strew 39 = .ok (.iload_n 2, 1) := by decide +kernel
theorem dX4_strew_40 : decode cX4_strew 40 = .ok (.iadd, 1) := by decide +kernel
theorem dX4_strew_41 : decode cX4_strew 41 = .ok (.invokestatic 100, 3) := by decide +kernel
theorem dX4_strew_44 : decode cX4_strew 44 = .ok (.iastore, 1) := by decide +kernel
theorem dX4_strew_45 : decode cX4_strew 45 = .ok (.iinc 3 1, 3) := by decide +kernel
theorem dX4_strew_48 : decode cX4_strew 48 = .ok (.goto (-46), 3) := by decide +kernel
theorem dX4_strew_51 : decode cX4_strew 51 = .ok (.return_, 1) := by decide +kernel
theorem dX4_sleep_0 : decode cX4_sleep 0 = .ok (.iconst 0, 1) := by decide +kernel
theorem dX4_sleep_1 : decode cX4_sleep 1 = .ok (.istore_n 1, 1) := by decide +kernel
theorem dX4_sleep_2 : decode cX4_sleep 2 = .ok (.iload_n 1, 1) := by decide +kernel
theorem dX4_sleep_3 : decode cX4_sleep 3 = .ok (.aload_n 0, 1) := by decide +kernel
theorem dX4_sleep_4 : decode cX4_sleep 4 = .ok (.getfield 21, 3) := by decide +kernel
theorem dX4_sleep_7 : decode cX4_sleep 7 = .ok (.getfield 57, 3) := by decide +kernel
theorem dX4_sleep_10 : decode cX4_sleep 10 = .ok (.if_icmp .ge 37, 3) := by decide +kernel
theorem dX4_sleep_13 : decode cX4_sleep 13 = .ok (.aload_n 0, 1) := by decide +kernel
theorem dX4_sleep_14 : decode cX4_sleep 14 = .ok (.getfield 15, 3) := by decide +kernel
theorem dX4_sleep_17 : decode cX4_sleep 17 = .ok (.iload_n 1, 1) := by decide +kernel
theorem dX4_sleep_18 : decode cX4_sleep 18 = .ok (.iaload, 1) := by decide +kernel
theorem dX4_sleep_19 : decode cX4_sleep 19 = .ok (.aload_n 0, 1) := by decide +kernel
theorem dX4_sleep_20 : decode cX4_sleep 20 = .ok (.getfield 21, 3) := by decide +kernel
theorem dX4_sleep_23 : decode cX4_sleep 23 = .ok (.getfield 36, 3) := by decide +kernel
theorem dX4_sleep_26 : decode cX4_sleep 26 = .ok (.iload_n 1, 1) := by decide +kernel
theorem dX4_sleep_27 : decode cX4_sleep 27 = .ok (.iaload, 1) := by decide +kernel
theorem dX4_sleep_28 : decode cX4_sleep 28 = .ok (.if_icmp .ge 13, 3) := by decide +kernel
theorem dX4_sleep_31 : decode cX4_sleep 31 = .ok (.aload_n 0, 1) := by decide +kernel
theorem dX4_sleep_32 : decode cX4_sleep 32 = .ok (.getfield 15, 3) := by decide +kernel
theorem dX4_sleep_35 : decode cX4_sleep 35 = .ok (.iload_n 1, 1) := by decide +kernel
theorem dX4_sleep_36 : decode cX4_sleep 36 = .ok (.dup2, 1) := by decide +kernel
theorem dX4_sleep_37 : decode cX4_sleep 37 = .ok (.iaload, 1) := by decide +kernel
theorem dX4_sleep_38 : decode cX4_sleep 38 = .ok (.iconst 1, 1) := by decide +kernel
theorem dX4_sleep_39 : decode cX4_sleep 39 = .ok (.iadd, 1) := by decide +kernel
theorem dX4_sleep_40 : decode cX4_sleep 40 = .ok (.iastore, 1) := by decide +kernel
theorem dX4_sleep_41 : decode cX4_sleep 41 = .ok (.iinc 1 1, 3) := by decide +kernel
theorem dX4_sleep_44 : decode cX4_sleep 44 = .ok (.goto (-42), 3) := by decide +kernel
theorem dX4_sleep_47 : decode cX4_sleep 47 = .ok (.aload_n 0, 1) := by decide +kernel
theorem dX4_sleep_48 : decode cX4_sleep 48 = .ok (.dup, 1) := by decide +kernel
theorem dX4_sleep_49 : decode cX4_sleep 49 = .ok (.getfield 43, 3) := by decide +kernel
theorem dX4_sleep_52 : decode cX4_sleep 52 = .ok (.iconst 1, 1) := by decide +kernel
theorem dX4_sleep_53 : decode cX4_sleep 53 = .ok (.iadd, 1) := by decide +kernel
theorem dX4_sleep_54 : decode cX4_sleep 54 = .ok (.putfield 43, 3) := by decide +kernel
theorem dX4_sleep_57 : decode cX4_sleep 57 = .ok (.return_, 1) := by decide +kernel
theorem dX4_fondOnes_0 : decode cX4_fondOnes 0 = .ok (.iconst 0, 1) := by decide +kernel
theorem dX4_fondOnes_1 : decode cX4_fondOnes 1 = .ok (.istore_n 2, 1) := by decide +kernel
theorem dX4_fondOnes_2 : decode cX4_fondOnes 2 = .ok (.iconst 0, 1) := by decide +kernel
theorem dX4_fondOnes_3 : decode cX4_fondOnes 3 = .ok (.istore_n 3, 1) := by decide +kernel
theorem dX4_fondOnes_4 : decode cX4_fondOnes 4 = .ok (.iload_n 3, 1) := by decide +kernel
theorem dX4_fondOnes_5 : decode cX4_fondOnes 5 = .ok (.aload_n 0, 1) := by decide +kernel
theorem dX4_fondOnes_6 : decode cX4_fondOnes 6 = .ok (.getfield 21, 3) := by decide +kernel
theorem dX4_fondOnes_9 : decode cX4_fondOnes 9 = .ok (.getfield 57, 3) := by decide +kernel
theorem dX4_fondOnes_12 : decode cX4_fondOnes 12 = .ok (.if_icmp .ge 28, 3) := by decide +kernel
theorem dX4_fondOnes_15 : decode cX4_fondOnes 15 = .ok (.aload_n 0, 1) := by decide +kernel
theorem dX4_fondOnes_16 : decode cX4_fondOnes 16 = .ok (.getfield 21, 3) := by decide +kernel
theorem dX4_fondOnes_19 : decode cX4_fondOnes 19 = .ok (.getfield 97, 3) := by decide +kernel
theorem dX4_fondOnes_22 : decode cX4_fondOnes 22 = .ok (.iload_n 3, 1) := by decide +kernel
theorem dX4_fondOnes_23 : decode cX4_fondOnes 23 = .ok (.iaload, 1) := by decide +kernel
theorem dX4_fondOnes_24 : decode cX4_fondOnes 24 = .ok (.iload_n 1, 1) := by decide +kernel
theorem dX4_fondOnes_25 : decode cX4_fondOnes 25 = .ok (.if_icmp .ne 9, 3) := by decide +kernel
theorem dX4_fondOnes_28 : decode cX4_fondOnes 28 = .ok (.iload_n 2, 1) := by decide +kernel
theorem dX4_fondOnes_29 : decode cX4_fondOnes 29 = .ok (.iconst 1, 1) := by decide +kernel
theorem dX4_fondOnes_30 : decode cX4_fondOnes 30 = .ok (.iload_n 3, 1) := by decide +kernel
theorem dX4_fondOnes_31 : decode cX4_fondOnes 31 = .ok (.ishl, 1) := by decide +kernel
theorem dX4_fondOnes_32 : decode cX4_fondOnes 32 = .ok (.ior, 1) := by decide +kernel
theorem dX4_fondOnes_33 : decode cX4_fondOnes 33 = .ok (.istore_n 2, 1) := by decide +kernel
theorem dX4_fondOnes_34 : decode cX4_fondOnes 34 = .ok (.iinc 3 1, 3) := by decide +kernel
theorem dX4_fondOnes_37 : decode cX4_fondOnes 37 = .ok (.goto (-33), 3) := by decide +kernel
theorem dX4_fondOnes_40 : decode cX4_fondOnes 40 = .ok (.iload_n 2, 1) := by decide +kernel
theorem dX4_fondOnes_41 : decode cX4_fondOnes 41 = .ok (.ireturn, 1) := by decide +kernel
theorem dX4_ready_0 : decode cX4_ready 0 = .ok (.iconst 0, 1) := by decide +kernel
theorem dX4_ready_1 : decode cX4_ready 1 = .ok (.istore_n 3, 1) := by decide +kernel
theorem dX4_ready_2 : decode cX4_ready 2 = .ok (.iconst 0, 1) := by decide +kernel
theorem dX4_ready_3 : decode cX4_ready 3 = .ok (.istore 4, 2) := by decide +kernel
theorem dX4_ready_5 : decode cX4_ready 5 = .ok (.iload 4, 2) := by decide +kernel
theorem dX4_ready_7 : decode cX4_ready 7 = .ok (.aload_n 0, 1) := by decide +kernel
theorem dX4_ready_8 : decode cX4_ready 8 = .ok (.getfield 21, 3) := by decide +kernel
theorem dX4_ready_11 : decode cX4_ready 11 = .ok (.getfield 57, 3) := by decide +kernel
theorem dX4_ready_14 : decode cX4_ready 14 = .ok (.if_icmp .ge 41, 3) := by decide +kernel
theorem dX4_ready_17 : decode cX4_ready 17 = .ok (.aload_n 0, 1) := by decide +kernel
theorem dX4_ready_18 : decode cX4_ready 18 = .ok (.getfield 21, 3) := by decide +kernel
theorem dX4_ready_21 : decode cX4_ready 21 = .ok (.getfield 105, 3) := by decide +kernel
theorem dX4_ready_24 : decode cX4_ready 24 = .ok (.iload 4, 2) := by decide +kernel
theorem dX4_ready_26 : decode cX4_ready 26 = .ok (.iaload, 1) := by decide +kernel
theorem dX4_ready_27 : decode cX4_ready 27 = .ok (.iload_n 1, 1) := by decide +kernel
theorem dX4_ready_28 : decode cX4_ready 28 = .ok (.if_icmp .ne 21, 3) := by decide +kernel
theorem dX4_ready_31 : decode cX4_ready 31 = .ok (.aload_n 0, 1) := by decide +kernel
theorem dX4_ready_32 : decode cX4_ready 32 = .ok (.getfield 15, 3) := by decide +kernel
theorem dX4_ready_35 : decode cX4_ready 35 = .ok (.iload 4, 2) := by decide +kernel
theorem dX4_ready_37 : decode cX4_ready 37 = .ok (.iaload, 1) := by decide +kernel
theorem dX4_ready_38 : decode cX4_ready 38 = .ok (.iload_n 2, 1) := by decide +kernel
theorem dX4_ready_39 : decode cX4_ready 39 = .ok (.if_icmp .lt 10, 3) := by decide +kernel
theorem dX4_ready_42 : decode cX4_ready 42 = .ok (.iload_n 3, 1) := by decide +kernel
theorem dX4_ready_43 : decode cX4_ready 43 = .ok (.iconst 1, 1) := by decide +kernel
theorem dX4_ready_44 : decode cX4_ready 44 = .ok (.iload 4, 2) := by decide +kernel
theorem dX4_ready_46 : decode cX4_ready 46 = .ok (.ishl, 1) := by decide +kernel
theorem dX4_ready_47 : decode cX4_ready 47 = .ok (.ior, 1) := by decide +kernel
theorem dX4_ready_48 : decode cX4_ready 48 = .ok (.istore_n 3, 1) := by decide +kernel
theorem dX4_ready_49 : decode cX4_ready 49 = .ok (.iinc 4 1, 3) := by decide +kernel
theorem dX4_ready_52 : decode cX4_ready 52 = .ok (.goto (-47), 3) := by decide +kernel
theorem dX4_ready_55 : decode cX4_ready 55 = .ok (.iload_n 3, 1) := by decide +kernel
theorem dX4_ready_56 : decode cX4_ready 56 = .ok (.ireturn, 1) := by decide +kernel
theorem dX4_seatsOf_0 : decode cX4_seatsOf 0 = .ok (.iconst 0, 1) := by decide +kernel
theorem dX4_seatsOf_1 : decode cX4_seatsOf 1 = .ok (.istore_n 2, 1) := by decide +kernel
theorem dX4_seatsOf_2 : decode cX4_seatsOf 2 = .ok (.iconst 0, 1) := by decide +kernel
theorem dX4_seatsOf_3 : decode cX4_seatsOf 3 = .ok (.istore_n 3, 1) := by decide +kernel
theorem dX4_seatsOf_4 : decode cX4_seatsOf 4 = .ok (.iload_n 3, 1) := by decide +kernel
theorem dX4_seatsOf_5 : decode cX4_seatsOf 5 = .ok (.aload_n 0, 1) := by decide +kernel
theorem dX4_seatsOf_6 : decode cX4_seatsOf 6 = .ok (.getfield 21, 3) := by decide +kernel
theorem dX4_seatsOf_9 : decode cX4_seatsOf 9 = .ok (.getfield 57, 3) := by decide +kernel
theorem dX4_seatsOf_12 : decode cX4_seatsOf 12 = .ok (.if_icmp .ge 24, 3) := by decide +kernel
theorem dX4_seatsOf_15 : decode cX4_seatsOf 15 = .ok (.iload_n 2, 1) := by decide +kernel
theorem dX4_seatsOf_16 : decode cX4_seatsOf 16 = .ok (.iload_n 1, 1) := by decide +kernel
theorem dX4_seatsOf_17 : decode cX4_seatsOf 17 = .ok (.iload_n 3, 1) := by decide +kernel
theorem dX4_seatsOf_18 : decode cX4_seatsOf 18 = .ok (.ishr, 1) := by decide +kernel
theorem dX4_seatsOf_19 : decode cX4_seatsOf 19 = .ok (.iconst 1, 1) := by decide +kernel
theorem dX4_seatsOf_20 : decode cX4_seatsOf 20 = .ok (.iand, 1) := by decide +kernel
theorem dX4_seatsOf_21 : decode cX4_seatsOf 21 = .ok (.aload_n 0, 1) := by decide +kernel
theorem dX4_seatsOf_22 : decode cX4_seatsOf 22 = .ok (.getfield 9, 3) := by decide +kernel
theorem dX4_seatsOf_25 : decode cX4_seatsOf 25 = .ok (.iload_n 3, 1) := by decide +kernel
theorem dX4_seatsOf_26 : decode cX4_seatsOf 26 = .ok (.iaload, 1) := by decide +kernel
theorem dX4_seatsOf_27 : decode cX4_seatsOf 27 = .ok (.ishl, 1) := by decide +kernel
theorem dX4_seatsOf_28 : decode cX4_seatsOf 28 = .ok (.ior, 1) := by decide +kernel
theorem dX4_seatsOf_29 : decode cX4_seatsOf 29 = .ok (.istore_n 2, 1) := by decide +kernel
theorem dX4_seatsOf_30 : decode cX4_seatsOf 30 = .ok (.iinc 3 1, 3) := by decide +kernel
theorem dX4_seatsOf_33 : decode cX4_seatsOf 33 = .ok (.goto (-29), 3) := by decide +kernel
theorem dX4_seatsOf_36 : decode cX4_seatsOf 36 = .ok (.iload_n 2, 1) := by decide +kernel
theorem dX4_seatsOf_37 : decode cX4_seatsOf 37 = .ok (.ireturn, 1) := by decide +kernel
theorem dX4_handsAt_0 : decode cX4_handsAt 0 = .ok (.iconst 0, 1) := by decide +kernel
theorem dX4_handsAt_1 : decode cX4_handsAt 1 = .ok (.istore_n 2, 1) := by decide +kernel
theorem dX4_handsAt_2 : decode cX4_handsAt 2 = .ok (.iconst 0, 1) := by decide +kernel
theorem dX4_handsAt_3 : decode cX4_handsAt 3 = .ok (.istore_n 3, 1) := by decide +kernel
theorem dX4_handsAt_4 : decode cX4_handsAt 4 = .ok (.iload_n 3, 1) := by decide +kernel
theorem dX4_handsAt_5 : decode cX4_handsAt 5 = .ok (.aload_n 0, 1) := by decide +kernel
theorem dX4_handsAt_6 : decode cX4_handsAt 6 = .ok (.getfield 21, 3) := by decide +kernel
theorem dX4_handsAt_9 : decode cX4_handsAt 9 = .ok (.getfield 57, 3) := by decide +kernel
theorem dX4_handsAt_12 : decode cX4_handsAt 12 = .ok (.if_icmp .ge 24, 3) := by decide +kernel
theorem dX4_handsAt_15 : decode cX4_handsAt 15 = .ok (.iload_n 2, 1) := by decide +kernel
theorem dX4_handsAt_16 : decode cX4_handsAt 16 = .ok (.iload_n 1, 1) := by decide +kernel
theorem dX4_handsAt_17 : decode cX4_handsAt 17 = .ok (.aload_n 0, 1) := by decide +kernel
theorem dX4_handsAt_18 : decode cX4_handsAt 18 = .ok (.getfield 9, 3) := by decide +kernel
theorem dX4_handsAt_21 : decode cX4_handsAt 21 = .ok (.iload_n 3, 1) := by decide +kernel
theorem dX4_handsAt_22 : decode cX4_handsAt 22 = .ok (.iaload, 1) := by decide +kernel
theorem dX4_handsAt_23 : decode cX4_handsAt 23 = .ok (.ishr, 1) := by decide +kernel
theorem dX4_handsAt_24 : decode cX4_handsAt 24 = .ok (.iconst 1, 1) := by decide +kernel
theorem dX4_handsAt_25 : decode cX4_handsAt 25 = .ok (.iand, 1) := by decide +kernel
theorem dX4_handsAt_26 : decode cX4_handsAt 26 = .ok (.iload_n 3, 1) := by decide +kernel
theorem dX4_handsAt_27 : decode cX4_handsAt 27 = .ok (.ishl, 1) := by decide +kernel
theorem dX4_handsAt_28 : decode cX4_handsAt 28 = .ok (.ior, 1) := by decide +kernel
theorem dX4_handsAt_29 : decode cX4_handsAt 29 = .ok (.istore_n 2, 1) := by decide +kernel
theorem dX4_handsAt_30 : decode cX4_handsAt 30 = .ok (.iinc 3 1, 3) := by decide +kernel
theorem dX4_handsAt_33 : decode cX4_handsAt 33 = .ok (.goto (-29), 3) := by decide +kernel
theorem dX4_handsAt_36 : decode cX4_handsAt 36 = .ok (.iload_n 2, 1) := by decide +kernel
theorem dX4_handsAt_37 : decode cX4_handsAt 37 = .ok (.ireturn, 1) := by decide +kernel
theorem dX4_besides_0 : decode cX4_besides 0 = .ok (.iload_n 0, 1) := by decide +kernel
theorem dX4_besides_1 : decode cX4_besides 1 = .ok (.iconst 1, 1) := by decide +kernel
theorem dX4_besides_2 : decode cX4_besides 2 = .ok (.ishl, 1) := by decide +kernel
theorem dX4_besides_3 : decode cX4_besides 3 = .ok (.iload_n 0, 1) := by decide +kernel
theorem dX4_besides_4 : decode cX4_besides 4 = .ok (.iconst 1, 1) := by decide +kernel
theorem dX4_besides_5 : decode cX4_besides 5 = .ok (.ishr, 1) := by decide +kernel
theorem dX4_besides_6 : decode cX4_besides 6 = .ok (.ior, 1) := by decide +kernel
theorem dX4_besides_7 : decode cX4_besides 7 = .ok (.ireturn, 1) := by decide +kernel
set_option maxRecDepth 20000 in
theorem ggX5_init_X4_init : GoodIn wsX5_init wsX4_init := goodIn_r _ [12, 13, 2, 3, 14, 15, 16, 17, 18, 22, 23, 24, 25, 26, 27] (by decide +kernel) (by decide +kernel)
set_option maxRecDepth 20000 in
theorem gX5_init_X4_init : GoodIn wsX5_init (wsX4_init) := ggX5_init_X4_init
theorem dX5_init_0 : decode cX5_init 0 = .ok (.aload_n 0, 1) := by decide +kernel
theorem dX5_init_1 : decode cX5_init 1 = .ok (.invokespecial 3, 3) := by decide +kernel
theorem dX5_init_4 : decode cX5_init 4 = .ok (.aload_n 0, 1) := by decide +kernel
theorem dX5_init_5 : decode cX5_init 5 = .ok (.aload_n 1, 1) := by decide +kernel
theorem dX5_init_6 : decode cX5_init 6 = .ok (.putfield 9, 3) := by decide +kernel
theorem dX5_init_9 : decode cX5_init 9 = .ok (.aload_n 0, 1) := by decide +kernel
theorem dX5_init_10 : decode cX5_init 10 = .ok (.new 15, 3) := by decide +kernel
theorem dX5_init_13 : decode cX5_init 13 = .ok (.dup, 1) := by decide +kernel
theorem dX5_init_14 : decode cX5_init 14 = .ok (.aload_n 1, 1) := by decide +kernel
theorem dX5_init_15 : decode cX5_init 15 = .ok (.invokespecial 17, 3) := by decide +kernel
theorem dX5_init_18 : decode cX5_init 18 = .ok (.putfield 20, 3) := by decide +kernel
theorem dX5_init_21 : decode cX5_init 21 = .ok (.aload_n 0, 1) := by decide +kernel
theorem dX5_init_22 : decode cX5_init 22 = .ok (.new 15, 3) := by decide +kernel
theorem dX5_init_25 : decode cX5_init 25 = .ok (.dup, 1) := by decide +kernel
theorem dX5_init_26 : decode cX5_init 26 = .ok (.aload_n 1, 1) := by decide +kernel
theorem dX5_init_27 : decode cX5_init 27 = .ok (.invokespecial 17, 3) := by decide +kernel
theorem dX5_init_30 : decode cX5_init 30 = .ok (.putfield 24, 3) := by decide +kernel
theorem dX5_init_33 : decode cX5_init 33 = .ok (.return_, 1) := by decide +kernel
set_option maxRecDepth 20000 in
theorem ggX5_comings_X4_copyFrom : GoodIn wsX5_comings wsX4_copyFrom := goodIn_r _ [6, 7, 8, 9, 10, 11, 12, 13, 14, 15, 72, 73, 74, 75, 76, 77] (by decide +kernel) (by decide +kernel)
set_option maxRecDepth 20000 in
theorem gX5_comings_X4_copyFrom : GoodIn wsX5_comings (wsV RX5 27 RX4 yX4_copyFrom wsX4_copyFrom) := goodIn_app (goodIn_of _ (by decide +kernel)) ggX5_comings_X4_copyFrom
set_option maxRecDepth 20000 in
theorem ggX5_comings_X4_bringOut : GoodIn wsX5_comings wsX4_bringOut := goodIn_r _ [19, 20, 21, 14, 13, 22, 12, 23, 24, 25, 5, 26, 27, 28, 29, 30, 31, 32, 33, 34, 35, 36, 37, 38, 39, 40, 41, 42, 43, 44, 45, 46, 47, 48, 49, 7, 50, 51, 52, 53, 54, 55, 56, 57, 58, 59, 60, 61, 62, 63, 64, 65, 66, 67, 68, 72, 73, 74, 75, 76, 77, 78, 79, 80, 81, 82, 83, 84, 85] (by decide +kernel) (by decide +kernel)
set_option maxRecDepth 20000 in
theorem gX5_comings_X4_bringOut : GoodIn wsX5_comings (wsV RX5 31 RX4 yX4_bringOut wsX4_bringOut) := goodIn_app (goodIn_of _ (by decide +kernel)) ggX5_comings_X4_bringOut
theorem dX5_comings_0 : decode cX5_comings 0 = .ok (.aload_n 0, 1) := by decide +kernel
theorem dX5_comings_1 : decode cX5_comings 1 = .ok (.getfield 24, 3) := by decide +kernel
theorem dX5_comings_4 : decode cX5_comings 4 = .ok (.aload_n 1, 1) := by decide +kernel
theorem dX5_comings_5 : decode cX5_comings 5 = .ok (.invokevirtual 27, 3) := by decide +kernel
theorem dX5_comings_8 : decode cX5_comings 8 = .ok (.iconst 0, 1) := by decide +kernel
theorem dX5_comings_9 : decode cX5_comings 9 = .ok (.istore_n 3, 1) := by decide +kernel
theorem dX5_comings_10 : decode cX5_comings 10 = .ok (.iload_n 3, 1) := by decide +kernel
theorem dX5_comings_11 : decode cX5_comings 11 = .ok (.bipush 80, 2) := by decide +kernel
theorem dX5_comings_13 : decode cX5_comings 13 = .ok (.if_icmp .ge 20, 3) := by decide +kernel
theorem dX5_comings_16 : decode cX5_comings 16 = .ok (.aload_n 0, 1) := by decide +kernel
theorem dX5_comings_17 : decode cX5_comings 17 = .ok (.getfield 24, 3) := by decide +kernel
theorem dX5_comings_20 : decode cX5_comings 20 = .ok (.iload_n 2, 1) := by decide +kernel
theorem dX5_comings_21 : decode cX5_comings 21 = .ok (.invokevirtual 31, 3) := by decide +kernel
theorem dX5_comings_24 : decode cX5_comings 24 = .ok (.ifCond .eq 9, 3) := by decide +kernel
theorem dX5_comings_27 : decode cX5_comings 27 = .ok (.iinc 3 1, 3) := by decide +kernel
theorem dX5_comings_30 : decode cX5_comings 30 = .ok (.goto (-20), 3) := by decide +kernel
theorem dX5_comings_33 : decode cX5_comings 33 = .ok (.iload_n 3, 1) := by decide +kernel
theorem dX5_comings_34 : decode cX5_comings 34 = .ok (.ireturn, 1) := by decide +kernel
set_option maxRecDepth 20000 in
theorem ggX5_bestSeat_X4_isTaken : GoodIn wsX5_bestSeat wsX4_isTaken := goodIn_r _ [9, 10, 11, 12, 8, 13, 14, 15, 16, 17, 18, 19, 20, 21, 22, 23, 24, 25, 26, 86, 87, 88, 89, 90, 91, 95, 96, 97, 98, 99, 100, 101, 102] (by decide +kernel) (by decide +kernel)
set_option maxRecDepth 20000 in
theorem gX5_bestSeat_X4_isTaken : GoodIn wsX5_bestSeat (wsV RX5 39 RX4 yX4_isTaken wsX4_isTaken) := goodIn_app (goodIn_of _ (by decide +kernel)) ggX5_bestSeat_X4_isTaken
set_option maxRecDepth 20000 in
theorem ggX5_bestSeat_X4_copyFrom : GoodIn wsX5_bestSeat wsX4_copyFrom := goodIn_r _ [30, 26, 31, 32, 33, 34, 35, 36, 37, 38, 86, 87, 88, 89, 90, 91] (by decide +kernel) (by decide +kernel)
set_option maxRecDepth 20000 in
theorem gX5_bestSeat_X4_copyFrom : GoodIn wsX5_bestSeat (wsV RX5 27 RX4 yX4_copyFrom wsX4_copyFrom) := goodIn_app (goodIn_of _ (by decide +kernel)) ggX5_bestSeat_X4_copyFrom
set_option maxRecDepth 20000 in
theorem ggX5_bestSeat_X5_comings : GoodIn wsX5_bestSeat wsX5_comings := goodIn_r _ [43, 44, 27, 28, 29, 8, 30, 26, 31, 32, 33, 34, 35, 36, 37, 38, 45, 46, 47, 48, 14, 49, 25, 50, 51, 52, 53, 15, 16, 17, 18, 19, 20, 54, 55, 56, 57, 58, 59, 60, 61, 62, 63, 64, 65, 66, 21, 22, 23, 24, 67, 68, 69, 70, 71, 72, 73, 74, 75, 76, 77, 78, 79, 80, 81, 82, 83, 84, 85, 92, 93, 94, 86, 87, 88, 89, 90, 91, 95, 96, 97, 98, 99, 100, 101, 102] (by decide +kernel) (by decide +kernel)
set_option maxRecDepth 20000 in
theorem gX5_bestSeat_X5_comings : GoodIn wsX5_bestSeat (wsV RX5 47 RX5 yX5_comings wsX5_comings) := goodIn_app (goodIn_of _ (by decide +kernel)) ggX5_bestSeat_X5_comings
theorem dX5_bestSeat_0 : decode cX5_bestSeat 0 = .ok (.bipush (-9), 2) := by decide +kernel
theorem dX5_bestSeat_2 : decode cX5_bestSeat 2 = .ok (.istore 4, 2) := by decide +kernel
theorem dX5_bestSeat_4 : decode cX5_bestSeat 4 = .ok (.iconst (-1), 1) := by decide +kernel
theorem dX5_bestSeat_5 : decode cX5_bestSeat 5 = .ok (.istore 5, 2) := by decide +kernel
theorem dX5_bestSeat_7 : decode cX5_bestSeat 7 = .ok (.iconst 0, 1) := by decide +kernel
theorem dX5_bestSeat_8 : decode cX5_bestSeat 8 = .ok (.istore 6, 2) := by decide +kernel
theorem dX5_bestSeat_10 : decode cX5_bestSeat 10 = .ok (.iload 6, 2) := by decide +kernel
theorem dX5_bestSeat_12 : decode cX5_bestSeat 12 = .ok (.bipush 10, 2) := by decide +kernel
theorem dX5_bestSeat_14 : decode cX5_bestSeat 14 = .ok (.if_icmp .ge 82, 3) := by decide +kernel
theorem dX5_bestSeat_17 : decode cX5_bestSeat 17 = .ok (.iload 6, 2) := by decide +kernel
theorem dX5_bestSeat_19 : decode cX5_bestSeat 19 = .ok (.aload_n 1, 1) := by decide +kernel
theorem dX5_bestSeat_20 : decode cX5_bestSeat 20 = .ok (.getfield 35, 3) := by decide +kernel
theorem dX5_bestSeat_23 : decode cX5_bestSeat 23 = .ok (.iload_n 2, 1) := by decide +kernel
theorem dX5_bestSeat_24 : decode cX5_bestSeat 24 = .ok (.iaload, 1) := by decide +kernel
theorem dX5_bestSeat_25 : decode cX5_bestSeat 25 = .ok (.if_icmp .eq 12, 3) := by decide +kernel
theorem dX5_bestSeat_28 : decode cX5_bestSeat 28 = .ok (.aload_n 1, 1) := by decide +kernel
theorem dX5_bestSeat_29 : decode cX5_bestSeat 29 = .ok (.iload 6, 2) := by decide +kernel
theorem dX5_bestSeat_31 : decode cX5_bestSeat 31 = .ok (.invokevirtual 39, 3) := by decide +kernel
theorem dX5_bestSeat_34 : decode cX5_bestSeat 34 = .ok (.ifCond .ne 56, 3) := by decide +kernel
theorem dX5_bestSeat_37 : decode cX5_bestSeat 37 = .ok (.aload_n 0, 1) := by decide +kernel
theorem dX5_bestSeat_38 : decode cX5_bestSeat 38 = .ok (.getfield 20, 3) := by decide +kernel
theorem dX5_bestSeat_41 : decode cX5_bestSeat 41 = .ok (.aload_n 1, 1) := by decide +kernel
theorem dX5_bestSeat_42 : decode cX5_bestSeat 42 = .ok (.invokevirtual 27, 3) := by decide +kernel
theorem dX5_bestSeat_45 : decode cX5_bestSeat 45 = .ok (.aload_n 0, 1) := by decide +kernel
theorem dX5_bestSeat_46 : decode cX5_bestSeat 46 = .ok (.getfield 20, 3) := by decide +kernel
theorem dX5_bestSeat_49 : decode cX5_bestSeat 49 = .ok (.getfield 35, 3) := by decide +kernel
theorem dX5_bestSeat_52 : decode cX5_bestSeat 52 = .ok (.iload_n 2, 1) := by decide +kernel
theorem dX5_bestSeat_53 : decode cX5_bestSeat 53 = .ok (.iload 6, 2) := by decide +kernel
theorem dX5_bestSeat_55 : decode cX5_bestSeat 55 = .ok (.iastore, 1) := by decide +kernel
theorem dX5_bestSeat_56 : decode cX5_bestSeat 56 = .ok (.aload_n 0, 1) := by decide +kernel
theorem dX5_bestSeat_57 : decode cX5_bestSeat 57 = .ok (.aload_n 0, 1) := by decide +kernel
theorem dX5_bestSeat_58 : decode cX5_bestSeat 58 = .ok (.getfield 20, 3) := by decide +kernel
theorem dX5_bestSeat_61 : decode cX5_bestSeat 61 = .ok (.aload_n 0, 1) := by decide +kernel
theorem dX5_bestSeat_62 : decode cX5_bestSeat 62 = .ok (.getfield 9, 3) := by decide +kernel
theorem dX5_bestSeat_65 : decode cX5_bestSeat 65 = .ok (.getfield 42, 3) := by decide +kernel
theorem dX5_bestSeat_68 : decode cX5_bestSeat 68 = .ok (.iload_n 2, 1) := by decide +kernel
theorem dX5_bestSeat_69 : decode cX5_bestSeat 69 = .ok (.iaload, 1) := by decide +kernel
theorem dX5_bestSeat_70 : decode cX5_bestSeat 70 = .ok (.invokevirtual 47, 3) := by decide +kernel
theorem dX5_bestSeat_73 : decode cX5_bestSeat 73 = .ok (.istore 7, 2) := by decide +kernel
theorem dX5_bestSeat_75 : decode cX5_bestSeat 75 = .ok (.iload 7, 2) := by decide +kernel
theorem dX5_bestSeat_77 : decode cX5_bestSeat 77 = .ok (.iload 5, 2) := by decide +kernel
theorem dX5_bestSeat_79 : decode cX5_bestSeat 79 = .ok (.if_icmp .le 11, 3) := by decide +kernel
theorem dX5_bestSeat_82 : decode cX5_bestSeat 82 = .ok (.iload 7, 2) := by decide +kernel
theorem dX5_bestSeat_84 : decode cX5_bestSeat 84 = .ok (.istore 5, 2) := by decide +kernel
theorem dX5_bestSeat_86 : decode cX5_bestSeat 86 = .ok (.iload 6, 2) := by decide +kernel
theorem dX5_bestSeat_88 : decode cX5_bestSeat 88 = .ok (.istore 4, 2) := by decide +kernel
theorem dX5_bestSeat_90 : decode cX5_bestSeat 90 = .ok (.iinc 6 1, 3) := by decide +kernel
theorem dX5_bestSeat_93 : decode cX5_bestSeat 93 = .ok (.goto (-83), 3) := by decide +kernel
theorem dX5_bestSeat_96 : decode cX5_bestSeat 96 = .ok (.iload_n 3, 1) := by decide +kernel
theorem dX5_bestSeat_97 : decode cX5_bestSeat 97 = .ok (.ifCond .eq 8, 3) := by decide +kernel
theorem dX5_bestSeat_100 : decode cX5_bestSeat 100 = .ok (.iload 5, 2) := by decide +kernel
theorem dX5_bestSeat_102 : decode cX5_bestSeat 102 = .ok (.goto 5, 3) := by decide +kernel
theorem dX5_bestSeat_105 : decode cX5_bestSeat 105 = .ok (.iload 4, 2) := by decide +kernel
theorem dX5_bestSeat_107 : decode cX5_bestSeat 107 = .ok (.ireturn, 1) := by decide +kernel
set_option maxRecDepth 20000 in
theorem ggX5_fewestFlowers_X4_copyFrom : GoodIn wsX5_fewestFlowers wsX4_copyFrom := goodIn_r _ [6, 7, 8, 9, 10, 11, 12, 13, 14, 15, 86, 87, 88, 89, 90, 91] (by decide +kernel) (by decide +kernel)
set_option maxRecDepth 20000 in
theorem gX5_fewestFlowers_X4_copyFrom : GoodIn wsX5_fewestFlowers (wsV RX5 27 RX4 yX4_copyFrom wsX4_copyFrom) := goodIn_app (goodIn_of _ (by decide +kernel)) ggX5_fewestFlowers_X4_copyFrom
set_option maxRecDepth 20000 in
theorem ggX5_fewestFlowers_X4_strew : GoodIn wsX5_fewestFlowers wsX4_strew := goodIn_r _ [19, 20, 21, 22, 12, 23, 24, 25, 26, 86, 87, 88, 89, 90, 91, 92, 93, 94, 95, 96, 97, 98, 99] (by decide +kernel) (by decide +kernel)
set_option maxRecDepth 20000 in
theorem gX5_fewestFlowers_X4_strew : GoodIn wsX5_fewestFlowers (wsV RX5 51 RX4 yX4_strew wsX4_strew) := goodIn_app (goodIn_of _ (by decide +kernel)) ggX5_fewestFlowers_X4_strew
set_option maxRecDepth 20000 in
theorem ggX5_fewestFlowers_X5_comings : GoodIn wsX5_fewestFlowers wsX5_comings := goodIn_r _ [31, 32, 2, 3, 4, 5, 6, 7, 8, 9, 10, 11, 12, 13, 14, 15, 33, 34, 35, 36, 20, 37, 21, 38, 39, 40, 41, 42, 43, 44, 45, 46, 47, 48, 49, 50, 51, 52, 53, 54, 55, 56, 57, 58, 59, 60, 61, 62, 63, 64, 65, 66, 67, 68, 69, 70, 71, 72, 73, 74, 75, 22, 76, 77, 78, 79, 80, 81, 82, 83, 84, 85, 86, 87, 88, 89, 90, 91, 92, 93, 94, 95, 96, 97, 98, 99] (by decide +kernel) (by decide +kernel)
set_option maxRecDepth 20000 in
theorem gX5_fewestFlowers_X5_comings : GoodIn wsX5_fewestFlowers (wsV RX5 47 RX5 yX5_comings wsX5_comings) := goodIn_app (goodIn_of _ (by decide +kernel)) ggX5_fewestFlowers_X5_comings
theorem dX5_fewestFlowers_0 : decode cX5_fewestFlowers 0 = .ok (.iconst 0, 1) := by decide +kernel
theorem dX5_fewestFlowers_1 : decode cX5_fewestFlowers 1 = .ok (.istore 4, 2) := by decide +kernel
theorem dX5_fewestFlowers_3 : decode cX5_fewestFlowers 3 = .ok (.iload 4, 2) := by decide +kernel
theorem dX5_fewestFlowers_5 : decode cX5_fewestFlowers 5 = .ok (.bipush 9, 2) := by decide +kernel
theorem dX5_fewestFlowers_7 : decode cX5_fewestFlowers 7 = .ok (.if_icmp .gt 43, 3) := by decide +kernel
theorem dX5_fewestFlowers_10 : decode cX5_fewestFlowers 10 = .ok (.aload_n 0, 1) := by decide +kernel
theorem dX5_fewestFlowers_11 : decode cX5_fewestFlowers 11 = .ok (.getfield 20, 3) := by decide +kernel
theorem dX5_fewestFlowers_14 : decode cX5_fewestFlowers 14 = .ok (.aload_n 1, 1) := by decide +kernel
theorem dX5_fewestFlowers_15 : decode cX5_fewestFlowers 15 = .ok (.invokevirtual 27, 3) := by decide +kernel
theorem dX5_fewestFlowers_18 : decode cX5_fewestFlowers 18 = .ok (.aload_n 0, 1) := by decide +kernel
theorem dX5_fewestFlowers_19 : decode cX5_fewestFlowers 19 = .ok (.getfield 20, 3) := by decide +kernel
theorem dX5_fewestFlowers_22 : decode cX5_fewestFlowers 22 = .ok (.iload_n 2, 1) := by decide +kernel
theorem dX5_fewestFlowers_23 : decode cX5_fewestFlowers 23 = .ok (.iload 4, 2) := by decide +kernel
theorem dX5_fewestFlowers_25 : decode cX5_fewestFlowers 25 = .ok (.invokevirtual 51, 3) := by decide +kernel
theorem dX5_fewestFlowers_28 : decode cX5_fewestFlowers 28 = .ok (.aload_n 0, 1) := by decide +kernel
theorem dX5_fewestFlowers_29 : decode cX5_fewestFlowers 29 = .ok (.aload_n 0, 1) := by decide +kernel
theorem dX5_fewestFlowers_30 : decode cX5_fewestFlowers 30 = .ok (.getfield 20, 3) := by decide +kernel
theorem dX5_fewestFlowers_33 : decode cX5_fewestFlowers 33 = .ok (.iload_n 2, 1) := by decide +kernel
theorem dX5_fewestFlowers_34 : decode cX5_fewestFlowers 34 = .ok (.invokevirtual 47, 3) := by decide +kernel
theorem dX5_fewestFlowers_37 : decode cX5_fewestFlowers 37 = .ok (.iload_n 3, 1) := by decide +kernel
theorem dX5_fewestFlowers_38 : decode cX5_fewestFlowers 38 = .ok (.if_icmp .lt 6, 3) := by decide +kernel
theorem dX5_fewestFlowers_41 : decode cX5_fewestFlowers 41 = .ok (.iload 4, 2) := by decide +kernel
theorem dX5_fewestFlowers_43 : decode cX5_fewestFlowers 43 = .ok (.ireturn, 1) := by decide +kernel
theorem dX5_fewestFlowers_44 : decode cX5_fewestFlowers 44 = .ok (.iinc 4 1, 3) := by decide +kernel
theorem dX5_fewestFlowers_47 : decode cX5_fewestFlowers 47 = .ok (.goto (-44), 3) := by decide +kernel
theorem dX5_fewestFlowers_50 : decode cX5_fewestFlowers 50 = .ok (.bipush (-9), 2) := by decide +kernel
theorem dX5_fewestFlowers_52 : decode cX5_fewestFlowers 52 = .ok (.ireturn, 1) := by decide +kernel
set_option maxRecDepth 20000 in
theorem ggX5_fewestSentHome_X1_everyHand : GoodIn wsX5_fewestSentHome wsX1_everyHand := goodIn_r _ [6, 7, 62, 63, 64, 65, 66, 67, 68, 69] (by decide +kernel) (by decide +kernel)
set_option maxRecDepth 20000 in
theorem gX5_fewestSentHome_X1_everyHand : GoodIn wsX5_fewestSentHome (wsV RX5 55 RX1 yX1_everyHand wsX1_everyHand) := goodIn_app (goodIn_of _ (by decide +kernel)) ggX5_fewestSentHome_X1_everyHand
set_option maxRecDepth 20000 in
theorem ggX5_fewestSentHome_J6_bitCount_0f7a4 : GoodIn wsX5_fewestSentHome wsJ6_bitCount_0f7a4 := goodIn_r _ [11, 12, 13, 14] (by decide +kernel) (by decide +kernel)
set_option maxRecDepth 20000 in
theorem gX5_fewestSentHome_J6_bitCount_0f7a4 : GoodIn wsX5_fewestSentHome (va_wsS RX5 59 yJ6_bitCount_0f7a4 wsJ6_bitCount_0f7a4) := goodIn_app (goodIn_of _ (by decide +kernel)) ggX5_fewestSentHome_J6_bitCount_0f7a4
set_option maxRecDepth 20000 in
theorem ggX5_fewestSentHome_X4_isEnough : GoodIn wsX5_fewestSentHome wsX4_isEnough := goodIn_r _ [19, 20, 21, 22, 23, 24, 18, 25, 26, 27, 28, 29, 30, 31, 32, 33, 34, 35, 36, 37, 38, 39, 40, 41, 42, 43, 44, 45, 46, 47, 48, 49, 50, 51, 52, 53, 54, 55, 56, 57, 58, 9, 10, 11, 12, 13, 14, 70, 71, 72, 73, 74, 75, 62, 63, 64, 65, 66, 67, 68, 69] (by decide +kernel) (by decide +kernel)
set_option maxRecDepth 20000 in
theorem gX5_fewestSentHome_X4_isEnough : GoodIn wsX5_fewestSentHome (wsV RX5 65 RX4 yX4_isEnough wsX4_isEnough) := goodIn_app (goodIn_of _ (by decide +kernel)) ggX5_fewestSentHome_X4_isEnough
theorem dX5_fewestSentHome_0 : decode cX5_fewestSentHome 0 = .ok (.aload_n 0, 1) := by decide +kernel
theorem dX5_fewestSentHome_1 : decode cX5_fewestSentHome 1 = .ok (.getfield 9, 3) := by decide +kernel
theorem dX5_fewestSentHome_4 : decode cX5_fewestSentHome 4 = .ok (.invokevirtual 55, 3) := by decide +kernel
theorem dX5_fewestSentHome_7 : decode cX5_fewestSentHome 7 = .ok (.istore_n 3, 1) := by decide +kernel
theorem dX5_fewestSentHome_8 : decode cX5_fewestSentHome 8 = .ok (.iload_n 3, 1) := by decide +kernel
theorem dX5_fewestSentHome_9 : decode cX5_fewestSentHome 9 = .ok (.istore 4, 2) := by decide +kernel
theorem dX5_fewestSentHome_11 : decode cX5_fewestSentHome 11 = .ok (.iconst 0, 1) := by decide +kernel
theorem dX5_fewestSentHome_12 : decode cX5_fewestSentHome 12 = .ok (.istore 5, 2) := by decide +kernel
theorem dX5_fewestSentHome_14 : decode cX5_fewestSentHome 14 = .ok (.iload 5, 2) := by decide +kernel
theorem dX5_fewestSentHome_16 : decode cX5_fewestSentHome 16 = .ok (.iload_n 3, 1) := by decide +kernel
theorem dX5_fewestSentHome_17 : decode cX5_fewestSentHome 17 = .ok (.if_icmp .gt 52, 3) := by decide +kernel
theorem dX5_fewestSentHome_20 : decode cX5_fewestSentHome 20 = .ok (.iload 5, 2) := by decide +kernel
theorem dX5_fewestSentHome_22 : decode cX5_fewestSentHome 22 = .ok (.invokestatic 59, 3) := by decide +kernel
theorem dX5_fewestSentHome_25 : decode cX5_fewestSentHome 25 = .ok (.iload 4, 2) := by decide +kernel
theorem dX5_fewestSentHome_27 : decode cX5_fewestSentHome 27 = .ok (.invokestatic 59, 3) := by decide +kernel
theorem dX5_fewestSentHome_30 : decode cX5_fewestSentHome 30 = .ok (.if_icmp .ge 7, 3) := by decide +kernel
theorem dX5_fewestSentHome_33 : decode cX5_fewestSentHome 33 = .ok (.iconst 1, 1) := by decide +kernel
theorem dX5_fewestSentHome_34 : decode cX5_fewestSentHome 34 = .ok (.goto 4, 3) := by decide +kernel
theorem dX5_fewestSentHome_37 : decode cX5_fewestSentHome 37 = .ok (.iconst 0, 1) := by decide +kernel
theorem dX5_fewestSentHome_38 : decode cX5_fewestSentHome 38 = .ok (.istore 6, 2) := by decide +kernel
theorem dX5_fewestSentHome_40 : decode cX5_fewestSentHome 40 = .ok (.iload 6, 2) := by decide +kernel
theorem dX5_fewestSentHome_42 : decode cX5_fewestSentHome 42 = .ok (.ifCond .eq 21, 3) := by decide +kernel
theorem dX5_fewestSentHome_45 : decode cX5_fewestSentHome 45 = .ok (.aload_n 1, 1) := by decide +kernel
theorem dX5_fewestSentHome_46 : decode cX5_fewestSentHome 46 = .ok (.iload_n 2, 1) := by decide +kernel
theorem dX5_fewestSentHome_47 : decode cX5_fewestSentHome 47 = .ok (.iload_n 3, 1) := by decide +kernel
theorem dX5_fewestSentHome_48 : decode cX5_fewestSentHome 48 = .ok (.iload 5, 2) := by decide +kernel
theorem dX5_fewestSentHome_50 : decode cX5_fewestSentHome 50 = .ok (.iconst (-1), 1) := by decide +kernel
theorem dX5_fewestSentHome_51 : decode cX5_fewestSentHome 51 = .ok (.ixor, 1) := by decide +kernel
theorem dX5_fewestSentHome_52 : decode cX5_fewestSentHome 52 = .ok (.iand, 1) := by decide +kernel
theorem dX5_fewestSentHome_53 : decode cX5_fewestSentHome 53 = .ok (.invokevirtual 65, 3) := by decide +kernel
theorem dX5_fewestSentHome_56 : decode cX5_fewestSentHome 56 = .ok (.ifCond .ne 7, 3) := by decide +kernel
theorem dX5_fewestSentHome_59 : decode cX5_fewestSentHome 59 = .ok (.iload 5, 2) := by decide +kernel
theorem dX5_fewestSentHome_61 : decode cX5_fewestSentHome 61 = .ok (.istore 4, 2) := by decide +kernel
theorem dX5_fewestSentHome_63 : decode cX5_fewestSentHome 63 = .ok (.iinc 5 1, 3) := by decide +kernel
theorem dX5_fewestSentHome_66 : decode cX5_fewestSentHome 66 = .ok (.goto (-52), 3) := by decide +kernel
theorem dX5_fewestSentHome_69 : decode cX5_fewestSentHome 69 = .ok (.iload 4, 2) := by decide +kernel
theorem dX5_fewestSentHome_71 : decode cX5_fewestSentHome 71 = .ok (.ireturn, 1) := by decide +kernel
set_option maxRecDepth 20000 in
theorem ggX5_firstNotSo_X4_copyFrom : GoodIn wsX5_firstNotSo wsX4_copyFrom := goodIn_r _ [7, 8, 9, 10, 11, 12, 13, 14, 15, 16, 131, 132, 133, 134, 135, 136] (by decide +kernel) (by decide +kernel)
set_option maxRecDepth 20000 in
theorem gX5_firstNotSo_X4_copyFrom : GoodIn wsX5_firstNotSo (wsV RX5 27 RX4 yX4_copyFrom wsX4_copyFrom) := goodIn_app (goodIn_of _ (by decide +kernel)) ggX5_firstNotSo_X4_copyFrom
set_option maxRecDepth 20000 in
theorem ggX5_firstNotSo_X5_isSo : GoodIn wsX5_firstNotSo wsX5_isSo := goodIn_r _ [21, 22, 1, 23, 24, 25, 26, 27, 28, 29, 30, 31, 6, 32, 33, 34, 15, 14, 35, 13, 36, 37, 38, 39, 40, 41, 42, 43, 44, 45, 46, 47, 48, 49, 50, 51, 52, 53, 54, 55, 56, 57, 58, 59, 60, 61, 8, 62, 63, 64, 65, 66, 67, 68, 69, 70, 71, 72, 73, 74, 75, 76, 77, 78, 79, 80, 81, 82, 83, 20, 84, 85, 86, 87, 88, 89, 90, 91, 92, 93, 94, 95, 96, 97, 98, 99, 100, 101, 102, 103, 104, 105, 106, 107, 108, 109, 110, 111, 112, 113, 114, 115, 116, 117, 118, 119, 120, 121, 16, 122, 123, 124, 125, 126, 127, 128, 129, 130, 137, 138, 139, 140, 141, 142, 143, 144, 131, 132, 133, 134, 135, 136] (by decide +kernel) (by decide +kernel)
set_option maxRecDepth 20000 in
theorem gX5_firstNotSo_X5_isSo : GoodIn wsX5_firstNotSo (wsV RX5 71 RX5 yX5_isSo wsX5_isSo) := goodIn_app (goodIn_of _ (by decide +kernel)) ggX5_firstNotSo_X5_isSo
theorem dX5_firstNotSo_0 : decode cX5_firstNotSo 0 = .ok (.aload_n 0, 1) := by decide +kernel
theorem dX5_firstNotSo_1 : decode cX5_firstNotSo 1 = .ok (.getfield 20, 3) := by decide +kernel
theorem dX5_firstNotSo_4 : decode cX5_firstNotSo 4 = .ok (.aload_n 1, 1) := by decide +kernel
theorem dX5_firstNotSo_5 : decode cX5_firstNotSo 5 = .ok (.invokevirtual 27, 3) := by decide +kernel
theorem dX5_firstNotSo_8 : decode cX5_firstNotSo 8 = .ok (.lload_n 3, 1) := by decide +kernel
theorem dX5_firstNotSo_9 : decode cX5_firstNotSo 9 = .ok (.lstore 7, 2) := by decide +kernel
theorem dX5_firstNotSo_11 : decode cX5_firstNotSo 11 = .ok (.iconst 0, 1) := by decide +kernel
theorem dX5_firstNotSo_12 : decode cX5_firstNotSo 12 = .ok (.istore 9, 2) := by decide +kernel
theorem dX5_firstNotSo_14 : decode cX5_firstNotSo 14 = .ok (.iload 9, 2) := by decide +kernel
theorem dX5_firstNotSo_16 : decode cX5_firstNotSo 16 = .ok (.iload_n 2, 1) := by decide +kernel
theorem dX5_firstNotSo_17 : decode cX5_firstNotSo 17 = .ok (.if_icmp .ge 64, 3) := by decide +kernel
theorem dX5_firstNotSo_20 : decode cX5_firstNotSo 20 = .ok (.lload 7, 2) := by decide +kernel
theorem dX5_firstNotSo_22 : decode cX5_firstNotSo 22 = .ok (.lconst 0, 1) := by decide +kernel
theorem dX5_firstNotSo_23 : decode cX5_firstNotSo 23 = .ok (.lcmp, 1) := by decide +kernel
theorem dX5_firstNotSo_24 : decode cX5_firstNotSo 24 = .ok (.ifCond .le 57, 3) := by decide +kernel
theorem dX5_firstNotSo_27 : decode cX5_firstNotSo 27 = .ok (.lload 5, 2) := by decide +kernel
theorem dX5_firstNotSo_29 : decode cX5_firstNotSo 29 = .ok (.lload 7, 2) := by decide +kernel
theorem dX5_firstNotSo_31 : decode cX5_firstNotSo 31 = .ok (.ldiv, 1) := by decide +kernel
theorem dX5_firstNotSo_32 : decode cX5_firstNotSo 32 = .ok (.ldc2_w 69, 3) := by decide +kernel
theorem dX5_firstNotSo_35 : decode cX5_firstNotSo 35 = .ok (.lrem, 1) := by decide +kernel
theorem dX5_firstNotSo_36 : decode cX5_firstNotSo 36 = .ok (.l2i, 1) := by decide +kernel
theorem dX5_firstNotSo_37 : decode cX5_firstNotSo 37 = .ok (.istore 10, 2) := by decide +kernel
theorem dX5_firstNotSo_39 : decode cX5_firstNotSo 39 = .ok (.aload_n 0, 1) := by decide +kernel
theorem dX5_firstNotSo_40 : decode cX5_firstNotSo 40 = .ok (.iload 10, 2) := by decide +kernel
theorem dX5_firstNotSo_42 : decode cX5_firstNotSo 42 = .ok (.bipush 100, 2) := by decide +kernel
theorem dX5_firstNotSo_44 : decode cX5_firstNotSo 44 = .ok (.idiv, 1) := by decide +kernel
theorem dX5_firstNotSo_45 : decode cX5_firstNotSo 45 = .ok (.iload 10, 2) := by decide +kernel
theorem dX5_firstNotSo_47 : decode cX5_firstNotSo 47 = .ok (.bipush 10, 2) := by decide +kernel
theorem dX5_firstNotSo_49 : decode cX5_firstNotSo 49 = .ok (.idiv, 1) := by decide +kernel
theorem dX5_firstNotSo_50 : decode cX5_firstNotSo 50 = .ok (.bipush 10, 2) := by decide +kernel
theorem dX5_firstNotSo_52 : decode cX5_firstNotSo 52 = .ok (.irem, 1) := by decide +kernel
theorem dX5_firstNotSo_53 : decode cX5_firstNotSo 53 = .ok (.iload 10, 2) := by decide +kernel
theorem dX5_firstNotSo_55 : decode cX5_firstNotSo 55 = .ok (.bipush 10, 2) := by decide +kernel
theorem dX5_firstNotSo_57 : decode cX5_firstNotSo 57 = .ok (.irem, 1) := by decide +kernel
theorem dX5_firstNotSo_58 : decode cX5_firstNotSo 58 = .ok (.invokevirtual 71, 3) := by decide +kernel
theorem dX5_firstNotSo_61 : decode cX5_firstNotSo 61 = .ok (.ifCond .ne 6, 3) := by decide +kernel
theorem dX5_firstNotSo_64 : decode cX5_firstNotSo 64 = .ok (.iload 9, 2) := by decide +kernel
theorem dX5_firstNotSo_66 : decode cX5_firstNotSo 66 = .ok (.ireturn, 1) := by decide +kernel
theorem dX5_firstNotSo_67 : decode cX5_firstNotSo 67 = .ok (.lload 7, 2) := by decide +kernel
theorem dX5_firstNotSo_69 : decode cX5_firstNotSo 69 = .ok (.ldc2_w 69, 3) := by decide +kernel
theorem dX5_firstNotSo_72 : decode cX5_firstNotSo 72 = .ok (.ldiv, 1) := by decide +kernel
theorem dX5_firstNotSo_73 : decode cX5_firstNotSo 73 = .ok (.lstore 7, 2) := by decide +kernel
theorem dX5_firstNotSo_75 : decode cX5_firstNotSo 75 = .ok (.iinc 9 1, 3) := by decide +kernel
theorem dX5_firstNotSo_78 : decode cX5_firstNotSo 78 = .ok (.goto (-64), 3) := by decide +kernel
theorem dX5_firstNotSo_81 : decode cX5_firstNotSo 81 = .ok (.bipush (-9), 2) := by decide +kernel
theorem dX5_firstNotSo_83 : decode cX5_firstNotSo 83 = .ok (.ireturn, 1) := by decide +kernel
set_option maxRecDepth 20000 in
theorem ggX5_isSo_X1_hasPlayer : GoodIn wsX5_isSo wsX1_hasPlayer := goodIn_r _ [7, 8, 118, 119, 120, 121, 122, 123, 124, 125] (by decide +kernel) (by decide +kernel)
set_option maxRecDepth 20000 in
theorem gX5_isSo_X1_hasPlayer : GoodIn wsX5_isSo (wsV RX5 75 RX1 yX1_hasPlayer wsX1_hasPlayer) := goodIn_app (goodIn_of _ (by decide +kernel)) ggX5_isSo_X1_hasPlayer
set_option maxRecDepth 20000 in
theorem ggX5_isSo_X4_bringOut : GoodIn wsX5_isSo wsX4_bringOut := goodIn_r _ [13, 14, 15, 16, 17, 18, 19, 20, 21, 22, 12, 23, 24, 25, 26, 6, 27, 28, 29, 30, 31, 32, 33, 34, 35, 36, 37, 38, 39, 40, 41, 42, 43, 44, 45, 46, 47, 48, 49, 50, 51, 52, 53, 54, 55, 56, 57, 58, 59, 60, 61, 62, 63, 64, 65, 126, 127, 128, 129, 130, 131, 118, 119, 120, 121, 122, 123, 124, 125] (by decide +kernel) (by decide +kernel)
set_option maxRecDepth 20000 in
theorem gX5_isSo_X4_bringOut : GoodIn wsX5_isSo (wsV RX5 31 RX4 yX4_bringOut wsX4_bringOut) := goodIn_app (goodIn_of _ (by decide +kernel)) ggX5_isSo_X4_bringOut
set_option maxRecDepth 20000 in
theorem ggX5_isSo_X5_strewn : GoodIn wsX5_isSo wsX5_strewn := goodIn_r _ [70, 2, 71, 72, 73, 12, 74, 14, 18, 58, 19, 75, 76, 77, 78, 115, 116, 117, 126, 127, 128, 129, 130, 131, 118, 119, 120, 121, 122, 123, 124, 125] (by decide +kernel) (by decide +kernel)
set_option maxRecDepth 20000 in
theorem gX5_isSo_X5_strewn : GoodIn wsX5_isSo (wsV RX5 78 RX5 yX5_strewn wsX5_strewn) := goodIn_app (goodIn_of _ (by decide +kernel)) ggX5_isSo_X5_strewn
set_option maxRecDepth 20000 in
theorem ggX5_isSo_X1_hasHand : GoodIn wsX5_isSo wsX1_hasHand := goodIn_r _ [82, 28, 118, 119, 120, 121, 122, 123, 124, 125] (by decide +kernel) (by decide +kernel)
set_option maxRecDepth 20000 in
theorem gX5_isSo_X1_hasHand : GoodIn wsX5_isSo (wsV RX5 81 RX1 yX1_hasHand wsX1_hasHand) := goodIn_app (goodIn_of _ (by decide +kernel)) ggX5_isSo_X1_hasHand
set_option maxRecDepth 20000 in
theorem ggX5_isSo_X8_isSeat : GoodIn wsX5_isSo wsX8_isSeat := goodIn_r _ [85] (by decide +kernel) (by decide +kernel)
set_option maxRecDepth 20000 in
theorem gX5_isSo_X8_isSeat_n84 : GoodIn wsX5_isSo (wsX8_isSeat) := ggX5_isSo_X8_isSeat
set_option maxRecDepth 20000 in
theorem ggX5_isSo_X5_seated : GoodIn wsX5_isSo wsX5_seated := goodIn_r _ [89, 2, 90, 91, 92, 93, 12, 94, 95, 96, 97, 98, 14, 24, 25, 26, 6, 27, 28, 42, 43, 44, 45, 18, 46, 115, 116, 117, 126, 127, 128, 129, 130, 131, 118, 119, 120, 121, 122, 123, 124, 125] (by decide +kernel) (by decide +kernel)
set_option maxRecDepth 20000 in
theorem gX5_isSo_X5_seated : GoodIn wsX5_isSo (wsV RX5 87 RX5 yX5_seated wsX5_seated) := goodIn_app (goodIn_of _ (by decide +kernel)) ggX5_isSo_X5_seated
set_option maxRecDepth 20000 in
theorem ggX5_isSo_X5_slept : GoodIn wsX5_isSo wsX5_slept := goodIn_r _ [102, 2, 103, 104, 105, 12, 106, 14, 18, 19, 107, 108, 115, 116, 117, 126, 127, 128, 129, 130, 131, 118, 119, 120, 121, 122, 123, 124, 125] (by decide +kernel) (by decide +kernel)
set_option maxRecDepth 20000 in
theorem gX5_isSo_X5_slept : GoodIn wsX5_isSo (wsV RX5 90 RX5 yX5_slept wsX5_slept) := goodIn_app (goodIn_of _ (by decide +kernel)) ggX5_isSo_X5_slept
set_option maxRecDepth 20000 in
theorem ggX5_isSo_X4_isDead : GoodIn wsX5_isSo wsX4_isDead := goodIn_r _ [23, 16, 126, 127, 128, 129, 130, 131] (by decide +kernel) (by decide +kernel)
set_option maxRecDepth 20000 in
theorem gX5_isSo_X4_isDead : GoodIn wsX5_isSo (wsV RX5 94 RX4 yX4_isDead wsX4_isDead) := goodIn_app (goodIn_of _ (by decide +kernel)) ggX5_isSo_X4_isDead
set_option maxRecDepth 20000 in
theorem ggX5_isSo_X1_everyHand : GoodIn wsX5_isSo wsX1_everyHand := goodIn_r _ [27, 28, 118, 119, 120, 121, 122, 123, 124, 125] (by decide +kernel) (by decide +kernel)
set_option maxRecDepth 20000 in
theorem gX5_isSo_X1_everyHand : GoodIn wsX5_isSo (wsV RX5 55 RX1 yX1_everyHand wsX1_everyHand) := goodIn_app (goodIn_of _ (by decide +kernel)) ggX5_isSo_X1_everyHand
set_option maxRecDepth 20000 in
theorem ggX5_isSo_X4_loud : GoodIn wsX5_isSo wsX4_loud := goodIn_r _ [114, 29, 30, 31, 12, 32, 14, 18, 33, 34, 35, 36, 37, 38, 39, 40, 41, 19, 42, 43, 44, 45, 46, 47, 48, 49, 50, 51, 52, 53, 54, 55, 56, 57, 58, 59, 60, 61, 62, 63, 64, 65, 126, 127, 128, 129, 130, 131, 118, 119, 120, 121, 122, 123, 124, 125] (by decide +kernel) (by decide +kernel)
set_option maxRecDepth 20000 in
theorem gX5_isSo_X4_loud : GoodIn wsX5_isSo (wsV RX5 97 RX4 yX4_loud wsX4_loud) := goodIn_app (goodIn_of _ (by decide +kernel)) ggX5_isSo_X4_loud
theorem dX5_isSo_0 : decode cX5_isSo 0 = .ok (.iload_n 1, 1) := by decide +kernel
theorem dX5_isSo_1 : decode cX5_isSo 1 = .ok (.tableswitch 222 1 6 #[39, 71, 100, 133, 154, 186], 39) := by decide +kernel
theorem dX5_isSo_40 : decode cX5_isSo 40 = .ok (.iload_n 2, 1) := by decide +kernel
theorem dX5_isSo_41 : decode cX5_isSo 41 = .ok (.ifCond .ne 29, 3) := by decide +kernel
theorem dX5_isSo_44 : decode cX5_isSo 44 = .ok (.aload_n 0, 1) := by decide +kernel
theorem dX5_isSo_45 : decode cX5_isSo 45 = .ok (.getfield 9, 3) := by decide +kernel
theorem dX5_isSo_48 : decode cX5_isSo 48 = .ok (.iload_n 3, 1) := by decide +kernel
theorem dX5_isSo_49 : decode cX5_isSo 49 = .ok (.invokevirtual 75, 3) := by decide +kernel
theorem dX5_isSo_52 : decode cX5_isSo 52 = .ok (.ifCond .eq 18, 3) := by decide +kernel
theorem dX5_isSo_55 : decode cX5_isSo 55 = .ok (.aload_n 0, 1) := by decide +kernel
theorem dX5_isSo_56 : decode cX5_isSo 56 = .ok (.getfield 20, 3) := by decide +kernel
theorem dX5_isSo_59 : decode cX5_isSo 59 = .ok (.iload_n 3, 1) := by decide +kernel
theorem dX5_isSo_60 : decode cX5_isSo 60 = .ok (.invokevirtual 31, 3) := by decide +kernel
theorem dX5_isSo_63 : decode cX5_isSo 63 = .ok (.ifCond .eq 7, 3) := by decide +kernel
theorem dX5_isSo_66 : decode cX5_isSo 66 = .ok (.iconst 1, 1) := by decide +kernel
theorem dX5_isSo_67 : decode cX5_isSo 67 = .ok (.goto 4, 3) := by decide +kernel
theorem dX5_isSo_70 : decode cX5_isSo 70 = .ok (.iconst 0, 1) := by decide +kernel
theorem dX5_isSo_71 : decode cX5_isSo 71 = .ok (.ireturn, 1) := by decide +kernel
theorem dX5_isSo_72 : decode cX5_isSo 72 = .ok (.iload_n 2, 1) := by decide +kernel
theorem dX5_isSo_73 : decode cX5_isSo 73 = .ok (.ifCond .ne 26, 3) := by decide +kernel
theorem dX5_isSo_76 : decode cX5_isSo 76 = .ok (.aload_n 0, 1) := by decide +kernel
theorem dX5_isSo_77 : decode cX5_isSo 77 = .ok (.getfield 9, 3) := by decide +kernel
theorem dX5_isSo_80 : decode cX5_isSo 80 = .ok (.iload_n 3, 1) := by decide +kernel
theorem dX5_isSo_81 : decode cX5_isSo 81 = .ok (.invokevirtual 75, 3) := by decide +kernel
theorem dX5_isSo_84 : decode cX5_isSo 84 = .ok (.ifCond .eq 15, 3) := by decide +kernel
theorem dX5_isSo_87 : decode cX5_isSo 87 = .ok (.aload_n 0, 1) := by decide +kernel
theorem dX5_isSo_88 : decode cX5_isSo 88 = .ok (.iload_n 3, 1) := by decide +kernel
theorem dX5_isSo_89 : decode cX5_isSo 89 = .ok (.invokevirtual 78, 3) := by decide +kernel
theorem dX5_isSo_92 : decode cX5_isSo 92 = .ok (.ifCond .eq 7, 3) := by decide +kernel
theorem dX5_isSo_95 : decode cX5_isSo 95 = .ok (.iconst 1, 1) := by decide +kernel
theorem dX5_isSo_96 : decode cX5_isSo 96 = .ok (.goto 4, 3) := by decide +kernel
theorem dX5_isSo_99 : decode cX5_isSo 99 = .ok (.iconst 0, 1) := by decide +kernel
theorem dX5_isSo_100 : decode cX5_isSo 100 = .ok (.ireturn, 1) := by decide +kernel
theorem dX5_isSo_101 : decode cX5_isSo 101 = .ok (.aload_n 0, 1) := by decide +kernel
theorem dX5_isSo_102 : decode cX5_isSo 102 = .ok (.getfield 9, 3) := by decide +kernel
theorem dX5_isSo_105 : decode cX5_isSo 105 = .ok (.iload_n 2, 1) := by decide +kernel
theorem dX5_isSo_106 : decode cX5_isSo 106 = .ok (.invokevirtual 81, 3) := by decide +kernel
theorem dX5_isSo_109 : decode cX5_isSo 109 = .ok (.ifCond .eq 23, 3) := by decide +kernel
theorem dX5_isSo_112 : decode cX5_isSo 112 = .ok (.iload_n 3, 1) := by decide +kernel
theorem dX5_isSo_113 : decode cX5_isSo 113 = .ok (.invokestatic 84, 3) := by decide +kernel
theorem dX5_isSo_116 : decode cX5_isSo 116 = .ok (.ifCond .eq 16, 3) := by decide +kernel
theorem dX5_isSo_119 : decode cX5_isSo 119 = .ok (.aload_n 0, 1) := by decide +kernel
theorem dX5_isSo_120 : decode cX5_isSo 120 = .ok (.iload_n 2, 1) := by decide +kernel
theorem dX5_isSo_121 : decode cX5_isSo 121 = .ok (.iload_n 3, 1) := by decide +kernel
theorem dX5_isSo_122 : decode cX5_isSo 122 = .ok (.invokevirtual 87, 3) := by decide +kernel
theorem dX5_isSo_125 : decode cX5_isSo 125 = .ok (.ifCond .eq 7, 3) := by decide +kernel
theorem dX5_isSo_128 : decode cX5_isSo 128 = .ok (.iconst 1, 1) := by decide +kernel
theorem dX5_isSo_129 : decode cX5_isSo 129 = .ok (.goto 4, 3) := by decide +kernel
theorem dX5_isSo_132 : decode cX5_isSo 132 = .ok (.iconst 0, 1) := by decide +kernel
theorem dX5_isSo_133 : decode cX5_isSo 133 = .ok (.ireturn, 1) := by decide +kernel
theorem dX5_isSo_134 : decode cX5_isSo 134 = .ok (.iload_n 2, 1) := by decide +kernel
theorem dX5_isSo_135 : decode cX5_isSo 135 = .ok (.ifCond .ne 18, 3) := by decide +kernel
theorem dX5_isSo_138 : decode cX5_isSo 138 = .ok (.iload_n 3, 1) := by decide +kernel
theorem dX5_isSo_139 : decode cX5_isSo 139 = .ok (.ifCond .ne 14, 3) := by decide +kernel
theorem dX5_isSo_142 : decode cX5_isSo 142 = .ok (.aload_n 0, 1) := by decide +kernel
theorem dX5_isSo_143 : decode cX5_isSo 143 = .ok (.invokevirtual 90, 3) := by decide +kernel
theorem dX5_isSo_146 : decode cX5_isSo 146 = .ok (.ifCond .eq 7, 3) := by decide +kernel
theorem dX5_isSo_149 : decode cX5_isSo 149 = .ok (.iconst 1, 1) := by decide +kernel
theorem dX5_isSo_150 : decode cX5_isSo 150 = .ok (.goto 4, 3) := by decide +kernel
theorem dX5_isSo_153 : decode cX5_isSo 153 = .ok (.iconst 0, 1) := by decide +kernel
theorem dX5_isSo_154 : decode cX5_isSo 154 = .ok (.ireturn, 1) := by decide +kernel
theorem dX5_isSo_155 : decode cX5_isSo 155 = .ok (.iload_n 2, 1) := by decide +kernel
theorem dX5_isSo_156 : decode cX5_isSo 156 = .ok (.ifCond .ne 29, 3) := by decide +kernel
theorem dX5_isSo_159 : decode cX5_isSo 159 = .ok (.aload_n 0, 1) := by decide +kernel
theorem dX5_isSo_160 : decode cX5_isSo 160 = .ok (.getfield 9, 3) := by decide +kernel
theorem dX5_isSo_163 : decode cX5_isSo 163 = .ok (.iload_n 3, 1) := by decide +kernel
theorem dX5_isSo_164 : decode cX5_isSo 164 = .ok (.invokevirtual 75, 3) := by decide +kernel
theorem dX5_isSo_167 : decode cX5_isSo 167 = .ok (.ifCond .eq 18, 3) := by decide +kernel
theorem dX5_isSo_170 : decode cX5_isSo 170 = .ok (.aload_n 0, 1) := by decide +kernel
theorem dX5_isSo_171 : decode cX5_isSo 171 = .ok (.getfield 20, 3) := by decide +kernel
theorem dX5_isSo_174 : decode cX5_isSo 174 = .ok (.iload_n 3, 1) := by decide +kernel
theorem dX5_isSo_175 : decode cX5_isSo 175 = .ok (.invokevirtual 94, 3) := by decide +kernel
theorem dX5_isSo_178 : decode cX5_isSo 178 = .ok (.ifCond .ne 7, 3) := by decide +kernel
theorem dX5_isSo_181 : decode cX5_isSo 181 = .ok (.iconst 1, 1) := by decide +kernel
theorem dX5_isSo_182 : decode cX5_isSo 182 = .ok (.goto 4, 3) := by decide +kernel
theorem dX5_isSo_185 : decode cX5_isSo 185 = .ok (.iconst 0, 1) := by decide +kernel
theorem dX5_isSo_186 : decode cX5_isSo 186 = .ok (.ireturn, 1) := by decide +kernel
theorem dX5_isSo_187 : decode cX5_isSo 187 = .ok (.aload_n 0, 1) := by decide +kernel
theorem dX5_isSo_188 : decode cX5_isSo 188 = .ok (.getfield 9, 3) := by decide +kernel
theorem dX5_isSo_191 : decode cX5_isSo 191 = .ok (.iload_n 2, 1) := by decide +kernel
theorem dX5_isSo_192 : decode cX5_isSo 192 = .ok (.invokevirtual 75, 3) := by decide +kernel
theorem dX5_isSo_195 : decode cX5_isSo 195 = .ok (.ifCond .eq 26, 3) := by decide +kernel
theorem dX5_isSo_198 : decode cX5_isSo 198 = .ok (.aload_n 0, 1) := by decide +kernel
theorem dX5_isSo_199 : decode cX5_isSo 199 = .ok (.getfield 20, 3) := by decide +kernel
theorem dX5_isSo_202 : decode cX5_isSo 202 = .ok (.iload_n 2, 1) := by decide +kernel
theorem dX5_isSo_203 : decode cX5_isSo 203 = .ok (.aload_n 0, 1) := by decide +kernel
theorem dX5_isSo_204 : decode cX5_isSo 204 = .ok (.getfield 9, 3) := by decide +kernel
theorem dX5_isSo_207 : decode cX5_isSo 207 = .ok (.invokevirtual 55, 3) := by decide +kernel
theorem dX5_isSo_210 : decode cX5_isSo 210 = .ok (.invokevirtual 97, 3) := by decide +kernel
theorem dX5_isSo_213 : decode cX5_isSo 213 = .ok (.iload_n 3, 1) := by decide +kernel
theorem dX5_isSo_214 : decode cX5_isSo 214 = .ok (.if_icmp .lt 7, 3) := by decide +kernel
theorem dX5_isSo_217 : decode cX5_isSo 217 = .ok (.iconst 1, 1) := by decide +kernel
theorem dX5_isSo_218 : decode cX5_isSo 218 = .ok (.goto 4, 3) := by decide +kernel
theorem dX5_isSo_221 : decode cX5_isSo 221 = .ok (.iconst 0, 1) := by decide +kernel
theorem dX5_isSo_222 : decode cX5_isSo 222 = .ok (.ireturn, 1) := by decide +kernel
theorem dX5_isSo_223 : decode cX5_isSo 223 = .ok (.iconst 0, 1) := by decide +kernel
theorem dX5_isSo_224 : decode cX5_isSo 224 = .ok (.ireturn, 1) := by decide +kernel
set_option maxRecDepth 20000 in
theorem ggX5_strewn_X4_strew : GoodIn wsX5_strewn wsX4_strew := goodIn_r _ [6, 7, 8, 9, 10, 11, 12, 13, 14, 18, 19, 20, 21, 22, 23, 24, 25, 26, 27, 28, 29, 30, 31] (by decide +kernel) (by decide +kernel)
set_option maxRecDepth 20000 in
theorem gX5_strewn_X4_strew : GoodIn wsX5_strewn (wsV RX5 51 RX4 yX4_strew wsX4_strew) := goodIn_app (goodIn_of _ (by decide +kernel)) ggX5_strewn_X4_strew
theorem dX5_strewn_0 : decode cX5_strewn 0 = .ok (.aload_n 0, 1) := by decide +kernel
theorem dX5_strewn_1 : decode cX5_strewn 1 = .ok (.getfield 20, 3) := by decide +kernel
theorem dX5_strewn_4 : decode cX5_strewn 4 = .ok (.iload_n 1, 1) := by decide +kernel
theorem dX5_strewn_5 : decode cX5_strewn 5 = .ok (.iconst 1, 1) := by decide +kernel
theorem dX5_strewn_6 : decode cX5_strewn 6 = .ok (.invokevirtual 51, 3) := by decide +kernel
theorem dX5_strewn_9 : decode cX5_strewn 9 = .ok (.iconst 1, 1) := by decide +kernel
theorem dX5_strewn_10 : decode cX5_strewn 10 = .ok (.ireturn, 1) := by decide +kernel
set_option maxRecDepth 20000 in
theorem ggX5_seated_X4_isTaken : GoodIn wsX5_seated wsX4_isTaken := goodIn_r _ [7, 8, 9, 10, 6, 11, 12, 13, 14, 15, 16, 17, 18, 19, 20, 21, 22, 23, 24, 28, 29, 30, 31, 32, 33, 34, 35, 36, 37, 38, 39, 40, 41] (by decide +kernel) (by decide +kernel)
set_option maxRecDepth 20000 in
theorem gX5_seated_X4_isTaken : GoodIn wsX5_seated (wsV RX5 39 RX4 yX4_isTaken wsX4_isTaken) := goodIn_app (goodIn_of _ (by decide +kernel)) ggX5_seated_X4_isTaken
theorem dX5_seated_0 : decode cX5_seated 0 = .ok (.aload_n 0, 1) := by decide +kernel
theorem dX5_seated_1 : decode cX5_seated 1 = .ok (.getfield 20, 3) := by decide +kernel
theorem dX5_seated_4 : decode cX5_seated 4 = .ok (.iload_n 2, 1) := by decide +kernel
theorem dX5_seated_5 : decode cX5_seated 5 = .ok (.invokevirtual 39, 3) := by decide +kernel
theorem dX5_seated_8 : decode cX5_seated 8 = .ok (.ifCond .eq 5, 3) := by decide +kernel
theorem dX5_seated_11 : decode cX5_seated 11 = .ok (.iconst 0, 1) := by decide +kernel
theorem dX5_seated_12 : decode cX5_seated 12 = .ok (.ireturn, 1) := by decide +kernel
theorem dX5_seated_13 : decode cX5_seated 13 = .ok (.aload_n 0, 1) := by decide +kernel
theorem dX5_seated_14 : decode cX5_seated 14 = .ok (.getfield 20, 3) := by decide +kernel
theorem dX5_seated_17 : decode cX5_seated 17 = .ok (.getfield 35, 3) := by decide +kernel
theorem dX5_seated_20 : decode cX5_seated 20 = .ok (.iload_n 1, 1) := by decide +kernel
theorem dX5_seated_21 : decode cX5_seated 21 = .ok (.iload_n 2, 1) := by decide +kernel
theorem dX5_seated_22 : decode cX5_seated 22 = .ok (.iastore, 1) := by decide +kernel
theorem dX5_seated_23 : decode cX5_seated 23 = .ok (.iconst 1, 1) := by decide +kernel
theorem dX5_seated_24 : decode cX5_seated 24 = .ok (.ireturn, 1) := by decide +kernel
set_option maxRecDepth 20000 in
theorem ggX5_slept_X4_sleep : GoodIn wsX5_slept wsX4_sleep := goodIn_r _ [6, 7, 8, 9, 10, 11, 15, 16, 17, 18, 19, 20, 21, 22, 23, 24, 25, 26, 27, 28] (by decide +kernel) (by decide +kernel)
set_option maxRecDepth 20000 in
theorem gX5_slept_X4_sleep : GoodIn wsX5_slept (wsV RX5 101 RX4 yX4_sleep wsX4_sleep) := goodIn_app (goodIn_of _ (by decide +kernel)) ggX5_slept_X4_sleep
theorem dX5_slept_0 : decode cX5_slept 0 = .ok (.aload_n 0, 1) := by decide +kernel
theorem dX5_slept_1 : decode cX5_slept 1 = .ok (.getfield 20, 3) := by decide +kernel
theorem dX5_slept_4 : decode cX5_slept 4 = .ok (.invokevirtual 101, 3) := by decide +kernel
theorem dX5_slept_7 : decode cX5_slept 7 = .ok (.iconst 1, 1) := by decide +kernel
theorem dX5_slept_8 : decode cX5_slept 8 = .ok (.ireturn, 1) := by decide +kernel
theorem dX6_init_0 : decode cX6_init 0 = .ok (.aload_n 0, 1) := by decide +kernel
theorem dX6_init_1 : decode cX6_init 1 = .ok (.invokespecial 3, 3) := by decide +kernel
theorem dX6_init_4 : decode cX6_init 4 = .ok (.aload_n 0, 1) := by decide +kernel
theorem dX6_init_5 : decode cX6_init 5 = .ok (.bipush 48, 2) := by decide +kernel
theorem dX6_init_7 : decode cX6_init 7 = .ok (.newarray .int, 2) := by decide +kernel
theorem dX6_init_9 : decode cX6_init 9 = .ok (.putfield 9, 3) := by decide +kernel
theorem dX6_init_12 : decode cX6_init 12 = .ok (.return_, 1) := by decide +kernel
theorem dX6_append_0 : decode cX6_append 0 = .ok (.aload_n 0, 1) := by decide +kernel
theorem dX6_append_1 : decode cX6_append 1 = .ok (.getfield 15, 3) := by decide +kernel
theorem dX6_append_4 : decode cX6_append 4 = .ok (.bipush 48, 2) := by decide +kernel
theorem dX6_append_6 : decode cX6_append 6 = .ok (.if_icmp .lt 6, 3) := by decide +kernel
theorem dX6_append_9 : decode cX6_append 9 = .ok (.bipush (-4), 2) := by decide +kernel
theorem dX6_append_11 : decode cX6_append 11 = .ok (.ireturn, 1) := by decide +kernel
theorem dX6_append_12 : decode cX6_append 12 = .ok (.aload_n 0, 1) := by decide +kernel
theorem dX6_append_13 : decode cX6_append 13 = .ok (.getfield 9, 3) := by decide +kernel
theorem dX6_append_16 : decode cX6_append 16 = .ok (.aload_n 0, 1) := by decide +kernel
theorem dX6_append_17 : decode cX6_append 17 = .ok (.getfield 15, 3) := by decide +kernel
theorem dX6_append_20 : decode cX6_append 20 = .ok (.iload_n 1, 1) := by decide +kernel
theorem dX6_append_21 : decode cX6_append 21 = .ok (.iastore, 1) := by decide +kernel
theorem dX6_append_22 : decode cX6_append 22 = .ok (.aload_n 0, 1) := by decide +kernel
theorem dX6_append_23 : decode cX6_append 23 = .ok (.dup, 1) := by decide +kernel
theorem dX6_append_24 : decode cX6_append 24 = .ok (.getfield 15, 3) := by decide +kernel
theorem dX6_append_27 : decode cX6_append 27 = .ok (.iconst 1, 1) := by decide +kernel
theorem dX6_append_28 : decode cX6_append 28 = .ok (.iadd, 1) := by decide +kernel
theorem dX6_append_29 : decode cX6_append 29 = .ok (.putfield 15, 3) := by decide +kernel
theorem dX6_append_32 : decode cX6_append 32 = .ok (.aload_n 0, 1) := by decide +kernel
theorem dX6_append_33 : decode cX6_append 33 = .ok (.getfield 15, 3) := by decide +kernel
theorem dX6_append_36 : decode cX6_append 36 = .ok (.ireturn, 1) := by decide +kernel
theorem dX6_empty_0 : decode cX6_empty 0 = .ok (.aload_n 0, 1) := by decide +kernel
theorem dX6_empty_1 : decode cX6_empty 1 = .ok (.getfield 15, 3) := by decide +kernel
theorem dX6_empty_4 : decode cX6_empty 4 = .ok (.istore_n 1, 1) := by decide +kernel
theorem dX6_empty_5 : decode cX6_empty 5 = .ok (.aload_n 0, 1) := by decide +kernel
theorem dX6_empty_6 : decode cX6_empty 6 = .ok (.iconst 0, 1) := by decide +kernel
theorem dX6_empty_7 : decode cX6_empty 7 = .ok (.putfield 15, 3) := by decide +kernel
theorem dX6_empty_10 : decode cX6_empty 10 = .ok (.iload_n 1, 1) := by decide +kernel
theorem dX6_empty_11 : decode cX6_empty 11 = .ok (.ireturn, 1) := by decide +kernel
set_option maxRecDepth 20000 in
theorem ggX6_tellTo_X1_clear : GoodIn wsX6_tellTo wsX1_clear := goodIn_r _ [7, 8, 9, 10, 48, 49, 50, 51, 52, 53, 54, 55] (by decide +kernel) (by decide +kernel)
set_option maxRecDepth 20000 in
theorem gX6_tellTo_X1_clear : GoodIn wsX6_tellTo (wsV RX6 19 RX1 yX1_clear wsX1_clear) := goodIn_app (goodIn_of _ (by decide +kernel)) ggX6_tellTo_X1_clear
set_option maxRecDepth 20000 in
theorem ggX6_tellTo_X6_readPlayer : GoodIn wsX6_tellTo wsX6_readPlayer := goodIn_r _ [15, 16, 1, 2, 17, 18, 19, 6, 20, 8, 21, 48, 49, 50, 51, 52, 53, 54, 55, 46, 47] (by decide +kernel) (by decide +kernel)
set_option maxRecDepth 20000 in
theorem gX6_tellTo_X6_readPlayer : GoodIn wsX6_tellTo (wsV RX6 24 RX6 yX6_readPlayer wsX6_readPlayer) := goodIn_app (goodIn_of _ (by decide +kernel)) ggX6_tellTo_X6_readPlayer
set_option maxRecDepth 20000 in
theorem ggX6_tellTo_X6_readHand : GoodIn wsX6_tellTo wsX6_readHand := goodIn_r _ [25, 2, 16, 26, 1, 27, 28, 14, 29, 30, 31, 32, 33, 34, 35, 36, 6, 37, 8, 38, 39, 40, 41, 9, 42, 43, 44, 45, 10, 46, 47, 48, 49, 50, 51, 52, 53, 54, 55] (by decide +kernel) (by decide +kernel)
set_option maxRecDepth 20000 in
theorem gX6_tellTo_X6_readHand : GoodIn wsX6_tellTo (wsV RX6 28 RX6 yX6_readHand wsX6_readHand) := goodIn_app (goodIn_of _ (by decide +kernel)) ggX6_tellTo_X6_readHand
theorem dX6_tellTo_0 : decode cX6_tellTo 0 = .ok (.aload_n 1, 1) := by decide +kernel
theorem dX6_tellTo_1 : decode cX6_tellTo 1 = .ok (.invokevirtual 19, 3) := by decide +kernel
theorem dX6_tellTo_4 : decode cX6_tellTo 4 = .ok (.aload_n 0, 1) := by decide +kernel
theorem dX6_tellTo_5 : decode cX6_tellTo 5 = .ok (.getfield 15, 3) := by decide +kernel
theorem dX6_tellTo_8 : decode cX6_tellTo 8 = .ok (.ifCond .eq 14, 3) := by decide +kernel
theorem dX6_tellTo_11 : decode cX6_tellTo 11 = .ok (.aload_n 0, 1) := by decide +kernel
theorem dX6_tellTo_12 : decode cX6_tellTo 12 = .ok (.getfield 9, 3) := by decide +kernel
theorem dX6_tellTo_15 : decode cX6_tellTo 15 = .ok (.iconst 0, 1) := by decide +kernel
theorem dX6_tellTo_16 : decode cX6_tellTo 16 = .ok (.iaload, 1) := by decide +kernel
theorem dX6_tellTo_17 : decode cX6_tellTo 17 = .ok (.bipush 72, 2) := by decide +kernel
theorem dX6_tellTo_19 : decode cX6_tellTo 19 = .ok (.if_icmp .eq 5, 3) := by decide +kernel
theorem dX6_tellTo_22 : decode cX6_tellTo 22 = .ok (.iconst 0, 1) := by decide +kernel
theorem dX6_tellTo_23 : decode cX6_tellTo 23 = .ok (.ireturn, 1) := by decide +kernel
theorem dX6_tellTo_24 : decode cX6_tellTo 24 = .ok (.iconst 1, 1) := by decide +kernel
theorem dX6_tellTo_25 : decode cX6_tellTo 25 = .ok (.istore_n 2, 1) := by decide +kernel
theorem dX6_tellTo_26 : decode cX6_tellTo 26 = .ok (.iload_n 2, 1) := by decide +kernel
theorem dX6_tellTo_27 : decode cX6_tellTo 27 = .ok (.aload_n 0, 1) := by decide +kernel
theorem dX6_tellTo_28 : decode cX6_tellTo 28 = .ok (.getfield 15, 3) := by decide +kernel
theorem dX6_tellTo_31 : decode cX6_tellTo 31 = .ok (.if_icmp .ge 60, 3) := by decide +kernel
theorem dX6_tellTo_34 : decode cX6_tellTo 34 = .ok (.aload_n 0, 1) := by decide +kernel
theorem dX6_tellTo_35 : decode cX6_tellTo 35 = .ok (.getfield 9, 3) := by decide +kernel
theorem dX6_tellTo_38 : decode cX6_tellTo 38 = .ok (.iload_n 2, 1) := by decide +kernel
theorem dX6_tellTo_39 : decode cX6_tellTo 39 = .ok (.iaload, 1) := by decide +kernel
theorem dX6_tellTo_40 : decode cX6_tellTo 40 = .ok (.bipush 80, 2) := by decide +kernel
theorem dX6_tellTo_42 : decode cX6_tellTo 42 = .ok (.if_icmp .ne 12, 3) := by decide +kernel
theorem dX6_tellTo_45 : decode cX6_tellTo 45 = .ok (.aload_n 0, 1) := by decide +kernel
theorem dX6_tellTo_46 : decode cX6_tellTo 46 = .ok (.iload_n 2, 1) := by decide +kernel
theorem dX6_tellTo_47 : decode cX6_tellTo 47 = .ok (.aload_n 1, 1) := by decide +kernel
theorem dX6_tellTo_48 : decode cX6_tellTo 48 = .ok (.invokevirtual 24, 3) := by decide +kernel
theorem dX6_tellTo_51 : decode cX6_tellTo 51 = .ok (.goto 9, 3) := by decide +kernel
theorem dX6_tellTo_54 : decode cX6_tellTo 54 = .ok (.aload_n 0, 1) := by decide +kernel
theorem dX6_tellTo_55 : decode cX6_tellTo 55 = .ok (.iload_n 2, 1) := by decide +kernel
theorem dX6_tellTo_56 : decode cX6_tellTo 56 = .ok (.aload_n 1, 1) := by decide +kernel
theorem dX6_tellTo_57 : decode cX6_tellTo 57 = .ok (.invokevirtual 28, 3) := by decide +kernel
theorem dX6_tellTo_60 : decode cX6_tellTo 60 = .ok (.istore_n 3, 1) := by decide +kernel
theorem dX6_tellTo_61 : decode cX6_tellTo 61 = .ok (.iload_n 3, 1) := by decide +kernel
theorem dX6_tellTo_62 : decode cX6_tellTo 62 = .ok (.bipush (-9), 2) := by decide +kernel
theorem dX6_tellTo_64 : decode cX6_tellTo 64 = .ok (.if_icmp .eq 5, 3) := by decide +kernel
theorem dX6_tellTo_67 : decode cX6_tellTo 67 = .ok (.iload_n 3, 1) := by decide +kernel
theorem dX6_tellTo_68 : decode cX6_tellTo 68 = .ok (.ireturn, 1) := by decide +kernel
theorem dX6_tellTo_69 : decode cX6_tellTo 69 = .ok (.iload_n 2, 1) := by decide +kernel
theorem dX6_tellTo_70 : decode cX6_tellTo 70 = .ok (.aload_n 0, 1) := by decide +kernel
theorem dX6_tellTo_71 : decode cX6_tellTo 71 = .ok (.getfield 9, 3) := by decide +kernel
theorem dX6_tellTo_74 : decode cX6_tellTo 74 = .ok (.iload_n 2, 1) := by decide +kernel
theorem dX6_tellTo_75 : decode cX6_tellTo 75 = .ok (.iaload, 1) := by decide +kernel
theorem dX6_tellTo_76 : decode cX6_tellTo 76 = .ok (.bipush 80, 2) := by decide +kernel
theorem dX6_tellTo_78 : decode cX6_tellTo 78 = .ok (.if_icmp .ne 7, 3) := by decide +kernel
theorem dX6_tellTo_81 : decode cX6_tellTo 81 = .ok (.iconst 2, 1) := by decide +kernel
theorem dX6_tellTo_82 : decode cX6_tellTo 82 = .ok (.goto 4, 3) := by decide +kernel
theorem dX6_tellTo_85 : decode cX6_tellTo 85 = .ok (.iconst 5, 1) := by decide +kernel
theorem dX6_tellTo_86 : decode cX6_tellTo 86 = .ok (.iadd, 1) := by decide +kernel
theorem dX6_tellTo_87 : decode cX6_tellTo 87 = .ok (.istore_n 2, 1) := by decide +kernel
theorem dX6_tellTo_88 : decode cX6_tellTo 88 = .ok (.goto (-62), 3) := by decide +kernel
theorem dX6_tellTo_91 : decode cX6_tellTo 91 = .ok (.bipush (-9), 2) := by decide +kernel
theorem dX6_tellTo_93 : decode cX6_tellTo 93 = .ok (.ireturn, 1) := by decide +kernel
set_option maxRecDepth 20000 in
theorem ggX6_readPlayer_X1_addPlayer : GoodIn wsX6_readPlayer wsX1_addPlayer := goodIn_r _ [8, 9, 10, 11, 12, 13, 14, 15, 16, 17, 18] (by decide +kernel) (by decide +kernel)
set_option maxRecDepth 20000 in
theorem gX6_readPlayer_X1_addPlayer : GoodIn wsX6_readPlayer (wsV RX6 34 RX1 yX1_addPlayer wsX1_addPlayer) := goodIn_app (goodIn_of _ (by decide +kernel)) ggX6_readPlayer_X1_addPlayer
theorem dX6_readPlayer_0 : decode cX6_readPlayer 0 = .ok (.aload_n 2, 1) := by decide +kernel
theorem dX6_readPlayer_1 : decode cX6_readPlayer 1 = .ok (.getfield 31, 3) := by decide +kernel
theorem dX6_readPlayer_4 : decode cX6_readPlayer 4 = .ok (.iconst 3, 1) := by decide +kernel
theorem dX6_readPlayer_5 : decode cX6_readPlayer 5 = .ok (.if_icmp .lt 5, 3) := by decide +kernel
theorem dX6_readPlayer_8 : decode cX6_readPlayer 8 = .ok (.iload_n 1, 1) := by decide +kernel
theorem dX6_readPlayer_9 : decode cX6_readPlayer 9 = .ok (.ireturn, 1) := by decide +kernel
theorem dX6_readPlayer_10 : decode cX6_readPlayer 10 = .ok (.iload_n 1, 1) := by decide +kernel
theorem dX6_readPlayer_11 : decode cX6_readPlayer 11 = .ok (.iconst 1, 1) := by decide +kernel
theorem dX6_readPlayer_12 : decode cX6_readPlayer 12 = .ok (.iadd, 1) := by decide +kernel
theorem dX6_readPlayer_13 : decode cX6_readPlayer 13 = .ok (.aload_n 0, 1) := by decide +kernel
theorem dX6_readPlayer_14 : decode cX6_readPlayer 14 = .ok (.getfield 15, 3) := by decide +kernel
theorem dX6_readPlayer_17 : decode cX6_readPlayer 17 = .ok (.if_icmp .lt 8, 3) := by decide +kernel
theorem dX6_readPlayer_20 : decode cX6_readPlayer 20 = .ok (.aload_n 0, 1) := by decide +kernel
theorem dX6_readPlayer_21 : decode cX6_readPlayer 21 = .ok (.getfield 15, 3) := by decide +kernel
theorem dX6_readPlayer_24 : decode cX6_readPlayer 24 = .ok (.ireturn, 1) := by decide +kernel
theorem dX6_readPlayer_25 : decode cX6_readPlayer 25 = .ok (.aload_n 0, 1) := by decide +kernel
theorem dX6_readPlayer_26 : decode cX6_readPlayer 26 = .ok (.getfield 9, 3) := by decide +kernel
theorem dX6_readPlayer_29 : decode cX6_readPlayer 29 = .ok (.iload_n 1, 1) := by decide +kernel
theorem dX6_readPlayer_30 : decode cX6_readPlayer 30 = .ok (.iconst 1, 1) := by decide +kernel
theorem dX6_readPlayer_31 : decode cX6_readPlayer 31 = .ok (.iadd, 1) := by decide +kernel
theorem dX6_readPlayer_32 : decode cX6_readPlayer 32 = .ok (.iaload, 1) := by decide +kernel
theorem dX6_readPlayer_33 : decode cX6_readPlayer 33 = .ok (.bipush 48, 2) := by decide +kernel
theorem dX6_readPlayer_35 : decode cX6_readPlayer 35 = .ok (.isub, 1) := by decide +kernel
theorem dX6_readPlayer_36 : decode cX6_readPlayer 36 = .ok (.istore_n 3, 1) := by decide +kernel
theorem dX6_readPlayer_37 : decode cX6_readPlayer 37 = .ok (.iload_n 3, 1) := by decide +kernel
theorem dX6_readPlayer_38 : decode cX6_readPlayer 38 = .ok (.iconst 1, 1) := by decide +kernel
theorem dX6_readPlayer_39 : decode cX6_readPlayer 39 = .ok (.if_icmp .lt 9, 3) := by decide +kernel
theorem dX6_readPlayer_42 : decode cX6_readPlayer 42 = .ok (.iload_n 3, 1) := by decide +kernel
theorem dX6_readPlayer_43 : decode cX6_readPlayer 43 = .ok (.bipush 7, 2) := by decide +kernel
theorem dX6_readPlayer_45 : decode cX6_readPlayer 45 = .ok (.if_icmp .le 7, 3) := by decide +kernel
theorem dX6_readPlayer_48 : decode cX6_readPlayer 48 = .ok (.iload_n 1, 1) := by decide +kernel
theorem dX6_readPlayer_49 : decode cX6_readPlayer 49 = .ok (.iconst 1, 1) := by decide +kernel
theorem dX6_readPlayer_50 : decode cX6_readPlayer 50 = .ok (.iadd, 1) := by decide +kernel
theorem dX6_readPlayer_51 : decode cX6_readPlayer 51 = .ok (.ireturn, 1) := by decide +kernel
theorem dX6_readPlayer_52 : decode cX6_readPlayer 52 = .ok (.aload_n 2, 1) := by decide +kernel
theorem dX6_readPlayer_53 : decode cX6_readPlayer 53 = .ok (.iload_n 3, 1) := by decide +kernel
theorem dX6_readPlayer_54 : decode cX6_readPlayer 54 = .ok (.invokevirtual 34, 3) := by decide +kernel
theorem dX6_readPlayer_57 : decode cX6_readPlayer 57 = .ok (.bipush (-9), 2) := by decide +kernel
theorem dX6_readPlayer_59 : decode cX6_readPlayer 59 = .ok (.ireturn, 1) := by decide +kernel
set_option maxRecDepth 20000 in
theorem ggX6_readHand_X6_fits : GoodIn wsX6_readHand wsX6_fits := goodIn_r _ [8, 9, 10, 11, 12, 13, 14, 15, 16, 17, 18, 31, 32, 33, 34, 35, 36, 37, 38] (by decide +kernel) (by decide +kernel)
set_option maxRecDepth 20000 in
theorem gX6_readHand_X6_fits : GoodIn wsX6_readHand (va_wsS RX6 41 yX6_fits wsX6_fits) := goodIn_app (goodIn_of _ (by decide +kernel)) ggX6_readHand_X6_fits
set_option maxRecDepth 20000 in
theorem ggX6_readHand_X1_addHand : GoodIn wsX6_readHand wsX1_addHand := goodIn_r _ [22, 23, 24, 25, 26, 27, 28, 31, 32, 33, 34, 35, 36, 37, 38] (by decide +kernel) (by decide +kernel)
set_option maxRecDepth 20000 in
theorem gX6_readHand_X1_addHand : GoodIn wsX6_readHand (wsV RX6 45 RX1 yX1_addHand wsX1_addHand) := goodIn_app (goodIn_of _ (by decide +kernel)) ggX6_readHand_X1_addHand
theorem dX6_readHand_0 : decode cX6_readHand 0 = .ok (.aload_n 0, 1) := by decide +kernel
theorem dX6_readHand_1 : decode cX6_readHand 1 = .ok (.getfield 9, 3) := by decide +kernel
theorem dX6_readHand_4 : decode cX6_readHand 4 = .ok (.iload_n 1, 1) := by decide +kernel
theorem dX6_readHand_5 : decode cX6_readHand 5 = .ok (.iaload, 1) := by decide +kernel
theorem dX6_readHand_6 : decode cX6_readHand 6 = .ok (.bipush 68, 2) := by decide +kernel
theorem dX6_readHand_8 : decode cX6_readHand 8 = .ok (.if_icmp .ne 19, 3) := by decide +kernel
theorem dX6_readHand_11 : decode cX6_readHand 11 = .ok (.aload_n 2, 1) := by decide +kernel
theorem dX6_readHand_12 : decode cX6_readHand 12 = .ok (.getfield 31, 3) := by decide +kernel
theorem dX6_readHand_15 : decode cX6_readHand 15 = .ok (.ifCond .eq 12, 3) := by decide +kernel
theorem dX6_readHand_18 : decode cX6_readHand 18 = .ok (.aload_n 2, 1) := by decide +kernel
theorem dX6_readHand_19 : decode cX6_readHand 19 = .ok (.getfield 38, 3) := by decide +kernel
theorem dX6_readHand_22 : decode cX6_readHand 22 = .ok (.bipush 7, 2) := by decide +kernel
theorem dX6_readHand_24 : decode cX6_readHand 24 = .ok (.if_icmp .lt 5, 3) := by decide +kernel
theorem dX6_readHand_27 : decode cX6_readHand 27 = .ok (.iload_n 1, 1) := by decide +kernel
theorem dX6_readHand_28 : decode cX6_readHand 28 = .ok (.ireturn, 1) := by decide +kernel
theorem dX6_readHand_29 : decode cX6_readHand 29 = .ok (.iconst 1, 1) := by decide +kernel
theorem dX6_readHand_30 : decode cX6_readHand 30 = .ok (.istore_n 3, 1) := by decide +kernel
theorem dX6_readHand_31 : decode cX6_readHand 31 = .ok (.iload_n 3, 1) := by decide +kernel
theorem dX6_readHand_32 : decode cX6_readHand 32 = .ok (.iconst 4, 1) := by decide +kernel
theorem dX6_readHand_33 : decode cX6_readHand 33 = .ok (.if_icmp .gt 47, 3) := by decide +kernel
theorem dX6_readHand_36 : decode cX6_readHand 36 = .ok (.iload_n 1, 1) := by decide +kernel
theorem dX6_readHand_37 : decode cX6_readHand 37 = .ok (.iload_n 3, 1) := by decide +kernel
theorem dX6_readHand_38 : decode cX6_readHand 38 = .ok (.iadd, 1) := by decide +kernel
theorem dX6_readHand_39 : decode cX6_readHand 39 = .ok (.aload_n 0, 1) := by decide +kernel
theorem dX6_readHand_40 : decode cX6_readHand 40 = .ok (.getfield 15, 3) := by decide +kernel
theorem dX6_readHand_43 : decode cX6_readHand 43 = .ok (.if_icmp .lt 8, 3) := by decide +kernel
theorem dX6_readHand_46 : decode cX6_readHand 46 = .ok (.aload_n 0, 1) := by decide +kernel
theorem dX6_readHand_47 : decode cX6_readHand 47 = .ok (.getfield 15, 3) := by decide +kernel
theorem dX6_readHand_50 : decode cX6_readHand 50 = .ok (.ireturn, 1) := by decide +kernel
theorem dX6_readHand_51 : decode cX6_readHand 51 = .ok (.iload_n 3, 1) := by decide +kernel
theorem dX6_readHand_52 : decode cX6_readHand 52 = .ok (.aload_n 0, 1) := by decide +kernel
theorem dX6_readHand_53 : decode cX6_readHand 53 = .ok (.getfield 9, 3) := by decide +kernel
theorem dX6_readHand_56 : decode cX6_readHand 56 = .ok (.iload_n 1, 1) := by decide +kernel
theorem dX6_readHand_57 : decode cX6_readHand 57 = .ok (.iload_n 3, 1) := by decide +kernel
theorem dX6_readHand_58 : decode cX6_readHand 58 = .ok (.iadd, 1) := by decide +kernel
theorem dX6_readHand_59 : decode cX6_readHand 59 = .ok (.iaload, 1) := by decide +kernel
theorem dX6_readHand_60 : decode cX6_readHand 60 = .ok (.bipush 48, 2) := by decide +kernel
theorem dX6_readHand_62 : decode cX6_readHand 62 = .ok (.isub, 1) := by decide +kernel
theorem dX6_readHand_63 : decode cX6_readHand 63 = .ok (.aload_n 2, 1) := by decide +kernel
theorem dX6_readHand_64 : decode cX6_readHand 64 = .ok (.invokestatic 41, 3) := by decide +kernel
theorem dX6_readHand_67 : decode cX6_readHand 67 = .ok (.ifCond .ne 7, 3) := by decide +kernel
theorem dX6_readHand_70 : decode cX6_readHand 70 = .ok (.iload_n 1, 1) := by decide +kernel
theorem dX6_readHand_71 : decode cX6_readHand 71 = .ok (.iload_n 3, 1) := by decide +kernel
theorem dX6_readHand_72 : decode cX6_readHand 72 = .ok (.iadd, 1) := by decide +kernel
theorem dX6_readHand_73 : decode cX6_readHand 73 = .ok (.ireturn, 1) := by decide +kernel
theorem dX6_readHand_74 : decode cX6_readHand 74 = .ok (.iinc 3 1, 3) := by decide +kernel
theorem dX6_readHand_77 : decode cX6_readHand 77 = .ok (.goto (-46), 3) := by decide +kernel
theorem dX6_readHand_80 : decode cX6_readHand 80 = .ok (.aload_n 2, 1) := by decide +kernel
theorem dX6_readHand_81 : decode cX6_readHand 81 = .ok (.aload_n 0, 1) := by decide +kernel
theorem dX6_readHand_82 : decode cX6_readHand 82 = .ok (.getfield 9, 3) := by decide +kernel
theorem dX6_readHand_85 : decode cX6_readHand 85 = .ok (.iload_n 1, 1) := by decide +kernel
theorem dX6_readHand_86 : decode cX6_readHand 86 = .ok (.iconst 1, 1) := by decide +kernel
theorem dX6_readHand_87 : decode cX6_readHand 87 = .ok (.iadd, 1) := by decide +kernel
theorem dX6_readHand_88 : decode cX6_readHand 88 = .ok (.iaload, 1) := by decide +kernel
theorem dX6_readHand_89 : decode cX6_readHand 89 = .ok (.bipush 48, 2) := by decide +kernel
theorem dX6_readHand_91 : decode cX6_readHand 91 = .ok (.isub, 1) := by decide +kernel
theorem dX6_readHand_92 : decode cX6_readHand 92 = .ok (.aload_n 0, 1) := by decide +kernel
theorem dX6_readHand_93 : decode cX6_readHand 93 = .ok (.getfield 9, 3) := by decide +kernel
theorem dX6_readHand_96 : decode cX6_readHand 96 = .ok (.iload_n 1, 1) := by decide +kernel
theorem dX6_readHand_97 : decode cX6_readHand 97 = .ok (.iconst 2, 1) := by decide +kernel
theorem dX6_readHand_98 : decode cX6_readHand 98 = .ok (.iadd, 1) := by decide +kernel
theorem dX6_readHand_99 : decode cX6_readHand 99 = .ok (.iaload, 1) := by decide +kernel
theorem dX6_readHand_100 : decode cX6_readHand 100 = .ok (.bipush 48, 2) := by decide +kernel
theorem dX6_readHand_102 : decode cX6_readHand 102 = .ok (.isub, 1) := by decide +kernel
theorem dX6_readHand_103 : decode cX6_readHand 103 = .ok (.aload_n 0, 1) := by decide +kernel
theorem dX6_readHand_104 : decode cX6_readHand 104 = .ok (.getfield 9, 3) := by decide +kernel
theorem dX6_readHand_107 : decode cX6_readHand 107 = .ok (.iload_n 1, 1) := by decide +kernel
theorem dX6_readHand_108 : decode cX6_readHand 108 = .ok (.iconst 3, 1) := by decide +kernel
theorem dX6_readHand_109 : decode cX6_readHand 109 = .ok (.iadd, 1) := by decide +kernel
theorem dX6_readHand_110 : decode cX6_readHand 110 = .ok (.iaload, 1) := by decide +kernel
theorem dX6_readHand_111 : decode cX6_readHand 111 = .ok (.bipush 48, 2) := by decide +kernel
theorem dX6_readHand_113 : decode cX6_readHand 113 = .ok (.isub, 1) := by decide +kernel
theorem dX6_readHand_114 : decode cX6_readHand 114 = .ok (.aload_n 0, 1) := by decide +kernel
theorem dX6_readHand_115 : decode cX6_readHand 115 = .ok (.getfield 9, 3) := by decide +kernel
theorem dX6_readHand_118 : decode cX6_readHand 118 = .ok (.iload_n 1, 1) := by decide +kernel
theorem dX6_readHand_119 : decode cX6_readHand 119 = .ok (.iconst 4, 1) := by decide +kernel
theorem dX6_readHand_120 : decode cX6_readHand 120 = .ok (.iadd, 1) := by decide +kernel
theorem dX6_readHand_121 : decode cX6_readHand 121 = .ok (.iaload, 1) := by decide +kernel
theorem dX6_readHand_122 : decode cX6_readHand 122 = .ok (.bipush 48, 2) := by decide +kernel
theorem dX6_readHand_124 : decode cX6_readHand 124 = .ok (.isub, 1) := by decide +kernel
theorem dX6_readHand_125 : decode cX6_readHand 125 = .ok (.invokevirtual 45, 3) := by decide +kernel
theorem dX6_readHand_128 : decode cX6_readHand 128 = .ok (.bipush (-9), 2) := by decide +kernel
theorem dX6_readHand_130 : decode cX6_readHand 130 = .ok (.ireturn, 1) := by decide +kernel
set_option maxRecDepth 20000 in
theorem ggX6_fits_X8_isSeat : GoodIn wsX6_fits wsX8_isSeat := goodIn_r _ [4] (by decide +kernel) (by decide +kernel)
set_option maxRecDepth 20000 in
theorem gX6_fits_X8_isSeat_n49 : GoodIn wsX6_fits (wsX8_isSeat) := ggX6_fits_X8_isSeat
set_option maxRecDepth 20000 in
theorem ggX6_fits_X1_hasPlayer : GoodIn wsX6_fits wsX1_hasPlayer := goodIn_r _ [9, 10, 11, 12, 13, 14, 15, 16, 17, 18] (by decide +kernel) (by decide +kernel)
set_option maxRecDepth 20000 in
theorem gX6_fits_X1_hasPlayer : GoodIn wsX6_fits (wsV RX6 56 RX1 yX1_hasPlayer wsX1_hasPlayer) := goodIn_app (goodIn_of _ (by decide +kernel)) ggX6_fits_X1_hasPlayer
theorem dX6_fits_0 : decode cX6_fits 0 = .ok (.iload_n 0, 1) := by decide +kernel
theorem dX6_fits_1 : decode cX6_fits 1 = .ok (.tableswitch 74 1 3 #[27, 51, 57], 27) := by decide +kernel
theorem dX6_fits_28 : decode cX6_fits 28 = .ok (.iload_n 1, 1) := by decide +kernel
theorem dX6_fits_29 : decode cX6_fits 29 = .ok (.invokestatic 49, 3) := by decide +kernel
theorem dX6_fits_32 : decode cX6_fits 32 = .ok (.ifCond .eq 18, 3) := by decide +kernel
theorem dX6_fits_35 : decode cX6_fits 35 = .ok (.aload_n 2, 1) := by decide +kernel
theorem dX6_fits_36 : decode cX6_fits 36 = .ok (.getfield 53, 3) := by decide +kernel
theorem dX6_fits_39 : decode cX6_fits 39 = .ok (.iload_n 1, 1) := by decide +kernel
theorem dX6_fits_40 : decode cX6_fits 40 = .ok (.ishr, 1) := by decide +kernel
theorem dX6_fits_41 : decode cX6_fits 41 = .ok (.iconst 1, 1) := by decide +kernel
theorem dX6_fits_42 : decode cX6_fits 42 = .ok (.iand, 1) := by decide +kernel
theorem dX6_fits_43 : decode cX6_fits 43 = .ok (.ifCond .ne 7, 3) := by decide +kernel
theorem dX6_fits_46 : decode cX6_fits 46 = .ok (.iconst 1, 1) := by decide +kernel
theorem dX6_fits_47 : decode cX6_fits 47 = .ok (.goto 4, 3) := by decide +kernel
theorem dX6_fits_50 : decode cX6_fits 50 = .ok (.iconst 0, 1) := by decide +kernel
theorem dX6_fits_51 : decode cX6_fits 51 = .ok (.ireturn, 1) := by decide +kernel
theorem dX6_fits_52 : decode cX6_fits 52 = .ok (.aload_n 2, 1) := by decide +kernel
theorem dX6_fits_53 : decode cX6_fits 53 = .ok (.iload_n 1, 1) := by decide +kernel
theorem dX6_fits_54 : decode cX6_fits 54 = .ok (.invokevirtual 56, 3) := by decide +kernel
theorem dX6_fits_57 : decode cX6_fits 57 = .ok (.ireturn, 1) := by decide +kernel
theorem dX6_fits_58 : decode cX6_fits 58 = .ok (.iload_n 1, 1) := by decide +kernel
theorem dX6_fits_59 : decode cX6_fits 59 = .ok (.iconst 1, 1) := by decide +kernel
theorem dX6_fits_60 : decode cX6_fits 60 = .ok (.if_icmp .lt 13, 3) := by decide +kernel
theorem dX6_fits_63 : decode cX6_fits 63 = .ok (.iload_n 1, 1) := by decide +kernel
theorem dX6_fits_64 : decode cX6_fits 64 = .ok (.bipush 9, 2) := by decide +kernel
theorem dX6_fits_66 : decode cX6_fits 66 = .ok (.if_icmp .gt 7, 3) := by decide +kernel
theorem dX6_fits_69 : decode cX6_fits 69 = .ok (.iconst 1, 1) := by decide +kernel
theorem dX6_fits_70 : decode cX6_fits 70 = .ok (.goto 4, 3) := by decide +kernel
theorem dX6_fits_73 : decode cX6_fits 73 = .ok (.iconst 0, 1) := by decide +kernel
theorem dX6_fits_74 : decode cX6_fits 74 = .ok (.ireturn, 1) := by decide +kernel
theorem dX6_fits_75 : decode cX6_fits 75 = .ok (.iload_n 1, 1) := by decide +kernel
theorem dX6_fits_76 : decode cX6_fits 76 = .ok (.ifCond .lt 12, 3) := by decide +kernel
theorem dX6_fits_79 : decode cX6_fits 79 = .ok (.iload_n 1, 1) := by decide +kernel
theorem dX6_fits_80 : decode cX6_fits 80 = .ok (.iconst 3, 1) := by decide +kernel
theorem dX6_fits_81 : decode cX6_fits 81 = .ok (.if_icmp .gt 7, 3) := by decide +kernel
theorem dX6_fits_84 : decode cX6_fits 84 = .ok (.iconst 1, 1) := by decide +kernel
theorem dX6_fits_85 : decode cX6_fits 85 = .ok (.goto 4, 3) := by decide +kernel
theorem dX6_fits_88 : decode cX6_fits 88 = .ok (.iconst 0, 1) := by decide +kernel
theorem dX6_fits_89 : decode cX6_fits 89 = .ok (.ireturn, 1) := by decide +kernel
set_option maxRecDepth 20000 in
theorem ggX7_init_X4_init : GoodIn wsX7_init wsX4_init := goodIn_r _ [12, 13, 2, 3, 14, 15, 16, 17, 18, 21, 22, 23, 24, 25, 26] (by decide +kernel) (by decide +kernel)
set_option maxRecDepth 20000 in
theorem gX7_init_X4_init : GoodIn wsX7_init (wsX4_init) := ggX7_init_X4_init
theorem dX7_init_0 : decode cX7_init 0 = .ok (.aload_n 0, 1) := by decide +kernel
theorem dX7_init_1 : decode cX7_init 1 = .ok (.invokespecial 3, 3) := by decide +kernel
theorem dX7_init_4 : decode cX7_init 4 = .ok (.aload_n 0, 1) := by decide +kernel
theorem dX7_init_5 : decode cX7_init 5 = .ok (.iconst 2, 1) := by decide +kernel
theorem dX7_init_6 : decode cX7_init 6 = .ok (.anewarray 9, 3) := by decide +kernel
theorem dX7_init_9 : decode cX7_init 9 = .ok (.putfield 11, 3) := by decide +kernel
theorem dX7_init_12 : decode cX7_init 12 = .ok (.aload_n 0, 1) := by decide +kernel
theorem dX7_init_13 : decode cX7_init 13 = .ok (.iconst 2, 1) := by decide +kernel
theorem dX7_init_14 : decode cX7_init 14 = .ok (.newarray .boolean, 2) := by decide +kernel
theorem dX7_init_16 : decode cX7_init 16 = .ok (.putfield 17, 3) := by decide +kernel
theorem dX7_init_19 : decode cX7_init 19 = .ok (.iconst 0, 1) := by decide +kernel
theorem dX7_init_20 : decode cX7_init 20 = .ok (.istore_n 2, 1) := by decide +kernel
theorem dX7_init_21 : decode cX7_init 21 = .ok (.iload_n 2, 1) := by decide +kernel
theorem dX7_init_22 : decode cX7_init 22 = .ok (.iconst 2, 1) := by decide +kernel
theorem dX7_init_23 : decode cX7_init 23 = .ok (.if_icmp .ge 23, 3) := by decide +kernel
theorem dX7_init_26 : decode cX7_init 26 = .ok (.aload_n 0, 1) := by decide +kernel
theorem dX7_init_27 : decode cX7_init 27 = .ok (.getfield 11, 3) := by decide +kernel
theorem dX7_init_30 : decode cX7_init 30 = .ok (.iload_n 2, 1) := by decide +kernel
theorem dX7_init_31 : decode cX7_init 31 = .ok (.new 9, 3) := by decide +kernel
theorem dX7_init_34 : decode cX7_init 34 = .ok (.dup, 1) := by decide +kernel
theorem dX7_init_35 : decode cX7_init 35 = .ok (.aload_n 1, 1) := by decide +kernel
theorem dX7_init_36 : decode cX7_init 36 = .ok (.invokespecial 21, 3) := by decide +kernel
theorem dX7_init_39 : decode cX7_init 39 = .ok (.aastore, 1) := by decide +kernel
theorem dX7_init_40 : decode cX7_init 40 = .ok (.iinc 2 1, 3) := by decide +kernel
theorem dX7_init_43 : decode cX7_init 43 = .ok (.goto (-22), 3) := by decide +kernel
theorem dX7_init_46 : decode cX7_init 46 = .ok (.return_, 1) := by decide +kernel
set_option maxRecDepth 20000 in
theorem ggX7_put_X4_copyFrom : GoodIn wsX7_put wsX4_copyFrom := goodIn_r _ [7, 8, 9, 10, 11, 12, 13, 14, 15, 16, 19, 20, 21, 22, 23, 24] (by decide +kernel) (by decide +kernel)
set_option maxRecDepth 20000 in
theorem gX7_put_X4_copyFrom : GoodIn wsX7_put (wsV RX7 24 RX4 yX4_copyFrom wsX4_copyFrom) := goodIn_app (goodIn_of _ (by decide +kernel)) ggX7_put_X4_copyFrom
theorem dX7_put_0 : decode cX7_put 0 = .ok (.aload_n 0, 1) := by decide +kernel
theorem dX7_put_1 : decode cX7_put 1 = .ok (.getfield 11, 3) := by decide +kernel
theorem dX7_put_4 : decode cX7_put 4 = .ok (.iload_n 1, 1) := by decide +kernel
theorem dX7_put_5 : decode cX7_put 5 = .ok (.aaload, 1) := by decide +kernel
theorem dX7_put_6 : decode cX7_put 6 = .ok (.aload_n 2, 1) := by decide +kernel
theorem dX7_put_7 : decode cX7_put 7 = .ok (.invokevirtual 24, 3) := by decide +kernel
theorem dX7_put_10 : decode cX7_put 10 = .ok (.aload_n 0, 1) := by decide +kernel
theorem dX7_put_11 : decode cX7_put 11 = .ok (.getfield 17, 3) := by decide +kernel
theorem dX7_put_14 : decode cX7_put 14 = .ok (.iload_n 1, 1) := by decide +kernel
theorem dX7_put_15 : decode cX7_put 15 = .ok (.iconst 1, 1) := by decide +kernel
theorem dX7_put_16 : decode cX7_put 16 = .ok (.bastore, 1) := by decide +kernel
theorem dX7_put_17 : decode cX7_put 17 = .ok (.return_, 1) := by decide +kernel
theorem dX7_forget_0 : decode cX7_forget 0 = .ok (.iconst 0, 1) := by decide +kernel
theorem dX7_forget_1 : decode cX7_forget 1 = .ok (.istore_n 1, 1) := by decide +kernel
theorem dX7_forget_2 : decode cX7_forget 2 = .ok (.iload_n 1, 1) := by decide +kernel
theorem dX7_forget_3 : decode cX7_forget 3 = .ok (.iconst 2, 1) := by decide +kernel
theorem dX7_forget_4 : decode cX7_forget 4 = .ok (.if_icmp .ge 16, 3) := by decide +kernel
theorem dX7_forget_7 : decode cX7_forget 7 = .ok (.aload_n 0, 1) := by decide +kernel
theorem dX7_forget_8 : decode cX7_forget 8 = .ok (.getfield 17, 3) := by decide +kernel
theorem dX7_forget_11 : decode cX7_forget 11 = .ok (.iload_n 1, 1) := by decide +kernel
theorem dX7_forget_12 : decode cX7_forget 12 = .ok (.iconst 0, 1) := by decide +kernel
theorem dX7_forget_13 : decode cX7_forget 13 = .ok (.bastore, 1) := by decide +kernel
theorem dX7_forget_14 : decode cX7_forget 14 = .ok (.iinc 1 1, 3) := by decide +kernel
theorem dX7_forget_17 : decode cX7_forget 17 = .ok (.goto (-15), 3) := by decide +kernel
theorem dX7_forget_20 : decode cX7_forget 20 = .ok (.return_, 1) := by decide +kernel
theorem dJ6_bitCount_0f7a4_0 : decode cJ6_bitCount_0f7a4 0 = .ok (.iload_n 0, 1) := by decide +kernel
theorem dJ6_bitCount_0f7a4_1 : decode cJ6_bitCount_0f7a4 1 = .ok (.iload_n 0, 1) := by decide +kernel
theorem dJ6_bitCount_0f7a4_2 : decode cJ6_bitCount_0f7a4 2 = .ok (.iconst 1, 1) := by decide +kernel
theorem dJ6_bitCount_0f7a4_3 : decode cJ6_bitCount_0f7a4 3 = .ok (.iushr, 1) := by decide +kernel
theorem dJ6_bitCount_0f7a4_4 : decode cJ6_bitCount_0f7a4 4 = .ok (.ldc_w 265, 3) := by decide +kernel
theorem dJ6_bitCount_0f7a4_7 : decode cJ6_bitCount_0f7a4 7 = .ok (.iand, 1) := by decide +kernel
theorem dJ6_bitCount_0f7a4_8 : decode cJ6_bitCount_0f7a4 8 = .ok (.isub, 1) := by decide +kernel
theorem dJ6_bitCount_0f7a4_9 : decode cJ6_bitCount_0f7a4 9 = .ok (.istore_n 0, 1) := by decide +kernel
theorem dJ6_bitCount_0f7a4_10 : decode cJ6_bitCount_0f7a4 10 = .ok (.iload_n 0, 1) := by decide +kernel
theorem dJ6_bitCount_0f7a4_11 : decode cJ6_bitCount_0f7a4 11 = .ok (.ldc_w 266, 3) := by decide +kernel
theorem dJ6_bitCount_0f7a4_14 : decode cJ6_bitCount_0f7a4 14 = .ok (.iand, 1) := by decide +kernel
theorem dJ6_bitCount_0f7a4_15 : decode cJ6_bitCount_0f7a4 15 = .ok (.iload_n 0, 1) := by decide +kernel
theorem dJ6_bitCount_0f7a4_16 : decode cJ6_bitCount_0f7a4 16 = .ok (.iconst 2, 1) := by decide +kernel
theorem dJ6_bitCount_0f7a4_17 : decode cJ6_bitCount_0f7a4 17 = .ok (.iushr, 1) := by decide +kernel
theorem dJ6_bitCount_0f7a4_18 : decode cJ6_bitCount_0f7a4 18 = .ok (.ldc_w 266, 3) := by decide +kernel
theorem dJ6_bitCount_0f7a4_21 : decode cJ6_bitCount_0f7a4 21 = .ok (.iand, 1) := by decide +kernel
theorem dJ6_bitCount_0f7a4_22 : decode cJ6_bitCount_0f7a4 22 = .ok (.iadd, 1) := by decide +kernel
theorem dJ6_bitCount_0f7a4_23 : decode cJ6_bitCount_0f7a4 23 = .ok (.istore_n 0, 1) := by decide +kernel
theorem dJ6_bitCount_0f7a4_24 : decode cJ6_bitCount_0f7a4 24 = .ok (.iload_n 0, 1) := by decide +kernel
theorem dJ6_bitCount_0f7a4_25 : decode cJ6_bitCount_0f7a4 25 = .ok (.iload_n 0, 1) := by decide +kernel
theorem dJ6_bitCount_0f7a4_26 : decode cJ6_bitCount_0f7a4 26 = .ok (.iconst 4, 1) := by decide +kernel
theorem dJ6_bitCount_0f7a4_27 : decode cJ6_bitCount_0f7a4 27 = .ok (.iushr, 1) := by decide +kernel
theorem dJ6_bitCount_0f7a4_28 : decode cJ6_bitCount_0f7a4 28 = .ok (.iadd, 1) := by decide +kernel
theorem dJ6_bitCount_0f7a4_29 : decode cJ6_bitCount_0f7a4 29 = .ok (.ldc_w 267, 3) := by decide +kernel
theorem dJ6_bitCount_0f7a4_32 : decode cJ6_bitCount_0f7a4 32 = .ok (.iand, 1) := by decide +kernel
theorem dJ6_bitCount_0f7a4_33 : decode cJ6_bitCount_0f7a4 33 = .ok (.istore_n 0, 1) := by decide +kernel
theorem dJ6_bitCount_0f7a4_34 : decode cJ6_bitCount_0f7a4 34 = .ok (.iload_n 0, 1) := by decide +kernel
theorem dJ6_bitCount_0f7a4_35 : decode cJ6_bitCount_0f7a4 35 = .ok (.iload_n 0, 1) := by decide +kernel
theorem dJ6_bitCount_0f7a4_36 : decode cJ6_bitCount_0f7a4 36 = .ok (.bipush 8, 2) := by decide +kernel
theorem dJ6_bitCount_0f7a4_38 : decode cJ6_bitCount_0f7a4 38 = .ok (.iushr, 1) := by decide +kernel
theorem dJ6_bitCount_0f7a4_39 : decode cJ6_bitCount_0f7a4 39 = .ok (.iadd, 1) := by decide +kernel
theorem dJ6_bitCount_0f7a4_40 : decode cJ6_bitCount_0f7a4 40 = .ok (.istore_n 0, 1) := by decide +kernel
theorem dJ6_bitCount_0f7a4_41 : decode cJ6_bitCount_0f7a4 41 = .ok (.iload_n 0, 1) := by decide +kernel
theorem dJ6_bitCount_0f7a4_42 : decode cJ6_bitCount_0f7a4 42 = .ok (.iload_n 0, 1) := by decide +kernel
theorem dJ6_bitCount_0f7a4_43 : decode cJ6_bitCount_0f7a4 43 = .ok (.bipush 16, 2) := by decide +kernel
theorem dJ6_bitCount_0f7a4_45 : decode cJ6_bitCount_0f7a4 45 = .ok (.iushr, 1) := by decide +kernel
theorem dJ6_bitCount_0f7a4_46 : decode cJ6_bitCount_0f7a4 46 = .ok (.iadd, 1) := by decide +kernel
theorem dJ6_bitCount_0f7a4_47 : decode cJ6_bitCount_0f7a4 47 = .ok (.istore_n 0, 1) := by decide +kernel
theorem dJ6_bitCount_0f7a4_48 : decode cJ6_bitCount_0f7a4 48 = .ok (.iload_n 0, 1) := by decide +kernel
theorem dJ6_bitCount_0f7a4_49 : decode cJ6_bitCount_0f7a4 49 = .ok (.bipush 63, 2) := by decide +kernel
theorem dJ6_bitCount_0f7a4_51 : decode cJ6_bitCount_0f7a4 51 = .ok (.iand, 1) := by decide +kernel
theorem dJ6_bitCount_0f7a4_52 : decode cJ6_bitCount_0f7a4 52 = .ok (.ireturn, 1) := by decide +kernel
theorem dJ9_abs_067f4_0 : decode cJ9_abs_067f4 0 = .ok (.lload_n 0, 1) := by decide +kernel
theorem dJ9_abs_067f4_1 : decode cJ9_abs_067f4 1 = .ok (.lconst 0, 1) := by decide +kernel
theorem dJ9_abs_067f4_2 : decode cJ9_abs_067f4 2 = .ok (.lcmp, 1) := by decide +kernel
theorem dJ9_abs_067f4_3 : decode cJ9_abs_067f4 3 = .ok (.ifCond .ge 8, 3) := by decide +kernel
theorem dJ9_abs_067f4_6 : decode cJ9_abs_067f4 6 = .ok (.lload_n 0, 1) := by decide +kernel
theorem dJ9_abs_067f4_7 : decode cJ9_abs_067f4 7 = .ok (.lneg, 1) := by decide +kernel
theorem dJ9_abs_067f4_8 : decode cJ9_abs_067f4 8 = .ok (.goto 4, 3) := by decide +kernel
theorem dJ9_abs_067f4_11 : decode cJ9_abs_067f4 11 = .ok (.lload_n 0, 1) := by decide +kernel
theorem dJ9_abs_067f4_12 : decode cJ9_abs_067f4 12 = .ok (.lreturn, 1) := by decide +kernel
theorem dJ9_min_7cf53_0 : decode cJ9_min_7cf53 0 = .ok (.iload_n 0, 1) := by decide +kernel
theorem dJ9_min_7cf53_1 : decode cJ9_min_7cf53 1 = .ok (.iload_n 1, 1) := by decide +kernel
theorem dJ9_min_7cf53_2 : decode cJ9_min_7cf53 2 = .ok (.if_icmp .gt 7, 3) := by decide +kernel
theorem dJ9_min_7cf53_5 : decode cJ9_min_7cf53 5 = .ok (.iload_n 0, 1) := by decide +kernel
theorem dJ9_min_7cf53_6 : decode cJ9_min_7cf53 6 = .ok (.goto 4, 3) := by decide +kernel
theorem dJ9_min_7cf53_9 : decode cJ9_min_7cf53 9 = .ok (.iload_n 1, 1) := by decide +kernel
theorem dJ9_min_7cf53_10 : decode cJ9_min_7cf53 10 = .ok (.ireturn, 1) := by decide +kernel
