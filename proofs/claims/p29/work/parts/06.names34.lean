theorem dX4_init_0 : decode cX4_init 0 = .ok (.aload_n 0, 1) := by decide +kernel
theorem dX4_init_1 : decode cX4_init 1 = .ok (.invokespecial 3, 3) := by decide +kernel
theorem dX4_init_4 : decode cX4_init 4 = .ok (.aload_n 0, 1) := by decide +kernel
theorem dX4_init_5 : decode cX4_init 5 = .ok (.iconst 0, 1) := by decide +kernel
theorem dX4_init_6 : decode cX4_init 6 = .ok (.putfield 9, 3) := by decide +kernel
theorem dX4_init_9 : decode cX4_init 9 = .ok (.aload_n 0, 1) := by decide +kernel
theorem dX4_init_10 : decode cX4_init 10 = .ok (.iconst 5, 1) := by decide +kernel
theorem dX4_init_11 : decode cX4_init 11 = .ok (.newarray .int, 2) := by decide +kernel
theorem dX4_init_13 : decode cX4_init 13 = .ok (.putfield 15, 3) := by decide +kernel
theorem dX4_init_16 : decode cX4_init 16 = .ok (.aload_n 0, 1) := by decide +kernel
theorem dX4_init_17 : decode cX4_init 17 = .ok (.iconst 5, 1) := by decide +kernel
theorem dX4_init_18 : decode cX4_init 18 = .ok (.newarray .int, 2) := by decide +kernel
theorem dX4_init_20 : decode cX4_init 20 = .ok (.putfield 19, 3) := by decide +kernel
theorem dX4_init_23 : decode cX4_init 23 = .ok (.aload_n 0, 1) := by decide +kernel
theorem dX4_init_24 : decode cX4_init 24 = .ok (.iconst 5, 1) := by decide +kernel
theorem dX4_init_25 : decode cX4_init 25 = .ok (.newarray .int, 2) := by decide +kernel
theorem dX4_init_27 : decode cX4_init 27 = .ok (.putfield 22, 3) := by decide +kernel
theorem dX4_init_30 : decode cX4_init 30 = .ok (.return_, 1) := by decide +kernel
set_option maxRecDepth 20000 in
theorem ggX4_copyFrom_X6_copyRow : GoodIn wsX4_copyFrom wsX6_copyRow := goodIn_r _ [7, 8, 9, 10, 11, 12, 13, 14, 15] (by decide +kernel) (by decide +kernel)
set_option maxRecDepth 20000 in
theorem gX4_copyFrom_X6_copyRow_n25 : GoodIn wsX4_copyFrom (wsX6_copyRow) := ggX4_copyFrom_X6_copyRow
theorem dX4_copyFrom_0 : decode cX4_copyFrom 0 = .ok (.aload_n 0, 1) := by decide +kernel
theorem dX4_copyFrom_1 : decode cX4_copyFrom 1 = .ok (.aload_n 1, 1) := by decide +kernel
theorem dX4_copyFrom_2 : decode cX4_copyFrom 2 = .ok (.getfield 9, 3) := by decide +kernel
theorem dX4_copyFrom_5 : decode cX4_copyFrom 5 = .ok (.putfield 9, 3) := by decide +kernel
theorem dX4_copyFrom_8 : decode cX4_copyFrom 8 = .ok (.aload_n 1, 1) := by decide +kernel
theorem dX4_copyFrom_9 : decode cX4_copyFrom 9 = .ok (.getfield 15, 3) := by decide +kernel
theorem dX4_copyFrom_12 : decode cX4_copyFrom 12 = .ok (.aload_n 0, 1) := by decide +kernel
theorem dX4_copyFrom_13 : decode cX4_copyFrom 13 = .ok (.getfield 15, 3) := by decide +kernel
theorem dX4_copyFrom_16 : decode cX4_copyFrom 16 = .ok (.invokestatic 25, 3) := by decide +kernel
theorem dX4_copyFrom_19 : decode cX4_copyFrom 19 = .ok (.aload_n 1, 1) := by decide +kernel
theorem dX4_copyFrom_20 : decode cX4_copyFrom 20 = .ok (.getfield 19, 3) := by decide +kernel
theorem dX4_copyFrom_23 : decode cX4_copyFrom 23 = .ok (.aload_n 0, 1) := by decide +kernel
theorem dX4_copyFrom_24 : decode cX4_copyFrom 24 = .ok (.getfield 19, 3) := by decide +kernel
theorem dX4_copyFrom_27 : decode cX4_copyFrom 27 = .ok (.invokestatic 25, 3) := by decide +kernel
theorem dX4_copyFrom_30 : decode cX4_copyFrom 30 = .ok (.aload_n 1, 1) := by decide +kernel
theorem dX4_copyFrom_31 : decode cX4_copyFrom 31 = .ok (.getfield 22, 3) := by decide +kernel
theorem dX4_copyFrom_34 : decode cX4_copyFrom 34 = .ok (.aload_n 0, 1) := by decide +kernel
theorem dX4_copyFrom_35 : decode cX4_copyFrom 35 = .ok (.getfield 22, 3) := by decide +kernel
theorem dX4_copyFrom_38 : decode cX4_copyFrom 38 = .ok (.invokestatic 25, 3) := by decide +kernel
theorem dX4_copyFrom_41 : decode cX4_copyFrom 41 = .ok (.return_, 1) := by decide +kernel
theorem dX4_placeOf_0 : decode cX4_placeOf 0 = .ok (.iconst 0, 1) := by decide +kernel
theorem dX4_placeOf_1 : decode cX4_placeOf 1 = .ok (.istore_n 2, 1) := by decide +kernel
theorem dX4_placeOf_2 : decode cX4_placeOf 2 = .ok (.iload_n 2, 1) := by decide +kernel
theorem dX4_placeOf_3 : decode cX4_placeOf 3 = .ok (.aload_n 0, 1) := by decide +kernel
theorem dX4_placeOf_4 : decode cX4_placeOf 4 = .ok (.getfield 9, 3) := by decide +kernel
theorem dX4_placeOf_7 : decode cX4_placeOf 7 = .ok (.if_icmp .ge 21, 3) := by decide +kernel
theorem dX4_placeOf_10 : decode cX4_placeOf 10 = .ok (.aload_n 0, 1) := by decide +kernel
theorem dX4_placeOf_11 : decode cX4_placeOf 11 = .ok (.getfield 15, 3) := by decide +kernel
theorem dX4_placeOf_14 : decode cX4_placeOf 14 = .ok (.iload_n 2, 1) := by decide +kernel
theorem dX4_placeOf_15 : decode cX4_placeOf 15 = .ok (.iaload, 1) := by decide +kernel
theorem dX4_placeOf_16 : decode cX4_placeOf 16 = .ok (.iload_n 1, 1) := by decide +kernel
theorem dX4_placeOf_17 : decode cX4_placeOf 17 = .ok (.if_icmp .lt 5, 3) := by decide +kernel
theorem dX4_placeOf_20 : decode cX4_placeOf 20 = .ok (.iload_n 2, 1) := by decide +kernel
theorem dX4_placeOf_21 : decode cX4_placeOf 21 = .ok (.ireturn, 1) := by decide +kernel
theorem dX4_placeOf_22 : decode cX4_placeOf 22 = .ok (.iinc 2 1, 3) := by decide +kernel
theorem dX4_placeOf_25 : decode cX4_placeOf 25 = .ok (.goto (-23), 3) := by decide +kernel
theorem dX4_placeOf_28 : decode cX4_placeOf 28 = .ok (.aload_n 0, 1) := by decide +kernel
theorem dX4_placeOf_29 : decode cX4_placeOf 29 = .ok (.getfield 9, 3) := by decide +kernel
theorem dX4_placeOf_32 : decode cX4_placeOf 32 = .ok (.ireturn, 1) := by decide +kernel
set_option maxRecDepth 20000 in
theorem ggX4_has_X4_placeOf : GoodIn wsX4_has wsX4_placeOf := goodIn_r _ [7, 1, 2, 8, 9, 10, 11] (by decide +kernel) (by decide +kernel)
set_option maxRecDepth 20000 in
theorem gX4_has_X4_placeOf : GoodIn wsX4_has (wsV RX4 29 RX4 yX4_placeOf wsX4_placeOf) := goodIn_app (goodIn_of _ (by decide +kernel)) ggX4_has_X4_placeOf
theorem dX4_has_0 : decode cX4_has 0 = .ok (.aload_n 0, 1) := by decide +kernel
theorem dX4_has_1 : decode cX4_has 1 = .ok (.iload_n 1, 1) := by decide +kernel
theorem dX4_has_2 : decode cX4_has 2 = .ok (.invokevirtual 29, 3) := by decide +kernel
theorem dX4_has_5 : decode cX4_has 5 = .ok (.istore_n 2, 1) := by decide +kernel
theorem dX4_has_6 : decode cX4_has 6 = .ok (.iload_n 2, 1) := by decide +kernel
theorem dX4_has_7 : decode cX4_has 7 = .ok (.aload_n 0, 1) := by decide +kernel
theorem dX4_has_8 : decode cX4_has 8 = .ok (.getfield 9, 3) := by decide +kernel
theorem dX4_has_11 : decode cX4_has 11 = .ok (.if_icmp .ge 17, 3) := by decide +kernel
theorem dX4_has_14 : decode cX4_has 14 = .ok (.aload_n 0, 1) := by decide +kernel
theorem dX4_has_15 : decode cX4_has 15 = .ok (.getfield 15, 3) := by decide +kernel
theorem dX4_has_18 : decode cX4_has 18 = .ok (.iload_n 2, 1) := by decide +kernel
theorem dX4_has_19 : decode cX4_has 19 = .ok (.iaload, 1) := by decide +kernel
theorem dX4_has_20 : decode cX4_has 20 = .ok (.iload_n 1, 1) := by decide +kernel
theorem dX4_has_21 : decode cX4_has 21 = .ok (.if_icmp .ne 7, 3) := by decide +kernel
theorem dX4_has_24 : decode cX4_has 24 = .ok (.iconst 1, 1) := by decide +kernel
theorem dX4_has_25 : decode cX4_has 25 = .ok (.goto 4, 3) := by decide +kernel
theorem dX4_has_28 : decode cX4_has 28 = .ok (.iconst 0, 1) := by decide +kernel
theorem dX4_has_29 : decode cX4_has 29 = .ok (.ireturn, 1) := by decide +kernel
set_option maxRecDepth 20000 in
theorem ggX4_hasRoomFor_X4_has : GoodIn wsX4_hasRoomFor wsX4_has := goodIn_r _ [6, 1, 7, 8, 9, 10, 5, 11, 12, 13, 14, 15] (by decide +kernel) (by decide +kernel)
set_option maxRecDepth 20000 in
theorem gX4_hasRoomFor_X4_has : GoodIn wsX4_hasRoomFor (wsV RX4 33 RX4 yX4_has wsX4_has) := goodIn_app (goodIn_of _ (by decide +kernel)) ggX4_hasRoomFor_X4_has
theorem dX4_hasRoomFor_0 : decode cX4_hasRoomFor 0 = .ok (.aload_n 0, 1) := by decide +kernel
theorem dX4_hasRoomFor_1 : decode cX4_hasRoomFor 1 = .ok (.getfield 9, 3) := by decide +kernel
theorem dX4_hasRoomFor_4 : decode cX4_hasRoomFor 4 = .ok (.iconst 5, 1) := by decide +kernel
theorem dX4_hasRoomFor_5 : decode cX4_hasRoomFor 5 = .ok (.if_icmp .lt 11, 3) := by decide +kernel
theorem dX4_hasRoomFor_8 : decode cX4_hasRoomFor 8 = .ok (.aload_n 0, 1) := by decide +kernel
theorem dX4_hasRoomFor_9 : decode cX4_hasRoomFor 9 = .ok (.iload_n 1, 1) := by decide +kernel
theorem dX4_hasRoomFor_10 : decode cX4_hasRoomFor 10 = .ok (.invokevirtual 33, 3) := by decide +kernel
theorem dX4_hasRoomFor_13 : decode cX4_hasRoomFor 13 = .ok (.ifCond .eq 7, 3) := by decide +kernel
theorem dX4_hasRoomFor_16 : decode cX4_hasRoomFor 16 = .ok (.iconst 1, 1) := by decide +kernel
theorem dX4_hasRoomFor_17 : decode cX4_hasRoomFor 17 = .ok (.goto 4, 3) := by decide +kernel
theorem dX4_hasRoomFor_20 : decode cX4_hasRoomFor 20 = .ok (.iconst 0, 1) := by decide +kernel
theorem dX4_hasRoomFor_21 : decode cX4_hasRoomFor 21 = .ok (.ireturn, 1) := by decide +kernel
set_option maxRecDepth 20000 in
theorem ggX4_put_X4_placeOf : GoodIn wsX4_put wsX4_placeOf := goodIn_r _ [9, 1, 2, 14, 15, 16, 17] (by decide +kernel) (by decide +kernel)
set_option maxRecDepth 20000 in
theorem gX4_put_X4_placeOf : GoodIn wsX4_put (wsV RX4 29 RX4 yX4_placeOf wsX4_placeOf) := goodIn_app (goodIn_of _ (by decide +kernel)) ggX4_put_X4_placeOf
set_option maxRecDepth 20000 in
theorem ggX4_put_X4_move : GoodIn wsX4_put wsX4_move := goodIn_r _ [13, 2, 3, 4, 14, 15, 16, 17] (by decide +kernel) (by decide +kernel)
set_option maxRecDepth 20000 in
theorem gX4_put_X4_move : GoodIn wsX4_put (wsV RX4 37 RX4 yX4_move wsX4_move) := goodIn_app (goodIn_of _ (by decide +kernel)) ggX4_put_X4_move
theorem dX4_put_0 : decode cX4_put 0 = .ok (.aload_n 0, 1) := by decide +kernel
theorem dX4_put_1 : decode cX4_put 1 = .ok (.iload_n 1, 1) := by decide +kernel
theorem dX4_put_2 : decode cX4_put 2 = .ok (.invokevirtual 29, 3) := by decide +kernel
theorem dX4_put_5 : decode cX4_put 5 = .ok (.istore 4, 2) := by decide +kernel
theorem dX4_put_7 : decode cX4_put 7 = .ok (.iload 4, 2) := by decide +kernel
theorem dX4_put_9 : decode cX4_put 9 = .ok (.aload_n 0, 1) := by decide +kernel
theorem dX4_put_10 : decode cX4_put 10 = .ok (.getfield 9, 3) := by decide +kernel
theorem dX4_put_13 : decode cX4_put 13 = .ok (.if_icmp .ge 18, 3) := by decide +kernel
theorem dX4_put_16 : decode cX4_put 16 = .ok (.aload_n 0, 1) := by decide +kernel
theorem dX4_put_17 : decode cX4_put 17 = .ok (.getfield 15, 3) := by decide +kernel
theorem dX4_put_20 : decode cX4_put 20 = .ok (.iload 4, 2) := by decide +kernel
theorem dX4_put_22 : decode cX4_put 22 = .ok (.iaload, 1) := by decide +kernel
theorem dX4_put_23 : decode cX4_put 23 = .ok (.iload_n 1, 1) := by decide +kernel
theorem dX4_put_24 : decode cX4_put 24 = .ok (.if_icmp .ne 7, 3) := by decide +kernel
theorem dX4_put_27 : decode cX4_put 27 = .ok (.iconst 1, 1) := by decide +kernel
theorem dX4_put_28 : decode cX4_put 28 = .ok (.goto 4, 3) := by decide +kernel
theorem dX4_put_31 : decode cX4_put 31 = .ok (.iconst 0, 1) := by decide +kernel
theorem dX4_put_32 : decode cX4_put 32 = .ok (.istore 5, 2) := by decide +kernel
theorem dX4_put_34 : decode cX4_put 34 = .ok (.iload 5, 2) := by decide +kernel
theorem dX4_put_36 : decode cX4_put 36 = .ok (.ifCond .ne 12, 3) := by decide +kernel
theorem dX4_put_39 : decode cX4_put 39 = .ok (.aload_n 0, 1) := by decide +kernel
theorem dX4_put_40 : decode cX4_put 40 = .ok (.getfield 9, 3) := by decide +kernel
theorem dX4_put_43 : decode cX4_put 43 = .ok (.iconst 5, 1) := by decide +kernel
theorem dX4_put_44 : decode cX4_put 44 = .ok (.if_icmp .lt 4, 3) := by decide +kernel
theorem dX4_put_47 : decode cX4_put 47 = .ok (.return_, 1) := by decide +kernel
theorem dX4_put_48 : decode cX4_put 48 = .ok (.iload 5, 2) := by decide +kernel
theorem dX4_put_50 : decode cX4_put 50 = .ok (.ifCond .ne 42, 3) := by decide +kernel
theorem dX4_put_53 : decode cX4_put 53 = .ok (.aload_n 0, 1) := by decide +kernel
theorem dX4_put_54 : decode cX4_put 54 = .ok (.getfield 9, 3) := by decide +kernel
theorem dX4_put_57 : decode cX4_put 57 = .ok (.istore 6, 2) := by decide +kernel
theorem dX4_put_59 : decode cX4_put 59 = .ok (.iload 6, 2) := by decide +kernel
theorem dX4_put_61 : decode cX4_put 61 = .ok (.iload 4, 2) := by decide +kernel
theorem dX4_put_63 : decode cX4_put 63 = .ok (.if_icmp .le 19, 3) := by decide +kernel
theorem dX4_put_66 : decode cX4_put 66 = .ok (.aload_n 0, 1) := by decide +kernel
theorem dX4_put_67 : decode cX4_put 67 = .ok (.iload 6, 2) := by decide +kernel
theorem dX4_put_69 : decode cX4_put 69 = .ok (.iconst 1, 1) := by decide +kernel
theorem dX4_put_70 : decode cX4_put 70 = .ok (.isub, 1) := by decide +kernel
theorem dX4_put_71 : decode cX4_put 71 = .ok (.iload 6, 2) := by decide +kernel
theorem dX4_put_73 : decode cX4_put 73 = .ok (.invokevirtual 37, 3) := by decide +kernel
theorem dX4_put_76 : decode cX4_put 76 = .ok (.iinc 6 (-1), 3) := by decide +kernel
theorem dX4_put_79 : decode cX4_put 79 = .ok (.goto (-20), 3) := by decide +kernel
theorem dX4_put_82 : decode cX4_put 82 = .ok (.aload_n 0, 1) := by decide +kernel
theorem dX4_put_83 : decode cX4_put 83 = .ok (.dup, 1) := by decide +kernel
theorem dX4_put_84 : decode cX4_put 84 = .ok (.getfield 9, 3) := by decide +kernel
theorem dX4_put_87 : decode cX4_put 87 = .ok (.iconst 1, 1) := by decide +kernel
theorem dX4_put_88 : decode cX4_put 88 = .ok (.iadd, 1) := by decide +kernel
theorem dX4_put_89 : decode cX4_put 89 = .ok (.putfield 9, 3) := by decide +kernel
theorem dX4_put_92 : decode cX4_put 92 = .ok (.aload_n 0, 1) := by decide +kernel
theorem dX4_put_93 : decode cX4_put 93 = .ok (.getfield 15, 3) := by decide +kernel
theorem dX4_put_96 : decode cX4_put 96 = .ok (.iload 4, 2) := by decide +kernel
theorem dX4_put_98 : decode cX4_put 98 = .ok (.iload_n 1, 1) := by decide +kernel
theorem dX4_put_99 : decode cX4_put 99 = .ok (.iastore, 1) := by decide +kernel
theorem dX4_put_100 : decode cX4_put 100 = .ok (.aload_n 0, 1) := by decide +kernel
theorem dX4_put_101 : decode cX4_put 101 = .ok (.getfield 19, 3) := by decide +kernel
theorem dX4_put_104 : decode cX4_put 104 = .ok (.iload 4, 2) := by decide +kernel
theorem dX4_put_106 : decode cX4_put 106 = .ok (.iload_n 2, 1) := by decide +kernel
theorem dX4_put_107 : decode cX4_put 107 = .ok (.iastore, 1) := by decide +kernel
theorem dX4_put_108 : decode cX4_put 108 = .ok (.aload_n 0, 1) := by decide +kernel
theorem dX4_put_109 : decode cX4_put 109 = .ok (.getfield 22, 3) := by decide +kernel
theorem dX4_put_112 : decode cX4_put 112 = .ok (.iload 4, 2) := by decide +kernel
theorem dX4_put_114 : decode cX4_put 114 = .ok (.iload_n 3, 1) := by decide +kernel
theorem dX4_put_115 : decode cX4_put 115 = .ok (.iastore, 1) := by decide +kernel
theorem dX4_put_116 : decode cX4_put 116 = .ok (.return_, 1) := by decide +kernel
set_option maxRecDepth 20000 in
theorem ggX4_remove_X4_has : GoodIn wsX4_remove wsX4_has := goodIn_r _ [6, 1, 7, 8, 9, 10, 5, 11, 18, 19, 20, 21] (by decide +kernel) (by decide +kernel)
set_option maxRecDepth 20000 in
theorem gX4_remove_X4_has : GoodIn wsX4_remove (wsV RX4 33 RX4 yX4_has wsX4_has) := goodIn_app (goodIn_of _ (by decide +kernel)) ggX4_remove_X4_has
set_option maxRecDepth 20000 in
theorem ggX4_remove_X4_placeOf : GoodIn wsX4_remove wsX4_placeOf := goodIn_r _ [11, 1, 7, 18, 19, 20, 21] (by decide +kernel) (by decide +kernel)
set_option maxRecDepth 20000 in
theorem gX4_remove_X4_placeOf : GoodIn wsX4_remove (wsV RX4 29 RX4 yX4_placeOf wsX4_placeOf) := goodIn_app (goodIn_of _ (by decide +kernel)) ggX4_remove_X4_placeOf
set_option maxRecDepth 20000 in
theorem ggX4_remove_X4_move : GoodIn wsX4_remove wsX4_move := goodIn_r _ [15, 7, 16, 17, 18, 19, 20, 21] (by decide +kernel) (by decide +kernel)
set_option maxRecDepth 20000 in
theorem gX4_remove_X4_move : GoodIn wsX4_remove (wsV RX4 37 RX4 yX4_move wsX4_move) := goodIn_app (goodIn_of _ (by decide +kernel)) ggX4_remove_X4_move
theorem dX4_remove_0 : decode cX4_remove 0 = .ok (.aload_n 0, 1) := by decide +kernel
theorem dX4_remove_1 : decode cX4_remove 1 = .ok (.iload_n 1, 1) := by decide +kernel
theorem dX4_remove_2 : decode cX4_remove 2 = .ok (.invokevirtual 33, 3) := by decide +kernel
theorem dX4_remove_5 : decode cX4_remove 5 = .ok (.ifCond .ne 4, 3) := by decide +kernel
theorem dX4_remove_8 : decode cX4_remove 8 = .ok (.return_, 1) := by decide +kernel
theorem dX4_remove_9 : decode cX4_remove 9 = .ok (.aload_n 0, 1) := by decide +kernel
theorem dX4_remove_10 : decode cX4_remove 10 = .ok (.iload_n 1, 1) := by decide +kernel
theorem dX4_remove_11 : decode cX4_remove 11 = .ok (.invokevirtual 29, 3) := by decide +kernel
theorem dX4_remove_14 : decode cX4_remove 14 = .ok (.iconst 1, 1) := by decide +kernel
theorem dX4_remove_15 : decode cX4_remove 15 = .ok (.iadd, 1) := by decide +kernel
theorem dX4_remove_16 : decode cX4_remove 16 = .ok (.istore_n 2, 1) := by decide +kernel
theorem dX4_remove_17 : decode cX4_remove 17 = .ok (.iload_n 2, 1) := by decide +kernel
theorem dX4_remove_18 : decode cX4_remove 18 = .ok (.aload_n 0, 1) := by decide +kernel
theorem dX4_remove_19 : decode cX4_remove 19 = .ok (.getfield 9, 3) := by decide +kernel
theorem dX4_remove_22 : decode cX4_remove 22 = .ok (.if_icmp .ge 17, 3) := by decide +kernel
theorem dX4_remove_25 : decode cX4_remove 25 = .ok (.aload_n 0, 1) := by decide +kernel
theorem dX4_remove_26 : decode cX4_remove 26 = .ok (.iload_n 2, 1) := by decide +kernel
theorem dX4_remove_27 : decode cX4_remove 27 = .ok (.iload_n 2, 1) := by decide +kernel
theorem dX4_remove_28 : decode cX4_remove 28 = .ok (.iconst 1, 1) := by decide +kernel
theorem dX4_remove_29 : decode cX4_remove 29 = .ok (.isub, 1) := by decide +kernel
theorem dX4_remove_30 : decode cX4_remove 30 = .ok (.invokevirtual 37, 3) := by decide +kernel
theorem dX4_remove_33 : decode cX4_remove 33 = .ok (.iinc 2 1, 3) := by decide +kernel
theorem dX4_remove_36 : decode cX4_remove 36 = .ok (.goto (-19), 3) := by decide +kernel
theorem dX4_remove_39 : decode cX4_remove 39 = .ok (.aload_n 0, 1) := by decide +kernel
theorem dX4_remove_40 : decode cX4_remove 40 = .ok (.dup, 1) := by decide +kernel
theorem dX4_remove_41 : decode cX4_remove 41 = .ok (.getfield 9, 3) := by decide +kernel
theorem dX4_remove_44 : decode cX4_remove 44 = .ok (.iconst 1, 1) := by decide +kernel
theorem dX4_remove_45 : decode cX4_remove 45 = .ok (.isub, 1) := by decide +kernel
theorem dX4_remove_46 : decode cX4_remove 46 = .ok (.putfield 9, 3) := by decide +kernel
theorem dX4_remove_49 : decode cX4_remove 49 = .ok (.return_, 1) := by decide +kernel
theorem dX4_move_0 : decode cX4_move 0 = .ok (.aload_n 0, 1) := by decide +kernel
theorem dX4_move_1 : decode cX4_move 1 = .ok (.getfield 15, 3) := by decide +kernel
theorem dX4_move_4 : decode cX4_move 4 = .ok (.iload_n 2, 1) := by decide +kernel
theorem dX4_move_5 : decode cX4_move 5 = .ok (.aload_n 0, 1) := by decide +kernel
theorem dX4_move_6 : decode cX4_move 6 = .ok (.getfield 15, 3) := by decide +kernel
theorem dX4_move_9 : decode cX4_move 9 = .ok (.iload_n 1, 1) := by decide +kernel
theorem dX4_move_10 : decode cX4_move 10 = .ok (.iaload, 1) := by decide +kernel
theorem dX4_move_11 : decode cX4_move 11 = .ok (.iastore, 1) := by decide +kernel
theorem dX4_move_12 : decode cX4_move 12 = .ok (.aload_n 0, 1) := by decide +kernel
theorem dX4_move_13 : decode cX4_move 13 = .ok (.getfield 19, 3) := by decide +kernel
theorem dX4_move_16 : decode cX4_move 16 = .ok (.iload_n 2, 1) := by decide +kernel
theorem dX4_move_17 : decode cX4_move 17 = .ok (.aload_n 0, 1) := by decide +kernel
theorem dX4_move_18 : decode cX4_move 18 = .ok (.getfield 19, 3) := by decide +kernel
theorem dX4_move_21 : decode cX4_move 21 = .ok (.iload_n 1, 1) := by decide +kernel
theorem dX4_move_22 : decode cX4_move 22 = .ok (.iaload, 1) := by decide +kernel
theorem dX4_move_23 : decode cX4_move 23 = .ok (.iastore, 1) := by decide +kernel
theorem dX4_move_24 : decode cX4_move 24 = .ok (.aload_n 0, 1) := by decide +kernel
theorem dX4_move_25 : decode cX4_move 25 = .ok (.getfield 22, 3) := by decide +kernel
theorem dX4_move_28 : decode cX4_move 28 = .ok (.iload_n 2, 1) := by decide +kernel
theorem dX4_move_29 : decode cX4_move 29 = .ok (.aload_n 0, 1) := by decide +kernel
theorem dX4_move_30 : decode cX4_move 30 = .ok (.getfield 22, 3) := by decide +kernel
theorem dX4_move_33 : decode cX4_move 33 = .ok (.iload_n 1, 1) := by decide +kernel
theorem dX4_move_34 : decode cX4_move 34 = .ok (.iaload, 1) := by decide +kernel
theorem dX4_move_35 : decode cX4_move 35 = .ok (.iastore, 1) := by decide +kernel
theorem dX4_move_36 : decode cX4_move 36 = .ok (.return_, 1) := by decide +kernel
set_option maxRecDepth 20000 in
theorem ggX4_sum_X4_unitsIn : GoodIn wsX4_sum wsX4_unitsIn := goodIn_r _ [12] (by decide +kernel) (by decide +kernel)
set_option maxRecDepth 20000 in
theorem gX4_sum_X4_unitsIn : GoodIn wsX4_sum (va_wsS RX4 47 yX4_unitsIn wsX4_unitsIn) := goodIn_app (goodIn_of _ (by decide +kernel)) ggX4_sum_X4_unitsIn
theorem dX4_sum_0 : decode cX4_sum 0 = .ok (.iconst 0, 1) := by decide +kernel
theorem dX4_sum_1 : decode cX4_sum 1 = .ok (.istore_n 2, 1) := by decide +kernel
theorem dX4_sum_2 : decode cX4_sum 2 = .ok (.iconst 0, 1) := by decide +kernel
theorem dX4_sum_3 : decode cX4_sum 3 = .ok (.istore_n 3, 1) := by decide +kernel
theorem dX4_sum_4 : decode cX4_sum 4 = .ok (.iload_n 3, 1) := by decide +kernel
theorem dX4_sum_5 : decode cX4_sum 5 = .ok (.aload_n 0, 1) := by decide +kernel
theorem dX4_sum_6 : decode cX4_sum 6 = .ok (.getfield 9, 3) := by decide +kernel
theorem dX4_sum_9 : decode cX4_sum 9 = .ok (.if_icmp .ge 87, 3) := by decide +kernel
theorem dX4_sum_12 : decode cX4_sum 12 = .ok (.aload_n 0, 1) := by decide +kernel
theorem dX4_sum_13 : decode cX4_sum 13 = .ok (.getfield 15, 3) := by decide +kernel
theorem dX4_sum_16 : decode cX4_sum 16 = .ok (.iload_n 3, 1) := by decide +kernel
theorem dX4_sum_17 : decode cX4_sum 17 = .ok (.iaload, 1) := by decide +kernel
theorem dX4_sum_18 : decode cX4_sum 18 = .ok (.iload_n 1, 1) := by decide +kernel
theorem dX4_sum_19 : decode cX4_sum 19 = .ok (.if_icmp .ge 77, 3) := by decide +kernel
theorem dX4_sum_22 : decode cX4_sum 22 = .ok (.iload_n 3, 1) := by decide +kernel
theorem dX4_sum_23 : decode cX4_sum 23 = .ok (.iconst 1, 1) := by decide +kernel
theorem dX4_sum_24 : decode cX4_sum 24 = .ok (.iadd, 1) := by decide +kernel
theorem dX4_sum_25 : decode cX4_sum 25 = .ok (.aload_n 0, 1) := by decide +kernel
theorem dX4_sum_26 : decode cX4_sum 26 = .ok (.getfield 9, 3) := by decide +kernel
theorem dX4_sum_29 : decode cX4_sum 29 = .ok (.if_icmp .lt 7, 3) := by decide +kernel
theorem dX4_sum_32 : decode cX4_sum 32 = .ok (.iconst 1, 1) := by decide +kernel
theorem dX4_sum_33 : decode cX4_sum 33 = .ok (.goto 4, 3) := by decide +kernel
theorem dX4_sum_36 : decode cX4_sum 36 = .ok (.iconst 0, 1) := by decide +kernel
theorem dX4_sum_37 : decode cX4_sum 37 = .ok (.istore 4, 2) := by decide +kernel
theorem dX4_sum_39 : decode cX4_sum 39 = .ok (.iload 4, 2) := by decide +kernel
theorem dX4_sum_41 : decode cX4_sum 41 = .ok (.ifCond .eq 7, 3) := by decide +kernel
theorem dX4_sum_44 : decode cX4_sum 44 = .ok (.iload_n 1, 1) := by decide +kernel
theorem dX4_sum_45 : decode cX4_sum 45 = .ok (.goto 15, 3) := by decide +kernel
theorem dX4_sum_48 : decode cX4_sum 48 = .ok (.iload_n 1, 1) := by decide +kernel
theorem dX4_sum_49 : decode cX4_sum 49 = .ok (.aload_n 0, 1) := by decide +kernel
theorem dX4_sum_50 : decode cX4_sum 50 = .ok (.getfield 15, 3) := by decide +kernel
theorem dX4_sum_53 : decode cX4_sum 53 = .ok (.iload_n 3, 1) := by decide +kernel
theorem dX4_sum_54 : decode cX4_sum 54 = .ok (.iconst 1, 1) := by decide +kernel
theorem dX4_sum_55 : decode cX4_sum 55 = .ok (.iadd, 1) := by decide +kernel
theorem dX4_sum_56 : decode cX4_sum 56 = .ok (.iaload, 1) := by decide +kernel
theorem dX4_sum_57 : decode cX4_sum 57 = .ok (.invokestatic 41, 3) := by decide +kernel
theorem dX4_sum_60 : decode cX4_sum 60 = .ok (.istore 5, 2) := by decide +kernel
theorem dX4_sum_62 : decode cX4_sum 62 = .ok (.iload_n 2, 1) := by decide +kernel
theorem dX4_sum_63 : decode cX4_sum 63 = .ok (.aload_n 0, 1) := by decide +kernel
theorem dX4_sum_64 : decode cX4_sum 64 = .ok (.getfield 22, 3) := by decide +kernel
theorem dX4_sum_67 : decode cX4_sum 67 = .ok (.iload_n 3, 1) := by decide +kernel
theorem dX4_sum_68 : decode cX4_sum 68 = .ok (.iaload, 1) := by decide +kernel
theorem dX4_sum_69 : decode cX4_sum 69 = .ok (.iload 5, 2) := by decide +kernel
theorem dX4_sum_71 : decode cX4_sum 71 = .ok (.aload_n 0, 1) := by decide +kernel
theorem dX4_sum_72 : decode cX4_sum 72 = .ok (.getfield 15, 3) := by decide +kernel
theorem dX4_sum_75 : decode cX4_sum 75 = .ok (.iload_n 3, 1) := by decide +kernel
theorem dX4_sum_76 : decode cX4_sum 76 = .ok (.iaload, 1) := by decide +kernel
theorem dX4_sum_77 : decode cX4_sum 77 = .ok (.isub, 1) := by decide +kernel
theorem dX4_sum_78 : decode cX4_sum 78 = .ok (.aload_n 0, 1) := by decide +kernel
theorem dX4_sum_79 : decode cX4_sum 79 = .ok (.getfield 19, 3) := by decide +kernel
theorem dX4_sum_82 : decode cX4_sum 82 = .ok (.iload_n 3, 1) := by decide +kernel
theorem dX4_sum_83 : decode cX4_sum 83 = .ok (.iaload, 1) := by decide +kernel
theorem dX4_sum_84 : decode cX4_sum 84 = .ok (.invokestatic 47, 3) := by decide +kernel
theorem dX4_sum_87 : decode cX4_sum 87 = .ok (.imul, 1) := by decide +kernel
theorem dX4_sum_88 : decode cX4_sum 88 = .ok (.iadd, 1) := by decide +kernel
theorem dX4_sum_89 : decode cX4_sum 89 = .ok (.istore_n 2, 1) := by decide +kernel
theorem dX4_sum_90 : decode cX4_sum 90 = .ok (.iinc 3 1, 3) := by decide +kernel
theorem dX4_sum_93 : decode cX4_sum 93 = .ok (.goto (-89), 3) := by decide +kernel
theorem dX4_sum_96 : decode cX4_sum 96 = .ok (.iload_n 2, 1) := by decide +kernel
theorem dX4_sum_97 : decode cX4_sum 97 = .ok (.ireturn, 1) := by decide +kernel
theorem dX4_unitsIn_0 : decode cX4_unitsIn 0 = .ok (.iload_n 1, 1) := by decide +kernel
theorem dX4_unitsIn_1 : decode cX4_unitsIn 1 = .ok (.ifCond .le 13, 3) := by decide +kernel
theorem dX4_unitsIn_4 : decode cX4_unitsIn 4 = .ok (.iload_n 0, 1) := by decide +kernel
theorem dX4_unitsIn_5 : decode cX4_unitsIn 5 = .ok (.iload_n 1, 1) := by decide +kernel
theorem dX4_unitsIn_6 : decode cX4_unitsIn 6 = .ok (.iadd, 1) := by decide +kernel
theorem dX4_unitsIn_7 : decode cX4_unitsIn 7 = .ok (.iconst 1, 1) := by decide +kernel
theorem dX4_unitsIn_8 : decode cX4_unitsIn 8 = .ok (.isub, 1) := by decide +kernel
theorem dX4_unitsIn_9 : decode cX4_unitsIn 9 = .ok (.iload_n 1, 1) := by decide +kernel
theorem dX4_unitsIn_10 : decode cX4_unitsIn 10 = .ok (.idiv, 1) := by decide +kernel
theorem dX4_unitsIn_11 : decode cX4_unitsIn 11 = .ok (.goto 4, 3) := by decide +kernel
theorem dX4_unitsIn_14 : decode cX4_unitsIn 14 = .ok (.iconst 0, 1) := by decide +kernel
theorem dX4_unitsIn_15 : decode cX4_unitsIn 15 = .ok (.ireturn, 1) := by decide +kernel
set_option maxRecDepth 20000 in
theorem ggX3_init_X0_init : GoodIn wsX3_init wsX0_init := goodIn_r _ [23, 24, 2, 3, 25, 6, 26, 27, 28, 29, 30, 31, 32, 33, 71, 72, 73, 74, 75, 76, 77, 78, 79] (by decide +kernel) (by decide +kernel)
set_option maxRecDepth 20000 in
theorem gX3_init_X0_init_n27 : GoodIn wsX3_init (wsX0_init) := ggX3_init_X0_init
set_option maxRecDepth 20000 in
theorem ggX3_init_X2_init : GoodIn wsX3_init wsX2_init := goodIn_r _ [35, 36, 2, 3, 37, 6, 38, 39, 40, 41, 42, 43, 80, 81, 82, 83, 84, 85, 86] (by decide +kernel) (by decide +kernel)
set_option maxRecDepth 20000 in
theorem gX3_init_X2_init_n34 : GoodIn wsX3_init (wsX2_init) := ggX3_init_X2_init
set_option maxRecDepth 20000 in
theorem ggX3_init_X4_init : GoodIn wsX3_init wsX4_init := goodIn_r _ [45, 46, 2, 3, 47, 6, 48, 49, 50, 87, 88, 89, 90] (by decide +kernel) (by decide +kernel)
set_option maxRecDepth 20000 in
theorem gX3_init_X4_init_n41 : GoodIn wsX3_init (wsX4_init) := ggX3_init_X4_init
set_option maxRecDepth 20000 in
theorem ggX3_init_X4_put : GoodIn wsX3_init wsX4_put := goodIn_r _ [54, 47, 48, 49, 50, 55, 56, 57, 19, 58, 59, 60, 61, 62, 87, 88, 89, 90] (by decide +kernel) (by decide +kernel)
set_option maxRecDepth 20000 in
theorem gX3_init_X4_put : GoodIn wsX3_init (wsV RX3 49 RX4 yX4_put wsX4_put) := goodIn_app (goodIn_of _ (by decide +kernel)) ggX3_init_X4_put
theorem dX3_init_0 : decode cX3_init 0 = .ok (.aload_n 0, 1) := by decide +kernel
theorem dX3_init_1 : decode cX3_init 1 = .ok (.invokespecial 3, 3) := by decide +kernel
theorem dX3_init_4 : decode cX3_init 4 = .ok (.aload_n 0, 1) := by decide +kernel
theorem dX3_init_5 : decode cX3_init 5 = .ok (.iconst 0, 1) := by decide +kernel
theorem dX3_init_6 : decode cX3_init 6 = .ok (.putfield 9, 3) := by decide +kernel
theorem dX3_init_9 : decode cX3_init 9 = .ok (.aload_n 0, 1) := by decide +kernel
theorem dX3_init_10 : decode cX3_init 10 = .ok (.iconst 0, 1) := by decide +kernel
theorem dX3_init_11 : decode cX3_init 11 = .ok (.putfield 15, 3) := by decide +kernel
theorem dX3_init_14 : decode cX3_init 14 = .ok (.aload_n 0, 1) := by decide +kernel
theorem dX3_init_15 : decode cX3_init 15 = .ok (.iconst 5, 1) := by decide +kernel
theorem dX3_init_16 : decode cX3_init 16 = .ok (.newarray .int, 2) := by decide +kernel
theorem dX3_init_18 : decode cX3_init 18 = .ok (.dup, 1) := by decide +kernel
theorem dX3_init_19 : decode cX3_init 19 = .ok (.iconst 0, 1) := by decide +kernel
theorem dX3_init_20 : decode cX3_init 20 = .ok (.bipush 50, 2) := by decide +kernel
theorem dX3_init_22 : decode cX3_init 22 = .ok (.iastore, 1) := by decide +kernel
theorem dX3_init_23 : decode cX3_init 23 = .ok (.dup, 1) := by decide +kernel
theorem dX3_init_24 : decode cX3_init 24 = .ok (.iconst 1, 1) := by decide +kernel
theorem dX3_init_25 : decode cX3_init 25 = .ok (.bipush 15, 2) := by decide +kernel
theorem dX3_init_27 : decode cX3_init 27 = .ok (.iastore, 1) := by decide +kernel
theorem dX3_init_28 : decode cX3_init 28 = .ok (.dup, 1) := by decide +kernel
theorem dX3_init_29 : decode cX3_init 29 = .ok (.iconst 2, 1) := by decide +kernel
theorem dX3_init_30 : decode cX3_init 30 = .ok (.bipush 10, 2) := by decide +kernel
theorem dX3_init_32 : decode cX3_init 32 = .ok (.iastore, 1) := by decide +kernel
theorem dX3_init_33 : decode cX3_init 33 = .ok (.dup, 1) := by decide +kernel
theorem dX3_init_34 : decode cX3_init 34 = .ok (.iconst 3, 1) := by decide +kernel
theorem dX3_init_35 : decode cX3_init 35 = .ok (.sipush 2000, 3) := by decide +kernel
theorem dX3_init_38 : decode cX3_init 38 = .ok (.iastore, 1) := by decide +kernel
theorem dX3_init_39 : decode cX3_init 39 = .ok (.dup, 1) := by decide +kernel
theorem dX3_init_40 : decode cX3_init 40 = .ok (.iconst 4, 1) := by decide +kernel
theorem dX3_init_41 : decode cX3_init 41 = .ok (.sipush 2500, 3) := by decide +kernel
theorem dX3_init_44 : decode cX3_init 44 = .ok (.iastore, 1) := by decide +kernel
theorem dX3_init_45 : decode cX3_init 45 = .ok (.putfield 18, 3) := by decide +kernel
theorem dX3_init_48 : decode cX3_init 48 = .ok (.aload_n 0, 1) := by decide +kernel
theorem dX3_init_49 : decode cX3_init 49 = .ok (.iconst 4, 1) := by decide +kernel
theorem dX3_init_50 : decode cX3_init 50 = .ok (.newarray .int, 2) := by decide +kernel
theorem dX3_init_52 : decode cX3_init 52 = .ok (.putfield 22, 3) := by decide +kernel
theorem dX3_init_55 : decode cX3_init 55 = .ok (.aload_n 0, 1) := by decide +kernel
theorem dX3_init_56 : decode cX3_init 56 = .ok (.new 25, 3) := by decide +kernel
theorem dX3_init_59 : decode cX3_init 59 = .ok (.dup, 1) := by decide +kernel
theorem dX3_init_60 : decode cX3_init 60 = .ok (.invokespecial 27, 3) := by decide +kernel
theorem dX3_init_63 : decode cX3_init 63 = .ok (.putfield 28, 3) := by decide +kernel
theorem dX3_init_66 : decode cX3_init 66 = .ok (.aload_n 0, 1) := by decide +kernel
theorem dX3_init_67 : decode cX3_init 67 = .ok (.new 32, 3) := by decide +kernel
theorem dX3_init_70 : decode cX3_init 70 = .ok (.dup, 1) := by decide +kernel
theorem dX3_init_71 : decode cX3_init 71 = .ok (.invokespecial 34, 3) := by decide +kernel
theorem dX3_init_74 : decode cX3_init 74 = .ok (.putfield 35, 3) := by decide +kernel
theorem dX3_init_77 : decode cX3_init 77 = .ok (.aload_n 0, 1) := by decide +kernel
theorem dX3_init_78 : decode cX3_init 78 = .ok (.new 39, 3) := by decide +kernel
theorem dX3_init_81 : decode cX3_init 81 = .ok (.dup, 1) := by decide +kernel
theorem dX3_init_82 : decode cX3_init 82 = .ok (.invokespecial 41, 3) := by decide +kernel
theorem dX3_init_85 : decode cX3_init 85 = .ok (.putfield 42, 3) := by decide +kernel
theorem dX3_init_88 : decode cX3_init 88 = .ok (.aload_n 0, 1) := by decide +kernel
theorem dX3_init_89 : decode cX3_init 89 = .ok (.new 39, 3) := by decide +kernel
theorem dX3_init_92 : decode cX3_init 92 = .ok (.dup, 1) := by decide +kernel
theorem dX3_init_93 : decode cX3_init 93 = .ok (.invokespecial 41, 3) := by decide +kernel
theorem dX3_init_96 : decode cX3_init 96 = .ok (.putfield 46, 3) := by decide +kernel
theorem dX3_init_99 : decode cX3_init 99 = .ok (.aload_n 0, 1) := by decide +kernel
theorem dX3_init_100 : decode cX3_init 100 = .ok (.getfield 42, 3) := by decide +kernel
theorem dX3_init_103 : decode cX3_init 103 = .ok (.iconst 0, 1) := by decide +kernel
theorem dX3_init_104 : decode cX3_init 104 = .ok (.bipush 60, 2) := by decide +kernel
theorem dX3_init_106 : decode cX3_init 106 = .ok (.sipush 200, 3) := by decide +kernel
theorem dX3_init_109 : decode cX3_init 109 = .ok (.invokevirtual 49, 3) := by decide +kernel
theorem dX3_init_112 : decode cX3_init 112 = .ok (.aload_n 0, 1) := by decide +kernel
theorem dX3_init_113 : decode cX3_init 113 = .ok (.getfield 46, 3) := by decide +kernel
theorem dX3_init_116 : decode cX3_init 116 = .ok (.iconst 0, 1) := by decide +kernel
theorem dX3_init_117 : decode cX3_init 117 = .ok (.bipush 15, 2) := by decide +kernel
theorem dX3_init_119 : decode cX3_init 119 = .ok (.sipush 300, 3) := by decide +kernel
theorem dX3_init_122 : decode cX3_init 122 = .ok (.invokevirtual 49, 3) := by decide +kernel
theorem dX3_init_125 : decode cX3_init 125 = .ok (.return_, 1) := by decide +kernel
set_option maxRecDepth 20000 in
theorem ggX3_copyFrom_X6_copyRow : GoodIn wsX3_copyFrom wsX6_copyRow := goodIn_r _ [11, 12, 13, 14, 15, 16, 17, 18, 19] (by decide +kernel) (by decide +kernel)
set_option maxRecDepth 20000 in
theorem gX3_copyFrom_X6_copyRow_n53 : GoodIn wsX3_copyFrom (wsX6_copyRow) := ggX3_copyFrom_X6_copyRow
set_option maxRecDepth 20000 in
theorem ggX3_copyFrom_X0_copyFrom : GoodIn wsX3_copyFrom wsX0_copyFrom := goodIn_r _ [24, 25, 26, 27, 28, 29, 30, 31, 32, 33, 9, 10, 11, 12, 13, 14, 15, 16, 17, 18, 19, 63, 64, 65, 66, 67, 68, 69, 70, 71] (by decide +kernel) (by decide +kernel)
set_option maxRecDepth 20000 in
theorem gX3_copyFrom_X0_copyFrom : GoodIn wsX3_copyFrom (wsV RX3 57 RX0 yX0_copyFrom wsX0_copyFrom) := goodIn_app (goodIn_of _ (by decide +kernel)) ggX3_copyFrom_X0_copyFrom
set_option maxRecDepth 20000 in
theorem ggX3_copyFrom_X2_copyFrom : GoodIn wsX3_copyFrom wsX2_copyFrom := goodIn_r _ [38, 39, 40, 41, 42, 43, 44, 45, 9, 10, 11, 12, 13, 14, 15, 16, 17, 18, 19, 72, 73, 74, 75, 76, 77, 78] (by decide +kernel) (by decide +kernel)
set_option maxRecDepth 20000 in
theorem gX3_copyFrom_X2_copyFrom : GoodIn wsX3_copyFrom (wsV RX3 61 RX2 yX2_copyFrom wsX2_copyFrom) := goodIn_app (goodIn_of _ (by decide +kernel)) ggX3_copyFrom_X2_copyFrom
set_option maxRecDepth 20000 in
theorem ggX3_copyFrom_X4_copyFrom : GoodIn wsX3_copyFrom wsX4_copyFrom := goodIn_r _ [50, 51, 52, 53, 54, 9, 10, 11, 12, 13, 14, 15, 16, 17, 18, 19, 79, 80, 81, 82] (by decide +kernel) (by decide +kernel)
set_option maxRecDepth 20000 in
theorem gX3_copyFrom_X4_copyFrom : GoodIn wsX3_copyFrom (wsV RX3 64 RX4 yX4_copyFrom wsX4_copyFrom) := goodIn_app (goodIn_of _ (by decide +kernel)) ggX3_copyFrom_X4_copyFrom
theorem dX3_copyFrom_0 : decode cX3_copyFrom 0 = .ok (.aload_n 0, 1) := by decide +kernel
theorem dX3_copyFrom_1 : decode cX3_copyFrom 1 = .ok (.aload_n 1, 1) := by decide +kernel
theorem dX3_copyFrom_2 : decode cX3_copyFrom 2 = .ok (.getfield 9, 3) := by decide +kernel
theorem dX3_copyFrom_5 : decode cX3_copyFrom 5 = .ok (.putfield 9, 3) := by decide +kernel
theorem dX3_copyFrom_8 : decode cX3_copyFrom 8 = .ok (.aload_n 0, 1) := by decide +kernel
theorem dX3_copyFrom_9 : decode cX3_copyFrom 9 = .ok (.aload_n 1, 1) := by decide +kernel
theorem dX3_copyFrom_10 : decode cX3_copyFrom 10 = .ok (.getfield 15, 3) := by decide +kernel
theorem dX3_copyFrom_13 : decode cX3_copyFrom 13 = .ok (.putfield 15, 3) := by decide +kernel
theorem dX3_copyFrom_16 : decode cX3_copyFrom 16 = .ok (.aload_n 1, 1) := by decide +kernel
theorem dX3_copyFrom_17 : decode cX3_copyFrom 17 = .ok (.getfield 18, 3) := by decide +kernel
theorem dX3_copyFrom_20 : decode cX3_copyFrom 20 = .ok (.aload_n 0, 1) := by decide +kernel
theorem dX3_copyFrom_21 : decode cX3_copyFrom 21 = .ok (.getfield 18, 3) := by decide +kernel
theorem dX3_copyFrom_24 : decode cX3_copyFrom 24 = .ok (.invokestatic 53, 3) := by decide +kernel
theorem dX3_copyFrom_27 : decode cX3_copyFrom 27 = .ok (.aload_n 1, 1) := by decide +kernel
theorem dX3_copyFrom_28 : decode cX3_copyFrom 28 = .ok (.getfield 22, 3) := by decide +kernel
theorem dX3_copyFrom_31 : decode cX3_copyFrom 31 = .ok (.aload_n 0, 1) := by decide +kernel
theorem dX3_copyFrom_32 : decode cX3_copyFrom 32 = .ok (.getfield 22, 3) := by decide +kernel
theorem dX3_copyFrom_35 : decode cX3_copyFrom 35 = .ok (.invokestatic 53, 3) := by decide +kernel
theorem dX3_copyFrom_38 : decode cX3_copyFrom 38 = .ok (.aload_n 0, 1) := by decide +kernel
theorem dX3_copyFrom_39 : decode cX3_copyFrom 39 = .ok (.getfield 28, 3) := by decide +kernel
theorem dX3_copyFrom_42 : decode cX3_copyFrom 42 = .ok (.aload_n 1, 1) := by decide +kernel
theorem dX3_copyFrom_43 : decode cX3_copyFrom 43 = .ok (.getfield 28, 3) := by decide +kernel
theorem dX3_copyFrom_46 : decode cX3_copyFrom 46 = .ok (.invokevirtual 57, 3) := by decide +kernel
theorem dX3_copyFrom_49 : decode cX3_copyFrom 49 = .ok (.aload_n 0, 1) := by decide +kernel
theorem dX3_copyFrom_50 : decode cX3_copyFrom 50 = .ok (.getfield 35, 3) := by decide +kernel
theorem dX3_copyFrom_53 : decode cX3_copyFrom 53 = .ok (.aload_n 1, 1) := by decide +kernel
theorem dX3_copyFrom_54 : decode cX3_copyFrom 54 = .ok (.getfield 35, 3) := by decide +kernel
theorem dX3_copyFrom_57 : decode cX3_copyFrom 57 = .ok (.invokevirtual 61, 3) := by decide +kernel
theorem dX3_copyFrom_60 : decode cX3_copyFrom 60 = .ok (.aload_n 0, 1) := by decide +kernel
theorem dX3_copyFrom_61 : decode cX3_copyFrom 61 = .ok (.getfield 42, 3) := by decide +kernel
theorem dX3_copyFrom_64 : decode cX3_copyFrom 64 = .ok (.aload_n 1, 1) := by decide +kernel
theorem dX3_copyFrom_65 : decode cX3_copyFrom 65 = .ok (.getfield 42, 3) := by decide +kernel
theorem dX3_copyFrom_68 : decode cX3_copyFrom 68 = .ok (.invokevirtual 64, 3) := by decide +kernel
theorem dX3_copyFrom_71 : decode cX3_copyFrom 71 = .ok (.aload_n 0, 1) := by decide +kernel
theorem dX3_copyFrom_72 : decode cX3_copyFrom 72 = .ok (.getfield 46, 3) := by decide +kernel
theorem dX3_copyFrom_75 : decode cX3_copyFrom 75 = .ok (.aload_n 1, 1) := by decide +kernel
theorem dX3_copyFrom_76 : decode cX3_copyFrom 76 = .ok (.getfield 46, 3) := by decide +kernel
theorem dX3_copyFrom_79 : decode cX3_copyFrom 79 = .ok (.invokevirtual 64, 3) := by decide +kernel
theorem dX3_copyFrom_82 : decode cX3_copyFrom 82 = .ok (.return_, 1) := by decide +kernel
theorem dX3_tariff_0 : decode cX3_tariff 0 = .ok (.iload_n 1, 1) := by decide +kernel
theorem dX3_tariff_1 : decode cX3_tariff 1 = .ok (.ifCond .ne 10, 3) := by decide +kernel
theorem dX3_tariff_4 : decode cX3_tariff 4 = .ok (.aload_n 0, 1) := by decide +kernel
theorem dX3_tariff_5 : decode cX3_tariff 5 = .ok (.getfield 42, 3) := by decide +kernel
theorem dX3_tariff_8 : decode cX3_tariff 8 = .ok (.goto 7, 3) := by decide +kernel
theorem dX3_tariff_11 : decode cX3_tariff 11 = .ok (.aload_n 0, 1) := by decide +kernel
theorem dX3_tariff_12 : decode cX3_tariff 12 = .ok (.getfield 46, 3) := by decide +kernel
theorem dX3_tariff_15 : decode cX3_tariff 15 = .ok (.areturn, 1) := by decide +kernel
theorem dX3_sumOfAccounts_0 : decode cX3_sumOfAccounts 0 = .ok (.iconst 0, 1) := by decide +kernel
theorem dX3_sumOfAccounts_1 : decode cX3_sumOfAccounts 1 = .ok (.istore_n 1, 1) := by decide +kernel
theorem dX3_sumOfAccounts_2 : decode cX3_sumOfAccounts 2 = .ok (.aload_n 0, 1) := by decide +kernel
theorem dX3_sumOfAccounts_3 : decode cX3_sumOfAccounts 3 = .ok (.getfield 22, 3) := by decide +kernel
theorem dX3_sumOfAccounts_6 : decode cX3_sumOfAccounts 6 = .ok (.astore_n 2, 1) := by decide +kernel
theorem dX3_sumOfAccounts_7 : decode cX3_sumOfAccounts 7 = .ok (.aload_n 2, 1) := by decide +kernel
theorem dX3_sumOfAccounts_8 : decode cX3_sumOfAccounts 8 = .ok (.arraylength, 1) := by decide +kernel
theorem dX3_sumOfAccounts_9 : decode cX3_sumOfAccounts 9 = .ok (.istore_n 3, 1) := by decide +kernel
theorem dX3_sumOfAccounts_10 : decode cX3_sumOfAccounts 10 = .ok (.iconst 0, 1) := by decide +kernel
theorem dX3_sumOfAccounts_11 : decode cX3_sumOfAccounts 11 = .ok (.istore 4, 2) := by decide +kernel
theorem dX3_sumOfAccounts_13 : decode cX3_sumOfAccounts 13 = .ok (.iload 4, 2) := by decide +kernel
theorem dX3_sumOfAccounts_15 : decode cX3_sumOfAccounts 15 = .ok (.iload_n 3, 1) := by decide +kernel
theorem dX3_sumOfAccounts_16 : decode cX3_sumOfAccounts 16 = .ok (.if_icmp .ge 20, 3) := by decide +kernel
theorem dX3_sumOfAccounts_19 : decode cX3_sumOfAccounts 19 = .ok (.aload_n 2, 1) := by decide +kernel
theorem dX3_sumOfAccounts_20 : decode cX3_sumOfAccounts 20 = .ok (.iload 4, 2) := by decide +kernel
theorem dX3_sumOfAccounts_22 : decode cX3_sumOfAccounts 22 = .ok (.iaload, 1) := by decide +kernel
theorem dX3_sumOfAccounts_23 : decode cX3_sumOfAccounts 23 = .ok (.istore 5, 2) := by decide +kernel
theorem dX3_sumOfAccounts_25 : decode cX3_sumOfAccounts 25 = .ok (.iload_n 1, 1) := by decide +kernel
theorem dX3_sumOfAccounts_26 : decode cX3_sumOfAccounts 26 = .ok (.iload 5, 2) := by decide +kernel
theorem dX3_sumOfAccounts_28 : decode cX3_sumOfAccounts 28 = .ok (.iadd, 1) := by decide +kernel
theorem dX3_sumOfAccounts_29 : decode cX3_sumOfAccounts 29 = .ok (.istore_n 1, 1) := by decide +kernel
theorem dX3_sumOfAccounts_30 : decode cX3_sumOfAccounts 30 = .ok (.iinc 4 1, 3) := by decide +kernel
theorem dX3_sumOfAccounts_33 : decode cX3_sumOfAccounts 33 = .ok (.goto (-20), 3) := by decide +kernel
theorem dX3_sumOfAccounts_36 : decode cX3_sumOfAccounts 36 = .ok (.iload_n 1, 1) := by decide +kernel
theorem dX3_sumOfAccounts_37 : decode cX3_sumOfAccounts 37 = .ok (.ireturn, 1) := by decide +kernel
set_option maxRecDepth 20000 in
theorem ggX3_way_X0_has : GoodIn wsX3_way wsX0_has := goodIn_r _ [9, 10, 19, 20, 21, 22, 23, 24, 25, 26, 27] (by decide +kernel) (by decide +kernel)
set_option maxRecDepth 20000 in
theorem gX3_way_X0_has : GoodIn wsX3_way (wsV RX3 67 RX0 yX0_has wsX0_has) := goodIn_app (goodIn_of _ (by decide +kernel)) ggX3_way_X0_has
theorem dX3_way_0 : decode cX3_way 0 = .ok (.aload_n 0, 1) := by decide +kernel
theorem dX3_way_1 : decode cX3_way 1 = .ok (.getfield 28, 3) := by decide +kernel
theorem dX3_way_4 : decode cX3_way 4 = .ok (.iload_n 1, 1) := by decide +kernel
theorem dX3_way_5 : decode cX3_way 5 = .ok (.invokevirtual 67, 3) := by decide +kernel
theorem dX3_way_8 : decode cX3_way 8 = .ok (.ifCond .eq 32, 3) := by decide +kernel
theorem dX3_way_11 : decode cX3_way 11 = .ok (.aload_n 0, 1) := by decide +kernel
theorem dX3_way_12 : decode cX3_way 12 = .ok (.getfield 28, 3) := by decide +kernel
theorem dX3_way_15 : decode cX3_way 15 = .ok (.getfield 71, 3) := by decide +kernel
theorem dX3_way_18 : decode cX3_way 18 = .ok (.iload_n 1, 1) := by decide +kernel
theorem dX3_way_19 : decode cX3_way 19 = .ok (.iaload, 1) := by decide +kernel
theorem dX3_way_20 : decode cX3_way 20 = .ok (.aload_n 0, 1) := by decide +kernel
theorem dX3_way_21 : decode cX3_way 21 = .ok (.getfield 18, 3) := by decide +kernel
theorem dX3_way_24 : decode cX3_way 24 = .ok (.iconst 0, 1) := by decide +kernel
theorem dX3_way_25 : decode cX3_way 25 = .ok (.iaload, 1) := by decide +kernel
theorem dX3_way_26 : decode cX3_way 26 = .ok (.imul, 1) := by decide +kernel
theorem dX3_way_27 : decode cX3_way 27 = .ok (.aload_n 0, 1) := by decide +kernel
theorem dX3_way_28 : decode cX3_way 28 = .ok (.getfield 28, 3) := by decide +kernel
theorem dX3_way_31 : decode cX3_way 31 = .ok (.getfield 74, 3) := by decide +kernel
theorem dX3_way_34 : decode cX3_way 34 = .ok (.iload_n 1, 1) := by decide +kernel
theorem dX3_way_35 : decode cX3_way 35 = .ok (.iaload, 1) := by decide +kernel
theorem dX3_way_36 : decode cX3_way 36 = .ok (.iadd, 1) := by decide +kernel
theorem dX3_way_37 : decode cX3_way 37 = .ok (.goto 4, 3) := by decide +kernel
theorem dX3_way_40 : decode cX3_way 40 = .ok (.iconst 0, 1) := by decide +kernel
theorem dX3_way_41 : decode cX3_way 41 = .ok (.ireturn, 1) := by decide +kernel
set_option maxRecDepth 20000 in
theorem ggX3_isBefore_X0_has : GoodIn wsX3_isBefore wsX0_has := goodIn_r _ [7, 8, 25, 26, 27, 28, 29, 30, 31, 32, 33] (by decide +kernel) (by decide +kernel)
set_option maxRecDepth 20000 in
theorem gX3_isBefore_X0_has : GoodIn wsX3_isBefore (wsV RX3 67 RX0 yX0_has wsX0_has) := goodIn_app (goodIn_of _ (by decide +kernel)) ggX3_isBefore_X0_has
set_option maxRecDepth 20000 in
theorem ggX3_isBefore_X3_way : GoodIn wsX3_isBefore wsX3_way := goodIn_r _ [13, 1, 14, 15, 16, 3, 4, 5, 6, 7, 8, 17, 18, 19, 20, 21, 22, 23, 24, 25, 26, 27, 28, 29, 30, 31, 32, 33] (by decide +kernel) (by decide +kernel)
set_option maxRecDepth 20000 in
theorem gX3_isBefore_X3_way : GoodIn wsX3_isBefore (wsV RX3 77 RX3 yX3_way wsX3_way) := goodIn_app (goodIn_of _ (by decide +kernel)) ggX3_isBefore_X3_way
theorem dX3_isBefore_0 : decode cX3_isBefore 0 = .ok (.aload_n 0, 1) := by decide +kernel
theorem dX3_isBefore_1 : decode cX3_isBefore 1 = .ok (.getfield 28, 3) := by decide +kernel
theorem dX3_isBefore_4 : decode cX3_isBefore 4 = .ok (.iload_n 1, 1) := by decide +kernel
theorem dX3_isBefore_5 : decode cX3_isBefore 5 = .ok (.invokevirtual 67, 3) := by decide +kernel
theorem dX3_isBefore_8 : decode cX3_isBefore 8 = .ok (.ifCond .eq 14, 3) := by decide +kernel
theorem dX3_isBefore_11 : decode cX3_isBefore 11 = .ok (.aload_n 0, 1) := by decide +kernel
theorem dX3_isBefore_12 : decode cX3_isBefore 12 = .ok (.getfield 28, 3) := by decide +kernel
theorem dX3_isBefore_15 : decode cX3_isBefore 15 = .ok (.iload_n 2, 1) := by decide +kernel
theorem dX3_isBefore_16 : decode cX3_isBefore 16 = .ok (.invokevirtual 67, 3) := by decide +kernel
theorem dX3_isBefore_19 : decode cX3_isBefore 19 = .ok (.ifCond .ne 12, 3) := by decide +kernel
theorem dX3_isBefore_22 : decode cX3_isBefore 22 = .ok (.aload_n 0, 1) := by decide +kernel
theorem dX3_isBefore_23 : decode cX3_isBefore 23 = .ok (.getfield 28, 3) := by decide +kernel
theorem dX3_isBefore_26 : decode cX3_isBefore 26 = .ok (.iload_n 1, 1) := by decide +kernel
theorem dX3_isBefore_27 : decode cX3_isBefore 27 = .ok (.invokevirtual 67, 3) := by decide +kernel
theorem dX3_isBefore_30 : decode cX3_isBefore 30 = .ok (.ireturn, 1) := by decide +kernel
theorem dX3_isBefore_31 : decode cX3_isBefore 31 = .ok (.aload_n 0, 1) := by decide +kernel
theorem dX3_isBefore_32 : decode cX3_isBefore 32 = .ok (.iload_n 1, 1) := by decide +kernel
theorem dX3_isBefore_33 : decode cX3_isBefore 33 = .ok (.invokevirtual 77, 3) := by decide +kernel
theorem dX3_isBefore_36 : decode cX3_isBefore 36 = .ok (.istore_n 3, 1) := by decide +kernel
theorem dX3_isBefore_37 : decode cX3_isBefore 37 = .ok (.aload_n 0, 1) := by decide +kernel
theorem dX3_isBefore_38 : decode cX3_isBefore 38 = .ok (.iload_n 2, 1) := by decide +kernel
theorem dX3_isBefore_39 : decode cX3_isBefore 39 = .ok (.invokevirtual 77, 3) := by decide +kernel
theorem dX3_isBefore_42 : decode cX3_isBefore 42 = .ok (.istore 4, 2) := by decide +kernel
theorem dX3_isBefore_44 : decode cX3_isBefore 44 = .ok (.iload_n 3, 1) := by decide +kernel
theorem dX3_isBefore_45 : decode cX3_isBefore 45 = .ok (.iload 4, 2) := by decide +kernel
theorem dX3_isBefore_47 : decode cX3_isBefore 47 = .ok (.if_icmp .lt 30, 3) := by decide +kernel
theorem dX3_isBefore_50 : decode cX3_isBefore 50 = .ok (.iload_n 3, 1) := by decide +kernel
theorem dX3_isBefore_51 : decode cX3_isBefore 51 = .ok (.iload 4, 2) := by decide +kernel
theorem dX3_isBefore_53 : decode cX3_isBefore 53 = .ok (.if_icmp .ne 28, 3) := by decide +kernel
theorem dX3_isBefore_56 : decode cX3_isBefore 56 = .ok (.aload_n 0, 1) := by decide +kernel
theorem dX3_isBefore_57 : decode cX3_isBefore 57 = .ok (.getfield 28, 3) := by decide +kernel
theorem dX3_isBefore_60 : decode cX3_isBefore 60 = .ok (.getfield 81, 3) := by decide +kernel
theorem dX3_isBefore_63 : decode cX3_isBefore 63 = .ok (.iload_n 1, 1) := by decide +kernel
theorem dX3_isBefore_64 : decode cX3_isBefore 64 = .ok (.iaload, 1) := by decide +kernel
theorem dX3_isBefore_65 : decode cX3_isBefore 65 = .ok (.aload_n 0, 1) := by decide +kernel
theorem dX3_isBefore_66 : decode cX3_isBefore 66 = .ok (.getfield 28, 3) := by decide +kernel
theorem dX3_isBefore_69 : decode cX3_isBefore 69 = .ok (.getfield 81, 3) := by decide +kernel
theorem dX3_isBefore_72 : decode cX3_isBefore 72 = .ok (.iload_n 2, 1) := by decide +kernel
theorem dX3_isBefore_73 : decode cX3_isBefore 73 = .ok (.iaload, 1) := by decide +kernel
theorem dX3_isBefore_74 : decode cX3_isBefore 74 = .ok (.if_icmp .ge 7, 3) := by decide +kernel
theorem dX3_isBefore_77 : decode cX3_isBefore 77 = .ok (.iconst 1, 1) := by decide +kernel
theorem dX3_isBefore_78 : decode cX3_isBefore 78 = .ok (.goto 4, 3) := by decide +kernel
theorem dX3_isBefore_81 : decode cX3_isBefore 81 = .ok (.iconst 0, 1) := by decide +kernel
theorem dX3_isBefore_82 : decode cX3_isBefore 82 = .ok (.ireturn, 1) := by decide +kernel
set_option maxRecDepth 20000 in
theorem ggX3_holder_X2_holderBetween : GoodIn wsX3_holder wsX2_holderBetween := goodIn_r _ [8, 9, 10, 11, 12, 13, 7, 14, 15, 16, 17, 18, 19, 20, 21, 22, 23, 24, 25, 34, 35, 36, 37, 38, 39, 40] (by decide +kernel) (by decide +kernel)
set_option maxRecDepth 20000 in
theorem gX3_holder_X2_holderBetween : GoodIn wsX3_holder (wsV RX3 84 RX2 yX2_holderBetween wsX2_holderBetween) := goodIn_app (goodIn_of _ (by decide +kernel)) ggX3_holder_X2_holderBetween
theorem dX3_holder_0 : decode cX3_holder 0 = .ok (.aload_n 0, 1) := by decide +kernel
theorem dX3_holder_1 : decode cX3_holder 1 = .ok (.getfield 35, 3) := by decide +kernel
theorem dX3_holder_4 : decode cX3_holder 4 = .ok (.iload_n 1, 1) := by decide +kernel
theorem dX3_holder_5 : decode cX3_holder 5 = .ok (.aload_n 0, 1) := by decide +kernel
theorem dX3_holder_6 : decode cX3_holder 6 = .ok (.getfield 9, 3) := by decide +kernel
theorem dX3_holder_9 : decode cX3_holder 9 = .ok (.aload_n 0, 1) := by decide +kernel
theorem dX3_holder_10 : decode cX3_holder 10 = .ok (.getfield 9, 3) := by decide +kernel
theorem dX3_holder_13 : decode cX3_holder 13 = .ok (.iconst 1, 1) := by decide +kernel
theorem dX3_holder_14 : decode cX3_holder 14 = .ok (.iadd, 1) := by decide +kernel
theorem dX3_holder_15 : decode cX3_holder 15 = .ok (.aload_n 0, 1) := by decide +kernel
theorem dX3_holder_16 : decode cX3_holder 16 = .ok (.getfield 18, 3) := by decide +kernel
theorem dX3_holder_19 : decode cX3_holder 19 = .ok (.iconst 1, 1) := by decide +kernel
theorem dX3_holder_20 : decode cX3_holder 20 = .ok (.iaload, 1) := by decide +kernel
theorem dX3_holder_21 : decode cX3_holder 21 = .ok (.invokevirtual 84, 3) := by decide +kernel
theorem dX3_holder_24 : decode cX3_holder 24 = .ok (.ireturn, 1) := by decide +kernel
set_option maxRecDepth 20000 in
theorem ggX3_isHeld_X2_holderBetween : GoodIn wsX3_isHeld wsX2_holderBetween := goodIn_r _ [8, 9, 10, 11, 12, 13, 7, 14, 15, 16, 17, 18, 19, 20, 21, 22, 23, 24, 25, 35, 36, 37, 38, 39, 40, 41] (by decide +kernel) (by decide +kernel)
set_option maxRecDepth 20000 in
theorem gX3_isHeld_X2_holderBetween : GoodIn wsX3_isHeld (wsV RX3 84 RX2 yX2_holderBetween wsX2_holderBetween) := goodIn_app (goodIn_of _ (by decide +kernel)) ggX3_isHeld_X2_holderBetween
set_option maxRecDepth 20000 in
theorem ggX3_isHeld_X2_has : GoodIn wsX3_isHeld wsX2_has := goodIn_r _ [25, 9, 35, 36, 37, 38, 39, 40, 41] (by decide +kernel) (by decide +kernel)
set_option maxRecDepth 20000 in
theorem gX3_isHeld_X2_has : GoodIn wsX3_isHeld (wsV RX3 88 RX2 yX2_has wsX2_has) := goodIn_app (goodIn_of _ (by decide +kernel)) ggX3_isHeld_X2_has
theorem dX3_isHeld_0 : decode cX3_isHeld 0 = .ok (.aload_n 0, 1) := by decide +kernel
theorem dX3_isHeld_1 : decode cX3_isHeld 1 = .ok (.getfield 35, 3) := by decide +kernel
theorem dX3_isHeld_4 : decode cX3_isHeld 4 = .ok (.aload_n 0, 1) := by decide +kernel
theorem dX3_isHeld_5 : decode cX3_isHeld 5 = .ok (.getfield 35, 3) := by decide +kernel
theorem dX3_isHeld_8 : decode cX3_isHeld 8 = .ok (.iload_n 1, 1) := by decide +kernel
theorem dX3_isHeld_9 : decode cX3_isHeld 9 = .ok (.aload_n 0, 1) := by decide +kernel
theorem dX3_isHeld_10 : decode cX3_isHeld 10 = .ok (.getfield 9, 3) := by decide +kernel
theorem dX3_isHeld_13 : decode cX3_isHeld 13 = .ok (.aload_n 0, 1) := by decide +kernel
theorem dX3_isHeld_14 : decode cX3_isHeld 14 = .ok (.getfield 9, 3) := by decide +kernel
theorem dX3_isHeld_17 : decode cX3_isHeld 17 = .ok (.iconst 1, 1) := by decide +kernel
theorem dX3_isHeld_18 : decode cX3_isHeld 18 = .ok (.iadd, 1) := by decide +kernel
theorem dX3_isHeld_19 : decode cX3_isHeld 19 = .ok (.aload_n 0, 1) := by decide +kernel
theorem dX3_isHeld_20 : decode cX3_isHeld 20 = .ok (.getfield 18, 3) := by decide +kernel
theorem dX3_isHeld_23 : decode cX3_isHeld 23 = .ok (.iconst 1, 1) := by decide +kernel
theorem dX3_isHeld_24 : decode cX3_isHeld 24 = .ok (.iaload, 1) := by decide +kernel
theorem dX3_isHeld_25 : decode cX3_isHeld 25 = .ok (.invokevirtual 84, 3) := by decide +kernel
theorem dX3_isHeld_28 : decode cX3_isHeld 28 = .ok (.invokevirtual 88, 3) := by decide +kernel
theorem dX3_isHeld_31 : decode cX3_isHeld 31 = .ok (.ireturn, 1) := by decide +kernel
set_option maxRecDepth 20000 in
theorem ggX3_firstFree_X0_serves : GoodIn wsX3_firstFree wsX0_serves := goodIn_r _ [7, 8, 9, 10, 11, 12, 6, 13, 14, 71, 72, 73, 74, 75, 76, 77, 78, 79] (by decide +kernel) (by decide +kernel)
set_option maxRecDepth 20000 in
theorem gX3_firstFree_X0_serves : GoodIn wsX3_firstFree (wsV RX3 92 RX0 yX0_serves wsX0_serves) := goodIn_app (goodIn_of _ (by decide +kernel)) ggX3_firstFree_X0_serves
set_option maxRecDepth 20000 in
theorem ggX3_firstFree_X0_isEmpty : GoodIn wsX3_firstFree wsX0_isEmpty := goodIn_r _ [18, 19, 10, 11, 12, 6, 13, 14, 71, 72, 73, 74, 75, 76, 77, 78, 79] (by decide +kernel) (by decide +kernel)
set_option maxRecDepth 20000 in
theorem gX3_firstFree_X0_isEmpty : GoodIn wsX3_firstFree (wsV RX3 96 RX0 yX0_isEmpty wsX0_isEmpty) := goodIn_app (goodIn_of _ (by decide +kernel)) ggX3_firstFree_X0_isEmpty
set_option maxRecDepth 20000 in
theorem ggX3_firstFree_X3_isHeld : GoodIn wsX3_firstFree wsX3_isHeld := goodIn_r _ [24, 25, 26, 27, 28, 29, 30, 31, 32, 33, 34, 35, 36, 37, 38, 39, 40, 41, 42, 43, 44, 45, 46, 47, 48, 49, 50, 63, 64, 65, 66, 67, 68, 69, 70, 80, 81, 82, 83, 84, 85, 86] (by decide +kernel) (by decide +kernel)
set_option maxRecDepth 20000 in
theorem gX3_firstFree_X3_isHeld : GoodIn wsX3_firstFree (wsV RX3 99 RX3 yX3_isHeld wsX3_isHeld) := goodIn_app (goodIn_of _ (by decide +kernel)) ggX3_firstFree_X3_isHeld
set_option maxRecDepth 20000 in
theorem ggX3_firstFree_X3_isBefore : GoodIn wsX3_firstFree wsX3_isBefore := goodIn_r _ [54, 1, 55, 56, 11, 12, 6, 13, 14, 57, 58, 59, 23, 60, 61, 27, 62, 63, 64, 65, 66, 67, 68, 69, 70, 71, 72, 73, 74, 75, 76, 77, 78, 79] (by decide +kernel) (by decide +kernel)
set_option maxRecDepth 20000 in
theorem gX3_firstFree_X3_isBefore : GoodIn wsX3_firstFree (wsV RX3 102 RX3 yX3_isBefore wsX3_isBefore) := goodIn_app (goodIn_of _ (by decide +kernel)) ggX3_firstFree_X3_isBefore
theorem dX3_firstFree_0 : decode cX3_firstFree 0 = .ok (.bipush (-9), 2) := by decide +kernel
theorem dX3_firstFree_2 : decode cX3_firstFree 2 = .ok (.istore_n 2, 1) := by decide +kernel
theorem dX3_firstFree_3 : decode cX3_firstFree 3 = .ok (.iconst 0, 1) := by decide +kernel
theorem dX3_firstFree_4 : decode cX3_firstFree 4 = .ok (.istore_n 3, 1) := by decide +kernel
theorem dX3_firstFree_5 : decode cX3_firstFree 5 = .ok (.iload_n 3, 1) := by decide +kernel
theorem dX3_firstFree_6 : decode cX3_firstFree 6 = .ok (.aload_n 0, 1) := by decide +kernel
theorem dX3_firstFree_7 : decode cX3_firstFree 7 = .ok (.getfield 28, 3) := by decide +kernel
theorem dX3_firstFree_10 : decode cX3_firstFree 10 = .ok (.getfield 89, 3) := by decide +kernel
theorem dX3_firstFree_13 : decode cX3_firstFree 13 = .ok (.if_icmp .ge 51, 3) := by decide +kernel
theorem dX3_firstFree_16 : decode cX3_firstFree 16 = .ok (.aload_n 0, 1) := by decide +kernel
theorem dX3_firstFree_17 : decode cX3_firstFree 17 = .ok (.getfield 28, 3) := by decide +kernel
theorem dX3_firstFree_20 : decode cX3_firstFree 20 = .ok (.iload_n 3, 1) := by decide +kernel
theorem dX3_firstFree_21 : decode cX3_firstFree 21 = .ok (.iload_n 1, 1) := by decide +kernel
theorem dX3_firstFree_22 : decode cX3_firstFree 22 = .ok (.invokevirtual 92, 3) := by decide +kernel
theorem dX3_firstFree_25 : decode cX3_firstFree 25 = .ok (.ifCond .eq 33, 3) := by decide +kernel
theorem dX3_firstFree_28 : decode cX3_firstFree 28 = .ok (.aload_n 0, 1) := by decide +kernel
theorem dX3_firstFree_29 : decode cX3_firstFree 29 = .ok (.getfield 28, 3) := by decide +kernel
theorem dX3_firstFree_32 : decode cX3_firstFree 32 = .ok (.iload_n 3, 1) := by decide +kernel
theorem dX3_firstFree_33 : decode cX3_firstFree 33 = .ok (.invokevirtual 96, 3) := by decide +kernel
theorem dX3_firstFree_36 : decode cX3_firstFree 36 = .ok (.ifCond .eq 22, 3) := by decide +kernel
theorem dX3_firstFree_39 : decode cX3_firstFree 39 = .ok (.aload_n 0, 1) := by decide +kernel
theorem dX3_firstFree_40 : decode cX3_firstFree 40 = .ok (.iload_n 3, 1) := by decide +kernel
theorem dX3_firstFree_41 : decode cX3_firstFree 41 = .ok (.invokevirtual 99, 3) := by decide +kernel
theorem dX3_firstFree_44 : decode cX3_firstFree 44 = .ok (.ifCond .ne 14, 3) := by decide +kernel
theorem dX3_firstFree_47 : decode cX3_firstFree 47 = .ok (.aload_n 0, 1) := by decide +kernel
theorem dX3_firstFree_48 : decode cX3_firstFree 48 = .ok (.iload_n 3, 1) := by decide +kernel
theorem dX3_firstFree_49 : decode cX3_firstFree 49 = .ok (.iload_n 2, 1) := by decide +kernel
theorem dX3_firstFree_50 : decode cX3_firstFree 50 = .ok (.invokevirtual 102, 3) := by decide +kernel
theorem dX3_firstFree_53 : decode cX3_firstFree 53 = .ok (.ifCond .eq 5, 3) := by decide +kernel
theorem dX3_firstFree_56 : decode cX3_firstFree 56 = .ok (.iload_n 3, 1) := by decide +kernel
theorem dX3_firstFree_57 : decode cX3_firstFree 57 = .ok (.istore_n 2, 1) := by decide +kernel
theorem dX3_firstFree_58 : decode cX3_firstFree 58 = .ok (.iinc 3 1, 3) := by decide +kernel
theorem dX3_firstFree_61 : decode cX3_firstFree 61 = .ok (.goto (-56), 3) := by decide +kernel
theorem dX3_firstFree_64 : decode cX3_firstFree 64 = .ok (.iload_n 2, 1) := by decide +kernel
theorem dX3_firstFree_65 : decode cX3_firstFree 65 = .ok (.ireturn, 1) := by decide +kernel
set_option maxRecDepth 20000 in
theorem ggX3_freeBays_X0_serves : GoodIn wsX3_freeBays wsX0_serves := goodIn_r _ [9, 10, 11, 12, 13, 14, 8, 15, 16, 61, 62, 63, 64, 65, 66, 67, 68, 69] (by decide +kernel) (by decide +kernel)
set_option maxRecDepth 20000 in
theorem gX3_freeBays_X0_serves : GoodIn wsX3_freeBays (wsV RX3 92 RX0 yX0_serves wsX0_serves) := goodIn_app (goodIn_of _ (by decide +kernel)) ggX3_freeBays_X0_serves
set_option maxRecDepth 20000 in
theorem ggX3_freeBays_X0_isEmpty : GoodIn wsX3_freeBays wsX0_isEmpty := goodIn_r _ [20, 21, 12, 13, 14, 8, 15, 16, 61, 62, 63, 64, 65, 66, 67, 68, 69] (by decide +kernel) (by decide +kernel)
set_option maxRecDepth 20000 in
theorem gX3_freeBays_X0_isEmpty : GoodIn wsX3_freeBays (wsV RX3 96 RX0 yX0_isEmpty wsX0_isEmpty) := goodIn_app (goodIn_of _ (by decide +kernel)) ggX3_freeBays_X0_isEmpty
set_option maxRecDepth 20000 in
theorem ggX3_freeBays_X3_isHeld : GoodIn wsX3_freeBays wsX3_isHeld := goodIn_r _ [26, 27, 28, 29, 30, 31, 32, 33, 34, 35, 36, 37, 38, 39, 40, 41, 42, 43, 44, 45, 46, 47, 48, 49, 50, 51, 52, 53, 54, 55, 56, 57, 58, 59, 60, 70, 71, 72, 73, 74, 75, 76] (by decide +kernel) (by decide +kernel)
set_option maxRecDepth 20000 in
theorem gX3_freeBays_X3_isHeld : GoodIn wsX3_freeBays (wsV RX3 99 RX3 yX3_isHeld wsX3_isHeld) := goodIn_app (goodIn_of _ (by decide +kernel)) ggX3_freeBays_X3_isHeld
theorem dX3_freeBays_0 : decode cX3_freeBays 0 = .ok (.iconst 0, 1) := by decide +kernel
theorem dX3_freeBays_1 : decode cX3_freeBays 1 = .ok (.istore_n 3, 1) := by decide +kernel
theorem dX3_freeBays_2 : decode cX3_freeBays 2 = .ok (.iconst 0, 1) := by decide +kernel
theorem dX3_freeBays_3 : decode cX3_freeBays 3 = .ok (.istore 4, 2) := by decide +kernel
theorem dX3_freeBays_5 : decode cX3_freeBays 5 = .ok (.iload 4, 2) := by decide +kernel
theorem dX3_freeBays_7 : decode cX3_freeBays 7 = .ok (.aload_n 0, 1) := by decide +kernel
theorem dX3_freeBays_8 : decode cX3_freeBays 8 = .ok (.getfield 28, 3) := by decide +kernel
theorem dX3_freeBays_11 : decode cX3_freeBays 11 = .ok (.getfield 89, 3) := by decide +kernel
theorem dX3_freeBays_14 : decode cX3_freeBays 14 = .ok (.if_icmp .ge 90, 3) := by decide +kernel
theorem dX3_freeBays_17 : decode cX3_freeBays 17 = .ok (.aload_n 0, 1) := by decide +kernel
theorem dX3_freeBays_18 : decode cX3_freeBays 18 = .ok (.getfield 28, 3) := by decide +kernel
theorem dX3_freeBays_21 : decode cX3_freeBays 21 = .ok (.getfield 71, 3) := by decide +kernel
theorem dX3_freeBays_24 : decode cX3_freeBays 24 = .ok (.iload 4, 2) := by decide +kernel
theorem dX3_freeBays_26 : decode cX3_freeBays 26 = .ok (.iaload, 1) := by decide +kernel
theorem dX3_freeBays_27 : decode cX3_freeBays 27 = .ok (.iload_n 1, 1) := by decide +kernel
theorem dX3_freeBays_28 : decode cX3_freeBays 28 = .ok (.if_icmp .ne 25, 3) := by decide +kernel
theorem dX3_freeBays_31 : decode cX3_freeBays 31 = .ok (.iload_n 2, 1) := by decide +kernel
theorem dX3_freeBays_32 : decode cX3_freeBays 32 = .ok (.ifCond .lt 17, 3) := by decide +kernel
theorem dX3_freeBays_35 : decode cX3_freeBays 35 = .ok (.aload_n 0, 1) := by decide +kernel
theorem dX3_freeBays_36 : decode cX3_freeBays 36 = .ok (.getfield 28, 3) := by decide +kernel
theorem dX3_freeBays_39 : decode cX3_freeBays 39 = .ok (.getfield 81, 3) := by decide +kernel
theorem dX3_freeBays_42 : decode cX3_freeBays 42 = .ok (.iload 4, 2) := by decide +kernel
theorem dX3_freeBays_44 : decode cX3_freeBays 44 = .ok (.iaload, 1) := by decide +kernel
theorem dX3_freeBays_45 : decode cX3_freeBays 45 = .ok (.iload_n 2, 1) := by decide +kernel
theorem dX3_freeBays_46 : decode cX3_freeBays 46 = .ok (.if_icmp .ne 7, 3) := by decide +kernel
theorem dX3_freeBays_49 : decode cX3_freeBays 49 = .ok (.iconst 1, 1) := by decide +kernel
theorem dX3_freeBays_50 : decode cX3_freeBays 50 = .ok (.goto 4, 3) := by decide +kernel
theorem dX3_freeBays_53 : decode cX3_freeBays 53 = .ok (.iconst 0, 1) := by decide +kernel
theorem dX3_freeBays_54 : decode cX3_freeBays 54 = .ok (.istore 5, 2) := by decide +kernel
theorem dX3_freeBays_56 : decode cX3_freeBays 56 = .ok (.iload 5, 2) := by decide +kernel
theorem dX3_freeBays_58 : decode cX3_freeBays 58 = .ok (.ifCond .eq 40, 3) := by decide +kernel
theorem dX3_freeBays_61 : decode cX3_freeBays 61 = .ok (.aload_n 0, 1) := by decide +kernel
theorem dX3_freeBays_62 : decode cX3_freeBays 62 = .ok (.getfield 28, 3) := by decide +kernel
theorem dX3_freeBays_65 : decode cX3_freeBays 65 = .ok (.iload 4, 2) := by decide +kernel
theorem dX3_freeBays_67 : decode cX3_freeBays 67 = .ok (.iconst 0, 1) := by decide +kernel
theorem dX3_freeBays_68 : decode cX3_freeBays 68 = .ok (.invokevirtual 92, 3) := by decide +kernel
theorem dX3_freeBays_71 : decode cX3_freeBays 71 = .ok (.ifCond .eq 27, 3) := by decide +kernel
theorem dX3_freeBays_74 : decode cX3_freeBays 74 = .ok (.aload_n 0, 1) := by decide +kernel
theorem dX3_freeBays_75 : decode cX3_freeBays 75 = .ok (.getfield 28, 3) := by decide +kernel
theorem dX3_freeBays_78 : decode cX3_freeBays 78 = .ok (.iload 4, 2) := by decide +kernel
theorem dX3_freeBays_80 : decode cX3_freeBays 80 = .ok (.invokevirtual 96, 3) := by decide +kernel
theorem dX3_freeBays_83 : decode cX3_freeBays 83 = .ok (.ifCond .eq 15, 3) := by decide +kernel
theorem dX3_freeBays_86 : decode cX3_freeBays 86 = .ok (.aload_n 0, 1) := by decide +kernel
theorem dX3_freeBays_87 : decode cX3_freeBays 87 = .ok (.iload 4, 2) := by decide +kernel
theorem dX3_freeBays_89 : decode cX3_freeBays 89 = .ok (.invokevirtual 99, 3) := by decide +kernel
theorem dX3_freeBays_92 : decode cX3_freeBays 92 = .ok (.ifCond .ne 6, 3) := by decide +kernel
theorem dX3_freeBays_95 : decode cX3_freeBays 95 = .ok (.iinc 3 1, 3) := by decide +kernel
theorem dX3_freeBays_98 : decode cX3_freeBays 98 = .ok (.iinc 4 1, 3) := by decide +kernel
theorem dX3_freeBays_101 : decode cX3_freeBays 101 = .ok (.goto (-96), 3) := by decide +kernel
theorem dX3_freeBays_104 : decode cX3_freeBays 104 = .ok (.iload_n 3, 1) := by decide +kernel
theorem dX3_freeBays_105 : decode cX3_freeBays 105 = .ok (.ireturn, 1) := by decide +kernel
set_option maxRecDepth 20000 in
theorem ggX3_firstReservable_X0_serves : GoodIn wsX3_firstReservable wsX0_serves := goodIn_r _ [7, 8, 9, 10, 11, 12, 6, 13, 14, 71, 72, 73, 74, 75, 76, 77, 78, 79] (by decide +kernel) (by decide +kernel)
set_option maxRecDepth 20000 in
theorem gX3_firstReservable_X0_serves : GoodIn wsX3_firstReservable (wsV RX3 92 RX0 yX0_serves wsX0_serves) := goodIn_app (goodIn_of _ (by decide +kernel)) ggX3_firstReservable_X0_serves
set_option maxRecDepth 20000 in
theorem ggX3_firstReservable_X3_isReservable : GoodIn wsX3_firstReservable wsX3_isReservable := goodIn_r _ [19, 20, 21, 1, 22, 23, 24, 25, 6, 26, 27, 10, 11, 12, 13, 14, 28, 29, 30, 31, 32, 33, 34, 35, 36, 37, 38, 39, 40, 41, 42, 43, 44, 45, 46, 47, 48, 49, 50, 63, 64, 65, 66, 67, 68, 69, 70, 71, 72, 73, 74, 75, 76, 77, 78, 79, 80, 81, 82, 83, 84, 85, 86] (by decide +kernel) (by decide +kernel)
set_option maxRecDepth 20000 in
theorem gX3_firstReservable_X3_isReservable : GoodIn wsX3_firstReservable (wsV RX3 105 RX3 yX3_isReservable wsX3_isReservable) := goodIn_app (goodIn_of _ (by decide +kernel)) ggX3_firstReservable_X3_isReservable
set_option maxRecDepth 20000 in
theorem ggX3_firstReservable_X3_isBefore : GoodIn wsX3_firstReservable wsX3_isBefore := goodIn_r _ [54, 1, 55, 56, 11, 12, 6, 13, 14, 57, 58, 59, 18, 60, 61, 20, 62, 63, 64, 65, 66, 67, 68, 69, 70, 71, 72, 73, 74, 75, 76, 77, 78, 79] (by decide +kernel) (by decide +kernel)
set_option maxRecDepth 20000 in
theorem gX3_firstReservable_X3_isBefore : GoodIn wsX3_firstReservable (wsV RX3 102 RX3 yX3_isBefore wsX3_isBefore) := goodIn_app (goodIn_of _ (by decide +kernel)) ggX3_firstReservable_X3_isBefore
theorem dX3_firstReservable_0 : decode cX3_firstReservable 0 = .ok (.bipush (-9), 2) := by decide +kernel
theorem dX3_firstReservable_2 : decode cX3_firstReservable 2 = .ok (.istore 4, 2) := by decide +kernel
theorem dX3_firstReservable_4 : decode cX3_firstReservable 4 = .ok (.iconst 0, 1) := by decide +kernel
theorem dX3_firstReservable_5 : decode cX3_firstReservable 5 = .ok (.istore 5, 2) := by decide +kernel
theorem dX3_firstReservable_7 : decode cX3_firstReservable 7 = .ok (.iload 5, 2) := by decide +kernel
theorem dX3_firstReservable_9 : decode cX3_firstReservable 9 = .ok (.aload_n 0, 1) := by decide +kernel
theorem dX3_firstReservable_10 : decode cX3_firstReservable 10 = .ok (.getfield 28, 3) := by decide +kernel
theorem dX3_firstReservable_13 : decode cX3_firstReservable 13 = .ok (.getfield 89, 3) := by decide +kernel
theorem dX3_firstReservable_16 : decode cX3_firstReservable 16 = .ok (.if_icmp .ge 48, 3) := by decide +kernel
theorem dX3_firstReservable_19 : decode cX3_firstReservable 19 = .ok (.aload_n 0, 1) := by decide +kernel
theorem dX3_firstReservable_20 : decode cX3_firstReservable 20 = .ok (.getfield 28, 3) := by decide +kernel
theorem dX3_firstReservable_23 : decode cX3_firstReservable 23 = .ok (.iload 5, 2) := by decide +kernel
theorem dX3_firstReservable_25 : decode cX3_firstReservable 25 = .ok (.iload_n 1, 1) := by decide +kernel
theorem dX3_firstReservable_26 : decode cX3_firstReservable 26 = .ok (.invokevirtual 92, 3) := by decide +kernel
theorem dX3_firstReservable_29 : decode cX3_firstReservable 29 = .ok (.ifCond .eq 29, 3) := by decide +kernel
theorem dX3_firstReservable_32 : decode cX3_firstReservable 32 = .ok (.aload_n 0, 1) := by decide +kernel
theorem dX3_firstReservable_33 : decode cX3_firstReservable 33 = .ok (.iload 5, 2) := by decide +kernel
theorem dX3_firstReservable_35 : decode cX3_firstReservable 35 = .ok (.iload_n 2, 1) := by decide +kernel
theorem dX3_firstReservable_36 : decode cX3_firstReservable 36 = .ok (.iload_n 3, 1) := by decide +kernel
theorem dX3_firstReservable_37 : decode cX3_firstReservable 37 = .ok (.invokevirtual 105, 3) := by decide +kernel
theorem dX3_firstReservable_40 : decode cX3_firstReservable 40 = .ok (.ifCond .eq 18, 3) := by decide +kernel
theorem dX3_firstReservable_43 : decode cX3_firstReservable 43 = .ok (.aload_n 0, 1) := by decide +kernel
theorem dX3_firstReservable_44 : decode cX3_firstReservable 44 = .ok (.iload 5, 2) := by decide +kernel
theorem dX3_firstReservable_46 : decode cX3_firstReservable 46 = .ok (.iload 4, 2) := by decide +kernel
theorem dX3_firstReservable_48 : decode cX3_firstReservable 48 = .ok (.invokevirtual 102, 3) := by decide +kernel
theorem dX3_firstReservable_51 : decode cX3_firstReservable 51 = .ok (.ifCond .eq 7, 3) := by decide +kernel
theorem dX3_firstReservable_54 : decode cX3_firstReservable 54 = .ok (.iload 5, 2) := by decide +kernel
theorem dX3_firstReservable_56 : decode cX3_firstReservable 56 = .ok (.istore 4, 2) := by decide +kernel
theorem dX3_firstReservable_58 : decode cX3_firstReservable 58 = .ok (.iinc 5 1, 3) := by decide +kernel
theorem dX3_firstReservable_61 : decode cX3_firstReservable 61 = .ok (.goto (-54), 3) := by decide +kernel
theorem dX3_firstReservable_64 : decode cX3_firstReservable 64 = .ok (.iload 4, 2) := by decide +kernel
theorem dX3_firstReservable_66 : decode cX3_firstReservable 66 = .ok (.ireturn, 1) := by decide +kernel
set_option maxRecDepth 20000 in
theorem ggX3_isReservable_X0_isEmpty : GoodIn wsX3_isReservable wsX0_isEmpty := goodIn_r _ [9, 10, 11, 12, 13, 8, 14, 15, 47, 48, 49, 50, 51, 52, 53, 54, 55] (by decide +kernel) (by decide +kernel)
set_option maxRecDepth 20000 in
theorem gX3_isReservable_X0_isEmpty : GoodIn wsX3_isReservable (wsV RX3 96 RX0 yX0_isEmpty wsX0_isEmpty) := goodIn_app (goodIn_of _ (by decide +kernel)) ggX3_isReservable_X0_isEmpty
set_option maxRecDepth 20000 in
theorem ggX3_isReservable_X2_holderBetween : GoodIn wsX3_isReservable wsX2_holderBetween := goodIn_r _ [20, 21, 22, 23, 24, 25, 19, 26, 27, 28, 29, 30, 31, 32, 33, 34, 35, 36, 37, 56, 57, 58, 59, 60, 61, 62] (by decide +kernel) (by decide +kernel)
set_option maxRecDepth 20000 in
theorem gX3_isReservable_X2_holderBetween : GoodIn wsX3_isReservable (wsV RX3 84 RX2 yX2_holderBetween wsX2_holderBetween) := goodIn_app (goodIn_of _ (by decide +kernel)) ggX3_isReservable_X2_holderBetween
set_option maxRecDepth 20000 in
theorem ggX3_isReservable_X2_has : GoodIn wsX3_isReservable wsX2_has := goodIn_r _ [37, 21, 56, 57, 58, 59, 60, 61, 62] (by decide +kernel) (by decide +kernel)
set_option maxRecDepth 20000 in
theorem gX3_isReservable_X2_has : GoodIn wsX3_isReservable (wsV RX3 88 RX2 yX2_has wsX2_has) := goodIn_app (goodIn_of _ (by decide +kernel)) ggX3_isReservable_X2_has
theorem dX3_isReservable_0 : decode cX3_isReservable 0 = .ok (.iload_n 2, 1) := by decide +kernel
theorem dX3_isReservable_1 : decode cX3_isReservable 1 = .ok (.aload_n 0, 1) := by decide +kernel
theorem dX3_isReservable_2 : decode cX3_isReservable 2 = .ok (.getfield 18, 3) := by decide +kernel
theorem dX3_isReservable_5 : decode cX3_isReservable 5 = .ok (.iconst 1, 1) := by decide +kernel
theorem dX3_isReservable_6 : decode cX3_isReservable 6 = .ok (.iaload, 1) := by decide +kernel
theorem dX3_isReservable_7 : decode cX3_isReservable 7 = .ok (.isub, 1) := by decide +kernel
theorem dX3_isReservable_8 : decode cX3_isReservable 8 = .ok (.istore 4, 2) := by decide +kernel
theorem dX3_isReservable_10 : decode cX3_isReservable 10 = .ok (.iload 4, 2) := by decide +kernel
theorem dX3_isReservable_12 : decode cX3_isReservable 12 = .ok (.aload_n 0, 1) := by decide +kernel
theorem dX3_isReservable_13 : decode cX3_isReservable 13 = .ok (.getfield 9, 3) := by decide +kernel
theorem dX3_isReservable_16 : decode cX3_isReservable 16 = .ok (.if_icmp .gt 18, 3) := by decide +kernel
theorem dX3_isReservable_19 : decode cX3_isReservable 19 = .ok (.aload_n 0, 1) := by decide +kernel
theorem dX3_isReservable_20 : decode cX3_isReservable 20 = .ok (.getfield 28, 3) := by decide +kernel
theorem dX3_isReservable_23 : decode cX3_isReservable 23 = .ok (.iload_n 1, 1) := by decide +kernel
theorem dX3_isReservable_24 : decode cX3_isReservable 24 = .ok (.invokevirtual 96, 3) := by decide +kernel
theorem dX3_isReservable_27 : decode cX3_isReservable 27 = .ok (.ifCond .ne 7, 3) := by decide +kernel
theorem dX3_isReservable_30 : decode cX3_isReservable 30 = .ok (.iconst 1, 1) := by decide +kernel
theorem dX3_isReservable_31 : decode cX3_isReservable 31 = .ok (.goto 4, 3) := by decide +kernel
theorem dX3_isReservable_34 : decode cX3_isReservable 34 = .ok (.iconst 0, 1) := by decide +kernel
theorem dX3_isReservable_35 : decode cX3_isReservable 35 = .ok (.istore 5, 2) := by decide +kernel
theorem dX3_isReservable_37 : decode cX3_isReservable 37 = .ok (.iload 5, 2) := by decide +kernel
theorem dX3_isReservable_39 : decode cX3_isReservable 39 = .ok (.ifCond .ne 34, 3) := by decide +kernel
theorem dX3_isReservable_42 : decode cX3_isReservable 42 = .ok (.aload_n 0, 1) := by decide +kernel
theorem dX3_isReservable_43 : decode cX3_isReservable 43 = .ok (.getfield 35, 3) := by decide +kernel
theorem dX3_isReservable_46 : decode cX3_isReservable 46 = .ok (.aload_n 0, 1) := by decide +kernel
theorem dX3_isReservable_47 : decode cX3_isReservable 47 = .ok (.getfield 35, 3) := by decide +kernel
theorem dX3_isReservable_50 : decode cX3_isReservable 50 = .ok (.iload_n 1, 1) := by decide +kernel
theorem dX3_isReservable_51 : decode cX3_isReservable 51 = .ok (.iload 4, 2) := by decide +kernel
theorem dX3_isReservable_53 : decode cX3_isReservable 53 = .ok (.iload_n 3, 1) := by decide +kernel
theorem dX3_isReservable_54 : decode cX3_isReservable 54 = .ok (.aload_n 0, 1) := by decide +kernel
theorem dX3_isReservable_55 : decode cX3_isReservable 55 = .ok (.getfield 18, 3) := by decide +kernel
theorem dX3_isReservable_58 : decode cX3_isReservable 58 = .ok (.iconst 1, 1) := by decide +kernel
theorem dX3_isReservable_59 : decode cX3_isReservable 59 = .ok (.iaload, 1) := by decide +kernel
theorem dX3_isReservable_60 : decode cX3_isReservable 60 = .ok (.invokevirtual 84, 3) := by decide +kernel
theorem dX3_isReservable_63 : decode cX3_isReservable 63 = .ok (.invokevirtual 88, 3) := by decide +kernel
theorem dX3_isReservable_66 : decode cX3_isReservable 66 = .ok (.ifCond .ne 7, 3) := by decide +kernel
theorem dX3_isReservable_69 : decode cX3_isReservable 69 = .ok (.iconst 1, 1) := by decide +kernel
theorem dX3_isReservable_70 : decode cX3_isReservable 70 = .ok (.goto 4, 3) := by decide +kernel
theorem dX3_isReservable_73 : decode cX3_isReservable 73 = .ok (.iconst 0, 1) := by decide +kernel
theorem dX3_isReservable_74 : decode cX3_isReservable 74 = .ok (.ireturn, 1) := by decide +kernel
set_option maxRecDepth 20000 in
theorem ggX3_usableReservation_X2_firstOpenOf : GoodIn wsX3_usableReservation wsX2_firstOpenOf := goodIn_r _ [10, 11, 12, 13, 14, 15, 16, 9, 17, 18, 19, 20, 21, 22, 23, 24, 25, 26, 27, 54, 55, 56, 57, 58, 59, 60] (by decide +kernel) (by decide +kernel)
set_option maxRecDepth 20000 in
theorem gX3_usableReservation_X2_firstOpenOf : GoodIn wsX3_usableReservation (wsV RX3 116 RX2 yX2_firstOpenOf wsX2_firstOpenOf) := goodIn_app (goodIn_of _ (by decide +kernel)) ggX3_usableReservation_X2_firstOpenOf
set_option maxRecDepth 20000 in
theorem ggX3_usableReservation_X2_has : GoodIn wsX3_usableReservation wsX2_has := goodIn_r _ [27, 11, 54, 55, 56, 57, 58, 59, 60] (by decide +kernel) (by decide +kernel)
set_option maxRecDepth 20000 in
theorem gX3_usableReservation_X2_has : GoodIn wsX3_usableReservation (wsV RX3 88 RX2 yX2_has wsX2_has) := goodIn_app (goodIn_of _ (by decide +kernel)) ggX3_usableReservation_X2_has
set_option maxRecDepth 20000 in
theorem ggX3_usableReservation_X0_serves : GoodIn wsX3_usableReservation wsX0_serves := goodIn_r _ [33, 34, 35, 36, 37, 38, 32, 39, 40, 61, 62, 63, 64, 65, 66, 67, 68, 69] (by decide +kernel) (by decide +kernel)
set_option maxRecDepth 20000 in
theorem gX3_usableReservation_X0_serves : GoodIn wsX3_usableReservation (wsV RX3 92 RX0 yX0_serves wsX0_serves) := goodIn_app (goodIn_of _ (by decide +kernel)) ggX3_usableReservation_X0_serves
set_option maxRecDepth 20000 in
theorem ggX3_usableReservation_X0_isEmpty : GoodIn wsX3_usableReservation wsX0_isEmpty := goodIn_r _ [44, 45, 36, 37, 38, 32, 39, 40, 61, 62, 63, 64, 65, 66, 67, 68, 69] (by decide +kernel) (by decide +kernel)
set_option maxRecDepth 20000 in
theorem gX3_usableReservation_X0_isEmpty : GoodIn wsX3_usableReservation (wsV RX3 96 RX0 yX0_isEmpty wsX0_isEmpty) := goodIn_app (goodIn_of _ (by decide +kernel)) ggX3_usableReservation_X0_isEmpty
theorem dX3_usableReservation_0 : decode cX3_usableReservation 0 = .ok (.aload_n 0, 1) := by decide +kernel
theorem dX3_usableReservation_1 : decode cX3_usableReservation 1 = .ok (.getfield 35, 3) := by decide +kernel
theorem dX3_usableReservation_4 : decode cX3_usableReservation 4 = .ok (.iload_n 1, 1) := by decide +kernel
theorem dX3_usableReservation_5 : decode cX3_usableReservation 5 = .ok (.aload_n 0, 1) := by decide +kernel
theorem dX3_usableReservation_6 : decode cX3_usableReservation 6 = .ok (.getfield 9, 3) := by decide +kernel
theorem dX3_usableReservation_9 : decode cX3_usableReservation 9 = .ok (.aload_n 0, 1) := by decide +kernel
theorem dX3_usableReservation_10 : decode cX3_usableReservation 10 = .ok (.getfield 18, 3) := by decide +kernel
theorem dX3_usableReservation_13 : decode cX3_usableReservation 13 = .ok (.iconst 1, 1) := by decide +kernel
theorem dX3_usableReservation_14 : decode cX3_usableReservation 14 = .ok (.iaload, 1) := by decide +kernel
theorem dX3_usableReservation_15 : decode cX3_usableReservation 15 = .ok (.invokevirtual 116, 3) := by decide +kernel
theorem dX3_usableReservation_18 : decode cX3_usableReservation 18 = .ok (.istore_n 3, 1) := by decide +kernel
theorem dX3_usableReservation_19 : decode cX3_usableReservation 19 = .ok (.aload_n 0, 1) := by decide +kernel
theorem dX3_usableReservation_20 : decode cX3_usableReservation 20 = .ok (.getfield 35, 3) := by decide +kernel
theorem dX3_usableReservation_23 : decode cX3_usableReservation 23 = .ok (.iload_n 3, 1) := by decide +kernel
theorem dX3_usableReservation_24 : decode cX3_usableReservation 24 = .ok (.invokevirtual 88, 3) := by decide +kernel
theorem dX3_usableReservation_27 : decode cX3_usableReservation 27 = .ok (.ifCond .ne 6, 3) := by decide +kernel
theorem dX3_usableReservation_30 : decode cX3_usableReservation 30 = .ok (.bipush (-9), 2) := by decide +kernel
theorem dX3_usableReservation_32 : decode cX3_usableReservation 32 = .ok (.ireturn, 1) := by decide +kernel
theorem dX3_usableReservation_33 : decode cX3_usableReservation 33 = .ok (.aload_n 0, 1) := by decide +kernel
theorem dX3_usableReservation_34 : decode cX3_usableReservation 34 = .ok (.getfield 35, 3) := by decide +kernel
theorem dX3_usableReservation_37 : decode cX3_usableReservation 37 = .ok (.getfield 120, 3) := by decide +kernel
theorem dX3_usableReservation_40 : decode cX3_usableReservation 40 = .ok (.iload_n 3, 1) := by decide +kernel
theorem dX3_usableReservation_41 : decode cX3_usableReservation 41 = .ok (.iaload, 1) := by decide +kernel
theorem dX3_usableReservation_42 : decode cX3_usableReservation 42 = .ok (.istore 4, 2) := by decide +kernel
theorem dX3_usableReservation_44 : decode cX3_usableReservation 44 = .ok (.aload_n 0, 1) := by decide +kernel
theorem dX3_usableReservation_45 : decode cX3_usableReservation 45 = .ok (.getfield 28, 3) := by decide +kernel
theorem dX3_usableReservation_48 : decode cX3_usableReservation 48 = .ok (.iload 4, 2) := by decide +kernel
theorem dX3_usableReservation_50 : decode cX3_usableReservation 50 = .ok (.iload_n 2, 1) := by decide +kernel
theorem dX3_usableReservation_51 : decode cX3_usableReservation 51 = .ok (.invokevirtual 92, 3) := by decide +kernel
theorem dX3_usableReservation_54 : decode cX3_usableReservation 54 = .ok (.ifCond .eq 19, 3) := by decide +kernel
theorem dX3_usableReservation_57 : decode cX3_usableReservation 57 = .ok (.aload_n 0, 1) := by decide +kernel
theorem dX3_usableReservation_58 : decode cX3_usableReservation 58 = .ok (.getfield 28, 3) := by decide +kernel
theorem dX3_usableReservation_61 : decode cX3_usableReservation 61 = .ok (.iload 4, 2) := by decide +kernel
theorem dX3_usableReservation_63 : decode cX3_usableReservation 63 = .ok (.invokevirtual 96, 3) := by decide +kernel
theorem dX3_usableReservation_66 : decode cX3_usableReservation 66 = .ok (.ifCond .eq 7, 3) := by decide +kernel
theorem dX3_usableReservation_69 : decode cX3_usableReservation 69 = .ok (.iload_n 3, 1) := by decide +kernel
theorem dX3_usableReservation_70 : decode cX3_usableReservation 70 = .ok (.goto 5, 3) := by decide +kernel
theorem dX3_usableReservation_73 : decode cX3_usableReservation 73 = .ok (.bipush (-9), 2) := by decide +kernel
theorem dX3_usableReservation_75 : decode cX3_usableReservation 75 = .ok (.ireturn, 1) := by decide +kernel
set_option maxRecDepth 20000 in
theorem ggX3_letIn_X0_has : GoodIn wsX3_letIn wsX0_has := goodIn_r _ [14, 15, 30, 31, 32, 33, 34, 35, 36, 37, 38] (by decide +kernel) (by decide +kernel)
set_option maxRecDepth 20000 in
theorem gX3_letIn_X0_has : GoodIn wsX3_letIn (wsV RX3 67 RX0 yX0_has wsX0_has) := goodIn_app (goodIn_of _ (by decide +kernel)) ggX3_letIn_X0_has
set_option maxRecDepth 20000 in
theorem ggX3_letIn_X2_has : GoodIn wsX3_letIn wsX2_has := goodIn_r _ [20, 21, 39, 40, 41, 42, 43, 44, 45] (by decide +kernel) (by decide +kernel)
set_option maxRecDepth 20000 in
theorem gX3_letIn_X2_has : GoodIn wsX3_letIn (wsV RX3 88 RX2 yX2_has wsX2_has) := goodIn_app (goodIn_of _ (by decide +kernel)) ggX3_letIn_X2_has
theorem dX3_letIn_0 : decode cX3_letIn 0 = .ok (.aload_n 0, 1) := by decide +kernel
theorem dX3_letIn_1 : decode cX3_letIn 1 = .ok (.getfield 28, 3) := by decide +kernel
theorem dX3_letIn_4 : decode cX3_letIn 4 = .ok (.iload_n 2, 1) := by decide +kernel
theorem dX3_letIn_5 : decode cX3_letIn 5 = .ok (.invokevirtual 67, 3) := by decide +kernel
theorem dX3_letIn_8 : decode cX3_letIn 8 = .ok (.ifCond .ne 4, 3) := by decide +kernel
theorem dX3_letIn_11 : decode cX3_letIn 11 = .ok (.return_, 1) := by decide +kernel
theorem dX3_letIn_12 : decode cX3_letIn 12 = .ok (.aload_n 0, 1) := by decide +kernel
theorem dX3_letIn_13 : decode cX3_letIn 13 = .ok (.dup, 1) := by decide +kernel
theorem dX3_letIn_14 : decode cX3_letIn 14 = .ok (.getfield 15, 3) := by decide +kernel
theorem dX3_letIn_17 : decode cX3_letIn 17 = .ok (.iconst 1, 1) := by decide +kernel
theorem dX3_letIn_18 : decode cX3_letIn 18 = .ok (.iadd, 1) := by decide +kernel
theorem dX3_letIn_19 : decode cX3_letIn 19 = .ok (.putfield 15, 3) := by decide +kernel
theorem dX3_letIn_22 : decode cX3_letIn 22 = .ok (.aload_n 0, 1) := by decide +kernel
theorem dX3_letIn_23 : decode cX3_letIn 23 = .ok (.getfield 28, 3) := by decide +kernel
theorem dX3_letIn_26 : decode cX3_letIn 26 = .ok (.getfield 122, 3) := by decide +kernel
theorem dX3_letIn_29 : decode cX3_letIn 29 = .ok (.iload_n 2, 1) := by decide +kernel
theorem dX3_letIn_30 : decode cX3_letIn 30 = .ok (.iload_n 1, 1) := by decide +kernel
theorem dX3_letIn_31 : decode cX3_letIn 31 = .ok (.iastore, 1) := by decide +kernel
theorem dX3_letIn_32 : decode cX3_letIn 32 = .ok (.aload_n 0, 1) := by decide +kernel
theorem dX3_letIn_33 : decode cX3_letIn 33 = .ok (.getfield 28, 3) := by decide +kernel
theorem dX3_letIn_36 : decode cX3_letIn 36 = .ok (.getfield 125, 3) := by decide +kernel
theorem dX3_letIn_39 : decode cX3_letIn 39 = .ok (.iload_n 2, 1) := by decide +kernel
theorem dX3_letIn_40 : decode cX3_letIn 40 = .ok (.aload_n 0, 1) := by decide +kernel
theorem dX3_letIn_41 : decode cX3_letIn 41 = .ok (.getfield 15, 3) := by decide +kernel
theorem dX3_letIn_44 : decode cX3_letIn 44 = .ok (.iastore, 1) := by decide +kernel
theorem dX3_letIn_45 : decode cX3_letIn 45 = .ok (.aload_n 0, 1) := by decide +kernel
theorem dX3_letIn_46 : decode cX3_letIn 46 = .ok (.getfield 28, 3) := by decide +kernel
theorem dX3_letIn_49 : decode cX3_letIn 49 = .ok (.getfield 127, 3) := by decide +kernel
theorem dX3_letIn_52 : decode cX3_letIn 52 = .ok (.iload_n 2, 1) := by decide +kernel
theorem dX3_letIn_53 : decode cX3_letIn 53 = .ok (.aload_n 0, 1) := by decide +kernel
theorem dX3_letIn_54 : decode cX3_letIn 54 = .ok (.getfield 9, 3) := by decide +kernel
theorem dX3_letIn_57 : decode cX3_letIn 57 = .ok (.iastore, 1) := by decide +kernel
theorem dX3_letIn_58 : decode cX3_letIn 58 = .ok (.aload_n 0, 1) := by decide +kernel
theorem dX3_letIn_59 : decode cX3_letIn 59 = .ok (.getfield 28, 3) := by decide +kernel
theorem dX3_letIn_62 : decode cX3_letIn 62 = .ok (.getfield 130, 3) := by decide +kernel
theorem dX3_letIn_65 : decode cX3_letIn 65 = .ok (.iload_n 2, 1) := by decide +kernel
theorem dX3_letIn_66 : decode cX3_letIn 66 = .ok (.iload_n 3, 1) := by decide +kernel
theorem dX3_letIn_67 : decode cX3_letIn 67 = .ok (.iastore, 1) := by decide +kernel
theorem dX3_letIn_68 : decode cX3_letIn 68 = .ok (.aload_n 0, 1) := by decide +kernel
theorem dX3_letIn_69 : decode cX3_letIn 69 = .ok (.getfield 35, 3) := by decide +kernel
theorem dX3_letIn_72 : decode cX3_letIn 72 = .ok (.iload_n 3, 1) := by decide +kernel
theorem dX3_letIn_73 : decode cX3_letIn 73 = .ok (.invokevirtual 88, 3) := by decide +kernel
theorem dX3_letIn_76 : decode cX3_letIn 76 = .ok (.ifCond .eq 13, 3) := by decide +kernel
theorem dX3_letIn_79 : decode cX3_letIn 79 = .ok (.aload_n 0, 1) := by decide +kernel
theorem dX3_letIn_80 : decode cX3_letIn 80 = .ok (.getfield 35, 3) := by decide +kernel
theorem dX3_letIn_83 : decode cX3_letIn 83 = .ok (.getfield 132, 3) := by decide +kernel
theorem dX3_letIn_86 : decode cX3_letIn 86 = .ok (.iload_n 3, 1) := by decide +kernel
theorem dX3_letIn_87 : decode cX3_letIn 87 = .ok (.iconst 1, 1) := by decide +kernel
theorem dX3_letIn_88 : decode cX3_letIn 88 = .ok (.iastore, 1) := by decide +kernel
theorem dX3_letIn_89 : decode cX3_letIn 89 = .ok (.return_, 1) := by decide +kernel
set_option maxRecDepth 20000 in
theorem ggX3_letOut_X0_has : GoodIn wsX3_letOut wsX0_has := goodIn_r _ [9, 10, 34, 35, 36, 37, 38, 39, 40, 41, 42] (by decide +kernel) (by decide +kernel)
set_option maxRecDepth 20000 in
theorem gX3_letOut_X0_has : GoodIn wsX3_letOut (wsV RX3 67 RX0 yX0_has wsX0_has) := goodIn_app (goodIn_of _ (by decide +kernel)) ggX3_letOut_X0_has
set_option maxRecDepth 20000 in
theorem ggX3_letOut_X2_has : GoodIn wsX3_letOut wsX2_has := goodIn_r _ [15, 16, 43, 44, 45, 46, 47, 48, 49] (by decide +kernel) (by decide +kernel)
set_option maxRecDepth 20000 in
theorem gX3_letOut_X2_has : GoodIn wsX3_letOut (wsV RX3 88 RX2 yX2_has wsX2_has) := goodIn_app (goodIn_of _ (by decide +kernel)) ggX3_letOut_X2_has
set_option maxRecDepth 20000 in
theorem ggX3_letOut_X0_clear : GoodIn wsX3_letOut wsX0_clear := goodIn_r _ [20, 21, 22, 23, 24, 25, 6, 7, 8, 9, 10, 34, 35, 36, 37, 38, 39, 40, 41, 42] (by decide +kernel) (by decide +kernel)
set_option maxRecDepth 20000 in
theorem gX3_letOut_X0_clear : GoodIn wsX3_letOut (wsV RX3 135 RX0 yX0_clear wsX0_clear) := goodIn_app (goodIn_of _ (by decide +kernel)) ggX3_letOut_X0_clear
theorem dX3_letOut_0 : decode cX3_letOut 0 = .ok (.aload_n 0, 1) := by decide +kernel
theorem dX3_letOut_1 : decode cX3_letOut 1 = .ok (.getfield 28, 3) := by decide +kernel
theorem dX3_letOut_4 : decode cX3_letOut 4 = .ok (.iload_n 1, 1) := by decide +kernel
theorem dX3_letOut_5 : decode cX3_letOut 5 = .ok (.invokevirtual 67, 3) := by decide +kernel
theorem dX3_letOut_8 : decode cX3_letOut 8 = .ok (.ifCond .ne 4, 3) := by decide +kernel
theorem dX3_letOut_11 : decode cX3_letOut 11 = .ok (.return_, 1) := by decide +kernel
theorem dX3_letOut_12 : decode cX3_letOut 12 = .ok (.aload_n 0, 1) := by decide +kernel
theorem dX3_letOut_13 : decode cX3_letOut 13 = .ok (.getfield 28, 3) := by decide +kernel
theorem dX3_letOut_16 : decode cX3_letOut 16 = .ok (.getfield 130, 3) := by decide +kernel
theorem dX3_letOut_19 : decode cX3_letOut 19 = .ok (.iload_n 1, 1) := by decide +kernel
theorem dX3_letOut_20 : decode cX3_letOut 20 = .ok (.iaload, 1) := by decide +kernel
theorem dX3_letOut_21 : decode cX3_letOut 21 = .ok (.istore_n 2, 1) := by decide +kernel
theorem dX3_letOut_22 : decode cX3_letOut 22 = .ok (.aload_n 0, 1) := by decide +kernel
theorem dX3_letOut_23 : decode cX3_letOut 23 = .ok (.getfield 35, 3) := by decide +kernel
theorem dX3_letOut_26 : decode cX3_letOut 26 = .ok (.iload_n 2, 1) := by decide +kernel
theorem dX3_letOut_27 : decode cX3_letOut 27 = .ok (.invokevirtual 88, 3) := by decide +kernel
theorem dX3_letOut_30 : decode cX3_letOut 30 = .ok (.ifCond .eq 13, 3) := by decide +kernel
theorem dX3_letOut_33 : decode cX3_letOut 33 = .ok (.aload_n 0, 1) := by decide +kernel
theorem dX3_letOut_34 : decode cX3_letOut 34 = .ok (.getfield 35, 3) := by decide +kernel
theorem dX3_letOut_37 : decode cX3_letOut 37 = .ok (.getfield 132, 3) := by decide +kernel
theorem dX3_letOut_40 : decode cX3_letOut 40 = .ok (.iload_n 2, 1) := by decide +kernel
theorem dX3_letOut_41 : decode cX3_letOut 41 = .ok (.iconst 2, 1) := by decide +kernel
theorem dX3_letOut_42 : decode cX3_letOut 42 = .ok (.iastore, 1) := by decide +kernel
theorem dX3_letOut_43 : decode cX3_letOut 43 = .ok (.aload_n 0, 1) := by decide +kernel
theorem dX3_letOut_44 : decode cX3_letOut 44 = .ok (.getfield 28, 3) := by decide +kernel
theorem dX3_letOut_47 : decode cX3_letOut 47 = .ok (.iload_n 1, 1) := by decide +kernel
theorem dX3_letOut_48 : decode cX3_letOut 48 = .ok (.invokevirtual 135, 3) := by decide +kernel
theorem dX3_letOut_51 : decode cX3_letOut 51 = .ok (.return_, 1) := by decide +kernel
set_option maxRecDepth 20000 in
theorem ggX3_normalFee_X4_sum : GoodIn wsX3_normalFee wsX4_sum := goodIn_r _ [11, 12, 13, 14, 4, 5, 6, 15, 16, 17, 18, 10, 19, 28, 29, 30, 31] (by decide +kernel) (by decide +kernel)
set_option maxRecDepth 20000 in
theorem gX3_normalFee_X4_sum : GoodIn wsX3_normalFee (wsV RX3 139 RX4 yX4_sum wsX4_sum) := goodIn_app (goodIn_of _ (by decide +kernel)) ggX3_normalFee_X4_sum
theorem dX3_normalFee_0 : decode cX3_normalFee 0 = .ok (.iload_n 1, 1) := by decide +kernel
theorem dX3_normalFee_1 : decode cX3_normalFee 1 = .ok (.aload_n 0, 1) := by decide +kernel
theorem dX3_normalFee_2 : decode cX3_normalFee 2 = .ok (.getfield 18, 3) := by decide +kernel
theorem dX3_normalFee_5 : decode cX3_normalFee 5 = .ok (.iconst 2, 1) := by decide +kernel
theorem dX3_normalFee_6 : decode cX3_normalFee 6 = .ok (.iaload, 1) := by decide +kernel
theorem dX3_normalFee_7 : decode cX3_normalFee 7 = .ok (.if_icmp .gt 5, 3) := by decide +kernel
theorem dX3_normalFee_10 : decode cX3_normalFee 10 = .ok (.iconst 0, 1) := by decide +kernel
theorem dX3_normalFee_11 : decode cX3_normalFee 11 = .ok (.ireturn, 1) := by decide +kernel
theorem dX3_normalFee_12 : decode cX3_normalFee 12 = .ok (.iload_n 1, 1) := by decide +kernel
theorem dX3_normalFee_13 : decode cX3_normalFee 13 = .ok (.sipush 1440, 3) := by decide +kernel
theorem dX3_normalFee_16 : decode cX3_normalFee 16 = .ok (.iadd, 1) := by decide +kernel
theorem dX3_normalFee_17 : decode cX3_normalFee 17 = .ok (.iconst 1, 1) := by decide +kernel
theorem dX3_normalFee_18 : decode cX3_normalFee 18 = .ok (.isub, 1) := by decide +kernel
theorem dX3_normalFee_19 : decode cX3_normalFee 19 = .ok (.sipush 1440, 3) := by decide +kernel
theorem dX3_normalFee_22 : decode cX3_normalFee 22 = .ok (.idiv, 1) := by decide +kernel
theorem dX3_normalFee_23 : decode cX3_normalFee 23 = .ok (.istore_n 2, 1) := by decide +kernel
theorem dX3_normalFee_24 : decode cX3_normalFee 24 = .ok (.aload_n 0, 1) := by decide +kernel
theorem dX3_normalFee_25 : decode cX3_normalFee 25 = .ok (.getfield 42, 3) := by decide +kernel
theorem dX3_normalFee_28 : decode cX3_normalFee 28 = .ok (.iload_n 1, 1) := by decide +kernel
theorem dX3_normalFee_29 : decode cX3_normalFee 29 = .ok (.invokevirtual 139, 3) := by decide +kernel
theorem dX3_normalFee_32 : decode cX3_normalFee 32 = .ok (.aload_n 0, 1) := by decide +kernel
theorem dX3_normalFee_33 : decode cX3_normalFee 33 = .ok (.getfield 18, 3) := by decide +kernel
theorem dX3_normalFee_36 : decode cX3_normalFee 36 = .ok (.iconst 3, 1) := by decide +kernel
theorem dX3_normalFee_37 : decode cX3_normalFee 37 = .ok (.iaload, 1) := by decide +kernel
theorem dX3_normalFee_38 : decode cX3_normalFee 38 = .ok (.iload_n 2, 1) := by decide +kernel
theorem dX3_normalFee_39 : decode cX3_normalFee 39 = .ok (.imul, 1) := by decide +kernel
theorem dX3_normalFee_40 : decode cX3_normalFee 40 = .ok (.invokestatic 142, 3) := by decide +kernel
theorem dX3_normalFee_43 : decode cX3_normalFee 43 = .ok (.ireturn, 1) := by decide +kernel
set_option maxRecDepth 20000 in
theorem ggX3_feeAt_X0_has : GoodIn wsX3_feeAt wsX0_has := goodIn_r _ [11, 12, 51, 52, 53, 54, 55, 56, 57, 58, 59] (by decide +kernel) (by decide +kernel)
set_option maxRecDepth 20000 in
theorem gX3_feeAt_X0_has : GoodIn wsX3_feeAt (wsV RX3 67 RX0 yX0_has wsX0_has) := goodIn_app (goodIn_of _ (by decide +kernel)) ggX3_feeAt_X0_has
set_option maxRecDepth 20000 in
theorem ggX3_feeAt_X2_has : GoodIn wsX3_feeAt wsX2_has := goodIn_r _ [17, 18, 60, 61, 62, 63, 64, 65, 66] (by decide +kernel) (by decide +kernel)
set_option maxRecDepth 20000 in
theorem gX3_feeAt_X2_has : GoodIn wsX3_feeAt (wsV RX3 88 RX2 yX2_has wsX2_has) := goodIn_app (goodIn_of _ (by decide +kernel)) ggX3_feeAt_X2_has
set_option maxRecDepth 20000 in
theorem ggX3_feeAt_X3_normalFee : GoodIn wsX3_feeAt wsX3_normalFee := goodIn_r _ [23, 24, 25, 26, 27, 28, 29, 30, 31, 32, 33, 34, 35, 36, 37, 38, 39, 40, 41, 42, 43, 44, 45, 46, 47, 48, 49, 50, 67, 68, 69, 70] (by decide +kernel) (by decide +kernel)
set_option maxRecDepth 20000 in
theorem gX3_feeAt_X3_normalFee : GoodIn wsX3_feeAt (wsV RX3 147 RX3 yX3_normalFee wsX3_normalFee) := goodIn_app (goodIn_of _ (by decide +kernel)) ggX3_feeAt_X3_normalFee
set_option maxRecDepth 20000 in
theorem ggX3_feeAt_X4_sum : GoodIn wsX3_feeAt wsX4_sum := goodIn_r _ [34, 35, 36, 37, 27, 28, 29, 38, 39, 40, 41, 33, 42, 67, 68, 69, 70] (by decide +kernel) (by decide +kernel)
set_option maxRecDepth 20000 in
theorem gX3_feeAt_X4_sum : GoodIn wsX3_feeAt (wsV RX3 139 RX4 yX4_sum wsX4_sum) := goodIn_app (goodIn_of _ (by decide +kernel)) ggX3_feeAt_X4_sum
theorem dX3_feeAt_0 : decode cX3_feeAt 0 = .ok (.aload_n 0, 1) := by decide +kernel
theorem dX3_feeAt_1 : decode cX3_feeAt 1 = .ok (.getfield 28, 3) := by decide +kernel
theorem dX3_feeAt_4 : decode cX3_feeAt 4 = .ok (.iload_n 1, 1) := by decide +kernel
theorem dX3_feeAt_5 : decode cX3_feeAt 5 = .ok (.invokevirtual 67, 3) := by decide +kernel
theorem dX3_feeAt_8 : decode cX3_feeAt 8 = .ok (.ifCond .ne 5, 3) := by decide +kernel
theorem dX3_feeAt_11 : decode cX3_feeAt 11 = .ok (.iconst 0, 1) := by decide +kernel
theorem dX3_feeAt_12 : decode cX3_feeAt 12 = .ok (.ireturn, 1) := by decide +kernel
theorem dX3_feeAt_13 : decode cX3_feeAt 13 = .ok (.aload_n 0, 1) := by decide +kernel
theorem dX3_feeAt_14 : decode cX3_feeAt 14 = .ok (.getfield 28, 3) := by decide +kernel
theorem dX3_feeAt_17 : decode cX3_feeAt 17 = .ok (.getfield 130, 3) := by decide +kernel
theorem dX3_feeAt_20 : decode cX3_feeAt 20 = .ok (.iload_n 1, 1) := by decide +kernel
theorem dX3_feeAt_21 : decode cX3_feeAt 21 = .ok (.iaload, 1) := by decide +kernel
theorem dX3_feeAt_22 : decode cX3_feeAt 22 = .ok (.istore_n 3, 1) := by decide +kernel
theorem dX3_feeAt_23 : decode cX3_feeAt 23 = .ok (.aload_n 0, 1) := by decide +kernel
theorem dX3_feeAt_24 : decode cX3_feeAt 24 = .ok (.getfield 35, 3) := by decide +kernel
theorem dX3_feeAt_27 : decode cX3_feeAt 27 = .ok (.iload_n 3, 1) := by decide +kernel
theorem dX3_feeAt_28 : decode cX3_feeAt 28 = .ok (.invokevirtual 88, 3) := by decide +kernel
theorem dX3_feeAt_31 : decode cX3_feeAt 31 = .ok (.ifCond .ne 19, 3) := by decide +kernel
theorem dX3_feeAt_34 : decode cX3_feeAt 34 = .ok (.aload_n 0, 1) := by decide +kernel
theorem dX3_feeAt_35 : decode cX3_feeAt 35 = .ok (.iload_n 2, 1) := by decide +kernel
theorem dX3_feeAt_36 : decode cX3_feeAt 36 = .ok (.aload_n 0, 1) := by decide +kernel
theorem dX3_feeAt_37 : decode cX3_feeAt 37 = .ok (.getfield 28, 3) := by decide +kernel
theorem dX3_feeAt_40 : decode cX3_feeAt 40 = .ok (.getfield 127, 3) := by decide +kernel
theorem dX3_feeAt_43 : decode cX3_feeAt 43 = .ok (.iload_n 1, 1) := by decide +kernel
theorem dX3_feeAt_44 : decode cX3_feeAt 44 = .ok (.iaload, 1) := by decide +kernel
theorem dX3_feeAt_45 : decode cX3_feeAt 45 = .ok (.isub, 1) := by decide +kernel
theorem dX3_feeAt_46 : decode cX3_feeAt 46 = .ok (.invokevirtual 147, 3) := by decide +kernel
theorem dX3_feeAt_49 : decode cX3_feeAt 49 = .ok (.ireturn, 1) := by decide +kernel
theorem dX3_feeAt_50 : decode cX3_feeAt 50 = .ok (.aload_n 0, 1) := by decide +kernel
theorem dX3_feeAt_51 : decode cX3_feeAt 51 = .ok (.getfield 46, 3) := by decide +kernel
theorem dX3_feeAt_54 : decode cX3_feeAt 54 = .ok (.iload_n 2, 1) := by decide +kernel
theorem dX3_feeAt_55 : decode cX3_feeAt 55 = .ok (.aload_n 0, 1) := by decide +kernel
theorem dX3_feeAt_56 : decode cX3_feeAt 56 = .ok (.getfield 35, 3) := by decide +kernel
theorem dX3_feeAt_59 : decode cX3_feeAt 59 = .ok (.getfield 113, 3) := by decide +kernel
theorem dX3_feeAt_62 : decode cX3_feeAt 62 = .ok (.iload_n 3, 1) := by decide +kernel
theorem dX3_feeAt_63 : decode cX3_feeAt 63 = .ok (.iaload, 1) := by decide +kernel
theorem dX3_feeAt_64 : decode cX3_feeAt 64 = .ok (.isub, 1) := by decide +kernel
theorem dX3_feeAt_65 : decode cX3_feeAt 65 = .ok (.invokevirtual 139, 3) := by decide +kernel
theorem dX3_feeAt_68 : decode cX3_feeAt 68 = .ok (.ireturn, 1) := by decide +kernel
set_option maxRecDepth 20000 in
theorem ggX3_lostFee_X0_has : GoodIn wsX3_lostFee wsX0_has := goodIn_r _ [13, 14, 42, 43, 44, 45, 46, 47, 48, 49, 50] (by decide +kernel) (by decide +kernel)
set_option maxRecDepth 20000 in
theorem gX3_lostFee_X0_has : GoodIn wsX3_lostFee (wsV RX3 67 RX0 yX0_has wsX0_has) := goodIn_app (goodIn_of _ (by decide +kernel)) ggX3_lostFee_X0_has
set_option maxRecDepth 20000 in
theorem ggX3_lostFee_X3_normalFee : GoodIn wsX3_lostFee wsX3_normalFee := goodIn_r _ [19, 8, 20, 4, 5, 6, 7, 21, 22, 23, 24, 25, 26, 27, 28, 29, 30, 31, 32, 33, 34, 35, 36, 37, 38, 39, 40, 41, 51, 52, 53, 54] (by decide +kernel) (by decide +kernel)
set_option maxRecDepth 20000 in
theorem gX3_lostFee_X3_normalFee : GoodIn wsX3_lostFee (wsV RX3 147 RX3 yX3_normalFee wsX3_normalFee) := goodIn_app (goodIn_of _ (by decide +kernel)) ggX3_lostFee_X3_normalFee
theorem dX3_lostFee_0 : decode cX3_lostFee 0 = .ok (.aload_n 0, 1) := by decide +kernel
theorem dX3_lostFee_1 : decode cX3_lostFee 1 = .ok (.getfield 28, 3) := by decide +kernel
theorem dX3_lostFee_4 : decode cX3_lostFee 4 = .ok (.iload_n 1, 1) := by decide +kernel
theorem dX3_lostFee_5 : decode cX3_lostFee 5 = .ok (.invokevirtual 67, 3) := by decide +kernel
theorem dX3_lostFee_8 : decode cX3_lostFee 8 = .ok (.ifCond .ne 5, 3) := by decide +kernel
theorem dX3_lostFee_11 : decode cX3_lostFee 11 = .ok (.iconst 0, 1) := by decide +kernel
theorem dX3_lostFee_12 : decode cX3_lostFee 12 = .ok (.ireturn, 1) := by decide +kernel
theorem dX3_lostFee_13 : decode cX3_lostFee 13 = .ok (.aload_n 0, 1) := by decide +kernel
theorem dX3_lostFee_14 : decode cX3_lostFee 14 = .ok (.getfield 9, 3) := by decide +kernel
theorem dX3_lostFee_17 : decode cX3_lostFee 17 = .ok (.aload_n 0, 1) := by decide +kernel
theorem dX3_lostFee_18 : decode cX3_lostFee 18 = .ok (.getfield 9, 3) := by decide +kernel
theorem dX3_lostFee_21 : decode cX3_lostFee 21 = .ok (.sipush 1440, 3) := by decide +kernel
theorem dX3_lostFee_24 : decode cX3_lostFee 24 = .ok (.irem, 1) := by decide +kernel
theorem dX3_lostFee_25 : decode cX3_lostFee 25 = .ok (.isub, 1) := by decide +kernel
theorem dX3_lostFee_26 : decode cX3_lostFee 26 = .ok (.istore_n 2, 1) := by decide +kernel
theorem dX3_lostFee_27 : decode cX3_lostFee 27 = .ok (.iload_n 2, 1) := by decide +kernel
theorem dX3_lostFee_28 : decode cX3_lostFee 28 = .ok (.aload_n 0, 1) := by decide +kernel
theorem dX3_lostFee_29 : decode cX3_lostFee 29 = .ok (.getfield 28, 3) := by decide +kernel
theorem dX3_lostFee_32 : decode cX3_lostFee 32 = .ok (.getfield 127, 3) := by decide +kernel
theorem dX3_lostFee_35 : decode cX3_lostFee 35 = .ok (.iload_n 1, 1) := by decide +kernel
theorem dX3_lostFee_36 : decode cX3_lostFee 36 = .ok (.iaload, 1) := by decide +kernel
theorem dX3_lostFee_37 : decode cX3_lostFee 37 = .ok (.invokestatic 142, 3) := by decide +kernel
theorem dX3_lostFee_40 : decode cX3_lostFee 40 = .ok (.istore_n 3, 1) := by decide +kernel
theorem dX3_lostFee_41 : decode cX3_lostFee 41 = .ok (.aload_n 0, 1) := by decide +kernel
theorem dX3_lostFee_42 : decode cX3_lostFee 42 = .ok (.getfield 18, 3) := by decide +kernel
theorem dX3_lostFee_45 : decode cX3_lostFee 45 = .ok (.iconst 4, 1) := by decide +kernel
theorem dX3_lostFee_46 : decode cX3_lostFee 46 = .ok (.iaload, 1) := by decide +kernel
theorem dX3_lostFee_47 : decode cX3_lostFee 47 = .ok (.aload_n 0, 1) := by decide +kernel
theorem dX3_lostFee_48 : decode cX3_lostFee 48 = .ok (.aload_n 0, 1) := by decide +kernel
theorem dX3_lostFee_49 : decode cX3_lostFee 49 = .ok (.getfield 9, 3) := by decide +kernel
theorem dX3_lostFee_52 : decode cX3_lostFee 52 = .ok (.iload_n 3, 1) := by decide +kernel
theorem dX3_lostFee_53 : decode cX3_lostFee 53 = .ok (.isub, 1) := by decide +kernel
theorem dX3_lostFee_54 : decode cX3_lostFee 54 = .ok (.invokevirtual 147, 3) := by decide +kernel
theorem dX3_lostFee_57 : decode cX3_lostFee 57 = .ok (.iadd, 1) := by decide +kernel
theorem dX3_lostFee_58 : decode cX3_lostFee 58 = .ok (.ireturn, 1) := by decide +kernel
